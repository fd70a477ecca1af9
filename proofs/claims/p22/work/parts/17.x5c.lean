set_option maxHeartbeats 4000000 in
set_option maxRecDepth 100000 in
theorem mtX4_bucket (l : Launch) (hfl : l.stackTraces = false) (g : xG) (a : xAd) (σ : xS) (r : Int32) (ok : okX σ) : xMxi l yX4_bucket wsX4_bucket ({ frames := 7, cells := 1, slots := 6, locals := 103 }) 1 6 NLX g a σ [.ref (a 0 0), .int r] (chOk (r1C σ r)) (σ 19 0 (nv r)) σ (chEx (r1C σ r)) := by
  intro sz
  refine vx_ofW (cc := cX4_bucket) (maxL := 2) (ret := (some .int)) (by decide) rfl ?_
  intro p e s m args below meth c s₁ B hml hex hv
  obtain ⟨rfl, hsz, ⟨hP, hK, hN, hj⟩, hT, hZ⟩ := hv
  subst hsz
  have hr := B.returns
  have hlocks := B.notSynchronized
  have C0 : xC p s m _ c cX4_bucket 2 wsX4_bucket RX4 NLX g a (xA NLX a s.heap.size) := ⟨⟨B.exec, B.bytes, hml, findClass_of_methodNamed B.named, atoms_spec (ws := wsX4_bucket) B.pre⟩, hK, hN, hj, fun n h => Or.inl ⟨n, h, rfl⟩, fun q h => Or.inr h⟩
  have hS : va_S (xA NLX a s.heap.size) s.heap s.heap [] := va_S.rf
  have hl := lv_entry ([.ref (a 0 0), .int r]) (n := 2) (Nat.le_of_ble_eq_true rfl)
  rw [lg_entry_eq]
  generalize (lg_sl ([.ref (a 0 0), .int r]) ++ List.replicate (2 - (lg_sl ([.ref (a 0 0), .int r])).length) Slot.unset).toArray = ls at hl ⊢
  have hl : lv_has ls 2 [(0, .ref (a 0 0)), (1, .int r)] := hl
  have k_0 : Cond.fieldLink RX4 33 RX4 (TX4 3).2.1 (TX4 3).2.2.1 ∈ wsX4_bucket := by decide +kernel
  have i_X4 : ∀ w ∈ wsX40, w ∈ wsX4_bucket := by decide +kernel
  have q_2 : Cond.fieldLinkNest RX4 133 RX1 (TX1 3).2.1 (TX1 3).2.2.1 RX4 ∈ xNs := by decide +kernel
  have i_X1 : ∀ w ∈ wsX10, w ∈ wsX4_bucket := by decide +kernel
  refine lv_aload_n C0.hx C0.hb dX4_bucket_0 rfl (lv_at hl 0 rfl) ?_
  refine lv_iload_n C0.hx C0.hb dX4_bucket_1 rfl (lv_at hl 1 rfl) ?_
  refine x_VXv (As := [.int r]) (rest := []) C0 (mtX4_checkReport l hfl g a σ r ok) hP hS hT hZ (cwV 1 C0.hts gX4_bucket_X4_checkReport rfl rfl rfl (by decide +kernel) ⟨Nat.le_of_ble_eq_true rfl, Nat.le_of_ble_eq_true rfl⟩) (x_recv C0 hP 0 (mX_n rfl) rfl rfl) rfl hl rfl (Nat.le_of_ble_eq_true rfl) (Nat.le_of_ble_eq_true rfl) (Nat.le_of_ble_eq_true rfl) dX4_bucket_2 (fun E ce q H1 locs1 hE hP hS hq hv hcl => x_out hex hlocks hP hS hq hv hcl (Or.inl hE) (Nat.le_of_ble_eq_true rfl) (Nat.le_of_ble_eq_true rfl)) (fun H locs hk_1 hP hS => ?_)
  obtain ⟨r, hr0, rfl⟩ := crX_nat ok hk_1
  have er : nv (nI r) = r := nv_nI (by omega)
  refine lv_aload_n C0.hx C0.hb dX4_bucket_5 rfl (lv_at hl 0 rfl) ?_
  refine x_get C0 hP 0 (mX_n rfl) rfl rfl 3 (by decide) i_X4 k_0 rfl rfl dX4_bucket_6 ?_
  refine x_getN C0 hP 4 (mX_n rfl) rfl rfl 3 (by decide) i_X1 q_2 rfl rfl dX4_bucket_9 ?_
  refine lv_iload_n C0.hx C0.hb dX4_bucket_12 rfl (lv_at hl 1 rfl) ?_
  refine x_iald C0 hP 19 r 60 (mX_n rfl) rfl (by omega) (by decide) dX4_bucket_13 ?_
  refine vx_ret ?_
  refine W.widen (k := 1) (n := 6) (Nat.le_of_ble_eq_true rfl) (Nat.le_of_ble_eq_true rfl) ?_
  exact W.iret (v := σ 19 0 r) C0.hx C0.hb hr (fun t ht hW => ⟨⟨_, σ, rfl, ⟨⟨⟨hk_1, trivial⟩, (by rw [er])⟩, rfl⟩, x_end ht hP⟩, hS.F ht⟩) hS.2.2 dX4_bucket_14

set_option maxHeartbeats 4000000 in
set_option maxRecDepth 100000 in
theorem mtX4_buckets (l : Launch) (g : xG) (a : xAd) (σ : xS) (ok : okX σ) : xMi l yX4_buckets wsX4_buckets ({ frames := 1, cells := 0, slots := 0, locals := 21 }) NLX g a σ [.ref (a 0 0)] (nI (buL σ (nv (σ 3 0 0)))) := by
  unfold xMi
  refine Met.ofW (cc := cX4_buckets) (maxL := 3) (ret := (some .int)) (by decide) rfl ?_
  intro p e s m args below meth c s₁ B hml hv
  obtain ⟨rfl, hP, hK, hN, hj⟩ := hv
  have hr := B.returns
  have hlocks := B.notSynchronized
  have C0 : xC p s m _ c cX4_buckets 3 wsX4_buckets RX4 NLX g a (xA NLX a s.heap.size) := ⟨⟨B.exec, B.bytes, hml, findClass_of_methodNamed B.named, atoms_spec (ws := wsX4_buckets) B.pre⟩, hK, hN, hj, fun n h => Or.inl ⟨n, h, rfl⟩, fun q h => Or.inr h⟩
  have hS : va_S (xA NLX a s.heap.size) s.heap s.heap [] := va_S.rf
  have hl := lv_entry ([.ref (a 0 0)]) (n := 3) (Nat.le_of_ble_eq_true rfl)
  rw [lg_entry_eq]
  generalize (lg_sl ([.ref (a 0 0)]) ++ List.replicate (3 - (lg_sl ([.ref (a 0 0)])).length) Slot.unset).toArray = ls at hl ⊢
  have hl : lv_has ls 3 [(0, .ref (a 0 0))] := hl
  have k_0 : Cond.fieldLink RX4 26 RX4 (TX4 2).2.1 (TX4 2).2.2.1 ∈ wsX4_buckets := by decide +kernel
  have i_X4 : ∀ w ∈ wsX40, w ∈ wsX4_buckets := by decide +kernel
  have q_2 : Cond.fieldLinkNest RX4 103 RX2 (TX2 0).2.1 (TX2 0).2.2.1 RX4 ∈ xNs := by decide +kernel
  have i_X2 : ∀ w ∈ wsX20, w ∈ wsX4_buckets := by decide +kernel
  have k_4 : Cond.fieldLink RX4 33 RX4 (TX4 3).2.1 (TX4 3).2.2.1 ∈ wsX4_buckets := by decide +kernel
  have m_5 : (RX4, 136, yX1_isName) ∈ xMs := by decide +kernel
  have k_6 : Cond.initialized yX1_isName.cls ∈ wsX4_buckets := by decide +kernel
  have k_7 : Cond.instanceMethod yX1_isName ∈ wsX4_buckets := by decide +kernel
  have k_8 : Cond.selects RX1 yX1_isName yX1_isName ∈ wsX4_buckets := by decide +kernel
  refine lv_iconst (v := nI 0) C0.hx C0.hb dX4_buckets_0 (by decide) ?_
  refine lv_istore_n (lv' := [(1, .int (nI 0)), (0, .ref (a 0 0))]) C0.hx C0.hb dX4_buckets_1 rfl hl (by decide) rfl (fun ls hl => ?_)
  refine lv_iconst (v := nI 0) C0.hx C0.hb dX4_buckets_2 (by decide) ?_
  refine lv_istore_n (lv' := [(2, .int (nI 0)), (1, .int (nI 0)), (0, .ref (a 0 0))]) C0.hx C0.hb dX4_buckets_3 rfl hl (by decide) rfl (fun ls hl => ?_)
  refine x_loopR (α := Nat) (fun k => 60 - k) (fun k ls => k ≤ nv (σ 3 0 0) ∧ lv_has ls 3 [(0, .ref (a 0 0)), (1, .int (nI (buL σ k))), (2, .int (nI k))]) ?_ 0 ⟨(by omega), (lv_sub hl [2, 1, 0] rfl)⟩
  rintro k ls ⟨h4_0, hl⟩ ih4
  have hn := ok.n.2
  have hb := buL_le (σ := σ) k
  refine lv_iload_n C0.hx C0.hb dX4_buckets_4 rfl (lv_at hl 2 rfl) ?_
  refine lv_aload_n C0.hx C0.hb dX4_buckets_5 rfl (lv_at hl 0 rfl) ?_
  refine x_get C0 hP 0 (mX_n rfl) rfl rfl 2 (by decide) i_X4 k_0 rfl rfl dX4_buckets_6 ?_
  refine x_getN C0 hP 3 (mX_n rfl) rfl rfl 0 (by decide) i_X2 q_2 rfl rfl dX4_buckets_9 ?_
  obtain ⟨e_1, b_2⟩ := (ok.n : inR (σ 3 0 0) _)
  refine x_top e_1 ?_
  refine x_icmp_ge (tgt := 35) C0.hx C0.hb (by omega) (by omega) dX4_buckets_12 (by decide) (fun c_3 => ?_) (fun c_3 => ?_)
  ·
    refine lv_iload_n C0.hx C0.hb dX4_buckets_35 rfl (lv_at hl 1 rfl) ?_
    exact W.iret (v := nI (buL σ k)) C0.hx C0.hb hr (fun t ht hW => ⟨_, rfl, (by rw [show k = nv (σ 3 0 0) by omega]), ht⟩) (fun q h => nomatch h) dX4_buckets_36
  ·
    refine lv_aload_n C0.hx C0.hb dX4_buckets_15 rfl (lv_at hl 0 rfl) ?_
    refine x_get C0 hP 0 (mX_n rfl) rfl rfl 3 (by decide) i_X4 k_4 rfl rfl dX4_buckets_16 ?_
    refine lv_iload_n C0.hx C0.hb dX4_buckets_19 rfl (lv_at hl 2 rfl) ?_
    refine x_VNi (As := [.int (nI k)]) (rest := []) C0 (mtX1_isName l g a σ k (by omega)) hP C0.2.2.2.1 (va_cnB 1 C0.hts gX4_buckets_X1_isName_n136 rfl rfl rfl (C0.2.2.1.2 _ m_5) (C0.hts _ k_6) (by decide +kernel) ⟨Nat.le_of_ble_eq_true rfl, Nat.le_of_ble_eq_true rfl⟩) (C0.hts _ k_7) (C0.hts _ k_8) (x_recv C0 hP 4 (mX_n rfl) rfl rfl) rfl hl rfl (Nat.le_of_ble_eq_true rfl) (Nat.zero_le _) (Nat.zero_le _) dX4_buckets_20 ?_
    refine x_ifeq (tgt := 29) C0.hx C0.hb dX4_buckets_23 (by decide) (fun c_4 => ?_) (fun c_4 => ?_)
    ·
      have e29 : buL σ (k + 1) = buL σ k := by rw [buL, if_neg (by simpa using c_4)]; rfl
      rw [← e29] at hl
      refine lv_iinc (v := nI (k + 1)) (lv' := [(2, .int (nI (k + 1))), (0, .ref (a 0 0)), (1, .int (nI (buL σ (k + 1))))]) C0.hx C0.hb dX4_buckets_29 hl (k := 2) rfl (nI_1 k) (by decide) rfl (fun ls hl => ?_)
      refine lv_goto (tgt := 4) C0.hx C0.hb dX4_buckets_32 (by decide) ?_
      exact ih4 ((k + 1)) ls ⟨(by omega), (lv_sub hl [1, 2, 0] rfl)⟩ (by omega)
    ·
      refine lv_iinc (v := nI (buL σ k + 1)) (lv' := [(1, .int (nI (buL σ k + 1))), (0, .ref (a 0 0)), (2, .int (nI k))]) C0.hx C0.hb dX4_buckets_26 hl (k := 1) rfl (nI_1 (buL σ k)) (by decide) rfl (fun ls hl => ?_)
      have e29 : buL σ (k + 1) = buL σ k + 1 := by rw [buL, if_pos (by simpa using c_4)]
      rw [← e29] at hl
      refine lv_iinc (v := nI (k + 1)) (lv' := [(2, .int (nI (k + 1))), (1, .int (nI (buL σ (k + 1)))), (0, .ref (a 0 0))]) C0.hx C0.hb dX4_buckets_29 hl (k := 2) rfl (nI_1 k) (by decide) rfl (fun ls hl => ?_)
      refine lv_goto (tgt := 4) C0.hx C0.hb dX4_buckets_32 (by decide) ?_
      exact ih4 ((k + 1)) ls ⟨(by omega), (lv_sub hl [2, 1, 0] rfl)⟩ (by omega)

set_option maxHeartbeats 4000000 in
set_option maxRecDepth 100000 in
theorem mtX4_size (l : Launch) (hfl : l.stackTraces = false) (g : xG) (a : xAd) (σ : xS) (r : Int32) (ok : okX σ) : xMxi l yX4_size wsX4_size ({ frames := 7, cells := 1, slots := 6, locals := 103 }) 1 6 NLX g a σ [.ref (a 0 0), .int r] (chOk (r1C σ r)) (nI (siL σ (σ 19 0 (nv r)) 4)) σ (chEx (r1C σ r)) := by
  intro sz
  refine vx_ofW (cc := cX4_size) (maxL := 4) (ret := (some .int)) (by decide) rfl ?_
  intro p e s m args below meth c s₁ B hml hex hv
  obtain ⟨rfl, hsz, ⟨hP, hK, hN, hj⟩, hT, hZ⟩ := hv
  subst hsz
  have hr := B.returns
  have hlocks := B.notSynchronized
  have C0 : xC p s m _ c cX4_size 4 wsX4_size RX4 NLX g a (xA NLX a s.heap.size) := ⟨⟨B.exec, B.bytes, hml, findClass_of_methodNamed B.named, atoms_spec (ws := wsX4_size) B.pre⟩, hK, hN, hj, fun n h => Or.inl ⟨n, h, rfl⟩, fun q h => Or.inr h⟩
  have hS : va_S (xA NLX a s.heap.size) s.heap s.heap [] := va_S.rf
  have hl := lv_entry ([.ref (a 0 0), .int r]) (n := 4) (Nat.le_of_ble_eq_true rfl)
  rw [lg_entry_eq]
  generalize (lg_sl ([.ref (a 0 0), .int r]) ++ List.replicate (4 - (lg_sl ([.ref (a 0 0), .int r])).length) Slot.unset).toArray = ls at hl ⊢
  have hl : lv_has ls 4 [(0, .ref (a 0 0)), (1, .int r)] := hl
  have k_0 : Cond.fieldLink RX4 33 RX4 (TX4 3).2.1 (TX4 3).2.2.1 ∈ wsX4_size := by decide +kernel
  have i_X4 : ∀ w ∈ wsX40, w ∈ wsX4_size := by decide +kernel
  have q_2 : Cond.fieldLinkNest RX4 133 RX1 (TX1 3).2.1 (TX1 3).2.2.1 RX4 ∈ xNs := by decide +kernel
  have i_X1 : ∀ w ∈ wsX10, w ∈ wsX4_size := by decide +kernel
  refine lv_aload_n C0.hx C0.hb dX4_size_0 rfl (lv_at hl 0 rfl) ?_
  refine lv_iload_n C0.hx C0.hb dX4_size_1 rfl (lv_at hl 1 rfl) ?_
  refine x_VXv (As := [.int r]) (rest := []) C0 (mtX4_checkReport l hfl g a σ r ok) hP hS hT hZ (cwV 1 C0.hts gX4_size_X4_checkReport rfl rfl rfl (by decide +kernel) ⟨Nat.le_of_ble_eq_true rfl, Nat.le_of_ble_eq_true rfl⟩) (x_recv C0 hP 0 (mX_n rfl) rfl rfl) rfl hl rfl (Nat.le_of_ble_eq_true rfl) (Nat.le_of_ble_eq_true rfl) (Nat.le_of_ble_eq_true rfl) dX4_size_2 (fun E ce q H1 locs1 hE hP hS hq hv hcl => x_out hex hlocks hP hS hq hv hcl (Or.inl hE) (Nat.le_of_ble_eq_true rfl) (Nat.le_of_ble_eq_true rfl)) (fun H locs hk_1 hP hS => ?_)
  obtain ⟨r, hr0, rfl⟩ := crX_nat ok hk_1
  have er : nv (nI r) = r := nv_nI (by omega)
  refine lv_iconst (v := nI 0) C0.hx C0.hb dX4_size_5 (by decide) ?_
  refine lv_istore_n (lv' := [(2, .int (nI 0)), (0, .ref (a 0 0)), (1, .int (nI r))]) C0.hx C0.hb dX4_size_6 rfl hl (by decide) rfl (fun ls hl => ?_)
  refine lv_iconst (v := nI 0) C0.hx C0.hb dX4_size_7 (by decide) ?_
  refine lv_istore_n (lv' := [(3, .int (nI 0)), (2, .int (nI 0)), (0, .ref (a 0 0)), (1, .int (nI r))]) C0.hx C0.hb dX4_size_8 rfl hl (by decide) rfl (fun ls hl => ?_)
  refine x_loopR (α := Nat) (fun k => 4 - k) (fun k ls => k ≤ 4 ∧ lv_has ls 4 [(0, .ref (a 0 0)), (1, .int (nI r)), (2, .int (nI (siL σ (σ 19 0 r) k))), (3, .int (nI k))]) ?_ 0 ⟨(by omega), (lv_sub hl [2, 3, 1, 0] rfl)⟩
  rintro k ls ⟨h9_0, hl⟩ ih9
  have hb := siL_le (nm := σ 19 0 r) ok k
  refine lv_iload_n C0.hx C0.hb dX4_size_9 rfl (lv_at hl 3 rfl) ?_
  refine lv_iconst (v := nI 4) C0.hx C0.hb dX4_size_10 (by decide) ?_
  refine x_icmp_ge (tgt := 37) C0.hx C0.hb (by omega) (by omega) dX4_size_11 (by decide) (fun c_2 => ?_) (fun c_2 => ?_)
  ·
    refine lv_iload_n C0.hx C0.hb dX4_size_37 rfl (lv_at hl 2 rfl) ?_
    refine vx_ret ?_
    refine W.widen (k := 1) (n := 6) (Nat.le_of_ble_eq_true rfl) (Nat.le_of_ble_eq_true rfl) ?_
    exact W.iret (v := nI (siL σ (σ 19 0 r) k)) C0.hx C0.hb hr (fun t ht hW => ⟨⟨_, σ, rfl, ⟨⟨⟨hk_1, trivial⟩, (by rw [er, show k = 4 by omega])⟩, rfl⟩, x_end ht hP⟩, hS.F ht⟩) hS.2.2 dX4_size_38
  ·
    refine lv_iload_n C0.hx C0.hb dX4_size_14 rfl (lv_at hl 2 rfl) ?_
    refine lv_aload_n C0.hx C0.hb dX4_size_15 rfl (lv_at hl 0 rfl) ?_
    refine lv_aload_n C0.hx C0.hb dX4_size_16 rfl (lv_at hl 0 rfl) ?_
    refine x_get C0 hP 0 (mX_n rfl) rfl rfl 3 (by decide) i_X4 k_0 rfl rfl dX4_size_17 ?_
    refine x_getN C0 hP 4 (mX_n rfl) rfl rfl 3 (by decide) i_X1 q_2 rfl rfl dX4_size_20 ?_
    refine lv_iload_n C0.hx C0.hb dX4_size_23 rfl (lv_at hl 1 rfl) ?_
    refine x_iald C0 hP 19 r 60 (mX_n rfl) rfl (by omega) (by decide) dX4_size_24 ?_
    refine lv_iload_n C0.hx C0.hb dX4_size_25 rfl (lv_at hl 3 rfl) ?_
    refine x_Vi (As := [.int (σ 19 0 r), .int (nI k)]) (rest := [.int (nI (siL σ (σ 19 0 r) k))]) C0 (mtX4_countIn l g a σ (σ 19 0 r) k (by omega) ok) hP C0.2.2.2.1 (cwV 2 C0.hts gX4_size_X4_countIn rfl rfl rfl (by decide +kernel) ⟨Nat.le_of_ble_eq_true rfl, Nat.le_of_ble_eq_true rfl⟩) (x_recv C0 hP 0 (mX_n rfl) rfl rfl) rfl hl rfl (Nat.le_of_ble_eq_true rfl) (Nat.le_of_ble_eq_true rfl) (Nat.le_of_ble_eq_true rfl) dX4_size_26 ?_
    refine lv_iadd C0.hx C0.hb dX4_size_29 ?_
    refine x_top (nI_add (siL σ (σ 19 0 r) k) (coX σ (σ 19 0 r) k)) ?_
    refine lv_istore_n (lv' := [(2, .int (nI ((siL σ (σ 19 0 r) k) + (coX σ (σ 19 0 r) k)))), (0, .ref (a 0 0)), (1, .int (nI r)), (3, .int (nI k))]) C0.hx C0.hb dX4_size_30 rfl hl (by decide) rfl (fun ls hl => ?_)
    have e31 : siL σ (σ 19 0 r) (k + 1) = (siL σ (σ 19 0 r) k) + (coX σ (σ 19 0 r) k) := rfl
    rw [← e31] at hl
    refine lv_iinc (v := nI (k + 1)) (lv' := [(3, .int (nI (k + 1))), (2, .int (nI (siL σ (σ 19 0 r) (k + 1)))), (0, .ref (a 0 0)), (1, .int (nI r))]) C0.hx C0.hb dX4_size_31 hl (k := 3) rfl (nI_1 k) (by decide) rfl (fun ls hl => ?_)
    refine lv_goto (tgt := 9) C0.hx C0.hb dX4_size_34 (by decide) ?_
    exact ih9 ((k + 1)) ls ⟨(by omega), (lv_sub hl [2, 3, 1, 0] rfl)⟩ (by omega)

set_option maxHeartbeats 4000000 in
set_option maxRecDepth 100000 in
theorem mtX4_setSessions (l : Launch) (hfl : l.stackTraces = false) (g : xG) (a : xAd) (σ : xS) (v n : Int32) (ok : okX σ) : xMxi l yX4_setSessions wsX4_setSessions ({ frames := 7, cells := 1, slots := 6, locals := 102 }) 1 6 NLX g a σ [.ref (a 0 0), .int v, .int n] (chOk (ssC v n)) (σ 5 0 (nv v)) (ssS σ v n) (chEx (ssC v n)) := by
  intro sz
  refine vx_ofW (cc := cX4_setSessions) (maxL := 4) (ret := (some .int)) (by decide) rfl ?_
  intro p e s m args below meth c s₁ B hml hex hv
  obtain ⟨rfl, hsz, ⟨hP, hK, hN, hj⟩, hT, hZ⟩ := hv
  subst hsz
  have hr := B.returns
  have hlocks := B.notSynchronized
  have C0 : xC p s m _ c cX4_setSessions 4 wsX4_setSessions RX4 NLX g a (xA NLX a s.heap.size) := ⟨⟨B.exec, B.bytes, hml, findClass_of_methodNamed B.named, atoms_spec (ws := wsX4_setSessions) B.pre⟩, hK, hN, hj, fun n h => Or.inl ⟨n, h, rfl⟩, fun q h => Or.inr h⟩
  have hS : va_S (xA NLX a s.heap.size) s.heap s.heap [] := va_S.rf
  have hl := lv_entry ([.ref (a 0 0), .int v, .int n]) (n := 4) (Nat.le_of_ble_eq_true rfl)
  rw [lg_entry_eq]
  generalize (lg_sl ([.ref (a 0 0), .int v, .int n]) ++ List.replicate (4 - (lg_sl ([.ref (a 0 0), .int v, .int n])).length) Slot.unset).toArray = ls at hl ⊢
  have hl : lv_has ls 4 [(0, .ref (a 0 0)), (1, .int v), (2, .int n)] := hl
  have k_0 : Cond.fieldLink RX4 37 RX4 (TX4 4).2.1 (TX4 4).2.2.1 ∈ wsX4_setSessions := by decide +kernel
  have i_X4 : ∀ w ∈ wsX40, w ∈ wsX4_setSessions := by decide +kernel
  have k_2 : Cond.constant RX4 142 (1000000 : Int32) ∈ wsX4_setSessions := by decide +kernel
  refine x_join (α := Bool) 23 (fun b H' locs' ls => (H' = s.heap ∧ locs' = [] ∧ b = (ibX v (nI 4) && (decide (¬ n < 0) && decide (¬ 1000000 < n)))) ∧ lv_has ls 4 [(0, .ref (a 0 0)), (1, .int v), (2, .int n)]) (fun b => [.int (bI b)]) ?_ (fun J23 => ?_)
  · rintro b _ _ ls ⟨⟨rfl, rfl, hb23⟩, hl⟩
    subst hb23
    refine x_SX0 (As := [.int (bI (ibX v (nI 4) && (decide (¬ n < 0) && decide (¬ 1000000 < n))))]) (rest := []) C0 (mtX4_checkArgument l hfl g a σ (ibX v (nI 4) && (decide (¬ n < 0) && decide (¬ 1000000 < n)))) hP hS hT hZ (va_cwS 1 C0.hts gX4_setSessions_X4_checkArgument rfl rfl rfl (by decide +kernel) ⟨Nat.le_of_ble_eq_true rfl, Nat.le_of_ble_eq_true rfl⟩) rfl hl rfl (Nat.le_of_ble_eq_true rfl) (Nat.le_of_ble_eq_true rfl) (Nat.le_of_ble_eq_true rfl) dX4_setSessions_23 (fun E ce q H1 locs1 hE hP hS hq hv hcl => x_out hex hlocks hP hS hq hv hcl (Or.inl hE) (Nat.le_of_ble_eq_true rfl) (Nat.le_of_ble_eq_true rfl)) (fun H locs hk_1 hP hS => ?_)
    have hA := hk_1
    simp only [Bool.and_eq_true] at hA
    obtain ⟨v, hv, rfl⟩ := ibX_nat (by decide) hA.1
    have ev : nv (nI v) = v := nv_nI (by omega)
    refine lv_aload_n C0.hx C0.hb dX4_setSessions_26 rfl (lv_at hl 0 rfl) ?_
    refine x_get C0 hP 0 (mX_n rfl) rfl rfl 4 (by decide) i_X4 k_0 rfl rfl dX4_setSessions_27 ?_
    refine lv_iload_n C0.hx C0.hb dX4_setSessions_30 rfl (lv_at hl 1 rfl) ?_
    refine x_iald C0 hP 5 v 4 (mX_n rfl) rfl (by omega) (by decide) dX4_setSessions_31 ?_
    refine lv_istore_n (lv' := [(3, .int (σ 5 0 v)), (0, .ref (a 0 0)), (1, .int (nI v)), (2, .int n)]) C0.hx C0.hb dX4_setSessions_32 rfl hl (by decide) rfl (fun ls hl => ?_)
    refine lv_aload_n C0.hx C0.hb dX4_setSessions_33 rfl (lv_at hl 1 rfl) ?_
    refine x_get C0 hP 0 (mX_n rfl) rfl rfl 4 (by decide) i_X4 k_0 rfl rfl dX4_setSessions_34 ?_
    refine lv_iload_n C0.hx C0.hb dX4_setSessions_37 rfl (lv_at hl 2 rfl) ?_
    refine lv_iload_n C0.hx C0.hb dX4_setSessions_38 rfl (lv_at hl 3 rfl) ?_
    refine x_iast C0 hP hS 5 v 4 (v := n) (mX_n rfl) (fun _ => rfl) (by omega) (by decide) dX4_setSessions_39 (fun H locs hP hS => ?_)
    refine lv_iload_n C0.hx C0.hb dX4_setSessions_40 rfl (lv_at hl 0 rfl) ?_
    refine vx_ret ?_
    refine W.widen (k := 1) (n := 6) (Nat.le_of_ble_eq_true rfl) (Nat.le_of_ble_eq_true rfl) ?_
    exact W.iret (v := σ 5 0 v) C0.hx C0.hb hr (fun t ht hW => ⟨⟨_, up3 σ 5 0 v n, rfl, ⟨⟨⟨hk_1, trivial⟩, (by rw [ev])⟩, (by unfold ssS; rw [ev])⟩, x_end ht hP⟩, hS.F ht⟩) hS.2.2 dX4_setSessions_41
  ·
    refine lv_iload_n C0.hx C0.hb dX4_setSessions_0 rfl (lv_at hl 1 rfl) ?_
    refine lv_iconst (v := nI 4) C0.hx C0.hb dX4_setSessions_1 (by decide) ?_
    refine x_Si (As := [.int v, .int (nI 4)]) (rest := []) C0 (mtX4_isBelow l g a σ v (nI 4)) (xP0 _) xDj0 (va_cwS 2 C0.hts gX4_setSessions_X4_isBelow rfl rfl rfl (by decide +kernel) ⟨Nat.le_of_ble_eq_true rfl, Nat.le_of_ble_eq_true rfl⟩) rfl hl rfl (Nat.le_of_ble_eq_true rfl) (Nat.le_of_ble_eq_true rfl) (Nat.le_of_ble_eq_true rfl) dX4_setSessions_2 ?_
    refine x_ifeq (tgt := 22) C0.hx C0.hb dX4_setSessions_5 (by decide) (fun c_2 => ?_) (fun c_2 => ?_)
    ·
      refine lv_iconst (v := nI 0) C0.hx C0.hb dX4_setSessions_22 (by decide) ?_
      exact J23 false _ _ ls ⟨⟨rfl, rfl, (by simp [c_2])⟩, (lv_sub hl [0, 1, 2] rfl)⟩
    ·
      refine lv_iload_n C0.hx C0.hb dX4_setSessions_8 rfl (lv_at hl 2 rfl) ?_
      refine lv_if_lt (tgt := 22) C0.hx C0.hb dX4_setSessions_9 (by decide) (fun c_3 => ?_) (fun c_3 => ?_)
      ·
        refine lv_iconst (v := nI 0) C0.hx C0.hb dX4_setSessions_22 (by decide) ?_
        exact J23 false _ _ ls ⟨⟨rfl, rfl, (by simp [c_3, c_2])⟩, (lv_sub hl [0, 1, 2] rfl)⟩
      ·
        refine lv_iload_n C0.hx C0.hb dX4_setSessions_12 rfl (lv_at hl 2 rfl) ?_
        refine lv_ldc C0.hx C0.hb C0.1.2.2.2.1 (C0.hts _ k_2) dX4_setSessions_13 ?_
        refine lv_icmp_gt (tgt := 22) C0.hx C0.hb dX4_setSessions_15 (by decide) (fun c_4 => ?_) (fun c_4 => ?_)
        ·
          refine lv_iconst (v := nI 0) C0.hx C0.hb dX4_setSessions_22 (by decide) ?_
          exact J23 false _ _ ls ⟨⟨rfl, rfl, (by simp [c_4, c_3, c_2])⟩, (lv_sub hl [0, 1, 2] rfl)⟩
        ·
          refine lv_iconst (v := nI 1) C0.hx C0.hb dX4_setSessions_18 (by decide) ?_
          refine lv_goto (tgt := 23) C0.hx C0.hb dX4_setSessions_19 (by decide) ?_
          exact J23 true _ _ ls ⟨⟨rfl, rfl, (by simp [c_4, c_3, c_2])⟩, (lv_sub hl [0, 1, 2] rfl)⟩

set_option maxHeartbeats 4000000 in
set_option maxRecDepth 100000 in
theorem mtX4_setLimit (l : Launch) (hfl : l.stackTraces = false) (g : xG) (a : xAd) (σ : xS) (n : Int32) : xMxi l yX4_setLimit wsX4_setLimit ({ frames := 7, cells := 1, slots := 6, locals := 102 }) 1 6 NLX g a σ [.ref (a 0 0), .int n] (chOk (slC n)) (σ 0 0 0) (slS σ n) (chEx (slC n)) := by
  intro sz
  refine vx_ofW (cc := cX4_setLimit) (maxL := 3) (ret := (some .int)) (by decide) rfl ?_
  intro p e s m args below meth c s₁ B hml hex hv
  obtain ⟨rfl, hsz, ⟨hP, hK, hN, hj⟩, hT, hZ⟩ := hv
  subst hsz
  have hr := B.returns
  have hlocks := B.notSynchronized
  have C0 : xC p s m _ c cX4_setLimit 3 wsX4_setLimit RX4 NLX g a (xA NLX a s.heap.size) := ⟨⟨B.exec, B.bytes, hml, findClass_of_methodNamed B.named, atoms_spec (ws := wsX4_setLimit) B.pre⟩, hK, hN, hj, fun n h => Or.inl ⟨n, h, rfl⟩, fun q h => Or.inr h⟩
  have hS : va_S (xA NLX a s.heap.size) s.heap s.heap [] := va_S.rf
  have hl := lv_entry ([.ref (a 0 0), .int n]) (n := 3) (Nat.le_of_ble_eq_true rfl)
  rw [lg_entry_eq]
  generalize (lg_sl ([.ref (a 0 0), .int n]) ++ List.replicate (3 - (lg_sl ([.ref (a 0 0), .int n])).length) Slot.unset).toArray = ls at hl ⊢
  have hl : lv_has ls 3 [(0, .ref (a 0 0)), (1, .int n)] := hl
  have k_0 : Cond.fieldLink RX4 41 RX4 (TX4 5).2.1 (TX4 5).2.2.1 ∈ wsX4_setLimit := by decide +kernel
  have i_X4 : ∀ w ∈ wsX40, w ∈ wsX4_setLimit := by decide +kernel
  refine x_join (α := Bool) 17 (fun b H' locs' ls => (H' = s.heap ∧ locs' = [] ∧ b = (decide (¬ n < nI 1) && decide (¬ nI 10000 < n))) ∧ lv_has ls 3 [(0, .ref (a 0 0)), (1, .int n)]) (fun b => [.int (bI b)]) ?_ (fun J17 => ?_)
  · rintro b _ _ ls ⟨⟨rfl, rfl, hb17⟩, hl⟩
    subst hb17
    refine x_SX0 (As := [.int (bI (decide (¬ n < nI 1) && decide (¬ nI 10000 < n)))]) (rest := []) C0 (mtX4_checkArgument l hfl g a σ (decide (¬ n < nI 1) && decide (¬ nI 10000 < n))) hP hS hT hZ (va_cwS 1 C0.hts gX4_setLimit_X4_checkArgument rfl rfl rfl (by decide +kernel) ⟨Nat.le_of_ble_eq_true rfl, Nat.le_of_ble_eq_true rfl⟩) rfl hl rfl (Nat.le_of_ble_eq_true rfl) (Nat.le_of_ble_eq_true rfl) (Nat.le_of_ble_eq_true rfl) dX4_setLimit_17 (fun E ce q H1 locs1 hE hP hS hq hv hcl => x_out hex hlocks hP hS hq hv hcl (Or.inl hE) (Nat.le_of_ble_eq_true rfl) (Nat.le_of_ble_eq_true rfl)) (fun H locs hk_1 hP hS => ?_)
    refine lv_aload_n C0.hx C0.hb dX4_setLimit_20 rfl (lv_at hl 0 rfl) ?_
    refine x_get C0 hP 0 (mX_n rfl) rfl rfl 5 (by decide) i_X4 k_0 rfl rfl dX4_setLimit_21 ?_
    refine lv_istore_n (lv' := [(2, .int (σ 0 0 0)), (0, .ref (a 0 0)), (1, .int n)]) C0.hx C0.hb dX4_setLimit_24 rfl hl (by decide) rfl (fun ls hl => ?_)
    refine lv_aload_n C0.hx C0.hb dX4_setLimit_25 rfl (lv_at hl 1 rfl) ?_
    refine lv_iload_n C0.hx C0.hb dX4_setLimit_26 rfl (lv_at hl 2 rfl) ?_
    refine x_put C0 hP hS 0 (mX_n rfl) rfl rfl tyX4 tyX4_ok nmX4 5 (by decide) i_X4 k_0 rfl rfl 0 rfl (Nat.le_of_ble_eq_true rfl) rfl dX4_setLimit_27 (fun H locs hP hS => ?_)
    refine lv_iload_n C0.hx C0.hb dX4_setLimit_30 rfl (lv_at hl 0 rfl) ?_
    refine vx_ret ?_
    refine W.widen (k := 1) (n := 6) (Nat.le_of_ble_eq_true rfl) (Nat.le_of_ble_eq_true rfl) ?_
    exact W.iret (v := σ 0 0 0) C0.hx C0.hb hr (fun t ht hW => ⟨⟨_, up3 σ 0 0 0 n, rfl, ⟨⟨⟨hk_1, trivial⟩, rfl⟩, rfl⟩, x_end ht hP⟩, hS.F ht⟩) hS.2.2 dX4_setLimit_31
  ·
    refine lv_iload_n C0.hx C0.hb dX4_setLimit_0 rfl (lv_at hl 1 rfl) ?_
    refine lv_iconst (v := nI 1) C0.hx C0.hb dX4_setLimit_1 (by decide) ?_
    refine lv_icmp_lt (tgt := 16) C0.hx C0.hb dX4_setLimit_2 (by decide) (fun c_2 => ?_) (fun c_2 => ?_)
    ·
      refine lv_iconst (v := nI 0) C0.hx C0.hb dX4_setLimit_16 (by decide) ?_
      exact J17 false _ _ ls ⟨⟨rfl, rfl, (by simp [c_2])⟩, (lv_sub hl [0, 1] rfl)⟩
    ·
      refine lv_iload_n C0.hx C0.hb dX4_setLimit_5 rfl (lv_at hl 1 rfl) ?_
      refine lv_sipush (v := nI 10000) C0.hx C0.hb dX4_setLimit_6 (by decide) ?_
      refine lv_icmp_gt (tgt := 16) C0.hx C0.hb dX4_setLimit_9 (by decide) (fun c_3 => ?_) (fun c_3 => ?_)
      ·
        refine lv_iconst (v := nI 0) C0.hx C0.hb dX4_setLimit_16 (by decide) ?_
        exact J17 false _ _ ls ⟨⟨rfl, rfl, (by simp [c_3, c_2])⟩, (lv_sub hl [0, 1] rfl)⟩
      ·
        refine lv_iconst (v := nI 1) C0.hx C0.hb dX4_setLimit_12 (by decide) ?_
        refine lv_goto (tgt := 17) C0.hx C0.hb dX4_setLimit_13 (by decide) ?_
        exact J17 true _ _ ls ⟨⟨rfl, rfl, (by simp [c_3, c_2])⟩, (lv_sub hl [0, 1] rfl)⟩

set_option maxHeartbeats 4000000 in
set_option maxRecDepth 100000 in
theorem mtX4_rate (l : Launch) (hfl : l.stackTraces = false) (g : xG) (a : xAd) (σ : xS) (r q : Int32) (ok : okX σ) : xMxi l yX4_rate wsX4_rate ({ frames := 7, cells := 2, slots := 12, locals := 103 }) 2 12 NLX g a σ [.ref (a 0 0), .int r, .int q] (chOk (frC σ r q)) (nI (rtX σ (σ 19 0 (nv r)) (nv q))) σ (chEx (frC σ r q)) := by
  intro sz
  refine vx_ofW (cc := cX4_rate) (maxL := 3) (ret := (some .int)) (by decide) rfl ?_
  intro p e s m args below meth c s₁ B hml hex hv
  obtain ⟨rfl, hsz, ⟨hP, hK, hN, hj⟩, hT, hZ⟩ := hv
  subst hsz
  have hr := B.returns
  have hlocks := B.notSynchronized
  have C0 : xC p s m _ c cX4_rate 3 wsX4_rate RX4 NLX g a (xA NLX a s.heap.size) := ⟨⟨B.exec, B.bytes, hml, findClass_of_methodNamed B.named, atoms_spec (ws := wsX4_rate) B.pre⟩, hK, hN, hj, fun n h => Or.inl ⟨n, h, rfl⟩, fun q h => Or.inr h⟩
  have hS : va_S (xA NLX a s.heap.size) s.heap s.heap [] := va_S.rf
  have hl := lv_entry ([.ref (a 0 0), .int r, .int q]) (n := 3) (Nat.le_of_ble_eq_true rfl)
  rw [lg_entry_eq]
  generalize (lg_sl ([.ref (a 0 0), .int r, .int q]) ++ List.replicate (3 - (lg_sl ([.ref (a 0 0), .int r, .int q])).length) Slot.unset).toArray = ls at hl ⊢
  have hl : lv_has ls 3 [(0, .ref (a 0 0)), (1, .int r), (2, .int q)] := hl
  have k_0 : Cond.fieldLink RX4 33 RX4 (TX4 3).2.1 (TX4 3).2.2.1 ∈ wsX4_rate := by decide +kernel
  have i_X4 : ∀ w ∈ wsX40, w ∈ wsX4_rate := by decide +kernel
  have q_2 : Cond.fieldLinkNest RX4 133 RX1 (TX1 3).2.1 (TX1 3).2.2.1 RX4 ∈ xNs := by decide +kernel
  have i_X1 : ∀ w ∈ wsX10, w ∈ wsX4_rate := by decide +kernel
  refine lv_aload_n C0.hx C0.hb dX4_rate_0 rfl (lv_at hl 0 rfl) ?_
  refine lv_iload_n C0.hx C0.hb dX4_rate_1 rfl (lv_at hl 1 rfl) ?_
  refine x_VXv (As := [.int r]) (rest := []) C0 (mtX4_checkReport l hfl g a σ r ok) hP hS hT hZ (cwV 1 C0.hts gX4_rate_X4_checkReport rfl rfl rfl (by decide +kernel) ⟨Nat.le_of_ble_eq_true rfl, Nat.le_of_ble_eq_true rfl⟩) (x_recv C0 hP 0 (mX_n rfl) rfl rfl) rfl hl rfl (Nat.le_of_ble_eq_true rfl) (Nat.le_of_ble_eq_true rfl) (Nat.le_of_ble_eq_true rfl) dX4_rate_2 (fun E ce q H1 locs1 hE hP hS hq hv hcl => x_out hex hlocks hP hS hq hv hcl (Or.inl hE) (Nat.le_of_ble_eq_true rfl) (Nat.le_of_ble_eq_true rfl)) (fun H locs hk_1 hP hS => ?_)
  obtain ⟨r, hr0, rfl⟩ := crX_nat ok hk_1
  have er : nv (nI r) = r := nv_nI (by omega)
  refine lv_iload_n C0.hx C0.hb dX4_rate_5 rfl (lv_at hl 2 rfl) ?_
  refine lv_iconst (v := nI 4) C0.hx C0.hb dX4_rate_6 (by decide) ?_
  refine x_Si (As := [.int q, .int (nI 4)]) (rest := []) C0 (mtX4_isBelow l g a σ q (nI 4)) (xP0 _) xDj0 (va_cwS 2 C0.hts gX4_rate_X4_isBelow rfl rfl rfl (by decide +kernel) ⟨Nat.le_of_ble_eq_true rfl, Nat.le_of_ble_eq_true rfl⟩) rfl hl rfl (Nat.le_of_ble_eq_true rfl) (Nat.le_of_ble_eq_true rfl) (Nat.le_of_ble_eq_true rfl) dX4_rate_7 ?_
  refine x_SX0 (As := [.int (bI (ibX q (nI 4)))]) (rest := []) C0 (mtX4_checkArgument l hfl g a σ (ibX q (nI 4))) hP hS hT hZ (va_cwS 1 C0.hts gX4_rate_X4_checkArgument rfl rfl rfl (by decide +kernel) ⟨Nat.le_of_ble_eq_true rfl, Nat.le_of_ble_eq_true rfl⟩) rfl hl rfl (Nat.le_of_ble_eq_true rfl) (Nat.le_of_ble_eq_true rfl) (Nat.le_of_ble_eq_true rfl) dX4_rate_10 (fun E ce q H1 locs1 hE hP hS hq hv hcl => x_out hex hlocks hP hS hq hv hcl (Or.inr ⟨hk_1, Or.inl hE⟩) (Nat.le_of_ble_eq_true rfl) (Nat.le_of_ble_eq_true rfl)) (fun H locs hk_2 hP hS => ?_)
  obtain ⟨q, hq, rfl⟩ := ibX_nat (by decide) hk_2
  have eq : nv (nI q) = q := nv_nI (by omega)
  refine lv_aload_n C0.hx C0.hb dX4_rate_13 rfl (lv_at hl 0 rfl) ?_
  refine lv_aload_n C0.hx C0.hb dX4_rate_14 rfl (lv_at hl 0 rfl) ?_
  refine x_get C0 hP 0 (mX_n rfl) rfl rfl 3 (by decide) i_X4 k_0 rfl rfl dX4_rate_15 ?_
  refine x_getN C0 hP 4 (mX_n rfl) rfl rfl 3 (by decide) i_X1 q_2 rfl rfl dX4_rate_18 ?_
  refine lv_iload_n C0.hx C0.hb dX4_rate_21 rfl (lv_at hl 1 rfl) ?_
  refine x_iald C0 hP 19 r 60 (mX_n rfl) rfl (by omega) (by decide) dX4_rate_22 ?_
  refine lv_iload_n C0.hx C0.hb dX4_rate_23 rfl (lv_at hl 2 rfl) ?_
  refine x_Vi (As := [.int (σ 19 0 r), .int (nI q)]) (rest := []) C0 (mtX4_rateOf l g a σ (σ 19 0 r) q (by omega) ok) hP C0.2.2.2.1 (cwV 2 C0.hts gX4_rate_X4_rateOf rfl rfl rfl (by decide +kernel) ⟨Nat.le_of_ble_eq_true rfl, Nat.le_of_ble_eq_true rfl⟩) (x_recv C0 hP 0 (mX_n rfl) rfl rfl) rfl hl rfl (Nat.le_of_ble_eq_true rfl) (Nat.le_of_ble_eq_true rfl) (Nat.le_of_ble_eq_true rfl) dX4_rate_24 ?_
  refine vx_ret ?_
  refine W.widen (k := 2) (n := 12) (Nat.le_of_ble_eq_true rfl) (Nat.le_of_ble_eq_true rfl) ?_
  exact W.iret (v := nI (rtX σ (σ 19 0 r) q)) C0.hx C0.hb hr (fun t ht hW => ⟨⟨_, σ, rfl, ⟨⟨⟨hk_1, hk_2, trivial⟩, (by rw [er, eq])⟩, rfl⟩, x_end ht hP⟩, hS.F ht⟩) hS.2.2 dX4_rate_27

set_option maxHeartbeats 4000000 in
set_option maxRecDepth 100000 in
theorem mtX4_users (l : Launch) (hfl : l.stackTraces = false) (g : xG) (a : xAd) (σ : xS) (r q : Int32) (ok : okX σ) : xMxi l yX4_users wsX4_users ({ frames := 7, cells := 2, slots := 12, locals := 103 }) 2 12 NLX g a σ [.ref (a 0 0), .int r, .int q] (chOk (frC σ r q)) (ucX σ (σ 19 0 (nv r)) (nv q)) σ (chEx (frC σ r q)) := by
  intro sz
  refine vx_ofW (cc := cX4_users) (maxL := 3) (ret := (some .int)) (by decide) rfl ?_
  intro p e s m args below meth c s₁ B hml hex hv
  obtain ⟨rfl, hsz, ⟨hP, hK, hN, hj⟩, hT, hZ⟩ := hv
  subst hsz
  have hr := B.returns
  have hlocks := B.notSynchronized
  have C0 : xC p s m _ c cX4_users 3 wsX4_users RX4 NLX g a (xA NLX a s.heap.size) := ⟨⟨B.exec, B.bytes, hml, findClass_of_methodNamed B.named, atoms_spec (ws := wsX4_users) B.pre⟩, hK, hN, hj, fun n h => Or.inl ⟨n, h, rfl⟩, fun q h => Or.inr h⟩
  have hS : va_S (xA NLX a s.heap.size) s.heap s.heap [] := va_S.rf
  have hl := lv_entry ([.ref (a 0 0), .int r, .int q]) (n := 3) (Nat.le_of_ble_eq_true rfl)
  rw [lg_entry_eq]
  generalize (lg_sl ([.ref (a 0 0), .int r, .int q]) ++ List.replicate (3 - (lg_sl ([.ref (a 0 0), .int r, .int q])).length) Slot.unset).toArray = ls at hl ⊢
  have hl : lv_has ls 3 [(0, .ref (a 0 0)), (1, .int r), (2, .int q)] := hl
  have k_0 : Cond.fieldLink RX4 33 RX4 (TX4 3).2.1 (TX4 3).2.2.1 ∈ wsX4_users := by decide +kernel
  have i_X4 : ∀ w ∈ wsX40, w ∈ wsX4_users := by decide +kernel
  have q_2 : Cond.fieldLinkNest RX4 133 RX1 (TX1 3).2.1 (TX1 3).2.2.1 RX4 ∈ xNs := by decide +kernel
  have i_X1 : ∀ w ∈ wsX10, w ∈ wsX4_users := by decide +kernel
  refine lv_aload_n C0.hx C0.hb dX4_users_0 rfl (lv_at hl 0 rfl) ?_
  refine lv_iload_n C0.hx C0.hb dX4_users_1 rfl (lv_at hl 1 rfl) ?_
  refine x_VXv (As := [.int r]) (rest := []) C0 (mtX4_checkReport l hfl g a σ r ok) hP hS hT hZ (cwV 1 C0.hts gX4_users_X4_checkReport rfl rfl rfl (by decide +kernel) ⟨Nat.le_of_ble_eq_true rfl, Nat.le_of_ble_eq_true rfl⟩) (x_recv C0 hP 0 (mX_n rfl) rfl rfl) rfl hl rfl (Nat.le_of_ble_eq_true rfl) (Nat.le_of_ble_eq_true rfl) (Nat.le_of_ble_eq_true rfl) dX4_users_2 (fun E ce q H1 locs1 hE hP hS hq hv hcl => x_out hex hlocks hP hS hq hv hcl (Or.inl hE) (Nat.le_of_ble_eq_true rfl) (Nat.le_of_ble_eq_true rfl)) (fun H locs hk_1 hP hS => ?_)
  obtain ⟨r, hr0, rfl⟩ := crX_nat ok hk_1
  have er : nv (nI r) = r := nv_nI (by omega)
  refine lv_iload_n C0.hx C0.hb dX4_users_5 rfl (lv_at hl 2 rfl) ?_
  refine lv_iconst (v := nI 4) C0.hx C0.hb dX4_users_6 (by decide) ?_
  refine x_Si (As := [.int q, .int (nI 4)]) (rest := []) C0 (mtX4_isBelow l g a σ q (nI 4)) (xP0 _) xDj0 (va_cwS 2 C0.hts gX4_users_X4_isBelow rfl rfl rfl (by decide +kernel) ⟨Nat.le_of_ble_eq_true rfl, Nat.le_of_ble_eq_true rfl⟩) rfl hl rfl (Nat.le_of_ble_eq_true rfl) (Nat.le_of_ble_eq_true rfl) (Nat.le_of_ble_eq_true rfl) dX4_users_7 ?_
  refine x_SX0 (As := [.int (bI (ibX q (nI 4)))]) (rest := []) C0 (mtX4_checkArgument l hfl g a σ (ibX q (nI 4))) hP hS hT hZ (va_cwS 1 C0.hts gX4_users_X4_checkArgument rfl rfl rfl (by decide +kernel) ⟨Nat.le_of_ble_eq_true rfl, Nat.le_of_ble_eq_true rfl⟩) rfl hl rfl (Nat.le_of_ble_eq_true rfl) (Nat.le_of_ble_eq_true rfl) (Nat.le_of_ble_eq_true rfl) dX4_users_10 (fun E ce q H1 locs1 hE hP hS hq hv hcl => x_out hex hlocks hP hS hq hv hcl (Or.inr ⟨hk_1, Or.inl hE⟩) (Nat.le_of_ble_eq_true rfl) (Nat.le_of_ble_eq_true rfl)) (fun H locs hk_2 hP hS => ?_)
  obtain ⟨q, hq, rfl⟩ := ibX_nat (by decide) hk_2
  have eq : nv (nI q) = q := nv_nI (by omega)
  refine lv_aload_n C0.hx C0.hb dX4_users_13 rfl (lv_at hl 0 rfl) ?_
  refine lv_aload_n C0.hx C0.hb dX4_users_14 rfl (lv_at hl 0 rfl) ?_
  refine x_get C0 hP 0 (mX_n rfl) rfl rfl 3 (by decide) i_X4 k_0 rfl rfl dX4_users_15 ?_
  refine x_getN C0 hP 4 (mX_n rfl) rfl rfl 3 (by decide) i_X1 q_2 rfl rfl dX4_users_18 ?_
  refine lv_iload_n C0.hx C0.hb dX4_users_21 rfl (lv_at hl 1 rfl) ?_
  refine x_iald C0 hP 19 r 60 (mX_n rfl) rfl (by omega) (by decide) dX4_users_22 ?_
  refine lv_iload_n C0.hx C0.hb dX4_users_23 rfl (lv_at hl 2 rfl) ?_
  refine x_Vi (As := [.int (σ 19 0 r), .int (nI q)]) (rest := []) C0 (mtX4_usersOf l g a σ (σ 19 0 r) q (by omega) ok) hP C0.2.2.2.1 (cwV 2 C0.hts gX4_users_X4_usersOf rfl rfl rfl (by decide +kernel) ⟨Nat.le_of_ble_eq_true rfl, Nat.le_of_ble_eq_true rfl⟩) (x_recv C0 hP 0 (mX_n rfl) rfl rfl) rfl hl rfl (Nat.le_of_ble_eq_true rfl) (Nat.le_of_ble_eq_true rfl) (Nat.le_of_ble_eq_true rfl) dX4_users_24 ?_
  refine vx_ret ?_
  refine W.widen (k := 2) (n := 12) (Nat.le_of_ble_eq_true rfl) (Nat.le_of_ble_eq_true rfl) ?_
  exact W.iret (v := ucX σ (σ 19 0 r) q) C0.hx C0.hb hr (fun t ht hW => ⟨⟨_, σ, rfl, ⟨⟨⟨hk_1, hk_2, trivial⟩, (by rw [er, eq])⟩, rfl⟩, x_end ht hP⟩, hS.F ht⟩) hS.2.2 dX4_users_27

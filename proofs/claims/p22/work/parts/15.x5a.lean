set_option maxHeartbeats 4000000 in
set_option maxRecDepth 100000 in
theorem mtX4_checkArgument (l : Launch) (hfl : l.stackTraces = false) (g : xG) (a : xAd) (σ : xS) (b : Bool) : xMxv l yX4_checkArgument wsX4_checkArgument ({ frames := 6, cells := 1, slots := 6, locals := 82 }) 1 6 [] g a σ [.int (bI b)] (b = true) σ (fun E => b = false ∧ E = eIA) := by
  intro sz
  refine vx_ofW (cc := cX4_checkArgument) (maxL := 1) (ret := none) (by decide) rfl ?_
  intro p e s m args below meth c s₁ B hml hex hv
  obtain ⟨rfl, hsz, ⟨hP, hK, hN, hj⟩, hT, hZ⟩ := hv
  subst hsz
  have hr := B.returns
  have hlocks := B.notSynchronized
  have C0 : xC p s m _ c cX4_checkArgument 1 wsX4_checkArgument RX4 [] g a (xA [] a s.heap.size) := ⟨⟨B.exec, B.bytes, hml, findClass_of_methodNamed B.named, atoms_spec (ws := wsX4_checkArgument) B.pre⟩, hK, hN, hj, fun n h => Or.inl ⟨n, h, rfl⟩, fun q h => Or.inr h⟩
  have hS : va_S (xA [] a s.heap.size) s.heap s.heap [] := va_S.rf
  have hl := lv_entry ([.int (bI b)]) (n := 1) (Nat.le_of_ble_eq_true rfl)
  rw [lg_entry_eq]
  generalize (lg_sl ([.int (bI b)]) ++ List.replicate (1 - (lg_sl ([.int (bI b)])).length) Slot.unset).toArray = ls at hl ⊢
  have hl : lv_has ls 1 [(0, .int (bI b))] := hl
  have k_0 : Cond.classLink RX4 157 eIA ∈ wsX4_checkArgument := by decide +kernel
  have k_1 : Cond.initialized eIA ∈ wsX4_checkArgument := by decide +kernel
  have t_eIA : ∀ w ∈ (vx_atS RX4 161 eIA xNm).filter goodWord, w ∈ wsX4_checkArgument := fun w h => List.mem_cons_of_mem _ (List.mem_append_right _ h)
  refine lv_iload_n C0.hx C0.hb dX4_checkArgument_0 rfl (lv_at hl 0 rfl) ?_
  refine x_ifne (tgt := 14) C0.hx C0.hb dX4_checkArgument_1 (by decide) (fun c_1 => ?_) (fun c_1 => ?_)
  ·
    refine vx_ret ?_
    refine W.widen (k := 1) (n := 6) (Nat.le_of_ble_eq_true rfl) (Nat.le_of_ble_eq_true rfl) ?_
    exact W.vret C0.hx C0.hb hr (fun t ht hW => ⟨⟨σ, rfl, ⟨c_1, rfl⟩, x_end ht hP⟩, hS.F ht⟩) hS.2.2 dX4_checkArgument_14
  ·
    exact x_throw C0 hfl hex hlocks hP hS hT hZ hl (cls := eIA) (is := 159) (ic := 161) (text := "an argument is out of range") (by decide +kernel) k_0 k_1 (by decide +kernel) t_eIA (tw_eIA).1 (tw_eIA).2 dX4_checkArgument_4 dX4_checkArgument_7 dX4_checkArgument_8 dX4_checkArgument_10 dX4_checkArgument_13 (Nat.le_of_ble_eq_true rfl) (Nat.le_of_ble_eq_true rfl) (Nat.le_of_ble_eq_true rfl) (Nat.le_of_ble_eq_true rfl) ⟨c_1, rfl⟩ (Nat.le_of_ble_eq_true rfl) (Nat.le_of_ble_eq_true rfl)

set_option maxHeartbeats 4000000 in
set_option maxRecDepth 100000 in
theorem mtX4_checkReport (l : Launch) (hfl : l.stackTraces = false) (g : xG) (a : xAd) (σ : xS) (r : Int32) (ok : okX σ) : xMxv l yX4_checkReport wsX4_checkReport ({ frames := 6, cells := 1, slots := 6, locals := 82 }) 1 6 NLX g a σ [.ref (a 0 0), .int r] (crX σ r = true) σ (fun E => crX σ r = false ∧ E = eIO) := by
  intro sz
  refine vx_ofW (cc := cX4_checkReport) (maxL := 2) (ret := none) (by decide) rfl ?_
  intro p e s m args below meth c s₁ B hml hex hv
  obtain ⟨rfl, hsz, ⟨hP, hK, hN, hj⟩, hT, hZ⟩ := hv
  subst hsz
  have hr := B.returns
  have hlocks := B.notSynchronized
  have C0 : xC p s m _ c cX4_checkReport 2 wsX4_checkReport RX4 NLX g a (xA NLX a s.heap.size) := ⟨⟨B.exec, B.bytes, hml, findClass_of_methodNamed B.named, atoms_spec (ws := wsX4_checkReport) B.pre⟩, hK, hN, hj, fun n h => Or.inl ⟨n, h, rfl⟩, fun q h => Or.inr h⟩
  have hS : va_S (xA NLX a s.heap.size) s.heap s.heap [] := va_S.rf
  have hl := lv_entry ([.ref (a 0 0), .int r]) (n := 2) (Nat.le_of_ble_eq_true rfl)
  rw [lg_entry_eq]
  generalize (lg_sl ([.ref (a 0 0), .int r]) ++ List.replicate (2 - (lg_sl ([.ref (a 0 0), .int r])).length) Slot.unset).toArray = ls at hl ⊢
  have hl : lv_has ls 2 [(0, .ref (a 0 0)), (1, .int r)] := hl
  have k_0 : Cond.fieldLink RX4 26 RX4 (TX4 2).2.1 (TX4 2).2.2.1 ∈ wsX4_checkReport := by decide +kernel
  have i_X4 : ∀ w ∈ wsX40, w ∈ wsX4_checkReport := by decide +kernel
  have q_2 : Cond.fieldLinkNest RX4 103 RX2 (TX2 0).2.1 (TX2 0).2.2.1 RX4 ∈ xNs := by decide +kernel
  have i_X2 : ∀ w ∈ wsX20, w ∈ wsX4_checkReport := by decide +kernel
  have k_4 : Cond.classLink RX4 162 eIO ∈ wsX4_checkReport := by decide +kernel
  have k_5 : Cond.initialized eIO ∈ wsX4_checkReport := by decide +kernel
  have t_eIO : ∀ w ∈ (vx_atS RX4 166 eIO xNm).filter goodWord, w ∈ wsX4_checkReport := fun w h => List.mem_cons_of_mem _ (List.mem_append_right _ h)
  refine lv_iload_n C0.hx C0.hb dX4_checkReport_0 rfl (lv_at hl 1 rfl) ?_
  refine lv_aload_n C0.hx C0.hb dX4_checkReport_1 rfl (lv_at hl 0 rfl) ?_
  refine x_get C0 hP 0 (mX_n rfl) rfl rfl 2 (by decide) i_X4 k_0 rfl rfl dX4_checkReport_2 ?_
  refine x_getN C0 hP 3 (mX_n rfl) rfl rfl 0 (by decide) i_X2 q_2 rfl rfl dX4_checkReport_5 ?_
  obtain ⟨e_1, b_2⟩ := (ok.n : inR (σ 3 0 0) _)
  refine x_top e_1 ?_
  refine x_Si (As := [.int r, .int (nI (nv (σ 3 0 0)))]) (rest := []) C0 (mtX4_isBelow l g a σ r (nI (nv (σ 3 0 0)))) (xP0 _) xDj0 (va_cwS 2 C0.hts gX4_checkReport_X4_isBelow rfl rfl rfl (by decide +kernel) ⟨Nat.le_of_ble_eq_true rfl, Nat.le_of_ble_eq_true rfl⟩) rfl hl rfl (Nat.le_of_ble_eq_true rfl) (Nat.le_of_ble_eq_true rfl) (Nat.le_of_ble_eq_true rfl) dX4_checkReport_8 ?_
  refine x_ifne (tgt := 24) C0.hx C0.hb dX4_checkReport_11 (by decide) (fun c_3 => ?_) (fun c_3 => ?_)
  ·
    refine vx_ret ?_
    refine W.widen (k := 1) (n := 6) (Nat.le_of_ble_eq_true rfl) (Nat.le_of_ble_eq_true rfl) ?_
    exact W.vret C0.hx C0.hb hr (fun t ht hW => ⟨⟨σ, rfl, ⟨c_3, rfl⟩, x_end ht hP⟩, hS.F ht⟩) hS.2.2 dX4_checkReport_24
  ·
    exact x_throw C0 hfl hex hlocks hP hS hT hZ hl (cls := eIO) (is := 164) (ic := 166) (text := "there is no such report") (by decide +kernel) k_4 k_5 (by decide +kernel) t_eIO (tw_eIO).1 (tw_eIO).2 dX4_checkReport_14 dX4_checkReport_17 dX4_checkReport_18 dX4_checkReport_20 dX4_checkReport_23 (Nat.le_of_ble_eq_true rfl) (Nat.le_of_ble_eq_true rfl) (Nat.le_of_ble_eq_true rfl) (Nat.le_of_ble_eq_true rfl) ⟨c_3, rfl⟩ (Nat.le_of_ble_eq_true rfl) (Nat.le_of_ble_eq_true rfl)

set_option maxHeartbeats 4000000 in
set_option maxRecDepth 100000 in
theorem mtX4_addRange (l : Launch) (hfl : l.stackTraces = false) (g : xG) (a : xAd) (σ : xS) (v x y f : Int32) (ok : okX σ) (okf : okF σ) : xMxi l yX4_addRange wsX4_addRange ({ frames := 7, cells := 3, slots := 18, locals := 102 }) 3 18 NLX g a σ [.ref (a 0 0), .int v, .int x, .int y, .int f] (chOk (arC σ v x y f)) (arS σ v x y f 6 0 (nv v)) (arS σ v x y f) (chEx (arC σ v x y f)) := by
  intro sz
  refine vx_ofW (cc := cX4_addRange) (maxL := 5) (ret := (some .int)) (by decide) rfl ?_
  intro p e s m args below meth c s₁ B hml hex hv
  obtain ⟨rfl, hsz, ⟨hP, hK, hN, hj⟩, hT, hZ⟩ := hv
  subst hsz
  have hr := B.returns
  have hlocks := B.notSynchronized
  have C0 : xC p s m _ c cX4_addRange 5 wsX4_addRange RX4 NLX g a (xA NLX a s.heap.size) := ⟨⟨B.exec, B.bytes, hml, findClass_of_methodNamed B.named, atoms_spec (ws := wsX4_addRange) B.pre⟩, hK, hN, hj, fun n h => Or.inl ⟨n, h, rfl⟩, fun q h => Or.inr h⟩
  have hS : va_S (xA NLX a s.heap.size) s.heap s.heap [] := va_S.rf
  have hl := lv_entry ([.ref (a 0 0), .int v, .int x, .int y, .int f]) (n := 5) (Nat.le_of_ble_eq_true rfl)
  rw [lg_entry_eq]
  generalize (lg_sl ([.ref (a 0 0), .int v, .int x, .int y, .int f]) ++ List.replicate (5 - (lg_sl ([.ref (a 0 0), .int v, .int x, .int y, .int f])).length) Slot.unset).toArray = ls at hl ⊢
  have hl : lv_has ls 5 [(0, .ref (a 0 0)), (1, .int v), (2, .int x), (3, .int y), (4, .int f)] := hl
  have k_0 : Cond.fieldLink RX4 10 RX4 (TX4 0).2.1 (TX4 0).2.2.1 ∈ wsX4_addRange := by decide +kernel
  have i_X4 : ∀ w ∈ wsX40, w ∈ wsX4_addRange := by decide +kernel
  have m_2 : (RX4, 53, yX0_isFull) ∈ xMs := by decide +kernel
  have k_3 : Cond.initialized yX0_isFull.cls ∈ wsX4_addRange := by decide +kernel
  have k_4 : Cond.instanceMethod yX0_isFull ∈ wsX4_addRange := by decide +kernel
  have k_5 : Cond.selects RX0 yX0_isFull yX0_isFull ∈ wsX4_addRange := by decide +kernel
  have m_6 : (RX4, 64, yX0_overlaps) ∈ xMs := by decide +kernel
  have k_7 : Cond.initialized yX0_overlaps.cls ∈ wsX4_addRange := by decide +kernel
  have k_8 : Cond.instanceMethod yX0_overlaps ∈ wsX4_addRange := by decide +kernel
  have k_9 : Cond.selects RX0 yX0_overlaps yX0_overlaps ∈ wsX4_addRange := by decide +kernel
  have m_10 : (RX4, 70, yX0_add) ∈ xMs := by decide +kernel
  have k_11 : Cond.initialized yX0_add.cls ∈ wsX4_addRange := by decide +kernel
  have k_12 : Cond.instanceMethod yX0_add ∈ wsX4_addRange := by decide +kernel
  have k_13 : Cond.selects RX0 yX0_add yX0_add ∈ wsX4_addRange := by decide +kernel
  have k_14 : Cond.fieldLink RX4 33 RX4 (TX4 3).2.1 (TX4 3).2.2.1 ∈ wsX4_addRange := by decide +kernel
  have k_15 : Cond.fieldLink RX4 26 RX4 (TX4 2).2.1 (TX4 2).2.2.1 ∈ wsX4_addRange := by decide +kernel
  have m_16 : (RX4, 74, yX1_readStacksOf) ∈ xMs := by decide +kernel
  have k_17 : Cond.initialized yX1_readStacksOf.cls ∈ wsX4_addRange := by decide +kernel
  have k_18 : Cond.instanceMethod yX1_readStacksOf ∈ wsX4_addRange := by decide +kernel
  have k_19 : Cond.selects RX1 yX1_readStacksOf yX1_readStacksOf ∈ wsX4_addRange := by decide +kernel
  have k_20 : Cond.fieldLink RX4 19 RX4 (TX4 1).2.1 (TX4 1).2.2.1 ∈ wsX4_addRange := by decide +kernel
  have m_21 : (RX4, 78, yX1_sortAll) ∈ xMs := by decide +kernel
  have k_22 : Cond.initialized yX1_sortAll.cls ∈ wsX4_addRange := by decide +kernel
  have k_23 : Cond.instanceMethod yX1_sortAll ∈ wsX4_addRange := by decide +kernel
  have k_24 : Cond.selects RX1 yX1_sortAll yX1_sortAll ∈ wsX4_addRange := by decide +kernel
  have q_25 : Cond.fieldLinkNest RX4 82 RX0 (TX0 0).2.1 (TX0 0).2.2.1 RX4 ∈ xNs := by decide +kernel
  have i_X0 : ∀ w ∈ wsX00, w ∈ wsX4_addRange := by decide +kernel
  have k_27 : Cond.classLink RX4 57 eIS ∈ wsX4_addRange := by decide +kernel
  have k_28 : Cond.initialized eIS ∈ wsX4_addRange := by decide +kernel
  have t_eIS : ∀ w ∈ (vx_atS RX4 61 eIS xNm).filter goodWord, w ∈ wsX4_addRange := fun w h => List.mem_cons_of_mem _ (List.mem_append_left _ (List.mem_append_right _ h))
  refine x_join (α := Bool) 23 (fun b H' locs' ls => (H' = s.heap ∧ locs' = [] ∧ b = (ibX v (nI 4) && ibX f (nI 30))) ∧ lv_has ls 5 [(0, .ref (a 0 0)), (1, .int v), (2, .int x), (3, .int y), (4, .int f)]) (fun b => [.int (bI b)]) ?_ (fun J23 => ?_)
  · rintro b _ _ ls ⟨⟨rfl, rfl, hb23⟩, hl⟩
    subst hb23
    refine x_SX0 (As := [.int (bI (ibX v (nI 4) && ibX f (nI 30)))]) (rest := []) C0 (mtX4_checkArgument l hfl g a σ (ibX v (nI 4) && ibX f (nI 30))) hP hS hT hZ (va_cwS 1 C0.hts gX4_addRange_X4_checkArgument rfl rfl rfl (by decide +kernel) ⟨Nat.le_of_ble_eq_true rfl, Nat.le_of_ble_eq_true rfl⟩) rfl hl rfl (Nat.le_of_ble_eq_true rfl) (Nat.le_of_ble_eq_true rfl) (Nat.le_of_ble_eq_true rfl) dX4_addRange_23 (fun E ce q H1 locs1 hE hP hS hq hv hcl => x_out hex hlocks hP hS hq hv hcl (Or.inl hE) (Nat.le_of_ble_eq_true rfl) (Nat.le_of_ble_eq_true rfl)) (fun H locs hk_1 hP hS => ?_)
    have hA := hk_1
    simp only [Bool.and_eq_true] at hA
    obtain ⟨v, hv, rfl⟩ := ibX_nat (by decide) hA.1
    obtain ⟨f, hf, rfl⟩ := ibX_nat (by decide) hA.2
    have ev : nv (nI v) = v := nv_nI (by omega)
    refine x_join (α := Bool) 56 (fun b H' locs' ls => (H' = H ∧ locs' = locs ∧ b = (ibX x (nI 10000) && (ibX y (nI 10000) && decide (¬ y < x)))) ∧ lv_has ls 5 [(0, .ref (a 0 0)), (1, .int (nI v)), (2, .int x), (3, .int y), (4, .int (nI f))]) (fun b => [.int (bI b)]) ?_ (fun J56 => ?_)
    · rintro b _ _ ls ⟨⟨rfl, rfl, hb56⟩, hl⟩
      subst hb56
      refine x_SX0 (As := [.int (bI (ibX x (nI 10000) && (ibX y (nI 10000) && decide (¬ y < x))))]) (rest := []) C0 (mtX4_checkArgument l hfl g a σ (ibX x (nI 10000) && (ibX y (nI 10000) && decide (¬ y < x)))) hP hS hT hZ (va_cwS 1 C0.hts gX4_addRange_X4_checkArgument rfl rfl rfl (by decide +kernel) ⟨Nat.le_of_ble_eq_true rfl, Nat.le_of_ble_eq_true rfl⟩) rfl hl rfl (Nat.le_of_ble_eq_true rfl) (Nat.le_of_ble_eq_true rfl) (Nat.le_of_ble_eq_true rfl) dX4_addRange_56 (fun E ce q H1 locs1 hE hP hS hq hv hcl => x_out hex hlocks hP hS hq hv hcl (Or.inr ⟨hk_1, Or.inl hE⟩) (Nat.le_of_ble_eq_true rfl) (Nat.le_of_ble_eq_true rfl)) (fun H locs hk_2 hP hS => ?_)
      refine lv_aload_n C0.hx C0.hb dX4_addRange_59 rfl (lv_at hl 0 rfl) ?_
      refine x_get C0 hP 0 (mX_n rfl) rfl rfl 0 (by decide) i_X4 k_0 rfl rfl dX4_addRange_60 ?_
      refine lv_iload_n C0.hx C0.hb dX4_addRange_63 rfl (lv_at hl 1 rfl) ?_
      refine x_VNi (As := [.int (nI v)]) (rest := []) C0 (mtX0_isFull l g a σ v (by omega) ok) hP C0.2.2.2.1 (va_cnB 1 C0.hts gX4_addRange_X0_isFull_n53 rfl rfl rfl (C0.2.2.1.2 _ m_2) (C0.hts _ k_3) (by decide +kernel) ⟨Nat.le_of_ble_eq_true rfl, Nat.le_of_ble_eq_true rfl⟩) (C0.hts _ k_4) (C0.hts _ k_5) (x_recv C0 hP 1 (mX_n rfl) rfl rfl) rfl hl rfl (Nat.le_of_ble_eq_true rfl) (Nat.le_of_ble_eq_true rfl) (Nat.le_of_ble_eq_true rfl) dX4_addRange_64 ?_
      refine x_ifeq (tgt := 80) C0.hx C0.hb dX4_addRange_67 (by decide) (fun c_3 => ?_) (fun c_3 => ?_)
      ·
        have h30 : nv (σ 6 0 v) < 30 := by simpa using c_3
        refine lv_aload_n C0.hx C0.hb dX4_addRange_80 rfl (lv_at hl 0 rfl) ?_
        refine x_get C0 hP 0 (mX_n rfl) rfl rfl 0 (by decide) i_X4 k_0 rfl rfl dX4_addRange_81 ?_
        refine lv_iload_n C0.hx C0.hb dX4_addRange_84 rfl (lv_at hl 1 rfl) ?_
        refine lv_iload_n C0.hx C0.hb dX4_addRange_85 rfl (lv_at hl 2 rfl) ?_
        refine lv_iload_n C0.hx C0.hb dX4_addRange_86 rfl (lv_at hl 3 rfl) ?_
        refine x_VNi (As := [.int (nI v), .int x, .int y]) (rest := []) C0 (mtX0_overlaps l g a σ v (by omega) ok x y) hP C0.2.2.2.1 (va_cnB 3 C0.hts gX4_addRange_X0_overlaps_n64 rfl rfl rfl (C0.2.2.1.2 _ m_6) (C0.hts _ k_7) (by decide +kernel) ⟨Nat.le_of_ble_eq_true rfl, Nat.le_of_ble_eq_true rfl⟩) (C0.hts _ k_8) (C0.hts _ k_9) (x_recv C0 hP 1 (mX_n rfl) rfl rfl) rfl hl rfl (Nat.le_of_ble_eq_true rfl) (Nat.le_of_ble_eq_true rfl) (Nat.le_of_ble_eq_true rfl) dX4_addRange_87 ?_
        refine x_ifeq (tgt := 103) C0.hx C0.hb dX4_addRange_90 (by decide) (fun c_4 => ?_) (fun c_4 => ?_)
        ·
          refine lv_aload_n C0.hx C0.hb dX4_addRange_103 rfl (lv_at hl 0 rfl) ?_
          refine x_get C0 hP 0 (mX_n rfl) rfl rfl 0 (by decide) i_X4 k_0 rfl rfl dX4_addRange_104 ?_
          refine lv_iload_n C0.hx C0.hb dX4_addRange_107 rfl (lv_at hl 1 rfl) ?_
          refine lv_iload_n C0.hx C0.hb dX4_addRange_108 rfl (lv_at hl 2 rfl) ?_
          refine lv_iload_n C0.hx C0.hb dX4_addRange_109 rfl (lv_at hl 3 rfl) ?_
          refine lv_iload C0.hx C0.hb dX4_addRange_110 (lv_at hl 4 rfl) ?_
          refine x_VNv (As := [.int (nI v), .int x, .int y, .int (nI f)]) (rest := []) C0 (mtX0_add l g a σ v (by omega) ok (by omega) x y (nI f)) hP hS (va_cnB 4 C0.hts gX4_addRange_X0_add_n70 rfl rfl rfl (C0.2.2.1.2 _ m_10) (C0.hts _ k_11) (by decide +kernel) ⟨Nat.le_of_ble_eq_true rfl, Nat.le_of_ble_eq_true rfl⟩) (C0.hts _ k_12) (C0.hts _ k_13) (x_recv C0 hP 1 (mX_n rfl) rfl rfl) rfl hl rfl (Nat.le_of_ble_eq_true rfl) (Nat.le_of_ble_eq_true rfl) (Nat.le_of_ble_eq_true rfl) dX4_addRange_112 (fun H locs hP hS => ?_)
          have ok1 : okX (addS σ v (nv (σ 6 0 v)) x y (nI f)) := addS_ok ok hv h30 hf
          refine lv_aload_n C0.hx C0.hb dX4_addRange_115 rfl (lv_at hl 0 rfl) ?_
          refine x_get C0 hP 0 (mX_n rfl) rfl rfl 3 (by decide) i_X4 k_14 rfl rfl dX4_addRange_116 ?_
          refine lv_iload_n C0.hx C0.hb dX4_addRange_119 rfl (lv_at hl 1 rfl) ?_
          refine lv_aload_n C0.hx C0.hb dX4_addRange_120 rfl (lv_at hl 0 rfl) ?_
          refine x_get C0 hP 0 (mX_n rfl) rfl rfl 2 (by decide) i_X4 k_15 rfl rfl dX4_addRange_121 ?_
          refine lv_aload_n C0.hx C0.hb dX4_addRange_124 rfl (lv_at hl 0 rfl) ?_
          refine x_get C0 hP 0 (mX_n rfl) rfl rfl 0 (by decide) i_X4 k_0 rfl rfl dX4_addRange_125 ?_
          refine x_VNv (As := [.int (nI v), .ref (a 3 0), .ref (a 1 0)]) (rest := []) C0 (mtX1_readStacksOf l g a (addS σ v (nv (σ 6 0 v)) x y (nI f)) v (by omega) ok1) hP hS (va_cnB 3 C0.hts gX4_addRange_X1_readStacksOf_n74 rfl rfl rfl (C0.2.2.1.2 _ m_16) (C0.hts _ k_17) (by decide +kernel) ⟨Nat.le_of_ble_eq_true rfl, Nat.le_of_ble_eq_true rfl⟩) (C0.hts _ k_18) (C0.hts _ k_19) (x_recv C0 hP 4 (mX_n rfl) rfl rfl) rfl hl rfl (Nat.le_of_ble_eq_true rfl) (Nat.le_of_ble_eq_true rfl) (Nat.le_of_ble_eq_true rfl) dX4_addRange_128 (fun H locs hP hS => ?_)
          refine lv_aload_n C0.hx C0.hb dX4_addRange_131 rfl (lv_at hl 0 rfl) ?_
          refine x_get C0 hP 0 (mX_n rfl) rfl rfl 3 (by decide) i_X4 k_14 rfl rfl dX4_addRange_132 ?_
          refine lv_aload_n C0.hx C0.hb dX4_addRange_135 rfl (lv_at hl 0 rfl) ?_
          refine x_get C0 hP 0 (mX_n rfl) rfl rfl 2 (by decide) i_X4 k_15 rfl rfl dX4_addRange_136 ?_
          refine lv_aload_n C0.hx C0.hb dX4_addRange_139 rfl (lv_at hl 0 rfl) ?_
          refine x_get C0 hP 0 (mX_n rfl) rfl rfl 1 (by decide) i_X4 k_20 rfl rfl dX4_addRange_140 ?_
          refine x_VNv (As := [.ref (a 3 0), .ref (a 2 0)]) (rest := []) C0 (mtX1_sortAll l g a (rsS (addS σ v (nv (σ 6 0 v)) x y (nI f)) v) (rsS_ok ok1) (rsS_okF ok1 okf)) hP hS (va_cnB 2 C0.hts gX4_addRange_X1_sortAll_n78 rfl rfl rfl (C0.2.2.1.2 _ m_21) (C0.hts _ k_22) (by decide +kernel) ⟨Nat.le_of_ble_eq_true rfl, Nat.le_of_ble_eq_true rfl⟩) (C0.hts _ k_23) (C0.hts _ k_24) (x_recv C0 hP 4 (mX_n rfl) rfl rfl) rfl hl rfl (Nat.le_of_ble_eq_true rfl) (Nat.le_of_ble_eq_true rfl) (Nat.le_of_ble_eq_true rfl) dX4_addRange_143 (fun H locs hP hS => ?_)
          refine lv_aload_n C0.hx C0.hb dX4_addRange_146 rfl (lv_at hl 0 rfl) ?_
          refine x_get C0 hP 0 (mX_n rfl) rfl rfl 0 (by decide) i_X4 k_0 rfl rfl dX4_addRange_147 ?_
          refine x_getN C0 hP 1 (mX_n rfl) rfl rfl 0 (by decide) i_X0 q_25 rfl rfl dX4_addRange_150 ?_
          refine lv_iload_n C0.hx C0.hb dX4_addRange_153 rfl (lv_at hl 1 rfl) ?_
          refine x_iald C0 hP 6 v 4 (mX_n rfl) rfl (by omega) (by decide) dX4_addRange_154 ?_
          refine vx_ret ?_
          refine W.widen (k := 3) (n := 18) (Nat.le_of_ble_eq_true rfl) (Nat.le_of_ble_eq_true rfl) ?_
          exact W.iret (v := (saS (rsS (addS σ v (nv (σ 6 0 v)) x y (nI f)) v)) 6 0 v) C0.hx C0.hb hr (fun t ht hW => ⟨⟨_, saS (rsS (addS σ v (nv (σ 6 0 v)) x y (nI f)) v), rfl, ⟨⟨(by rw [arC]; exact ⟨hk_1, hk_2, by rw [ev]; simp [c_3], by rw [ev]; simp [c_4], trivial⟩), (by unfold arS; rw [ev])⟩, (by unfold arS; rw [ev])⟩, x_end ht hP⟩, hS.F ht⟩) hS.2.2 dX4_addRange_155
        ·
          exact x_throw C0 hfl hex hlocks hP hS hT hZ hl (cls := eIS) (is := 68) (ic := 61) (text := "the range overlaps with one of the map") (by decide +kernel) k_27 k_28 (by decide +kernel) t_eIS (tw_eIS).1 (tw_eIS).2 dX4_addRange_93 dX4_addRange_96 dX4_addRange_97 dX4_addRange_99 dX4_addRange_102 (Nat.le_of_ble_eq_true rfl) (Nat.le_of_ble_eq_true rfl) (Nat.le_of_ble_eq_true rfl) (Nat.le_of_ble_eq_true rfl) (by rw [arC]; exact Or.inr ⟨hk_1, Or.inr ⟨hk_2, Or.inr ⟨by rw [ev]; simp [c_3], Or.inl ⟨by rw [ev]; simp [c_4], rfl⟩⟩⟩⟩) (Nat.le_of_ble_eq_true rfl) (Nat.le_of_ble_eq_true rfl)
      ·
        exact x_throw C0 hfl hex hlocks hP hS hT hZ hl (cls := eIS) (is := 59) (ic := 61) (text := "the map has 30 ranges") (by decide +kernel) k_27 k_28 (by decide +kernel) t_eIS (tw_eIS).1 (tw_eIS).2 dX4_addRange_70 dX4_addRange_73 dX4_addRange_74 dX4_addRange_76 dX4_addRange_79 (Nat.le_of_ble_eq_true rfl) (Nat.le_of_ble_eq_true rfl) (Nat.le_of_ble_eq_true rfl) (Nat.le_of_ble_eq_true rfl) (by rw [arC]; exact Or.inr ⟨hk_1, Or.inr ⟨hk_2, Or.inl ⟨by rw [ev]; simp [c_3], rfl⟩⟩⟩) (Nat.le_of_ble_eq_true rfl) (Nat.le_of_ble_eq_true rfl)
    ·
      refine lv_iload_n C0.hx C0.hb dX4_addRange_26 rfl (lv_at hl 2 rfl) ?_
      refine lv_sipush (v := nI 10000) C0.hx C0.hb dX4_addRange_27 (by decide) ?_
      refine x_Si (As := [.int x, .int (nI 10000)]) (rest := []) C0 (mtX4_isBelow l g a σ x (nI 10000)) (xP0 _) xDj0 (va_cwS 2 C0.hts gX4_addRange_X4_isBelow rfl rfl rfl (by decide +kernel) ⟨Nat.le_of_ble_eq_true rfl, Nat.le_of_ble_eq_true rfl⟩) rfl hl rfl (Nat.le_of_ble_eq_true rfl) (Nat.le_of_ble_eq_true rfl) (Nat.le_of_ble_eq_true rfl) dX4_addRange_30 ?_
      refine x_ifeq (tgt := 55) C0.hx C0.hb dX4_addRange_33 (by decide) (fun c_5 => ?_) (fun c_5 => ?_)
      ·
        refine lv_iconst (v := nI 0) C0.hx C0.hb dX4_addRange_55 (by decide) ?_
        exact J56 false _ _ ls ⟨⟨rfl, rfl, (by simp [c_5])⟩, (lv_sub hl [0, 1, 2, 3, 4] rfl)⟩
      ·
        refine lv_iload_n C0.hx C0.hb dX4_addRange_36 rfl (lv_at hl 3 rfl) ?_
        refine lv_sipush (v := nI 10000) C0.hx C0.hb dX4_addRange_37 (by decide) ?_
        refine x_Si (As := [.int y, .int (nI 10000)]) (rest := []) C0 (mtX4_isBelow l g a σ y (nI 10000)) (xP0 _) xDj0 (va_cwS 2 C0.hts gX4_addRange_X4_isBelow rfl rfl rfl (by decide +kernel) ⟨Nat.le_of_ble_eq_true rfl, Nat.le_of_ble_eq_true rfl⟩) rfl hl rfl (Nat.le_of_ble_eq_true rfl) (Nat.le_of_ble_eq_true rfl) (Nat.le_of_ble_eq_true rfl) dX4_addRange_40 ?_
        refine x_ifeq (tgt := 55) C0.hx C0.hb dX4_addRange_43 (by decide) (fun c_6 => ?_) (fun c_6 => ?_)
        ·
          refine lv_iconst (v := nI 0) C0.hx C0.hb dX4_addRange_55 (by decide) ?_
          exact J56 false _ _ ls ⟨⟨rfl, rfl, (by simp [c_6, c_5])⟩, (lv_sub hl [0, 1, 2, 3, 4] rfl)⟩
        ·
          refine lv_iload_n C0.hx C0.hb dX4_addRange_46 rfl (lv_at hl 2 rfl) ?_
          refine lv_iload_n C0.hx C0.hb dX4_addRange_47 rfl (lv_at hl 3 rfl) ?_
          refine lv_icmp_gt (tgt := 55) C0.hx C0.hb dX4_addRange_48 (by decide) (fun c_7 => ?_) (fun c_7 => ?_)
          ·
            refine lv_iconst (v := nI 0) C0.hx C0.hb dX4_addRange_55 (by decide) ?_
            exact J56 false _ _ ls ⟨⟨rfl, rfl, (by simp [c_7, c_6, c_5])⟩, (lv_sub hl [0, 1, 2, 3, 4] rfl)⟩
          ·
            refine lv_iconst (v := nI 1) C0.hx C0.hb dX4_addRange_51 (by decide) ?_
            refine lv_goto (tgt := 56) C0.hx C0.hb dX4_addRange_52 (by decide) ?_
            exact J56 true _ _ ls ⟨⟨rfl, rfl, (by simp [c_7, c_6, c_5])⟩, (lv_sub hl [0, 1, 2, 3, 4] rfl)⟩
  ·
    refine lv_iload_n C0.hx C0.hb dX4_addRange_0 rfl (lv_at hl 1 rfl) ?_
    refine lv_iconst (v := nI 4) C0.hx C0.hb dX4_addRange_1 (by decide) ?_
    refine x_Si (As := [.int v, .int (nI 4)]) (rest := []) C0 (mtX4_isBelow l g a σ v (nI 4)) (xP0 _) xDj0 (va_cwS 2 C0.hts gX4_addRange_X4_isBelow rfl rfl rfl (by decide +kernel) ⟨Nat.le_of_ble_eq_true rfl, Nat.le_of_ble_eq_true rfl⟩) rfl hl rfl (Nat.le_of_ble_eq_true rfl) (Nat.le_of_ble_eq_true rfl) (Nat.le_of_ble_eq_true rfl) dX4_addRange_2 ?_
    refine x_ifeq (tgt := 22) C0.hx C0.hb dX4_addRange_5 (by decide) (fun c_8 => ?_) (fun c_8 => ?_)
    ·
      refine lv_iconst (v := nI 0) C0.hx C0.hb dX4_addRange_22 (by decide) ?_
      exact J23 false _ _ ls ⟨⟨rfl, rfl, (by simp [c_8])⟩, (lv_sub hl [0, 1, 2, 3, 4] rfl)⟩
    ·
      refine lv_iload C0.hx C0.hb dX4_addRange_8 (lv_at hl 4 rfl) ?_
      refine lv_bipush (v := nI 30) C0.hx C0.hb dX4_addRange_10 (by decide) ?_
      refine x_Si (As := [.int f, .int (nI 30)]) (rest := []) C0 (mtX4_isBelow l g a σ f (nI 30)) (xP0 _) xDj0 (va_cwS 2 C0.hts gX4_addRange_X4_isBelow rfl rfl rfl (by decide +kernel) ⟨Nat.le_of_ble_eq_true rfl, Nat.le_of_ble_eq_true rfl⟩) rfl hl rfl (Nat.le_of_ble_eq_true rfl) (Nat.le_of_ble_eq_true rfl) (Nat.le_of_ble_eq_true rfl) dX4_addRange_12 ?_
      refine x_ifeq (tgt := 22) C0.hx C0.hb dX4_addRange_15 (by decide) (fun c_9 => ?_) (fun c_9 => ?_)
      ·
        refine lv_iconst (v := nI 0) C0.hx C0.hb dX4_addRange_22 (by decide) ?_
        exact J23 false _ _ ls ⟨⟨rfl, rfl, (by simp [c_9, c_8])⟩, (lv_sub hl [0, 1, 2, 3, 4] rfl)⟩
      ·
        refine lv_iconst (v := nI 1) C0.hx C0.hb dX4_addRange_18 (by decide) ?_
        refine lv_goto (tgt := 23) C0.hx C0.hb dX4_addRange_19 (by decide) ?_
        exact J23 true _ _ ls ⟨⟨rfl, rfl, (by simp [c_9, c_8])⟩, (lv_sub hl [0, 1, 2, 3, 4] rfl)⟩

set_option maxHeartbeats 4000000 in
set_option maxRecDepth 100000 in
theorem mtX4_ignore (l : Launch) (hfl : l.stackTraces = false) (g : xG) (a : xAd) (σ : xS) (f : Int32) (b : Bool) (ok : okX σ) (okf : okF σ) : xMxi l yX4_ignore wsX4_ignore ({ frames := 7, cells := 1, slots := 6, locals := 102 }) 1 6 NLX g a σ [.ref (a 0 0), .int f, .int (bI b)] (chOk (igC f)) (σ 10 0 (nv f)) (igS σ f b) (chEx (igC f)) := by
  intro sz
  refine vx_ofW (cc := cX4_ignore) (maxL := 4) (ret := (some .boolean)) (by decide) rfl ?_
  intro p e s m args below meth c s₁ B hml hex hv
  obtain ⟨rfl, hsz, ⟨hP, hK, hN, hj⟩, hT, hZ⟩ := hv
  subst hsz
  have hr := B.returns
  have hlocks := B.notSynchronized
  have C0 : xC p s m _ c cX4_ignore 4 wsX4_ignore RX4 NLX g a (xA NLX a s.heap.size) := ⟨⟨B.exec, B.bytes, hml, findClass_of_methodNamed B.named, atoms_spec (ws := wsX4_ignore) B.pre⟩, hK, hN, hj, fun n h => Or.inl ⟨n, h, rfl⟩, fun q h => Or.inr h⟩
  have hS : va_S (xA NLX a s.heap.size) s.heap s.heap [] := va_S.rf
  have hl := lv_entry ([.ref (a 0 0), .int f, .int (bI b)]) (n := 4) (Nat.le_of_ble_eq_true rfl)
  rw [lg_entry_eq]
  generalize (lg_sl ([.ref (a 0 0), .int f, .int (bI b)]) ++ List.replicate (4 - (lg_sl ([.ref (a 0 0), .int f, .int (bI b)])).length) Slot.unset).toArray = ls at hl ⊢
  have hl : lv_has ls 4 [(0, .ref (a 0 0)), (1, .int f), (2, .int (bI b))] := hl
  have k_0 : Cond.fieldLink RX4 19 RX4 (TX4 1).2.1 (TX4 1).2.2.1 ∈ wsX4_ignore := by decide +kernel
  have i_X4 : ∀ w ∈ wsX40, w ∈ wsX4_ignore := by decide +kernel
  have q_2 : Cond.fieldLinkNest RX4 85 RX3 (TX3 0).2.1 (TX3 0).2.2.1 RX4 ∈ xNs := by decide +kernel
  have i_X3 : ∀ w ∈ wsX30, w ∈ wsX4_ignore := by decide +kernel
  have k_4 : Cond.fieldLink RX4 33 RX4 (TX4 3).2.1 (TX4 3).2.2.1 ∈ wsX4_ignore := by decide +kernel
  have k_5 : Cond.fieldLink RX4 26 RX4 (TX4 2).2.1 (TX4 2).2.2.1 ∈ wsX4_ignore := by decide +kernel
  have m_6 : (RX4, 78, yX1_sortAll) ∈ xMs := by decide +kernel
  have k_7 : Cond.initialized yX1_sortAll.cls ∈ wsX4_ignore := by decide +kernel
  have k_8 : Cond.instanceMethod yX1_sortAll ∈ wsX4_ignore := by decide +kernel
  have k_9 : Cond.selects RX1 yX1_sortAll yX1_sortAll ∈ wsX4_ignore := by decide +kernel
  refine lv_iload_n C0.hx C0.hb dX4_ignore_0 rfl (lv_at hl 1 rfl) ?_
  refine lv_bipush (v := nI 30) C0.hx C0.hb dX4_ignore_1 (by decide) ?_
  refine x_Si (As := [.int f, .int (nI 30)]) (rest := []) C0 (mtX4_isBelow l g a σ f (nI 30)) (xP0 _) xDj0 (va_cwS 2 C0.hts gX4_ignore_X4_isBelow rfl rfl rfl (by decide +kernel) ⟨Nat.le_of_ble_eq_true rfl, Nat.le_of_ble_eq_true rfl⟩) rfl hl rfl (Nat.le_of_ble_eq_true rfl) (Nat.le_of_ble_eq_true rfl) (Nat.le_of_ble_eq_true rfl) dX4_ignore_3 ?_
  refine x_SX0 (As := [.int (bI (ibX f (nI 30)))]) (rest := []) C0 (mtX4_checkArgument l hfl g a σ (ibX f (nI 30))) hP hS hT hZ (va_cwS 1 C0.hts gX4_ignore_X4_checkArgument rfl rfl rfl (by decide +kernel) ⟨Nat.le_of_ble_eq_true rfl, Nat.le_of_ble_eq_true rfl⟩) rfl hl rfl (Nat.le_of_ble_eq_true rfl) (Nat.le_of_ble_eq_true rfl) (Nat.le_of_ble_eq_true rfl) dX4_ignore_6 (fun E ce q H1 locs1 hE hP hS hq hv hcl => x_out hex hlocks hP hS hq hv hcl (Or.inl hE) (Nat.le_of_ble_eq_true rfl) (Nat.le_of_ble_eq_true rfl)) (fun H locs hk_1 hP hS => ?_)
  obtain ⟨f, hf, rfl⟩ := ibX_nat (by decide) hk_1
  have ev : nv (nI f) = f := nv_nI (by omega)
  refine lv_aload_n C0.hx C0.hb dX4_ignore_9 rfl (lv_at hl 0 rfl) ?_
  refine x_get C0 hP 0 (mX_n rfl) rfl rfl 1 (by decide) i_X4 k_0 rfl rfl dX4_ignore_10 ?_
  refine x_getN C0 hP 2 (mX_n rfl) rfl rfl 0 (by decide) i_X3 q_2 rfl rfl dX4_ignore_13 ?_
  refine lv_iload_n C0.hx C0.hb dX4_ignore_16 rfl (lv_at hl 1 rfl) ?_
  refine x_zald C0 hP 10 f 30 (mX_n rfl) rfl (by omega) (by decide) dX4_ignore_17 ?_
  refine lv_istore_n (lv' := [(3, .int (σ 10 0 f)), (0, .ref (a 0 0)), (1, .int (nI f)), (2, .int (bI b))]) C0.hx C0.hb dX4_ignore_18 rfl hl (by decide) rfl (fun ls hl => ?_)
  refine lv_aload_n C0.hx C0.hb dX4_ignore_19 rfl (lv_at hl 1 rfl) ?_
  refine x_get C0 hP 0 (mX_n rfl) rfl rfl 1 (by decide) i_X4 k_0 rfl rfl dX4_ignore_20 ?_
  refine x_getN C0 hP 2 (mX_n rfl) rfl rfl 0 (by decide) i_X3 q_2 rfl rfl dX4_ignore_23 ?_
  refine lv_iload_n C0.hx C0.hb dX4_ignore_26 rfl (lv_at hl 2 rfl) ?_
  refine lv_iload_n C0.hx C0.hb dX4_ignore_27 rfl (lv_at hl 3 rfl) ?_
  refine x_zast C0 hP hS 10 f 30 (v := bI b) (bI_01 _) (mX_n rfl) (fun _ => rfl) (by omega) (by decide) dX4_ignore_28 (fun H locs hP hS => ?_)
  refine lv_aload_n C0.hx C0.hb dX4_ignore_29 rfl (lv_at hl 1 rfl) ?_
  refine x_get C0 hP 0 (mX_n rfl) rfl rfl 3 (by decide) i_X4 k_4 rfl rfl dX4_ignore_30 ?_
  refine lv_aload_n C0.hx C0.hb dX4_ignore_33 rfl (lv_at hl 1 rfl) ?_
  refine x_get C0 hP 0 (mX_n rfl) rfl rfl 2 (by decide) i_X4 k_5 rfl rfl dX4_ignore_34 ?_
  refine lv_aload_n C0.hx C0.hb dX4_ignore_37 rfl (lv_at hl 1 rfl) ?_
  refine x_get C0 hP 0 (mX_n rfl) rfl rfl 1 (by decide) i_X4 k_0 rfl rfl dX4_ignore_38 ?_
  refine x_VNv (As := [.ref (a 3 0), .ref (a 2 0)]) (rest := []) C0 (mtX1_sortAll l g a (up3 σ 10 0 f (bI b)) (igU_ok ok) okf) hP hS (va_cnB 2 C0.hts gX4_ignore_X1_sortAll_n78 rfl rfl rfl (C0.2.2.1.2 _ m_6) (C0.hts _ k_7) (by decide +kernel) ⟨Nat.le_of_ble_eq_true rfl, Nat.le_of_ble_eq_true rfl⟩) (C0.hts _ k_8) (C0.hts _ k_9) (x_recv C0 hP 4 (mX_n rfl) rfl rfl) rfl hl rfl (Nat.le_of_ble_eq_true rfl) (Nat.le_of_ble_eq_true rfl) (Nat.le_of_ble_eq_true rfl) dX4_ignore_41 (fun H locs hP hS => ?_)
  refine lv_iload_n C0.hx C0.hb dX4_ignore_44 rfl (lv_at hl 0 rfl) ?_
  refine vx_ret ?_
  refine W.widen (k := 1) (n := 6) (Nat.le_of_ble_eq_true rfl) (Nat.le_of_ble_eq_true rfl) ?_
  exact W.zret (v := σ 10 0 f) C0.hx C0.hb hr (by rcases ok.ign hf with z | z <;> rw [z] <;> rfl) (fun t ht hW => ⟨⟨_, saS (up3 σ 10 0 f (bI b)), rfl, ⟨⟨⟨hk_1, trivial⟩, (by rw [ev])⟩, (by unfold igS; rw [ev])⟩, x_end ht hP⟩, hS.F ht⟩) hS.2.2 dX4_ignore_45

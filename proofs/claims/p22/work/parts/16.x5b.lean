set_option maxHeartbeats 4000000 in
set_option maxRecDepth 100000 in
theorem mtX4_standFor (l : Launch) (hfl : l.stackTraces = false) (g : xG) (a : xAd) (σ : xS) (f o : Int32) (ok : okX σ) (okf : okF σ) : xMxi l yX4_standFor wsX4_standFor ({ frames := 7, cells := 2, slots := 12, locals := 102 }) 2 12 NLX g a σ [.ref (a 0 0), .int f, .int o] (chOk (sfC σ f o)) (σ 11 0 (nv f)) (sfS σ f o) (chEx (sfC σ f o)) := by
  intro sz
  refine vx_ofW (cc := cX4_standFor) (maxL := 4) (ret := (some .int)) (by decide) rfl ?_
  intro p e s m args below meth c s₁ B hml hex hv
  obtain ⟨rfl, hsz, ⟨hP, hK, hN, hj⟩, hT, hZ⟩ := hv
  subst hsz
  have hr := B.returns
  have hlocks := B.notSynchronized
  have C0 : xC p s m _ c cX4_standFor 4 wsX4_standFor RX4 NLX g a (xA NLX a s.heap.size) := ⟨⟨B.exec, B.bytes, hml, findClass_of_methodNamed B.named, atoms_spec (ws := wsX4_standFor) B.pre⟩, hK, hN, hj, fun n h => Or.inl ⟨n, h, rfl⟩, fun q h => Or.inr h⟩
  have hS : va_S (xA NLX a s.heap.size) s.heap s.heap [] := va_S.rf
  have hl := lv_entry ([.ref (a 0 0), .int f, .int o]) (n := 4) (Nat.le_of_ble_eq_true rfl)
  rw [lg_entry_eq]
  generalize (lg_sl ([.ref (a 0 0), .int f, .int o]) ++ List.replicate (4 - (lg_sl ([.ref (a 0 0), .int f, .int o])).length) Slot.unset).toArray = ls at hl ⊢
  have hl : lv_has ls 4 [(0, .ref (a 0 0)), (1, .int f), (2, .int o)] := hl
  have k_0 : Cond.fieldLink RX4 19 RX4 (TX4 1).2.1 (TX4 1).2.2.1 ∈ wsX4_standFor := by decide +kernel
  have i_X4 : ∀ w ∈ wsX40, w ∈ wsX4_standFor := by decide +kernel
  have q_2 : Cond.fieldLinkNest RX4 94 RX3 (TX3 1).2.1 (TX3 1).2.2.1 RX4 ∈ xNs := by decide +kernel
  have i_X3 : ∀ w ∈ wsX30, w ∈ wsX4_standFor := by decide +kernel
  have k_4 : Cond.fieldLink RX4 33 RX4 (TX4 3).2.1 (TX4 3).2.2.1 ∈ wsX4_standFor := by decide +kernel
  have k_5 : Cond.fieldLink RX4 26 RX4 (TX4 2).2.1 (TX4 2).2.2.1 ∈ wsX4_standFor := by decide +kernel
  have m_6 : (RX4, 78, yX1_sortAll) ∈ xMs := by decide +kernel
  have k_7 : Cond.initialized yX1_sortAll.cls ∈ wsX4_standFor := by decide +kernel
  have k_8 : Cond.instanceMethod yX1_sortAll ∈ wsX4_standFor := by decide +kernel
  have k_9 : Cond.selects RX1 yX1_sortAll yX1_sortAll ∈ wsX4_standFor := by decide +kernel
  have m_10 : (RX4, 89, yX3_leadsTo) ∈ xMs := by decide +kernel
  have k_11 : Cond.initialized yX3_leadsTo.cls ∈ wsX4_standFor := by decide +kernel
  have k_12 : Cond.instanceMethod yX3_leadsTo ∈ wsX4_standFor := by decide +kernel
  have k_13 : Cond.selects RX3 yX3_leadsTo yX3_leadsTo ∈ wsX4_standFor := by decide +kernel
  have k_14 : Cond.classLink RX4 57 eIS ∈ wsX4_standFor := by decide +kernel
  have k_15 : Cond.initialized eIS ∈ wsX4_standFor := by decide +kernel
  have t_eIS : ∀ w ∈ (vx_atS RX4 61 eIS xNm).filter goodWord, w ∈ wsX4_standFor := fun w h => List.mem_cons_of_mem _ (List.mem_append_left _ (List.mem_append_right _ h))
  refine x_join (α := Bool) 23 (fun b H' locs' ls => (H' = s.heap ∧ locs' = [] ∧ b = (ibX f (nI 30) && ibX o (nI 30))) ∧ lv_has ls 4 [(0, .ref (a 0 0)), (1, .int f), (2, .int o)]) (fun b => [.int (bI b)]) ?_ (fun J23 => ?_)
  · rintro b _ _ ls ⟨⟨rfl, rfl, hb23⟩, hl⟩
    subst hb23
    refine x_SX0 (As := [.int (bI (ibX f (nI 30) && ibX o (nI 30)))]) (rest := []) C0 (mtX4_checkArgument l hfl g a σ (ibX f (nI 30) && ibX o (nI 30))) hP hS hT hZ (va_cwS 1 C0.hts gX4_standFor_X4_checkArgument rfl rfl rfl (by decide +kernel) ⟨Nat.le_of_ble_eq_true rfl, Nat.le_of_ble_eq_true rfl⟩) rfl hl rfl (Nat.le_of_ble_eq_true rfl) (Nat.le_of_ble_eq_true rfl) (Nat.le_of_ble_eq_true rfl) dX4_standFor_23 (fun E ce q H1 locs1 hE hP hS hq hv hcl => x_out hex hlocks hP hS hq hv hcl (Or.inl hE) (Nat.le_of_ble_eq_true rfl) (Nat.le_of_ble_eq_true rfl)) (fun H locs hk_1 hP hS => ?_)
    have hA := hk_1
    simp only [Bool.and_eq_true] at hA
    obtain ⟨f, hf, rfl⟩ := ibX_nat (by decide) hA.1
    obtain ⟨o, ho, rfl⟩ := ibX_nat (by decide) hA.2
    have ev : nv (nI f) = f := nv_nI (by omega)
    have ev2 : nv (nI o) = o := nv_nI (by omega)
    refine x_join (α := Unit) 53 (fun _ H' locs' ls => (H' = H ∧ locs' = locs ∧ (decide (f ≠ o) && decide (ldA σ f 30 o = f)) = false) ∧ lv_has ls 4 [(0, .ref (a 0 0)), (1, .int (nI f)), (2, .int (nI o))]) (fun _ => []) ?_ (fun J53 => ?_)
    · rintro _ _ _ ls ⟨⟨rfl, rfl, hq⟩, hl⟩
      refine lv_aload_n C0.hx C0.hb dX4_standFor_53 rfl (lv_at hl 0 rfl) ?_
      refine x_get C0 hP 0 (mX_n rfl) rfl rfl 1 (by decide) i_X4 k_0 rfl rfl dX4_standFor_54 ?_
      refine x_getN C0 hP 2 (mX_n rfl) rfl rfl 1 (by decide) i_X3 q_2 rfl rfl dX4_standFor_57 ?_
      refine lv_iload_n C0.hx C0.hb dX4_standFor_60 rfl (lv_at hl 1 rfl) ?_
      refine x_iald C0 hP 11 f 30 (mX_n rfl) rfl (by omega) (by decide) dX4_standFor_61 ?_
      refine lv_istore_n (lv' := [(3, .int (σ 11 0 f)), (0, .ref (a 0 0)), (1, .int (nI f)), (2, .int (nI o))]) C0.hx C0.hb dX4_standFor_62 rfl hl (by decide) rfl (fun ls hl => ?_)
      refine lv_aload_n C0.hx C0.hb dX4_standFor_63 rfl (lv_at hl 1 rfl) ?_
      refine x_get C0 hP 0 (mX_n rfl) rfl rfl 1 (by decide) i_X4 k_0 rfl rfl dX4_standFor_64 ?_
      refine x_getN C0 hP 2 (mX_n rfl) rfl rfl 1 (by decide) i_X3 q_2 rfl rfl dX4_standFor_67 ?_
      refine lv_iload_n C0.hx C0.hb dX4_standFor_70 rfl (lv_at hl 2 rfl) ?_
      refine lv_iload_n C0.hx C0.hb dX4_standFor_71 rfl (lv_at hl 3 rfl) ?_
      refine x_iast C0 hP hS 11 f 30 (v := nI o) (mX_n rfl) (fun _ => rfl) (by omega) (by decide) dX4_standFor_72 (fun H locs hP hS => ?_)
      refine lv_aload_n C0.hx C0.hb dX4_standFor_73 rfl (lv_at hl 1 rfl) ?_
      refine x_get C0 hP 0 (mX_n rfl) rfl rfl 3 (by decide) i_X4 k_4 rfl rfl dX4_standFor_74 ?_
      refine lv_aload_n C0.hx C0.hb dX4_standFor_77 rfl (lv_at hl 1 rfl) ?_
      refine x_get C0 hP 0 (mX_n rfl) rfl rfl 2 (by decide) i_X4 k_5 rfl rfl dX4_standFor_78 ?_
      refine lv_aload_n C0.hx C0.hb dX4_standFor_81 rfl (lv_at hl 1 rfl) ?_
      refine x_get C0 hP 0 (mX_n rfl) rfl rfl 1 (by decide) i_X4 k_0 rfl rfl dX4_standFor_82 ?_
      refine x_VNv (As := [.ref (a 3 0), .ref (a 2 0)]) (rest := []) C0 (mtX1_sortAll l g a (up3 σ 11 0 f (nI o)) (sfU_ok ok ho) okf) hP hS (va_cnB 2 C0.hts gX4_standFor_X1_sortAll_n78 rfl rfl rfl (C0.2.2.1.2 _ m_6) (C0.hts _ k_7) (by decide +kernel) ⟨Nat.le_of_ble_eq_true rfl, Nat.le_of_ble_eq_true rfl⟩) (C0.hts _ k_8) (C0.hts _ k_9) (x_recv C0 hP 4 (mX_n rfl) rfl rfl) rfl hl rfl (Nat.le_of_ble_eq_true rfl) (Nat.le_of_ble_eq_true rfl) (Nat.le_of_ble_eq_true rfl) dX4_standFor_85 (fun H locs hP hS => ?_)
      refine lv_iload_n C0.hx C0.hb dX4_standFor_88 rfl (lv_at hl 0 rfl) ?_
      refine vx_ret ?_
      refine W.widen (k := 2) (n := 12) (Nat.le_of_ble_eq_true rfl) (Nat.le_of_ble_eq_true rfl) ?_
      exact W.iret (v := σ 11 0 f) C0.hx C0.hb hr (fun t ht hW => ⟨⟨_, saS (up3 σ 11 0 f (nI o)), rfl, ⟨⟨⟨hk_1, by rw [ev, ev2, hq]; rfl, trivial⟩, (by rw [ev])⟩, (by unfold sfS; rw [ev])⟩, x_end ht hP⟩, hS.F ht⟩) hS.2.2 dX4_standFor_89
    ·
      refine lv_iload_n C0.hx C0.hb dX4_standFor_26 rfl (lv_at hl 1 rfl) ?_
      refine lv_iload_n C0.hx C0.hb dX4_standFor_27 rfl (lv_at hl 2 rfl) ?_
      refine x_icmp_eq (tgt := 53) C0.hx C0.hb (by omega) (by omega) dX4_standFor_28 (by decide) (fun c_2 => ?_) (fun c_2 => ?_)
      ·
        exact J53 () _ _ ls ⟨⟨rfl, rfl, (by simp [c_2])⟩, (lv_sub hl [0, 1, 2] rfl)⟩
      ·
        refine lv_aload_n C0.hx C0.hb dX4_standFor_31 rfl (lv_at hl 0 rfl) ?_
        refine x_get C0 hP 0 (mX_n rfl) rfl rfl 1 (by decide) i_X4 k_0 rfl rfl dX4_standFor_32 ?_
        refine lv_iload_n C0.hx C0.hb dX4_standFor_35 rfl (lv_at hl 2 rfl) ?_
        refine lv_iload_n C0.hx C0.hb dX4_standFor_36 rfl (lv_at hl 1 rfl) ?_
        refine x_VNi (As := [.int (nI o), .int (nI f)]) (rest := []) C0 (mtX3_leadsTo l g a σ o f (by omega) (by omega) ok) hP C0.2.2.2.1 (va_cnB 2 C0.hts gX4_standFor_X3_leadsTo_n89 rfl rfl rfl (C0.2.2.1.2 _ m_10) (C0.hts _ k_11) (by decide +kernel) ⟨Nat.le_of_ble_eq_true rfl, Nat.le_of_ble_eq_true rfl⟩) (C0.hts _ k_12) (C0.hts _ k_13) (x_recv C0 hP 2 (mX_n rfl) rfl rfl) rfl hl rfl (Nat.le_of_ble_eq_true rfl) (Nat.le_of_ble_eq_true rfl) (Nat.le_of_ble_eq_true rfl) dX4_standFor_37 ?_
        refine x_ifeq (tgt := 53) C0.hx C0.hb dX4_standFor_40 (by decide) (fun c_3 => ?_) (fun c_3 => ?_)
        ·
          exact J53 () _ _ ls ⟨⟨rfl, rfl, (by simp [c_3, c_2])⟩, (lv_sub hl [0, 1, 2] rfl)⟩
        ·
          exact x_throw C0 hfl hex hlocks hP hS hT hZ hl (cls := eIS) (is := 92) (ic := 61) (text := "the other function comes to stand for this one") (by decide +kernel) k_14 k_15 (by decide +kernel) t_eIS (tw_eIS).1 (tw_eIS).2 dX4_standFor_43 dX4_standFor_46 dX4_standFor_47 dX4_standFor_49 dX4_standFor_52 (Nat.le_of_ble_eq_true rfl) (Nat.le_of_ble_eq_true rfl) (Nat.le_of_ble_eq_true rfl) (Nat.le_of_ble_eq_true rfl) (Or.inr ⟨hk_1, Or.inl ⟨by rw [ev, ev2]; simp at c_3; simp [c_3, c_2], rfl⟩⟩) (Nat.le_of_ble_eq_true rfl) (Nat.le_of_ble_eq_true rfl)
  ·
    refine lv_iload_n C0.hx C0.hb dX4_standFor_0 rfl (lv_at hl 1 rfl) ?_
    refine lv_bipush (v := nI 30) C0.hx C0.hb dX4_standFor_1 (by decide) ?_
    refine x_Si (As := [.int f, .int (nI 30)]) (rest := []) C0 (mtX4_isBelow l g a σ f (nI 30)) (xP0 _) xDj0 (va_cwS 2 C0.hts gX4_standFor_X4_isBelow rfl rfl rfl (by decide +kernel) ⟨Nat.le_of_ble_eq_true rfl, Nat.le_of_ble_eq_true rfl⟩) rfl hl rfl (Nat.le_of_ble_eq_true rfl) (Nat.le_of_ble_eq_true rfl) (Nat.le_of_ble_eq_true rfl) dX4_standFor_3 ?_
    refine x_ifeq (tgt := 22) C0.hx C0.hb dX4_standFor_6 (by decide) (fun c_4 => ?_) (fun c_4 => ?_)
    ·
      refine lv_iconst (v := nI 0) C0.hx C0.hb dX4_standFor_22 (by decide) ?_
      exact J23 false _ _ ls ⟨⟨rfl, rfl, (by simp [c_4])⟩, (lv_sub hl [0, 1, 2] rfl)⟩
    ·
      refine lv_iload_n C0.hx C0.hb dX4_standFor_9 rfl (lv_at hl 2 rfl) ?_
      refine lv_bipush (v := nI 30) C0.hx C0.hb dX4_standFor_10 (by decide) ?_
      refine x_Si (As := [.int o, .int (nI 30)]) (rest := []) C0 (mtX4_isBelow l g a σ o (nI 30)) (xP0 _) xDj0 (va_cwS 2 C0.hts gX4_standFor_X4_isBelow rfl rfl rfl (by decide +kernel) ⟨Nat.le_of_ble_eq_true rfl, Nat.le_of_ble_eq_true rfl⟩) rfl hl rfl (Nat.le_of_ble_eq_true rfl) (Nat.le_of_ble_eq_true rfl) (Nat.le_of_ble_eq_true rfl) dX4_standFor_12 ?_
      refine x_ifeq (tgt := 22) C0.hx C0.hb dX4_standFor_15 (by decide) (fun c_5 => ?_) (fun c_5 => ?_)
      ·
        refine lv_iconst (v := nI 0) C0.hx C0.hb dX4_standFor_22 (by decide) ?_
        exact J23 false _ _ ls ⟨⟨rfl, rfl, (by simp [c_5, c_4])⟩, (lv_sub hl [0, 1, 2] rfl)⟩
      ·
        refine lv_iconst (v := nI 1) C0.hx C0.hb dX4_standFor_18 (by decide) ?_
        refine lv_goto (tgt := 23) C0.hx C0.hb dX4_standFor_19 (by decide) ?_
        exact J23 true _ _ ls ⟨⟨rfl, rfl, (by simp [c_5, c_4])⟩, (lv_sub hl [0, 1, 2] rfl)⟩

set_option maxHeartbeats 4000000 in
set_option maxRecDepth 100000 in
theorem mtX4_setDepth (l : Launch) (hfl : l.stackTraces = false) (g : xG) (a : xAd) (σ : xS) (d : Int32) (ok : okX σ) (okf : okF σ) : xMxi l yX4_setDepth wsX4_setDepth ({ frames := 7, cells := 1, slots := 6, locals := 102 }) 1 6 NLX g a σ [.ref (a 0 0), .int d] (chOk (sdC d)) (σ 2 0 0) (sdS σ d) (chEx (sdC d)) := by
  intro sz
  refine vx_ofW (cc := cX4_setDepth) (maxL := 3) (ret := (some .int)) (by decide) rfl ?_
  intro p e s m args below meth c s₁ B hml hex hv
  obtain ⟨rfl, hsz, ⟨hP, hK, hN, hj⟩, hT, hZ⟩ := hv
  subst hsz
  have hr := B.returns
  have hlocks := B.notSynchronized
  have C0 : xC p s m _ c cX4_setDepth 3 wsX4_setDepth RX4 NLX g a (xA NLX a s.heap.size) := ⟨⟨B.exec, B.bytes, hml, findClass_of_methodNamed B.named, atoms_spec (ws := wsX4_setDepth) B.pre⟩, hK, hN, hj, fun n h => Or.inl ⟨n, h, rfl⟩, fun q h => Or.inr h⟩
  have hS : va_S (xA NLX a s.heap.size) s.heap s.heap [] := va_S.rf
  have hl := lv_entry ([.ref (a 0 0), .int d]) (n := 3) (Nat.le_of_ble_eq_true rfl)
  rw [lg_entry_eq]
  generalize (lg_sl ([.ref (a 0 0), .int d]) ++ List.replicate (3 - (lg_sl ([.ref (a 0 0), .int d])).length) Slot.unset).toArray = ls at hl ⊢
  have hl : lv_has ls 3 [(0, .ref (a 0 0)), (1, .int d)] := hl
  have k_0 : Cond.fieldLink RX4 19 RX4 (TX4 1).2.1 (TX4 1).2.2.1 ∈ wsX4_setDepth := by decide +kernel
  have i_X4 : ∀ w ∈ wsX40, w ∈ wsX4_setDepth := by decide +kernel
  have q_2 : Cond.fieldLinkNest RX4 97 RX3 (TX3 2).2.1 (TX3 2).2.2.1 RX4 ∈ xNs := by decide +kernel
  have i_X3 : ∀ w ∈ wsX30, w ∈ wsX4_setDepth := by decide +kernel
  have k_4 : Cond.fieldLink RX4 33 RX4 (TX4 3).2.1 (TX4 3).2.2.1 ∈ wsX4_setDepth := by decide +kernel
  have k_5 : Cond.fieldLink RX4 26 RX4 (TX4 2).2.1 (TX4 2).2.2.1 ∈ wsX4_setDepth := by decide +kernel
  have m_6 : (RX4, 78, yX1_sortAll) ∈ xMs := by decide +kernel
  have k_7 : Cond.initialized yX1_sortAll.cls ∈ wsX4_setDepth := by decide +kernel
  have k_8 : Cond.instanceMethod yX1_sortAll ∈ wsX4_setDepth := by decide +kernel
  have k_9 : Cond.selects RX1 yX1_sortAll yX1_sortAll ∈ wsX4_setDepth := by decide +kernel
  refine x_join (α := Bool) 15 (fun b H' locs' ls => (H' = s.heap ∧ locs' = [] ∧ b = (decide (¬ d < nI 1) && decide (¬ nI 4 < d))) ∧ lv_has ls 3 [(0, .ref (a 0 0)), (1, .int d)]) (fun b => [.int (bI b)]) ?_ (fun J15 => ?_)
  · rintro b _ _ ls ⟨⟨rfl, rfl, hb15⟩, hl⟩
    subst hb15
    refine x_SX0 (As := [.int (bI (decide (¬ d < nI 1) && decide (¬ nI 4 < d)))]) (rest := []) C0 (mtX4_checkArgument l hfl g a σ (decide (¬ d < nI 1) && decide (¬ nI 4 < d))) hP hS hT hZ (va_cwS 1 C0.hts gX4_setDepth_X4_checkArgument rfl rfl rfl (by decide +kernel) ⟨Nat.le_of_ble_eq_true rfl, Nat.le_of_ble_eq_true rfl⟩) rfl hl rfl (Nat.le_of_ble_eq_true rfl) (Nat.le_of_ble_eq_true rfl) (Nat.le_of_ble_eq_true rfl) dX4_setDepth_15 (fun E ce q H1 locs1 hE hP hS hq hv hcl => x_out hex hlocks hP hS hq hv hcl (Or.inl hE) (Nat.le_of_ble_eq_true rfl) (Nat.le_of_ble_eq_true rfl)) (fun H locs hk_1 hP hS => ?_)
    obtain ⟨d, hd, rfl⟩ := sd_nat hk_1
    refine lv_aload_n C0.hx C0.hb dX4_setDepth_18 rfl (lv_at hl 0 rfl) ?_
    refine x_get C0 hP 0 (mX_n rfl) rfl rfl 1 (by decide) i_X4 k_0 rfl rfl dX4_setDepth_19 ?_
    refine x_getN C0 hP 2 (mX_n rfl) rfl rfl 2 (by decide) i_X3 q_2 rfl rfl dX4_setDepth_22 ?_
    refine lv_istore_n (lv' := [(2, .int (σ 2 0 0)), (0, .ref (a 0 0)), (1, .int (nI d))]) C0.hx C0.hb dX4_setDepth_25 rfl hl (by decide) rfl (fun ls hl => ?_)
    refine lv_aload_n C0.hx C0.hb dX4_setDepth_26 rfl (lv_at hl 1 rfl) ?_
    refine x_get C0 hP 0 (mX_n rfl) rfl rfl 1 (by decide) i_X4 k_0 rfl rfl dX4_setDepth_27 ?_
    refine lv_iload_n C0.hx C0.hb dX4_setDepth_30 rfl (lv_at hl 2 rfl) ?_
    refine x_putN C0 hP hS 2 (mX_n rfl) rfl rfl tyX3 tyX3_ok nmX3 2 (by decide) i_X3 q_2 rfl rfl 0 rfl (Nat.le_of_ble_eq_true rfl) rfl dX4_setDepth_31 (fun H locs hP hS => ?_)
    refine lv_aload_n C0.hx C0.hb dX4_setDepth_34 rfl (lv_at hl 1 rfl) ?_
    refine x_get C0 hP 0 (mX_n rfl) rfl rfl 3 (by decide) i_X4 k_4 rfl rfl dX4_setDepth_35 ?_
    refine lv_aload_n C0.hx C0.hb dX4_setDepth_38 rfl (lv_at hl 1 rfl) ?_
    refine x_get C0 hP 0 (mX_n rfl) rfl rfl 2 (by decide) i_X4 k_5 rfl rfl dX4_setDepth_39 ?_
    refine lv_aload_n C0.hx C0.hb dX4_setDepth_42 rfl (lv_at hl 1 rfl) ?_
    refine x_get C0 hP 0 (mX_n rfl) rfl rfl 1 (by decide) i_X4 k_0 rfl rfl dX4_setDepth_43 ?_
    refine x_VNv (As := [.ref (a 3 0), .ref (a 2 0)]) (rest := []) C0 (mtX1_sortAll l g a (up3 σ 2 0 0 (nI d)) (sdU_ok ok hd.2) okf) hP hS (va_cnB 2 C0.hts gX4_setDepth_X1_sortAll_n78 rfl rfl rfl (C0.2.2.1.2 _ m_6) (C0.hts _ k_7) (by decide +kernel) ⟨Nat.le_of_ble_eq_true rfl, Nat.le_of_ble_eq_true rfl⟩) (C0.hts _ k_8) (C0.hts _ k_9) (x_recv C0 hP 4 (mX_n rfl) rfl rfl) rfl hl rfl (Nat.le_of_ble_eq_true rfl) (Nat.le_of_ble_eq_true rfl) (Nat.le_of_ble_eq_true rfl) dX4_setDepth_46 (fun H locs hP hS => ?_)
    refine lv_iload_n C0.hx C0.hb dX4_setDepth_49 rfl (lv_at hl 0 rfl) ?_
    refine vx_ret ?_
    refine W.widen (k := 1) (n := 6) (Nat.le_of_ble_eq_true rfl) (Nat.le_of_ble_eq_true rfl) ?_
    exact W.iret (v := σ 2 0 0) C0.hx C0.hb hr (fun t ht hW => ⟨⟨_, saS (up3 σ 2 0 0 (nI d)), rfl, ⟨⟨⟨hk_1, trivial⟩, rfl⟩, rfl⟩, x_end ht hP⟩, hS.F ht⟩) hS.2.2 dX4_setDepth_50
  ·
    refine lv_iload_n C0.hx C0.hb dX4_setDepth_0 rfl (lv_at hl 1 rfl) ?_
    refine lv_iconst (v := nI 1) C0.hx C0.hb dX4_setDepth_1 (by decide) ?_
    refine lv_icmp_lt (tgt := 14) C0.hx C0.hb dX4_setDepth_2 (by decide) (fun c_2 => ?_) (fun c_2 => ?_)
    ·
      refine lv_iconst (v := nI 0) C0.hx C0.hb dX4_setDepth_14 (by decide) ?_
      exact J15 false _ _ ls ⟨⟨rfl, rfl, (by simp [c_2])⟩, (lv_sub hl [0, 1] rfl)⟩
    ·
      refine lv_iload_n C0.hx C0.hb dX4_setDepth_5 rfl (lv_at hl 1 rfl) ?_
      refine lv_iconst (v := nI 4) C0.hx C0.hb dX4_setDepth_6 (by decide) ?_
      refine lv_icmp_gt (tgt := 14) C0.hx C0.hb dX4_setDepth_7 (by decide) (fun c_3 => ?_) (fun c_3 => ?_)
      ·
        refine lv_iconst (v := nI 0) C0.hx C0.hb dX4_setDepth_14 (by decide) ?_
        exact J15 false _ _ ls ⟨⟨rfl, rfl, (by simp [c_3, c_2])⟩, (lv_sub hl [0, 1] rfl)⟩
      ·
        refine lv_iconst (v := nI 1) C0.hx C0.hb dX4_setDepth_10 (by decide) ?_
        refine lv_goto (tgt := 15) C0.hx C0.hb dX4_setDepth_11 (by decide) ?_
        exact J15 true _ _ ls ⟨⟨rfl, rfl, (by simp [c_3, c_2])⟩, (lv_sub hl [0, 1] rfl)⟩

set_option maxHeartbeats 4000000 in
set_option maxRecDepth 100000 in
theorem mtX4_report (l : Launch) (hfl : l.stackTraces = false) (g : xG) (a : xAd) (σ : xS) (v u x y z w : Int32) (ok : okX σ) (okf : okF σ) : xMxi l yX4_report wsX4_report ({ frames := 7, cells := 3, slots := 18, locals := 102 }) 3 18 NLX g a σ [.ref (a 0 0), .int v, .int u, .int x, .int y, .int z, .int w] (chOk (rpC σ v u x y z w)) (nI (nv (σ 3 0 0))) (rpS σ v u x y z w) (chEx (rpC σ v u x y z w)) := by
  intro sz
  refine vx_ofW (cc := cX4_report) (maxL := 8) (ret := (some .int)) (by decide) rfl ?_
  intro p e s m args below meth c s₁ B hml hex hv
  obtain ⟨rfl, hsz, ⟨hP, hK, hN, hj⟩, hT, hZ⟩ := hv
  subst hsz
  have hr := B.returns
  have hlocks := B.notSynchronized
  have C0 : xC p s m _ c cX4_report 8 wsX4_report RX4 NLX g a (xA NLX a s.heap.size) := ⟨⟨B.exec, B.bytes, hml, findClass_of_methodNamed B.named, atoms_spec (ws := wsX4_report) B.pre⟩, hK, hN, hj, fun n h => Or.inl ⟨n, h, rfl⟩, fun q h => Or.inr h⟩
  have hS : va_S (xA NLX a s.heap.size) s.heap s.heap [] := va_S.rf
  have hl := lv_entry ([.ref (a 0 0), .int v, .int u, .int x, .int y, .int z, .int w]) (n := 8) (Nat.le_of_ble_eq_true rfl)
  rw [lg_entry_eq]
  generalize (lg_sl ([.ref (a 0 0), .int v, .int u, .int x, .int y, .int z, .int w]) ++ List.replicate (8 - (lg_sl ([.ref (a 0 0), .int v, .int u, .int x, .int y, .int z, .int w])).length) Slot.unset).toArray = ls at hl ⊢
  have hl : lv_has ls 8 [(0, .ref (a 0 0)), (1, .int v), (2, .int u), (3, .int x), (4, .int y), (5, .int z), (6, .int w)] := hl
  have k_0 : Cond.fieldLink RX4 26 RX4 (TX4 2).2.1 (TX4 2).2.2.1 ∈ wsX4_report := by decide +kernel
  have i_X4 : ∀ w ∈ wsX40, w ∈ wsX4_report := by decide +kernel
  have q_2 : Cond.fieldLinkNest RX4 103 RX2 (TX2 0).2.1 (TX2 0).2.2.1 RX4 ∈ xNs := by decide +kernel
  have i_X2 : ∀ w ∈ wsX20, w ∈ wsX4_report := by decide +kernel
  have m_4 : (RX4, 108, yX2_add) ∈ xMs := by decide +kernel
  have k_5 : Cond.initialized yX2_add.cls ∈ wsX4_report := by decide +kernel
  have k_6 : Cond.instanceMethod yX2_add ∈ wsX4_report := by decide +kernel
  have k_7 : Cond.selects RX2 yX2_add yX2_add ∈ wsX4_report := by decide +kernel
  have m_8 : (RX4, 111, yX2_setStack) ∈ xMs := by decide +kernel
  have k_9 : Cond.initialized yX2_setStack.cls ∈ wsX4_report := by decide +kernel
  have k_10 : Cond.instanceMethod yX2_setStack ∈ wsX4_report := by decide +kernel
  have k_11 : Cond.selects RX2 yX2_setStack yX2_setStack ∈ wsX4_report := by decide +kernel
  have k_12 : Cond.fieldLink RX4 33 RX4 (TX4 3).2.1 (TX4 3).2.2.1 ∈ wsX4_report := by decide +kernel
  have k_13 : Cond.fieldLink RX4 10 RX4 (TX4 0).2.1 (TX4 0).2.2.1 ∈ wsX4_report := by decide +kernel
  have m_14 : (RX4, 115, yX1_readStack) ∈ xMs := by decide +kernel
  have k_15 : Cond.initialized yX1_readStack.cls ∈ wsX4_report := by decide +kernel
  have k_16 : Cond.instanceMethod yX1_readStack ∈ wsX4_report := by decide +kernel
  have k_17 : Cond.selects RX1 yX1_readStack yX1_readStack ∈ wsX4_report := by decide +kernel
  have k_18 : Cond.fieldLink RX4 19 RX4 (TX4 1).2.1 (TX4 1).2.2.1 ∈ wsX4_report := by decide +kernel
  have m_19 : (RX4, 118, yX1_sort) ∈ xMs := by decide +kernel
  have k_20 : Cond.initialized yX1_sort.cls ∈ wsX4_report := by decide +kernel
  have k_21 : Cond.instanceMethod yX1_sort ∈ wsX4_report := by decide +kernel
  have k_22 : Cond.selects RX1 yX1_sort yX1_sort ∈ wsX4_report := by decide +kernel
  have k_23 : Cond.classLink RX4 57 eIS ∈ wsX4_report := by decide +kernel
  have k_24 : Cond.initialized eIS ∈ wsX4_report := by decide +kernel
  have t_eIS : ∀ w ∈ (vx_atS RX4 61 eIS xNm).filter goodWord, w ∈ wsX4_report := fun w h => List.mem_cons_of_mem _ (List.mem_append_left _ (List.mem_append_right _ h))
  refine x_join (α := Bool) 22 (fun b H' locs' ls => (H' = s.heap ∧ locs' = [] ∧ b = (ibX v (nI 4) && ibX u (nI 20))) ∧ lv_has ls 8 [(0, .ref (a 0 0)), (1, .int v), (2, .int u), (3, .int x), (4, .int y), (5, .int z), (6, .int w)]) (fun b => [.int (bI b)]) ?_ (fun J22 => ?_)
  · rintro b _ _ ls ⟨⟨rfl, rfl, hb22⟩, hl⟩
    subst hb22
    refine x_SX0 (As := [.int (bI (ibX v (nI 4) && ibX u (nI 20)))]) (rest := []) C0 (mtX4_checkArgument l hfl g a σ (ibX v (nI 4) && ibX u (nI 20))) hP hS hT hZ (va_cwS 1 C0.hts gX4_report_X4_checkArgument rfl rfl rfl (by decide +kernel) ⟨Nat.le_of_ble_eq_true rfl, Nat.le_of_ble_eq_true rfl⟩) rfl hl rfl (Nat.le_of_ble_eq_true rfl) (Nat.le_of_ble_eq_true rfl) (Nat.le_of_ble_eq_true rfl) dX4_report_22 (fun E ce q H1 locs1 hE hP hS hq hv hcl => x_out hex hlocks hP hS hq hv hcl (Or.inl hE) (Nat.le_of_ble_eq_true rfl) (Nat.le_of_ble_eq_true rfl)) (fun H locs hk_1 hP hS => ?_)
    have hA := hk_1
    simp only [Bool.and_eq_true] at hA
    obtain ⟨v, hv, rfl⟩ := ibX_nat (by decide) hA.1
    obtain ⟨u, hu, rfl⟩ := ibX_nat (by decide) hA.2
    have ev : nv (nI v) = v := nv_nI (by omega)
    have eu : nv (nI u) = u := nv_nI (by omega)
    refine x_join (α := Bool) 69 (fun b H' locs' ls => (H' = H ∧ locs' = locs ∧ b = (ibX x (nI 10000) && (mfX x y && (mfX y z && mfX z w)))) ∧ lv_has ls 8 [(0, .ref (a 0 0)), (1, .int (nI v)), (2, .int (nI u)), (3, .int x), (4, .int y), (5, .int z), (6, .int w)]) (fun b => [.int (bI b)]) ?_ (fun J69 => ?_)
    · rintro b _ _ ls ⟨⟨rfl, rfl, hb69⟩, hl⟩
      subst hb69
      refine x_SX0 (As := [.int (bI (ibX x (nI 10000) && (mfX x y && (mfX y z && mfX z w))))]) (rest := []) C0 (mtX4_checkArgument l hfl g a σ (ibX x (nI 10000) && (mfX x y && (mfX y z && mfX z w)))) hP hS hT hZ (va_cwS 1 C0.hts gX4_report_X4_checkArgument rfl rfl rfl (by decide +kernel) ⟨Nat.le_of_ble_eq_true rfl, Nat.le_of_ble_eq_true rfl⟩) rfl hl rfl (Nat.le_of_ble_eq_true rfl) (Nat.le_of_ble_eq_true rfl) (Nat.le_of_ble_eq_true rfl) dX4_report_69 (fun E ce q H1 locs1 hE hP hS hq hv hcl => x_out hex hlocks hP hS hq hv hcl (Or.inr ⟨hk_1, Or.inl hE⟩) (Nat.le_of_ble_eq_true rfl) (Nat.le_of_ble_eq_true rfl)) (fun H locs hk_2 hP hS => ?_)
      refine lv_aload_n C0.hx C0.hb dX4_report_72 rfl (lv_at hl 0 rfl) ?_
      refine x_get C0 hP 0 (mX_n rfl) rfl rfl 2 (by decide) i_X4 k_0 rfl rfl dX4_report_73 ?_
      refine x_getN C0 hP 3 (mX_n rfl) rfl rfl 0 (by decide) i_X2 q_2 rfl rfl dX4_report_76 ?_
      obtain ⟨e_3, b_4⟩ := (ok.n : inR (σ 3 0 0) _)
      refine x_top e_3 ?_
      refine lv_bipush (v := nI 60) C0.hx C0.hb dX4_report_79 (by decide) ?_
      refine x_icmp_lt (tgt := 94) C0.hx C0.hb (by omega) (by omega) dX4_report_81 (by decide) (fun c_5 => ?_) (fun c_5 => ?_)
      ·
        refine lv_aload_n C0.hx C0.hb dX4_report_94 rfl (lv_at hl 0 rfl) ?_
        refine x_get C0 hP 0 (mX_n rfl) rfl rfl 2 (by decide) i_X4 k_0 rfl rfl dX4_report_95 ?_
        refine lv_iload_n C0.hx C0.hb dX4_report_98 rfl (lv_at hl 1 rfl) ?_
        refine lv_iload_n C0.hx C0.hb dX4_report_99 rfl (lv_at hl 2 rfl) ?_
        refine x_VNw (As := [.int (nI v), .int (nI u)]) (rest := []) C0 (mtX2_add l g a σ v u ok (by omega)) hP hS (va_cnB 2 C0.hts gX4_report_X2_add_n108 rfl rfl rfl (C0.2.2.1.2 _ m_4) (C0.hts _ k_5) (by decide +kernel) ⟨Nat.le_of_ble_eq_true rfl, Nat.le_of_ble_eq_true rfl⟩) (C0.hts _ k_6) (C0.hts _ k_7) (x_recv C0 hP 3 (mX_n rfl) rfl rfl) rfl hl rfl (Nat.le_of_ble_eq_true rfl) (Nat.le_of_ble_eq_true rfl) (Nat.le_of_ble_eq_true rfl) dX4_report_100 (fun H locs hP hS => ?_)
        refine lv_istore (lv' := [(7, .int (nI (nv (σ 3 0 0)))), (0, .ref (a 0 0)), (1, .int (nI v)), (2, .int (nI u)), (3, .int x), (4, .int y), (5, .int z), (6, .int w)]) C0.hx C0.hb dX4_report_103 hl (by decide) rfl (fun ls hl => ?_)
        refine lv_aload_n C0.hx C0.hb dX4_report_105 rfl (lv_at hl 1 rfl) ?_
        refine x_get C0 hP 0 (mX_n rfl) rfl rfl 2 (by decide) i_X4 k_0 rfl rfl dX4_report_106 ?_
        refine lv_iload C0.hx C0.hb dX4_report_109 (lv_at hl 0 rfl) ?_
        refine lv_iload_n C0.hx C0.hb dX4_report_111 rfl (lv_at hl 4 rfl) ?_
        refine lv_iload C0.hx C0.hb dX4_report_112 (lv_at hl 5 rfl) ?_
        refine lv_iload C0.hx C0.hb dX4_report_114 (lv_at hl 6 rfl) ?_
        refine lv_iload C0.hx C0.hb dX4_report_116 (lv_at hl 7 rfl) ?_
        refine x_VNv (As := [.int (nI (nv (σ 3 0 0))), .int x, .int y, .int z, .int w]) (rest := []) C0 (mtX2_setStack l g a (radS σ (nv (σ 3 0 0)) v u) (nv (σ 3 0 0)) (by omega) x y z w) hP hS (va_cnB 5 C0.hts gX4_report_X2_setStack_n111 rfl rfl rfl (C0.2.2.1.2 _ m_8) (C0.hts _ k_9) (by decide +kernel) ⟨Nat.le_of_ble_eq_true rfl, Nat.le_of_ble_eq_true rfl⟩) (C0.hts _ k_10) (C0.hts _ k_11) (x_recv C0 hP 3 (mX_n rfl) rfl rfl) rfl hl rfl (Nat.le_of_ble_eq_true rfl) (Nat.le_of_ble_eq_true rfl) (Nat.le_of_ble_eq_true rfl) dX4_report_118 (fun H locs hP hS => ?_)
        have ok1 : okX (stkS (radS σ (nv (σ 3 0 0)) v u) (nv (σ 3 0 0)) x y z w) := stkS_ok (radS_ok ok (by omega) hv hu)
        have okf1 : okF (stkS (radS σ (nv (σ 3 0 0)) v u) (nv (σ 3 0 0)) x y z w) := rad_okF okf
        refine lv_aload_n C0.hx C0.hb dX4_report_121 rfl (lv_at hl 1 rfl) ?_
        refine x_get C0 hP 0 (mX_n rfl) rfl rfl 3 (by decide) i_X4 k_12 rfl rfl dX4_report_122 ?_
        refine lv_iload C0.hx C0.hb dX4_report_125 (lv_at hl 0 rfl) ?_
        refine lv_aload_n C0.hx C0.hb dX4_report_127 rfl (lv_at hl 1 rfl) ?_
        refine x_get C0 hP 0 (mX_n rfl) rfl rfl 2 (by decide) i_X4 k_0 rfl rfl dX4_report_128 ?_
        refine lv_aload_n C0.hx C0.hb dX4_report_131 rfl (lv_at hl 1 rfl) ?_
        refine x_get C0 hP 0 (mX_n rfl) rfl rfl 0 (by decide) i_X4 k_13 rfl rfl dX4_report_132 ?_
        refine x_VNv (As := [.int (nI (nv (σ 3 0 0))), .ref (a 3 0), .ref (a 1 0)]) (rest := []) C0 (mtX1_readStack l g a (stkS (radS σ (nv (σ 3 0 0)) v u) (nv (σ 3 0 0)) x y z w) (nv (σ 3 0 0)) (by omega) ok1) hP hS (va_cnB 3 C0.hts gX4_report_X1_readStack_n115 rfl rfl rfl (C0.2.2.1.2 _ m_14) (C0.hts _ k_15) (by decide +kernel) ⟨Nat.le_of_ble_eq_true rfl, Nat.le_of_ble_eq_true rfl⟩) (C0.hts _ k_16) (C0.hts _ k_17) (x_recv C0 hP 4 (mX_n rfl) rfl rfl) rfl hl rfl (Nat.le_of_ble_eq_true rfl) (Nat.le_of_ble_eq_true rfl) (Nat.le_of_ble_eq_true rfl) dX4_report_135 (fun H locs hP hS => ?_)
        refine lv_aload_n C0.hx C0.hb dX4_report_138 rfl (lv_at hl 1 rfl) ?_
        refine x_get C0 hP 0 (mX_n rfl) rfl rfl 3 (by decide) i_X4 k_12 rfl rfl dX4_report_139 ?_
        refine lv_iload C0.hx C0.hb dX4_report_142 (lv_at hl 0 rfl) ?_
        refine lv_aload_n C0.hx C0.hb dX4_report_144 rfl (lv_at hl 1 rfl) ?_
        refine x_get C0 hP 0 (mX_n rfl) rfl rfl 2 (by decide) i_X4 k_0 rfl rfl dX4_report_145 ?_
        refine lv_aload_n C0.hx C0.hb dX4_report_148 rfl (lv_at hl 1 rfl) ?_
        refine x_get C0 hP 0 (mX_n rfl) rfl rfl 1 (by decide) i_X4 k_18 rfl rfl dX4_report_149 ?_
        refine x_VNv (As := [.int (nI (nv (σ 3 0 0))), .ref (a 3 0), .ref (a 2 0)]) (rest := []) C0 (mtX1_sort l g a (rdS (stkS (radS σ (nv (σ 3 0 0)) v u) (nv (σ 3 0 0)) x y z w) (nv (σ 3 0 0))) (nv (σ 3 0 0)) (by omega) (rdL_ok ok1 (p := 4)) (rdL_okF ok1 okf1 (by omega) 4)) hP hS (va_cnB 3 C0.hts gX4_report_X1_sort_n118 rfl rfl rfl (C0.2.2.1.2 _ m_19) (C0.hts _ k_20) (by decide +kernel) ⟨Nat.le_of_ble_eq_true rfl, Nat.le_of_ble_eq_true rfl⟩) (C0.hts _ k_21) (C0.hts _ k_22) (x_recv C0 hP 4 (mX_n rfl) rfl rfl) rfl hl rfl (Nat.le_of_ble_eq_true rfl) (Nat.le_of_ble_eq_true rfl) (Nat.le_of_ble_eq_true rfl) dX4_report_152 (fun H locs hP hS => ?_)
        refine lv_iload C0.hx C0.hb dX4_report_155 (lv_at hl 0 rfl) ?_
        refine vx_ret ?_
        refine W.widen (k := 3) (n := 18) (Nat.le_of_ble_eq_true rfl) (Nat.le_of_ble_eq_true rfl) ?_
        exact W.iret (v := nI (nv (σ 3 0 0))) C0.hx C0.hb hr (fun t ht hW => ⟨⟨_, soS (rdS (stkS (radS σ (nv (σ 3 0 0)) v u) (nv (σ 3 0 0)) x y z w) (nv (σ 3 0 0))) (nv (σ 3 0 0)), rfl, ⟨⟨⟨hk_1, hk_2, by simp; omega, trivial⟩, rfl⟩, (by unfold rpS; rw [ev, eu])⟩, x_end ht hP⟩, hS.F ht⟩) hS.2.2 dX4_report_157
      ·
        exact x_throw C0 hfl hex hlocks hP hS hT hZ hl (cls := eIS) (is := 106) (ic := 61) (text := "there are 60 reports") (by decide +kernel) k_23 k_24 (by decide +kernel) t_eIS (tw_eIS).1 (tw_eIS).2 dX4_report_84 dX4_report_87 dX4_report_88 dX4_report_90 dX4_report_93 (Nat.le_of_ble_eq_true rfl) (Nat.le_of_ble_eq_true rfl) (Nat.le_of_ble_eq_true rfl) (Nat.le_of_ble_eq_true rfl) (Or.inr ⟨hk_1, Or.inr ⟨hk_2, Or.inl ⟨by simp; omega, rfl⟩⟩⟩) (Nat.le_of_ble_eq_true rfl) (Nat.le_of_ble_eq_true rfl)
    ·
      refine lv_iload_n C0.hx C0.hb dX4_report_25 rfl (lv_at hl 3 rfl) ?_
      refine lv_sipush (v := nI 10000) C0.hx C0.hb dX4_report_26 (by decide) ?_
      refine x_Si (As := [.int x, .int (nI 10000)]) (rest := []) C0 (mtX4_isBelow l g a σ x (nI 10000)) (xP0 _) xDj0 (va_cwS 2 C0.hts gX4_report_X4_isBelow rfl rfl rfl (by decide +kernel) ⟨Nat.le_of_ble_eq_true rfl, Nat.le_of_ble_eq_true rfl⟩) rfl hl rfl (Nat.le_of_ble_eq_true rfl) (Nat.le_of_ble_eq_true rfl) (Nat.le_of_ble_eq_true rfl) dX4_report_29 ?_
      refine x_ifeq (tgt := 68) C0.hx C0.hb dX4_report_32 (by decide) (fun c_6 => ?_) (fun c_6 => ?_)
      ·
        refine lv_iconst (v := nI 0) C0.hx C0.hb dX4_report_68 (by decide) ?_
        exact J69 false _ _ ls ⟨⟨rfl, rfl, (by simp [c_6])⟩, (lv_sub hl [0, 1, 2, 3, 4, 5, 6] rfl)⟩
      ·
        refine lv_iload_n C0.hx C0.hb dX4_report_35 rfl (lv_at hl 3 rfl) ?_
        refine lv_iload C0.hx C0.hb dX4_report_36 (lv_at hl 4 rfl) ?_
        refine x_Si (As := [.int x, .int y]) (rest := []) C0 (mtX4_mayFollow l g a σ x y) (xP0 _) xDj0 (va_cwS 2 C0.hts gX4_report_X4_mayFollow rfl rfl rfl (by decide +kernel) ⟨Nat.le_of_ble_eq_true rfl, Nat.le_of_ble_eq_true rfl⟩) rfl hl rfl (Nat.le_of_ble_eq_true rfl) (Nat.le_of_ble_eq_true rfl) (Nat.le_of_ble_eq_true rfl) dX4_report_38 ?_
        refine x_ifeq (tgt := 68) C0.hx C0.hb dX4_report_41 (by decide) (fun c_7 => ?_) (fun c_7 => ?_)
        ·
          refine lv_iconst (v := nI 0) C0.hx C0.hb dX4_report_68 (by decide) ?_
          exact J69 false _ _ ls ⟨⟨rfl, rfl, (by simp [c_7, c_6])⟩, (lv_sub hl [0, 1, 2, 3, 4, 5, 6] rfl)⟩
        ·
          refine lv_iload C0.hx C0.hb dX4_report_44 (lv_at hl 4 rfl) ?_
          refine lv_iload C0.hx C0.hb dX4_report_46 (lv_at hl 5 rfl) ?_
          refine x_Si (As := [.int y, .int z]) (rest := []) C0 (mtX4_mayFollow l g a σ y z) (xP0 _) xDj0 (va_cwS 2 C0.hts gX4_report_X4_mayFollow rfl rfl rfl (by decide +kernel) ⟨Nat.le_of_ble_eq_true rfl, Nat.le_of_ble_eq_true rfl⟩) rfl hl rfl (Nat.le_of_ble_eq_true rfl) (Nat.le_of_ble_eq_true rfl) (Nat.le_of_ble_eq_true rfl) dX4_report_48 ?_
          refine x_ifeq (tgt := 68) C0.hx C0.hb dX4_report_51 (by decide) (fun c_8 => ?_) (fun c_8 => ?_)
          ·
            refine lv_iconst (v := nI 0) C0.hx C0.hb dX4_report_68 (by decide) ?_
            exact J69 false _ _ ls ⟨⟨rfl, rfl, (by simp [c_8, c_7, c_6])⟩, (lv_sub hl [0, 1, 2, 3, 4, 5, 6] rfl)⟩
          ·
            refine lv_iload C0.hx C0.hb dX4_report_54 (lv_at hl 5 rfl) ?_
            refine lv_iload C0.hx C0.hb dX4_report_56 (lv_at hl 6 rfl) ?_
            refine x_Si (As := [.int z, .int w]) (rest := []) C0 (mtX4_mayFollow l g a σ z w) (xP0 _) xDj0 (va_cwS 2 C0.hts gX4_report_X4_mayFollow rfl rfl rfl (by decide +kernel) ⟨Nat.le_of_ble_eq_true rfl, Nat.le_of_ble_eq_true rfl⟩) rfl hl rfl (Nat.le_of_ble_eq_true rfl) (Nat.le_of_ble_eq_true rfl) (Nat.le_of_ble_eq_true rfl) dX4_report_58 ?_
            refine x_ifeq (tgt := 68) C0.hx C0.hb dX4_report_61 (by decide) (fun c_9 => ?_) (fun c_9 => ?_)
            ·
              refine lv_iconst (v := nI 0) C0.hx C0.hb dX4_report_68 (by decide) ?_
              exact J69 false _ _ ls ⟨⟨rfl, rfl, (by simp [c_9, c_8, c_7, c_6])⟩, (lv_sub hl [0, 1, 2, 3, 4, 5, 6] rfl)⟩
            ·
              refine lv_iconst (v := nI 1) C0.hx C0.hb dX4_report_64 (by decide) ?_
              refine lv_goto (tgt := 69) C0.hx C0.hb dX4_report_65 (by decide) ?_
              exact J69 true _ _ ls ⟨⟨rfl, rfl, (by simp [c_9, c_8, c_7, c_6])⟩, (lv_sub hl [0, 1, 2, 3, 4, 5, 6] rfl)⟩
  ·
    refine lv_iload_n C0.hx C0.hb dX4_report_0 rfl (lv_at hl 1 rfl) ?_
    refine lv_iconst (v := nI 4) C0.hx C0.hb dX4_report_1 (by decide) ?_
    refine x_Si (As := [.int v, .int (nI 4)]) (rest := []) C0 (mtX4_isBelow l g a σ v (nI 4)) (xP0 _) xDj0 (va_cwS 2 C0.hts gX4_report_X4_isBelow rfl rfl rfl (by decide +kernel) ⟨Nat.le_of_ble_eq_true rfl, Nat.le_of_ble_eq_true rfl⟩) rfl hl rfl (Nat.le_of_ble_eq_true rfl) (Nat.le_of_ble_eq_true rfl) (Nat.le_of_ble_eq_true rfl) dX4_report_2 ?_
    refine x_ifeq (tgt := 21) C0.hx C0.hb dX4_report_5 (by decide) (fun c_10 => ?_) (fun c_10 => ?_)
    ·
      refine lv_iconst (v := nI 0) C0.hx C0.hb dX4_report_21 (by decide) ?_
      exact J22 false _ _ ls ⟨⟨rfl, rfl, (by simp [c_10])⟩, (lv_sub hl [0, 1, 2, 3, 4, 5, 6] rfl)⟩
    ·
      refine lv_iload_n C0.hx C0.hb dX4_report_8 rfl (lv_at hl 2 rfl) ?_
      refine lv_bipush (v := nI 20) C0.hx C0.hb dX4_report_9 (by decide) ?_
      refine x_Si (As := [.int u, .int (nI 20)]) (rest := []) C0 (mtX4_isBelow l g a σ u (nI 20)) (xP0 _) xDj0 (va_cwS 2 C0.hts gX4_report_X4_isBelow rfl rfl rfl (by decide +kernel) ⟨Nat.le_of_ble_eq_true rfl, Nat.le_of_ble_eq_true rfl⟩) rfl hl rfl (Nat.le_of_ble_eq_true rfl) (Nat.le_of_ble_eq_true rfl) (Nat.le_of_ble_eq_true rfl) dX4_report_11 ?_
      refine x_ifeq (tgt := 21) C0.hx C0.hb dX4_report_14 (by decide) (fun c_11 => ?_) (fun c_11 => ?_)
      ·
        refine lv_iconst (v := nI 0) C0.hx C0.hb dX4_report_21 (by decide) ?_
        exact J22 false _ _ ls ⟨⟨rfl, rfl, (by simp [c_11, c_10])⟩, (lv_sub hl [0, 1, 2, 3, 4, 5, 6] rfl)⟩
      ·
        refine lv_iconst (v := nI 1) C0.hx C0.hb dX4_report_17 (by decide) ?_
        refine lv_goto (tgt := 22) C0.hx C0.hb dX4_report_18 (by decide) ?_
        exact J22 true _ _ ls ⟨⟨rfl, rfl, (by simp [c_11, c_10])⟩, (lv_sub hl [0, 1, 2, 3, 4, 5, 6] rfl)⟩

set_option maxHeartbeats 4000000 in
set_option maxRecDepth 100000 in
theorem mtX4_reports (l : Launch) (g : xG) (a : xAd) (σ : xS) (ok : okX σ) : xMi l yX4_reports wsX4_reports ({ frames := 0, cells := 0, slots := 0, locals := 0 }) NLX g a σ [.ref (a 0 0)] (σ 3 0 0) := by
  unfold xMi
  refine Met.ofW (cc := cX4_reports) (maxL := 1) (ret := (some .int)) (by decide) rfl ?_
  intro p e s m args below meth c s₁ B hml hv
  obtain ⟨rfl, hP, hK, hN, hj⟩ := hv
  have hr := B.returns
  have hlocks := B.notSynchronized
  have C0 : xC p s m _ c cX4_reports 1 wsX4_reports RX4 NLX g a (xA NLX a s.heap.size) := ⟨⟨B.exec, B.bytes, hml, findClass_of_methodNamed B.named, atoms_spec (ws := wsX4_reports) B.pre⟩, hK, hN, hj, fun n h => Or.inl ⟨n, h, rfl⟩, fun q h => Or.inr h⟩
  have hS : va_S (xA NLX a s.heap.size) s.heap s.heap [] := va_S.rf
  have hl := lv_entry ([.ref (a 0 0)]) (n := 1) (Nat.le_of_ble_eq_true rfl)
  rw [lg_entry_eq]
  generalize (lg_sl ([.ref (a 0 0)]) ++ List.replicate (1 - (lg_sl ([.ref (a 0 0)])).length) Slot.unset).toArray = ls at hl ⊢
  have hl : lv_has ls 1 [(0, .ref (a 0 0))] := hl
  have k_0 : Cond.fieldLink RX4 26 RX4 (TX4 2).2.1 (TX4 2).2.2.1 ∈ wsX4_reports := by decide +kernel
  have i_X4 : ∀ w ∈ wsX40, w ∈ wsX4_reports := by decide +kernel
  have q_2 : Cond.fieldLinkNest RX4 103 RX2 (TX2 0).2.1 (TX2 0).2.2.1 RX4 ∈ xNs := by decide +kernel
  have i_X2 : ∀ w ∈ wsX20, w ∈ wsX4_reports := by decide +kernel
  refine lv_aload_n C0.hx C0.hb dX4_reports_0 rfl (lv_at hl 0 rfl) ?_
  refine x_get C0 hP 0 (mX_n rfl) rfl rfl 2 (by decide) i_X4 k_0 rfl rfl dX4_reports_1 ?_
  refine x_getN C0 hP 3 (mX_n rfl) rfl rfl 0 (by decide) i_X2 q_2 rfl rfl dX4_reports_4 ?_
  exact W.iret (v := σ 3 0 0) C0.hx C0.hb hr (fun t ht hW => ⟨_, rfl, rfl, ht⟩) (fun q h => nomatch h) dX4_reports_7

set_option maxHeartbeats 4000000 in
set_option maxRecDepth 100000 in
theorem mtX4_frame (l : Launch) (hfl : l.stackTraces = false) (g : xG) (a : xAd) (σ : xS) (r q : Int32) (ok : okX σ) : xMxi l yX4_frame wsX4_frame ({ frames := 7, cells := 2, slots := 12, locals := 103 }) 2 12 NLX g a σ [.ref (a 0 0), .int r, .int q] (chOk (frC σ r q)) (σ 24 (nv r) (nv q)) σ (chEx (frC σ r q)) := by
  intro sz
  refine vx_ofW (cc := cX4_frame) (maxL := 3) (ret := (some .int)) (by decide) rfl ?_
  intro p e s m args below meth c s₁ B hml hex hv
  obtain ⟨rfl, hsz, ⟨hP, hK, hN, hj⟩, hT, hZ⟩ := hv
  subst hsz
  have hr := B.returns
  have hlocks := B.notSynchronized
  have C0 : xC p s m _ c cX4_frame 3 wsX4_frame RX4 NLX g a (xA NLX a s.heap.size) := ⟨⟨B.exec, B.bytes, hml, findClass_of_methodNamed B.named, atoms_spec (ws := wsX4_frame) B.pre⟩, hK, hN, hj, fun n h => Or.inl ⟨n, h, rfl⟩, fun q h => Or.inr h⟩
  have hS : va_S (xA NLX a s.heap.size) s.heap s.heap [] := va_S.rf
  have hl := lv_entry ([.ref (a 0 0), .int r, .int q]) (n := 3) (Nat.le_of_ble_eq_true rfl)
  rw [lg_entry_eq]
  generalize (lg_sl ([.ref (a 0 0), .int r, .int q]) ++ List.replicate (3 - (lg_sl ([.ref (a 0 0), .int r, .int q])).length) Slot.unset).toArray = ls at hl ⊢
  have hl : lv_has ls 3 [(0, .ref (a 0 0)), (1, .int r), (2, .int q)] := hl
  have k_0 : Cond.fieldLink RX4 33 RX4 (TX4 3).2.1 (TX4 3).2.2.1 ∈ wsX4_frame := by decide +kernel
  have i_X4 : ∀ w ∈ wsX40, w ∈ wsX4_frame := by decide +kernel
  have q_2 : Cond.fieldLinkNest RX4 126 RX1 (TX1 0).2.1 (TX1 0).2.2.1 RX4 ∈ xNs := by decide +kernel
  have i_X1 : ∀ w ∈ wsX10, w ∈ wsX4_frame := by decide +kernel
  refine lv_aload_n C0.hx C0.hb dX4_frame_0 rfl (lv_at hl 0 rfl) ?_
  refine lv_iload_n C0.hx C0.hb dX4_frame_1 rfl (lv_at hl 1 rfl) ?_
  refine x_VXv (As := [.int r]) (rest := []) C0 (mtX4_checkReport l hfl g a σ r ok) hP hS hT hZ (cwV 1 C0.hts gX4_frame_X4_checkReport rfl rfl rfl (by decide +kernel) ⟨Nat.le_of_ble_eq_true rfl, Nat.le_of_ble_eq_true rfl⟩) (x_recv C0 hP 0 (mX_n rfl) rfl rfl) rfl hl rfl (Nat.le_of_ble_eq_true rfl) (Nat.le_of_ble_eq_true rfl) (Nat.le_of_ble_eq_true rfl) dX4_frame_2 (fun E ce q H1 locs1 hE hP hS hq hv hcl => x_out hex hlocks hP hS hq hv hcl (Or.inl hE) (Nat.le_of_ble_eq_true rfl) (Nat.le_of_ble_eq_true rfl)) (fun H locs hk_1 hP hS => ?_)
  obtain ⟨r, hr0, rfl⟩ := crX_nat ok hk_1
  have er : nv (nI r) = r := nv_nI (by omega)
  refine lv_iload_n C0.hx C0.hb dX4_frame_5 rfl (lv_at hl 2 rfl) ?_
  refine lv_iconst (v := nI 4) C0.hx C0.hb dX4_frame_6 (by decide) ?_
  refine x_Si (As := [.int q, .int (nI 4)]) (rest := []) C0 (mtX4_isBelow l g a σ q (nI 4)) (xP0 _) xDj0 (va_cwS 2 C0.hts gX4_frame_X4_isBelow rfl rfl rfl (by decide +kernel) ⟨Nat.le_of_ble_eq_true rfl, Nat.le_of_ble_eq_true rfl⟩) rfl hl rfl (Nat.le_of_ble_eq_true rfl) (Nat.le_of_ble_eq_true rfl) (Nat.le_of_ble_eq_true rfl) dX4_frame_7 ?_
  refine x_SX0 (As := [.int (bI (ibX q (nI 4)))]) (rest := []) C0 (mtX4_checkArgument l hfl g a σ (ibX q (nI 4))) hP hS hT hZ (va_cwS 1 C0.hts gX4_frame_X4_checkArgument rfl rfl rfl (by decide +kernel) ⟨Nat.le_of_ble_eq_true rfl, Nat.le_of_ble_eq_true rfl⟩) rfl hl rfl (Nat.le_of_ble_eq_true rfl) (Nat.le_of_ble_eq_true rfl) (Nat.le_of_ble_eq_true rfl) dX4_frame_10 (fun E ce q H1 locs1 hE hP hS hq hv hcl => x_out hex hlocks hP hS hq hv hcl (Or.inr ⟨hk_1, Or.inl hE⟩) (Nat.le_of_ble_eq_true rfl) (Nat.le_of_ble_eq_true rfl)) (fun H locs hk_2 hP hS => ?_)
  obtain ⟨q, hq, rfl⟩ := ibX_nat (by decide) hk_2
  have eq : nv (nI q) = q := nv_nI (by omega)
  refine lv_aload_n C0.hx C0.hb dX4_frame_13 rfl (lv_at hl 0 rfl) ?_
  refine x_get C0 hP 0 (mX_n rfl) rfl rfl 3 (by decide) i_X4 k_0 rfl rfl dX4_frame_14 ?_
  refine x_getN C0 hP 4 (mX_n rfl) rfl rfl 0 (by decide) i_X1 q_2 rfl rfl dX4_frame_17 ?_
  refine lv_iload_n C0.hx C0.hb dX4_frame_20 rfl (lv_at hl 1 rfl) ?_
  refine x_aald C0 hP 16 r 60 24 (mX_n rfl) rfl (by omega) (by decide) dX4_frame_21 ?_
  refine lv_iload_n C0.hx C0.hb dX4_frame_22 rfl (lv_at hl 2 rfl) ?_
  refine x_iald C0 hP 24 q 4 (mX24 (by omega)) rfl (by omega) (by decide) dX4_frame_23 ?_
  refine vx_ret ?_
  refine W.widen (k := 2) (n := 12) (Nat.le_of_ble_eq_true rfl) (Nat.le_of_ble_eq_true rfl) ?_
  exact W.iret (v := σ 24 r q) C0.hx C0.hb hr (fun t ht hW => ⟨⟨_, σ, rfl, ⟨⟨⟨hk_1, hk_2, trivial⟩, (by rw [er, eq])⟩, rfl⟩, x_end ht hP⟩, hS.F ht⟩) hS.2.2 dX4_frame_24

set_option maxHeartbeats 4000000 in
set_option maxRecDepth 100000 in
theorem mtX4_matters (l : Launch) (hfl : l.stackTraces = false) (g : xG) (a : xAd) (σ : xS) (r q : Int32) (ok : okX σ) : xMxi l yX4_matters wsX4_matters ({ frames := 7, cells := 2, slots := 12, locals := 103 }) 2 12 NLX g a σ [.ref (a 0 0), .int r, .int q] (chOk (frC σ r q)) (σ 25 (nv r) (nv q)) σ (chEx (frC σ r q)) := by
  intro sz
  refine vx_ofW (cc := cX4_matters) (maxL := 3) (ret := (some .int)) (by decide) rfl ?_
  intro p e s m args below meth c s₁ B hml hex hv
  obtain ⟨rfl, hsz, ⟨hP, hK, hN, hj⟩, hT, hZ⟩ := hv
  subst hsz
  have hr := B.returns
  have hlocks := B.notSynchronized
  have C0 : xC p s m _ c cX4_matters 3 wsX4_matters RX4 NLX g a (xA NLX a s.heap.size) := ⟨⟨B.exec, B.bytes, hml, findClass_of_methodNamed B.named, atoms_spec (ws := wsX4_matters) B.pre⟩, hK, hN, hj, fun n h => Or.inl ⟨n, h, rfl⟩, fun q h => Or.inr h⟩
  have hS : va_S (xA NLX a s.heap.size) s.heap s.heap [] := va_S.rf
  have hl := lv_entry ([.ref (a 0 0), .int r, .int q]) (n := 3) (Nat.le_of_ble_eq_true rfl)
  rw [lg_entry_eq]
  generalize (lg_sl ([.ref (a 0 0), .int r, .int q]) ++ List.replicate (3 - (lg_sl ([.ref (a 0 0), .int r, .int q])).length) Slot.unset).toArray = ls at hl ⊢
  have hl : lv_has ls 3 [(0, .ref (a 0 0)), (1, .int r), (2, .int q)] := hl
  have k_0 : Cond.fieldLink RX4 33 RX4 (TX4 3).2.1 (TX4 3).2.2.1 ∈ wsX4_matters := by decide +kernel
  have i_X4 : ∀ w ∈ wsX40, w ∈ wsX4_matters := by decide +kernel
  have q_2 : Cond.fieldLinkNest RX4 130 RX1 (TX1 1).2.1 (TX1 1).2.2.1 RX4 ∈ xNs := by decide +kernel
  have i_X1 : ∀ w ∈ wsX10, w ∈ wsX4_matters := by decide +kernel
  refine lv_aload_n C0.hx C0.hb dX4_matters_0 rfl (lv_at hl 0 rfl) ?_
  refine lv_iload_n C0.hx C0.hb dX4_matters_1 rfl (lv_at hl 1 rfl) ?_
  refine x_VXv (As := [.int r]) (rest := []) C0 (mtX4_checkReport l hfl g a σ r ok) hP hS hT hZ (cwV 1 C0.hts gX4_matters_X4_checkReport rfl rfl rfl (by decide +kernel) ⟨Nat.le_of_ble_eq_true rfl, Nat.le_of_ble_eq_true rfl⟩) (x_recv C0 hP 0 (mX_n rfl) rfl rfl) rfl hl rfl (Nat.le_of_ble_eq_true rfl) (Nat.le_of_ble_eq_true rfl) (Nat.le_of_ble_eq_true rfl) dX4_matters_2 (fun E ce q H1 locs1 hE hP hS hq hv hcl => x_out hex hlocks hP hS hq hv hcl (Or.inl hE) (Nat.le_of_ble_eq_true rfl) (Nat.le_of_ble_eq_true rfl)) (fun H locs hk_1 hP hS => ?_)
  obtain ⟨r, hr0, rfl⟩ := crX_nat ok hk_1
  have er : nv (nI r) = r := nv_nI (by omega)
  refine lv_iload_n C0.hx C0.hb dX4_matters_5 rfl (lv_at hl 2 rfl) ?_
  refine lv_iconst (v := nI 4) C0.hx C0.hb dX4_matters_6 (by decide) ?_
  refine x_Si (As := [.int q, .int (nI 4)]) (rest := []) C0 (mtX4_isBelow l g a σ q (nI 4)) (xP0 _) xDj0 (va_cwS 2 C0.hts gX4_matters_X4_isBelow rfl rfl rfl (by decide +kernel) ⟨Nat.le_of_ble_eq_true rfl, Nat.le_of_ble_eq_true rfl⟩) rfl hl rfl (Nat.le_of_ble_eq_true rfl) (Nat.le_of_ble_eq_true rfl) (Nat.le_of_ble_eq_true rfl) dX4_matters_7 ?_
  refine x_SX0 (As := [.int (bI (ibX q (nI 4)))]) (rest := []) C0 (mtX4_checkArgument l hfl g a σ (ibX q (nI 4))) hP hS hT hZ (va_cwS 1 C0.hts gX4_matters_X4_checkArgument rfl rfl rfl (by decide +kernel) ⟨Nat.le_of_ble_eq_true rfl, Nat.le_of_ble_eq_true rfl⟩) rfl hl rfl (Nat.le_of_ble_eq_true rfl) (Nat.le_of_ble_eq_true rfl) (Nat.le_of_ble_eq_true rfl) dX4_matters_10 (fun E ce q H1 locs1 hE hP hS hq hv hcl => x_out hex hlocks hP hS hq hv hcl (Or.inr ⟨hk_1, Or.inl hE⟩) (Nat.le_of_ble_eq_true rfl) (Nat.le_of_ble_eq_true rfl)) (fun H locs hk_2 hP hS => ?_)
  obtain ⟨q, hq, rfl⟩ := ibX_nat (by decide) hk_2
  have eq : nv (nI q) = q := nv_nI (by omega)
  refine lv_aload_n C0.hx C0.hb dX4_matters_13 rfl (lv_at hl 0 rfl) ?_
  refine x_get C0 hP 0 (mX_n rfl) rfl rfl 3 (by decide) i_X4 k_0 rfl rfl dX4_matters_14 ?_
  refine x_getN C0 hP 4 (mX_n rfl) rfl rfl 1 (by decide) i_X1 q_2 rfl rfl dX4_matters_17 ?_
  refine lv_iload_n C0.hx C0.hb dX4_matters_20 rfl (lv_at hl 1 rfl) ?_
  refine x_aald C0 hP 17 r 60 25 (mX_n rfl) rfl (by omega) (by decide) dX4_matters_21 ?_
  refine lv_iload_n C0.hx C0.hb dX4_matters_22 rfl (lv_at hl 2 rfl) ?_
  refine x_iald C0 hP 25 q 4 (mX25 (by omega)) rfl (by omega) (by decide) dX4_matters_23 ?_
  refine vx_ret ?_
  refine W.widen (k := 2) (n := 12) (Nat.le_of_ble_eq_true rfl) (Nat.le_of_ble_eq_true rfl) ?_
  exact W.iret (v := σ 25 r q) C0.hx C0.hb hr (fun t ht hW => ⟨⟨_, σ, rfl, ⟨⟨⟨hk_1, hk_2, trivial⟩, (by rw [er, eq])⟩, rfl⟩, x_end ht hP⟩, hS.F ht⟩) hS.2.2 dX4_matters_24

set_option maxHeartbeats 4000000 in
set_option maxRecDepth 100000 in
theorem mtX2_add (l : Launch) (g : xG) (a : xAd) (σ : xS) (v u : Nat) (ok : okX σ) (hn : nv (σ 3 0 0) < 60) : xMw l yX2_add wsX2_add ({ frames := 0, cells := 0, slots := 0, locals := 0 }) NLX g a σ [.ref (a 3 0), .int (nI v), .int (nI u)] (nI (nv (σ 3 0 0))) (radS σ (nv (σ 3 0 0)) v u) := by
  intro sz
  refine Met.ofW (cc := cX2_add) (maxL := 4) (ret := (some .int)) (by decide) rfl ?_
  intro p e s m args below meth c s₁ B hml hv
  obtain ⟨rfl, hsz, hP, hK, hN, hj⟩ := hv
  subst hsz
  have hr := B.returns
  have hlocks := B.notSynchronized
  have C0 : xC p s m _ c cX2_add 4 wsX2_add RX2 NLX g a (xA NLX a s.heap.size) := ⟨⟨B.exec, B.bytes, hml, findClass_of_methodNamed B.named, atoms_spec (ws := wsX2_add) B.pre⟩, hK, hN, hj, fun n h => Or.inl ⟨n, h, rfl⟩, fun q h => Or.inr h⟩
  have hS : va_S (xA NLX a s.heap.size) s.heap s.heap [] := va_S.rf
  have hl := lv_entry ([.ref (a 3 0), .int (nI v), .int (nI u)]) (n := 4) (Nat.le_of_ble_eq_true rfl)
  rw [lg_entry_eq]
  generalize (lg_sl ([.ref (a 3 0), .int (nI v), .int (nI u)]) ++ List.replicate (4 - (lg_sl ([.ref (a 3 0), .int (nI v), .int (nI u)])).length) Slot.unset).toArray = ls at hl ⊢
  have hl : lv_has ls 4 [(0, .ref (a 3 0)), (1, .int (nI v)), (2, .int (nI u))] := hl
  have k_0 : Cond.fieldLink RX2 9 RX2 (TX2 0).2.1 (TX2 0).2.2.1 ∈ wsX2_add := by decide +kernel
  have i_X2 : ∀ w ∈ wsX20, w ∈ wsX2_add := by decide +kernel
  have k_2 : Cond.fieldLink RX2 15 RX2 (TX2 1).2.1 (TX2 1).2.2.1 ∈ wsX2_add := by decide +kernel
  have k_3 : Cond.fieldLink RX2 19 RX2 (TX2 2).2.1 (TX2 2).2.2.1 ∈ wsX2_add := by decide +kernel
  have k_4 : Cond.fieldLink RX2 27 RX2 (TX2 4).2.1 (TX2 4).2.2.1 ∈ wsX2_add := by decide +kernel
  refine lv_aload_n C0.hx C0.hb dX2_add_0 rfl (lv_at hl 0 rfl) ?_
  refine x_get C0 hP 3 (mX_n rfl) rfl rfl 0 (by decide) i_X2 k_0 rfl rfl dX2_add_1 ?_
  obtain ⟨e_1, b_2⟩ := (ok.n : inR (σ 3 0 0) _)
  refine x_top e_1 ?_
  refine lv_istore_n (lv' := [(3, .int (nI (nv (σ 3 0 0)))), (0, .ref (a 3 0)), (1, .int (nI v)), (2, .int (nI u))]) C0.hx C0.hb dX2_add_4 rfl hl (by decide) rfl (fun ls hl => ?_)
  refine lv_aload_n C0.hx C0.hb dX2_add_5 rfl (lv_at hl 1 rfl) ?_
  refine x_get C0 hP 3 (mX_n rfl) rfl rfl 1 (by decide) i_X2 k_2 rfl rfl dX2_add_6 ?_
  refine lv_iload_n C0.hx C0.hb dX2_add_9 rfl (lv_at hl 0 rfl) ?_
  refine lv_iload_n C0.hx C0.hb dX2_add_10 rfl (lv_at hl 2 rfl) ?_
  refine x_iast C0 hP hS 12 (nv (σ 3 0 0)) 60 (v := nI v) (mX_n rfl) (fun _ => rfl) (by omega) (by decide) dX2_add_11 (fun H locs hP hS => ?_)
  refine lv_aload_n C0.hx C0.hb dX2_add_12 rfl (lv_at hl 1 rfl) ?_
  refine x_get C0 hP 3 (mX_n rfl) rfl rfl 2 (by decide) i_X2 k_3 rfl rfl dX2_add_13 ?_
  refine lv_iload_n C0.hx C0.hb dX2_add_16 rfl (lv_at hl 0 rfl) ?_
  refine lv_iload_n C0.hx C0.hb dX2_add_17 rfl (lv_at hl 3 rfl) ?_
  refine x_iast C0 hP hS 13 (nv (σ 3 0 0)) 60 (v := nI u) (mX_n rfl) (fun _ => rfl) (by omega) (by decide) dX2_add_18 (fun H locs hP hS => ?_)
  refine lv_aload_n C0.hx C0.hb dX2_add_19 rfl (lv_at hl 1 rfl) ?_
  refine x_get C0 hP 3 (mX_n rfl) rfl rfl 4 (by decide) i_X2 k_4 rfl rfl dX2_add_20 ?_
  refine lv_iload_n C0.hx C0.hb dX2_add_23 rfl (lv_at hl 0 rfl) ?_
  refine lv_iconst (v := -1) C0.hx C0.hb dX2_add_24 (by decide) ?_
  refine x_iast C0 hP hS 15 (nv (σ 3 0 0)) 60 (v := -1) (mX_n rfl) (fun _ => rfl) (by omega) (by decide) dX2_add_25 (fun H locs hP hS => ?_)
  refine lv_aload_n C0.hx C0.hb dX2_add_26 rfl (lv_at hl 1 rfl) ?_
  refine lv_iload_n C0.hx C0.hb dX2_add_27 rfl (lv_at hl 0 rfl) ?_
  refine lv_iconst (v := nI 1) C0.hx C0.hb dX2_add_28 (by decide) ?_
  refine lv_iadd C0.hx C0.hb dX2_add_29 ?_
  refine x_top (nI_add (nv (σ 3 0 0)) 1) ?_
  refine x_put C0 hP hS 3 (mX_n rfl) rfl rfl tyX2 tyX2_ok nmX2 0 (by decide) i_X2 k_0 rfl rfl 0 rfl (Nat.le_of_ble_eq_true rfl) rfl dX2_add_30 (fun H locs hP hS => ?_)
  refine lv_iload_n C0.hx C0.hb dX2_add_33 rfl (lv_at hl 0 rfl) ?_
  exact W.iret (v := nI (nv (σ 3 0 0))) C0.hx C0.hb hr (fun t ht hW => ⟨⟨_, up3 (up3 (up3 (up3 σ 12 0 (nv (σ 3 0 0)) (nI v)) 13 0 (nv (σ 3 0 0)) (nI u)) 15 0 (nv (σ 3 0 0)) (-1)) 3 0 0 (nI ((nv (σ 3 0 0)) + 1)), rfl, ⟨rfl, rfl⟩, x_end ht hP⟩, hS.F ht⟩) hS.2.2 dX2_add_34

set_option maxHeartbeats 4000000 in
set_option maxRecDepth 100000 in
theorem mtX2_setStack (l : Launch) (g : xG) (a : xAd) (σ : xS) (n : Nat) (hn : n < 60) (x y z w : Int32) : xMv l yX2_setStack wsX2_setStack ({ frames := 0, cells := 0, slots := 0, locals := 0 }) NLX g a σ [.ref (a 3 0), .int (nI n), .int x, .int y, .int z, .int w] (stkS σ n x y z w) := by
  intro sz
  refine Met.ofW (cc := cX2_setStack) (maxL := 6) (ret := none) (by decide) rfl ?_
  intro p e s m args below meth c s₁ B hml hv
  obtain ⟨rfl, hsz, hP, hK, hN, hj⟩ := hv
  subst hsz
  have hr := B.returns
  have hlocks := B.notSynchronized
  have C0 : xC p s m _ c cX2_setStack 6 wsX2_setStack RX2 NLX g a (xA NLX a s.heap.size) := ⟨⟨B.exec, B.bytes, hml, findClass_of_methodNamed B.named, atoms_spec (ws := wsX2_setStack) B.pre⟩, hK, hN, hj, fun n h => Or.inl ⟨n, h, rfl⟩, fun q h => Or.inr h⟩
  have hS : va_S (xA NLX a s.heap.size) s.heap s.heap [] := va_S.rf
  have hl := lv_entry ([.ref (a 3 0), .int (nI n), .int x, .int y, .int z, .int w]) (n := 6) (Nat.le_of_ble_eq_true rfl)
  rw [lg_entry_eq]
  generalize (lg_sl ([.ref (a 3 0), .int (nI n), .int x, .int y, .int z, .int w]) ++ List.replicate (6 - (lg_sl ([.ref (a 3 0), .int (nI n), .int x, .int y, .int z, .int w])).length) Slot.unset).toArray = ls at hl ⊢
  have hl : lv_has ls 6 [(0, .ref (a 3 0)), (1, .int (nI n)), (2, .int x), (3, .int y), (4, .int z), (5, .int w)] := hl
  have k_0 : Cond.fieldLink RX2 24 RX2 (TX2 3).2.1 (TX2 3).2.2.1 ∈ wsX2_setStack := by decide +kernel
  have i_X2 : ∀ w ∈ wsX20, w ∈ wsX2_setStack := by decide +kernel
  refine lv_aload_n C0.hx C0.hb dX2_setStack_0 rfl (lv_at hl 0 rfl) ?_
  refine x_get C0 hP 3 (mX_n rfl) rfl rfl 3 (by decide) i_X2 k_0 rfl rfl dX2_setStack_1 ?_
  refine lv_iload_n C0.hx C0.hb dX2_setStack_4 rfl (lv_at hl 1 rfl) ?_
  refine x_aald C0 hP 14 n 60 23 (mX_n rfl) rfl (by omega) (by decide) dX2_setStack_5 ?_
  refine lv_iconst (v := nI 0) C0.hx C0.hb dX2_setStack_6 (by decide) ?_
  refine lv_iload_n C0.hx C0.hb dX2_setStack_7 rfl (lv_at hl 2 rfl) ?_
  refine x_iast C0 hP hS 23 0 4 (v := x) (mX23 (by omega)) (fun _ => rfl) (by omega) (by decide) dX2_setStack_8 (fun H locs hP hS => ?_)
  refine lv_aload_n C0.hx C0.hb dX2_setStack_9 rfl (lv_at hl 0 rfl) ?_
  refine x_get C0 hP 3 (mX_n rfl) rfl rfl 3 (by decide) i_X2 k_0 rfl rfl dX2_setStack_10 ?_
  refine lv_iload_n C0.hx C0.hb dX2_setStack_13 rfl (lv_at hl 1 rfl) ?_
  refine x_aald C0 hP 14 n 60 23 (mX_n rfl) rfl (by omega) (by decide) dX2_setStack_14 ?_
  refine lv_iconst (v := nI 1) C0.hx C0.hb dX2_setStack_15 (by decide) ?_
  refine lv_iload_n C0.hx C0.hb dX2_setStack_16 rfl (lv_at hl 3 rfl) ?_
  refine x_iast C0 hP hS 23 1 4 (v := y) (mX23 (by omega)) (fun _ => rfl) (by omega) (by decide) dX2_setStack_17 (fun H locs hP hS => ?_)
  refine lv_aload_n C0.hx C0.hb dX2_setStack_18 rfl (lv_at hl 0 rfl) ?_
  refine x_get C0 hP 3 (mX_n rfl) rfl rfl 3 (by decide) i_X2 k_0 rfl rfl dX2_setStack_19 ?_
  refine lv_iload_n C0.hx C0.hb dX2_setStack_22 rfl (lv_at hl 1 rfl) ?_
  refine x_aald C0 hP 14 n 60 23 (mX_n rfl) rfl (by omega) (by decide) dX2_setStack_23 ?_
  refine lv_iconst (v := nI 2) C0.hx C0.hb dX2_setStack_24 (by decide) ?_
  refine lv_iload C0.hx C0.hb dX2_setStack_25 (lv_at hl 4 rfl) ?_
  refine x_iast C0 hP hS 23 2 4 (v := z) (mX23 (by omega)) (fun _ => rfl) (by omega) (by decide) dX2_setStack_27 (fun H locs hP hS => ?_)
  refine lv_aload_n C0.hx C0.hb dX2_setStack_28 rfl (lv_at hl 0 rfl) ?_
  refine x_get C0 hP 3 (mX_n rfl) rfl rfl 3 (by decide) i_X2 k_0 rfl rfl dX2_setStack_29 ?_
  refine lv_iload_n C0.hx C0.hb dX2_setStack_32 rfl (lv_at hl 1 rfl) ?_
  refine x_aald C0 hP 14 n 60 23 (mX_n rfl) rfl (by omega) (by decide) dX2_setStack_33 ?_
  refine lv_iconst (v := nI 3) C0.hx C0.hb dX2_setStack_34 (by decide) ?_
  refine lv_iload C0.hx C0.hb dX2_setStack_35 (lv_at hl 5 rfl) ?_
  refine x_iast C0 hP hS 23 3 4 (v := w) (mX23 (by omega)) (fun _ => rfl) (by omega) (by decide) dX2_setStack_37 (fun H locs hP hS => ?_)
  exact W.vret C0.hx C0.hb hr (fun t ht hW => ⟨⟨up3 (up3 (up3 (up3 σ 23 n 0 x) 23 n 1 y) 23 n 2 z) 23 n 3 w, rfl, rfl, x_end ht hP⟩, hS.F ht⟩) hS.2.2 dX2_setStack_38

set_option maxHeartbeats 4000000 in
set_option maxRecDepth 100000 in
theorem mtX1_isName (l : Launch) (g : xG) (a : xAd) (σ : xS) (r : Nat) (hr0 : r < 60) : xMi l yX1_isName wsX1_isName ({ frames := 0, cells := 0, slots := 0, locals := 0 }) NLX g a σ [.ref (a 4 0), .int (nI r)] (bI (decide (σ 19 0 r = nI r))) := by
  unfold xMi
  refine Met.ofW (cc := cX1_isName) (maxL := 2) (ret := (some .boolean)) (by decide) rfl ?_
  intro p e s m args below meth c s₁ B hml hv
  obtain ⟨rfl, hP, hK, hN, hj⟩ := hv
  have hr := B.returns
  have hlocks := B.notSynchronized
  have C0 : xC p s m _ c cX1_isName 2 wsX1_isName RX1 NLX g a (xA NLX a s.heap.size) := ⟨⟨B.exec, B.bytes, hml, findClass_of_methodNamed B.named, atoms_spec (ws := wsX1_isName) B.pre⟩, hK, hN, hj, fun n h => Or.inl ⟨n, h, rfl⟩, fun q h => Or.inr h⟩
  have hS : va_S (xA NLX a s.heap.size) s.heap s.heap [] := va_S.rf
  have hl := lv_entry ([.ref (a 4 0), .int (nI r)]) (n := 2) (Nat.le_of_ble_eq_true rfl)
  rw [lg_entry_eq]
  generalize (lg_sl ([.ref (a 4 0), .int (nI r)]) ++ List.replicate (2 - (lg_sl ([.ref (a 4 0), .int (nI r)])).length) Slot.unset).toArray = ls at hl ⊢
  have hl : lv_has ls 2 [(0, .ref (a 4 0)), (1, .int (nI r))] := hl
  have k_0 : Cond.fieldLink RX1 23 RX1 (TX1 3).2.1 (TX1 3).2.2.1 ∈ wsX1_isName := by decide +kernel
  have i_X1 : ∀ w ∈ wsX10, w ∈ wsX1_isName := by decide +kernel
  refine lv_aload_n C0.hx C0.hb dX1_isName_0 rfl (lv_at hl 0 rfl) ?_
  refine x_get C0 hP 4 (mX_n rfl) rfl rfl 3 (by decide) i_X1 k_0 rfl rfl dX1_isName_1 ?_
  refine lv_iload_n C0.hx C0.hb dX1_isName_4 rfl (lv_at hl 1 rfl) ?_
  refine x_iald C0 hP 19 r 60 (mX_n rfl) rfl (by omega) (by decide) dX1_isName_5 ?_
  refine lv_iload_n C0.hx C0.hb dX1_isName_6 rfl (lv_at hl 1 rfl) ?_
  refine x_join (α := Bool) 15 (fun x H' locs' ls => (H' = s.heap ∧ locs' = [] ∧ x = (decide (σ 19 0 r = nI r))) ∧ lv_has ls 2 [(0, .ref (a 4 0)), (1, .int (nI r))]) (fun x => [.int (bI x)]) ?_ (fun J15 => ?_)
  · rintro x _ _ ls ⟨⟨rfl, rfl, hj15_0⟩, hl⟩
    exact W.zret (v := bI x) C0.hx C0.hb hr (bI_nar _) (fun t ht hW => ⟨_, rfl, congrArg bI hj15_0, ht⟩) (fun q h => nomatch h) dX1_isName_15
  ·
    refine lv_icmp_ne (tgt := 14) C0.hx C0.hb dX1_isName_7 (by decide) (fun c_1 => ?_) (fun c_1 => ?_)
    ·
      refine lv_iconst (v := nI 0) C0.hx C0.hb dX1_isName_14 (by decide) ?_
      exact J15 false _ _ ls ⟨⟨rfl, rfl, (by simp [c_1])⟩, (lv_sub hl [0, 1] rfl)⟩
    ·
      refine lv_iconst (v := nI 1) C0.hx C0.hb dX1_isName_10 (by decide) ?_
      refine lv_goto (tgt := 15) C0.hx C0.hb dX1_isName_11 (by decide) ?_
      exact J15 true _ _ ls ⟨⟨rfl, rfl, (by simp [c_1])⟩, (lv_sub hl [0, 1] rfl)⟩

set_option maxHeartbeats 4000000 in
set_option maxRecDepth 100000 in
theorem mtX1_readStack (l : Launch) (g : xG) (a : xAd) (σ : xS) (r : Nat) (hr0 : r < 60) (ok : okX σ) : xMv l yX1_readStack wsX1_readStack ({ frames := 1, cells := 0, slots := 0, locals := 23 }) NLX g a σ [.ref (a 4 0), .int (nI r), .ref (a 3 0), .ref (a 1 0)] (rdS σ r) := by
  intro sz
  refine Met.ofW (cc := cX1_readStack) (maxL := 5) (ret := none) (by decide) rfl ?_
  intro p e s m args below meth c s₁ B hml hv
  obtain ⟨rfl, hsz, hP, hK, hN, hj⟩ := hv
  subst hsz
  have hr := B.returns
  have hlocks := B.notSynchronized
  have C0 : xC p s m _ c cX1_readStack 5 wsX1_readStack RX1 NLX g a (xA NLX a s.heap.size) := ⟨⟨B.exec, B.bytes, hml, findClass_of_methodNamed B.named, atoms_spec (ws := wsX1_readStack) B.pre⟩, hK, hN, hj, fun n h => Or.inl ⟨n, h, rfl⟩, fun q h => Or.inr h⟩
  have hS : va_S (xA NLX a s.heap.size) s.heap s.heap [] := va_S.rf
  have hl := lv_entry ([.ref (a 4 0), .int (nI r), .ref (a 3 0), .ref (a 1 0)]) (n := 5) (Nat.le_of_ble_eq_true rfl)
  rw [lg_entry_eq]
  generalize (lg_sl ([.ref (a 4 0), .int (nI r), .ref (a 3 0), .ref (a 1 0)]) ++ List.replicate (5 - (lg_sl ([.ref (a 4 0), .int (nI r), .ref (a 3 0), .ref (a 1 0)])).length) Slot.unset).toArray = ls at hl ⊢
  have hl : lv_has ls 5 [(0, .ref (a 4 0)), (1, .int (nI r)), (2, .ref (a 3 0)), (3, .ref (a 1 0))] := hl
  have k_0 : Cond.fieldLink RX1 11 RX1 (TX1 0).2.1 (TX1 0).2.2.1 ∈ wsX1_readStack := by decide +kernel
  have i_X1 : ∀ w ∈ wsX10, w ∈ wsX1_readStack := by decide +kernel
  have q_2 : Cond.fieldLinkNest RX1 32 RX2 (TX2 1).2.1 (TX2 1).2.2.1 RX4 ∈ xNs := by decide +kernel
  have i_X2 : ∀ w ∈ wsX20, w ∈ wsX1_readStack := by decide +kernel
  have q_4 : Cond.fieldLinkNest RX1 39 RX2 (TX2 3).2.1 (TX2 3).2.2.1 RX4 ∈ xNs := by decide +kernel
  have m_5 : (RX1, 42, yX0_functionAt) ∈ xMs := by decide +kernel
  have k_6 : Cond.initialized yX0_functionAt.cls ∈ wsX1_readStack := by decide +kernel
  have k_7 : Cond.instanceMethod yX0_functionAt ∈ wsX1_readStack := by decide +kernel
  have k_8 : Cond.selects RX0 yX0_functionAt yX0_functionAt ∈ wsX1_readStack := by decide +kernel
  refine lv_iconst (v := nI 0) C0.hx C0.hb dX1_readStack_0 (by decide) ?_
  refine lv_istore (lv' := [(4, .int (nI 0)), (0, .ref (a 4 0)), (1, .int (nI r)), (2, .ref (a 3 0)), (3, .ref (a 1 0))]) C0.hx C0.hb dX1_readStack_1 hl (by decide) rfl (fun ls hl => ?_)
  refine x_loopW (α := Nat) (fun k => 4 - k) (fun k H locs ls => va_P g.1 vwCl (xw NLX g a (rdL σ r k)) H ∧ va_S (xA NLX a s.heap.size) s.heap H locs ∧ k ≤ 4 ∧ lv_has ls 5 [(0, .ref (a 4 0)), (1, .int (nI r)), (2, .ref (a 3 0)), (3, .ref (a 1 0)), (4, .int (nI k))]) ?_ 0 ⟨hP, hS, (by omega), (lv_sub hl [1, 2, 3, 4, 0] rfl)⟩
  rintro k H locs ls ⟨hP, hS, h3_0, hl⟩ ih3
  have ok1 : okX (rdL σ r k) := rdL_ok ok
  have o12 := ok1.ver hr0
  refine lv_iload C0.hx C0.hb dX1_readStack_3 (lv_at hl 4 rfl) ?_
  refine lv_iconst (v := nI 4) C0.hx C0.hb dX1_readStack_5 (by decide) ?_
  refine x_icmp_ge (tgt := 43) C0.hx C0.hb (by omega) (by omega) dX1_readStack_6 (by decide) (fun c_1 => ?_) (fun c_1 => ?_)
  ·
    exact W.vret C0.hx C0.hb hr (fun t ht hW => ⟨⟨rdL σ r k, rfl, (by rw [show k = 4 by omega]; rfl), x_end ht hP⟩, hS.F ht⟩) hS.2.2 dX1_readStack_43
  ·
    refine lv_aload_n C0.hx C0.hb dX1_readStack_9 rfl (lv_at hl 0 rfl) ?_
    refine x_get C0 hP 4 (mX_n rfl) rfl rfl 0 (by decide) i_X1 k_0 rfl rfl dX1_readStack_10 ?_
    refine lv_iload_n C0.hx C0.hb dX1_readStack_13 rfl (lv_at hl 1 rfl) ?_
    refine x_aald C0 hP 16 r 60 24 (mX_n rfl) rfl (by omega) (by decide) dX1_readStack_14 ?_
    refine lv_iload C0.hx C0.hb dX1_readStack_15 (lv_at hl 4 rfl) ?_
    refine lv_aload_n C0.hx C0.hb dX1_readStack_17 rfl (lv_at hl 3 rfl) ?_
    refine lv_aload_n C0.hx C0.hb dX1_readStack_18 rfl (lv_at hl 2 rfl) ?_
    refine x_getN C0 hP 3 (mX_n rfl) rfl rfl 1 (by decide) i_X2 q_2 rfl rfl dX1_readStack_19 ?_
    refine lv_iload_n C0.hx C0.hb dX1_readStack_22 rfl (lv_at hl 1 rfl) ?_
    refine x_iald C0 hP 12 r 60 (mX_n rfl) rfl (by omega) (by decide) dX1_readStack_23 ?_
    obtain ⟨e_2, b_3⟩ := (o12 : inR ((rdL σ r k) 12 0 r) _)
    refine x_top e_2 ?_
    refine lv_aload_n C0.hx C0.hb dX1_readStack_24 rfl (lv_at hl 2 rfl) ?_
    refine x_getN C0 hP 3 (mX_n rfl) rfl rfl 3 (by decide) i_X2 q_4 rfl rfl dX1_readStack_25 ?_
    refine lv_iload_n C0.hx C0.hb dX1_readStack_28 rfl (lv_at hl 1 rfl) ?_
    refine x_aald C0 hP 14 r 60 23 (mX_n rfl) rfl (by omega) (by decide) dX1_readStack_29 ?_
    refine lv_iload C0.hx C0.hb dX1_readStack_30 (lv_at hl 4 rfl) ?_
    refine x_iald C0 hP 23 k 4 (mX23 (by omega)) rfl (by omega) (by decide) dX1_readStack_32 ?_
    refine x_VNi (As := [.int (nI (nv ((rdL σ r k) 12 0 r))), .int ((rdL σ r k) 23 r k)]) (rest := [.int (nI k), .ref (a 24 r)]) C0 (mtX0_functionAt l g a (rdL σ r k) (nv ((rdL σ r k) 12 0 r)) (by omega) ok1 ((rdL σ r k) 23 r k)) hP C0.2.2.2.1 (va_cnB 2 C0.hts gX1_readStack_X0_functionAt_n42 rfl rfl rfl (C0.2.2.1.2 _ m_5) (C0.hts _ k_6) (by decide +kernel) ⟨Nat.le_of_ble_eq_true rfl, Nat.le_of_ble_eq_true rfl⟩) (C0.hts _ k_7) (C0.hts _ k_8) (x_recv C0 hP 1 (mX_n rfl) rfl rfl) rfl hl rfl (Nat.le_of_ble_eq_true rfl) (Nat.zero_le _) (Nat.zero_le _) dX1_readStack_33 ?_
    refine x_iast C0 hP hS 24 k 4 (v := fnX (rdL σ r k) (nv ((rdL σ r k) 12 0 r)) ((rdL σ r k) 23 r k)) (mX24 (by omega)) (fun _ => rfl) (by omega) (by decide) dX1_readStack_36 (fun H locs hP hS => ?_)
    refine lv_iinc (v := nI (k + 1)) (lv' := [(4, .int (nI (k + 1))), (0, .ref (a 4 0)), (1, .int (nI r)), (2, .ref (a 3 0)), (3, .ref (a 1 0))]) C0.hx C0.hb dX1_readStack_37 hl (k := 4) rfl (nI_1 k) (by decide) rfl (fun ls hl => ?_)
    refine lv_goto (tgt := 3) C0.hx C0.hb dX1_readStack_40 (by decide) ?_
    exact ih3 ((k + 1)) H locs ls ⟨hP, hS, (by omega), (lv_sub hl [1, 2, 3, 4, 0] rfl)⟩ (by omega)

set_option maxHeartbeats 4000000 in
set_option maxRecDepth 100000 in
theorem mtX1_readStacksOf (l : Launch) (g : xG) (a : xAd) (σ : xS) (v : Nat) (hv : v < 4) (ok : okX σ) : xMv l yX1_readStacksOf wsX1_readStacksOf ({ frames := 2, cells := 0, slots := 0, locals := 47 }) NLX g a σ [.ref (a 4 0), .int (nI v), .ref (a 3 0), .ref (a 1 0)] (rsS σ v) := by
  intro sz
  refine Met.ofW (cc := cX1_readStacksOf) (maxL := 5) (ret := none) (by decide) rfl ?_
  intro p e s m args below meth c s₁ B hml hv
  obtain ⟨rfl, hsz, hP, hK, hN, hj⟩ := hv
  subst hsz
  have hr := B.returns
  have hlocks := B.notSynchronized
  have C0 : xC p s m _ c cX1_readStacksOf 5 wsX1_readStacksOf RX1 NLX g a (xA NLX a s.heap.size) := ⟨⟨B.exec, B.bytes, hml, findClass_of_methodNamed B.named, atoms_spec (ws := wsX1_readStacksOf) B.pre⟩, hK, hN, hj, fun n h => Or.inl ⟨n, h, rfl⟩, fun q h => Or.inr h⟩
  have hS : va_S (xA NLX a s.heap.size) s.heap s.heap [] := va_S.rf
  have hl := lv_entry ([.ref (a 4 0), .int (nI v), .ref (a 3 0), .ref (a 1 0)]) (n := 5) (Nat.le_of_ble_eq_true rfl)
  rw [lg_entry_eq]
  generalize (lg_sl ([.ref (a 4 0), .int (nI v), .ref (a 3 0), .ref (a 1 0)]) ++ List.replicate (5 - (lg_sl ([.ref (a 4 0), .int (nI v), .ref (a 3 0), .ref (a 1 0)])).length) Slot.unset).toArray = ls at hl ⊢
  have hl : lv_has ls 5 [(0, .ref (a 4 0)), (1, .int (nI v)), (2, .ref (a 3 0)), (3, .ref (a 1 0))] := hl
  have q_0 : Cond.fieldLinkNest RX1 26 RX2 (TX2 0).2.1 (TX2 0).2.2.1 RX4 ∈ xNs := by decide +kernel
  have i_X2 : ∀ w ∈ wsX20, w ∈ wsX1_readStacksOf := by decide +kernel
  have q_2 : Cond.fieldLinkNest RX1 32 RX2 (TX2 1).2.1 (TX2 1).2.2.1 RX4 ∈ xNs := by decide +kernel
  refine lv_iconst (v := nI 0) C0.hx C0.hb dX1_readStacksOf_0 (by decide) ?_
  refine lv_istore (lv' := [(4, .int (nI 0)), (0, .ref (a 4 0)), (1, .int (nI v)), (2, .ref (a 3 0)), (3, .ref (a 1 0))]) C0.hx C0.hb dX1_readStacksOf_1 hl (by decide) rfl (fun ls hl => ?_)
  refine x_loopW (α := Nat) (fun k => 60 - k) (fun k H locs ls => va_P g.1 vwCl (xw NLX g a (rsL σ v k)) H ∧ va_S (xA NLX a s.heap.size) s.heap H locs ∧ k ≤ nv (σ 3 0 0) ∧ lv_has ls 5 [(0, .ref (a 4 0)), (1, .int (nI v)), (2, .ref (a 3 0)), (3, .ref (a 1 0)), (4, .int (nI k))]) ?_ 0 ⟨hP, hS, (by omega), (lv_sub hl [1, 2, 3, 4, 0] rfl)⟩
  rintro k H locs ls ⟨hP, hS, h3_0, hl⟩ ih3
  have ok1 : okX (rsL σ v k) := rsL_ok ok
  have on : rsL σ v k 3 0 0 = nI (nv (σ 3 0 0)) := (rsL_ne k 3 0 0 (by decide)).trans ok.n.1
  have hn := ok.n.2
  refine lv_iload C0.hx C0.hb dX1_readStacksOf_3 (lv_at hl 4 rfl) ?_
  refine lv_aload_n C0.hx C0.hb dX1_readStacksOf_5 rfl (lv_at hl 2 rfl) ?_
  refine x_getN C0 hP 3 (mX_n rfl) rfl rfl 0 (by decide) i_X2 q_0 rfl rfl dX1_readStacksOf_6 ?_
  refine x_top on ?_
  refine x_icmp_ge (tgt := 37) C0.hx C0.hb (by omega) (by omega) dX1_readStacksOf_9 (by decide) (fun c_1 => ?_) (fun c_1 => ?_)
  ·
    exact W.vret C0.hx C0.hb hr (fun t ht hW => ⟨⟨rsL σ v k, rfl, (by rw [show k = nv (σ 3 0 0) by omega]; rfl), x_end ht hP⟩, hS.F ht⟩) hS.2.2 dX1_readStacksOf_37
  ·
    refine x_join (α := Unit) 31 (fun _ H' locs' ls => (va_P g.1 vwCl (xw NLX g a (rsL σ v (k + 1))) H' ∧ va_S (xA NLX a s.heap.size) s.heap H' locs') ∧ lv_has ls 5 [(0, .ref (a 4 0)), (1, .int (nI v)), (2, .ref (a 3 0)), (3, .ref (a 1 0)), (4, .int (nI k))]) (fun _ => []) ?_ (fun J31 => ?_)
    · rintro _ H locs ls ⟨⟨hP, hS⟩, hl⟩
      refine lv_iinc (v := nI (k + 1)) (lv' := [(4, .int (nI (k + 1))), (0, .ref (a 4 0)), (1, .int (nI v)), (2, .ref (a 3 0)), (3, .ref (a 1 0))]) C0.hx C0.hb dX1_readStacksOf_31 hl (k := 4) rfl (nI_1 k) (by decide) rfl (fun ls hl => ?_)
      refine lv_goto (tgt := 3) C0.hx C0.hb dX1_readStacksOf_34 (by decide) ?_
      exact ih3 ((k + 1)) H locs ls ⟨hP, hS, (by omega), (lv_sub hl [1, 2, 3, 4, 0] rfl)⟩ (by omega)
    ·
      refine lv_aload_n C0.hx C0.hb dX1_readStacksOf_12 rfl (lv_at hl 2 rfl) ?_
      refine x_getN C0 hP 3 (mX_n rfl) rfl rfl 1 (by decide) i_X2 q_2 rfl rfl dX1_readStacksOf_13 ?_
      refine lv_iload C0.hx C0.hb dX1_readStacksOf_16 (lv_at hl 4 rfl) ?_
      refine x_iald C0 hP 12 k 60 (mX_n rfl) rfl (by omega) (by decide) dX1_readStacksOf_18 ?_
      obtain ⟨e_2, b_3⟩ := (ok1.ver (by omega) : inR ((rsL σ v k) 12 0 k) _)
      refine x_top e_2 ?_
      refine lv_iload_n C0.hx C0.hb dX1_readStacksOf_19 rfl (lv_at hl 1 rfl) ?_
      refine x_icmp_ne (tgt := 31) C0.hx C0.hb (by omega) (by omega) dX1_readStacksOf_20 (by decide) (fun c_4 => ?_) (fun c_4 => ?_)
      ·
        exact J31 () _ _ ls ⟨⟨(by rw [rsL, if_neg (by omega)]; exact hP), hS⟩, (lv_sub hl [0, 1, 2, 3, 4] rfl)⟩
      ·
        refine lv_aload_n C0.hx C0.hb dX1_readStacksOf_23 rfl (lv_at hl 0 rfl) ?_
        refine lv_iload C0.hx C0.hb dX1_readStacksOf_24 (lv_at hl 4 rfl) ?_
        refine lv_aload_n C0.hx C0.hb dX1_readStacksOf_26 rfl (lv_at hl 2 rfl) ?_
        refine lv_aload_n C0.hx C0.hb dX1_readStacksOf_27 rfl (lv_at hl 3 rfl) ?_
        refine x_Vv (As := [.int (nI k), .ref (a 3 0), .ref (a 1 0)]) (rest := []) C0 (mtX1_readStack l g a (rsL σ v k) k (by omega) ok1) hP hS (cwV 3 C0.hts gX1_readStacksOf_X1_readStack rfl rfl rfl (by decide +kernel) ⟨Nat.le_of_ble_eq_true rfl, Nat.le_of_ble_eq_true rfl⟩) (x_recv C0 hP 4 (mX_n rfl) rfl rfl) rfl hl rfl (Nat.le_of_ble_eq_true rfl) (Nat.zero_le _) (Nat.zero_le _) dX1_readStacksOf_28 (fun H locs hP hS => ?_)
        exact J31 () _ _ ls ⟨⟨(by rw [rsL, if_pos (by omega)]; exact hP), hS⟩, (lv_sub hl [0, 1, 2, 3, 4] rfl)⟩

set_option maxHeartbeats 4000000 in
set_option maxRecDepth 100000 in
theorem mtX1_pickMattering (l : Launch) (g : xG) (a : xAd) (σ : xS) (r : Nat) (hr0 : r < 60) (ok0 : okX σ) (okf0 : okF σ) : xMv l yX1_pickMattering wsX1_pickMattering ({ frames := 1, cells := 0, slots := 0, locals := 23 }) NLX g a σ [.ref (a 4 0), .int (nI r), .ref (a 2 0)] (pkS σ r) := by
  intro sz
  refine Met.ofW (cc := cX1_pickMattering) (maxL := 6) (ret := none) (by decide) rfl ?_
  intro p e s m args below meth c s₁ B hml hv
  obtain ⟨rfl, hsz, hP, hK, hN, hj⟩ := hv
  subst hsz
  have hr := B.returns
  have hlocks := B.notSynchronized
  have C0 : xC p s m _ c cX1_pickMattering 6 wsX1_pickMattering RX1 NLX g a (xA NLX a s.heap.size) := ⟨⟨B.exec, B.bytes, hml, findClass_of_methodNamed B.named, atoms_spec (ws := wsX1_pickMattering) B.pre⟩, hK, hN, hj, fun n h => Or.inl ⟨n, h, rfl⟩, fun q h => Or.inr h⟩
  have hS : va_S (xA NLX a s.heap.size) s.heap s.heap [] := va_S.rf
  have hl := lv_entry ([.ref (a 4 0), .int (nI r), .ref (a 2 0)]) (n := 6) (Nat.le_of_ble_eq_true rfl)
  rw [lg_entry_eq]
  generalize (lg_sl ([.ref (a 4 0), .int (nI r), .ref (a 2 0)]) ++ List.replicate (6 - (lg_sl ([.ref (a 4 0), .int (nI r), .ref (a 2 0)])).length) Slot.unset).toArray = ls at hl ⊢
  have hl : lv_has ls 6 [(0, .ref (a 4 0)), (1, .int (nI r)), (2, .ref (a 2 0))] := hl
  have k_0 : Cond.fieldLink RX1 16 RX1 (TX1 1).2.1 (TX1 1).2.2.1 ∈ wsX1_pickMattering := by decide +kernel
  have i_X1 : ∀ w ∈ wsX10, w ∈ wsX1_pickMattering := by decide +kernel
  have q_2 : Cond.fieldLinkNest RX1 60 RX3 (TX3 2).2.1 (TX3 2).2.2.1 RX4 ∈ xNs := by decide +kernel
  have i_X3 : ∀ w ∈ wsX30, w ∈ wsX1_pickMattering := by decide +kernel
  have k_4 : Cond.fieldLink RX1 11 RX1 (TX1 0).2.1 (TX1 0).2.2.1 ∈ wsX1_pickMattering := by decide +kernel
  have q_5 : Cond.fieldLinkNest RX1 65 RX3 (TX3 0).2.1 (TX3 0).2.2.1 RX4 ∈ xNs := by decide +kernel
  have m_6 : (RX1, 69, yX3_inTheEnd) ∈ xMs := by decide +kernel
  have k_7 : Cond.initialized yX3_inTheEnd.cls ∈ wsX1_pickMattering := by decide +kernel
  have k_8 : Cond.instanceMethod yX3_inTheEnd ∈ wsX1_pickMattering := by decide +kernel
  have k_9 : Cond.selects RX3 yX3_inTheEnd yX3_inTheEnd ∈ wsX1_pickMattering := by decide +kernel
  refine lv_iconst (v := nI 0) C0.hx C0.hb dX1_pickMattering_0 (by decide) ?_
  refine lv_istore_n (lv' := [(3, .int (nI 0)), (0, .ref (a 4 0)), (1, .int (nI r)), (2, .ref (a 2 0))]) C0.hx C0.hb dX1_pickMattering_1 rfl hl (by decide) rfl (fun ls hl => ?_)
  refine lv_iconst (v := nI 0) C0.hx C0.hb dX1_pickMattering_2 (by decide) ?_
  refine lv_istore (lv' := [(4, .int (nI 0)), (3, .int (nI 0)), (0, .ref (a 4 0)), (1, .int (nI r)), (2, .ref (a 2 0))]) C0.hx C0.hb dX1_pickMattering_3 hl (by decide) rfl (fun ls hl => ?_)
  refine x_loopW (α := Nat × Nat × Nat × xS) (fun u => u.1) (fun ⟨n, k, q, τ⟩ H locs ls => va_P g.1 vwCl (xw NLX g a τ) H ∧ va_S (xA NLX a s.heap.size) s.heap H locs ∧ k + n = 4 ∧ q ≤ 4 ∧ okX τ ∧ okF τ ∧ pkL r n k q τ = pkL r 4 0 0 σ ∧ lv_has ls 6 [(0, .ref (a 4 0)), (1, .int (nI r)), (2, .ref (a 2 0)), (3, .int (nI q)), (4, .int (nI k))]) ?_ ((4, 0, 0, σ)) ⟨hP, hS, (by omega), (by omega), ok0, okf0, rfl, (lv_sub hl [2, 3, 4, 1, 0] rfl)⟩
  rintro ⟨n, k, q, τ⟩ H locs ls ⟨hP, hS, hn, hq, ok, okf, hR, hl⟩ ih5
  refine lv_iload C0.hx C0.hb dX1_pickMattering_5 (lv_at hl 4 rfl) ?_
  refine lv_iconst (v := nI 4) C0.hx C0.hb dX1_pickMattering_7 (by decide) ?_
  refine x_join (α := Nat × xS) 69 (fun ⟨q, τ⟩ H' locs' ls => (va_P g.1 vwCl (xw NLX g a τ) H' ∧ va_S (xA NLX a s.heap.size) s.heap H' locs' ∧ q ≤ 4 ∧ (q, τ) = pkL r 4 0 0 σ) ∧ lv_has ls 6 [(0, .ref (a 4 0)), (1, .int (nI r)), (2, .ref (a 2 0)), (3, .int (nI q))]) (fun ⟨q, τ⟩ => []) ?_ (fun J69 => ?_)
  · rintro ⟨q, τ⟩ H locs ls ⟨⟨hP, hS, hq, hq2⟩, hl⟩
    have hR3 : flL r (4 - q) q τ = pkS σ r := by unfold pkS; rw [← hq2]
    refine lv_iload_n C0.hx C0.hb dX1_pickMattering_69 rfl (lv_at hl 3 rfl) ?_
    refine lv_istore (lv' := [(4, .int (nI q)), (0, .ref (a 4 0)), (1, .int (nI r)), (2, .ref (a 2 0)), (3, .int (nI q))]) C0.hx C0.hb dX1_pickMattering_70 hl (by decide) rfl (fun ls hl => ?_)
    refine x_loopW (α := Nat × Nat × xS) (fun u => u.1) (fun ⟨n, k, τ⟩ H locs ls => va_P g.1 vwCl (xw NLX g a τ) H ∧ va_S (xA NLX a s.heap.size) s.heap H locs ∧ k + n = 4 ∧ flL r n k τ = pkS σ r ∧ lv_has ls 6 [(0, .ref (a 4 0)), (1, .int (nI r)), (2, .ref (a 2 0)), (4, .int (nI k))]) ?_ ((4 - q, q, τ)) ⟨hP, hS, (by omega), hR3, (lv_sub hl [1, 2, 3, 0] rfl)⟩
    rintro ⟨n, k, τ⟩ H locs ls ⟨hP, hS, hn, hR, hl⟩ ih72
    refine lv_iload C0.hx C0.hb dX1_pickMattering_72 (lv_at hl 3 rfl) ?_
    refine lv_iconst (v := nI 4) C0.hx C0.hb dX1_pickMattering_74 (by decide) ?_
    refine x_icmp_ge (tgt := 94) C0.hx C0.hb (by omega) (by omega) dX1_pickMattering_75 (by decide) (fun c_1 => ?_) (fun c_1 => ?_)
    ·
      exact W.vret C0.hx C0.hb hr (fun t ht hW => ⟨⟨τ, rfl, (by rw [← hR, show n = 0 by omega]; rfl), x_end ht hP⟩, hS.F ht⟩) hS.2.2 dX1_pickMattering_94
    ·
      obtain ⟨n, rfl⟩ : ∃ z, n = z + 1 := ⟨n - 1, by omega⟩
      rw [flL] at hR
      refine lv_aload_n C0.hx C0.hb dX1_pickMattering_78 rfl (lv_at hl 0 rfl) ?_
      refine x_get C0 hP 4 (mX_n rfl) rfl rfl 1 (by decide) i_X1 k_0 rfl rfl dX1_pickMattering_79 ?_
      refine lv_iload_n C0.hx C0.hb dX1_pickMattering_82 rfl (lv_at hl 1 rfl) ?_
      refine x_aald C0 hP 17 r 60 25 (mX_n rfl) rfl (by omega) (by decide) dX1_pickMattering_83 ?_
      refine lv_iload C0.hx C0.hb dX1_pickMattering_84 (lv_at hl 3 rfl) ?_
      refine lv_iconst (v := -1) C0.hx C0.hb dX1_pickMattering_86 (by decide) ?_
      refine x_iast C0 hP hS 25 k 4 (v := -1) (mX25 (by omega)) (fun _ => rfl) (by omega) (by decide) dX1_pickMattering_87 (fun H locs hP hS => ?_)
      have hR2 : flL r n (k + 1) (up3 τ 25 r k (-1)) = pkS σ r := hR
      refine lv_iinc (v := nI (k + 1)) (lv' := [(4, .int (nI (k + 1))), (0, .ref (a 4 0)), (1, .int (nI r)), (2, .ref (a 2 0))]) C0.hx C0.hb dX1_pickMattering_88 hl (k := 3) rfl (nI_1 k) (by decide) rfl (fun ls hl => ?_)
      refine lv_goto (tgt := 72) C0.hx C0.hb dX1_pickMattering_91 (by decide) ?_
      exact ih72 ((n, k + 1, up3 τ 25 r k (-1))) H locs ls ⟨hP, hS, (by omega), hR2, (lv_sub hl [1, 2, 3, 0] rfl)⟩ (Nat.lt_succ_self _)
  ·
    refine x_icmp_ge (tgt := 69) C0.hx C0.hb (by omega) (by omega) dX1_pickMattering_8 (by decide) (fun c_2 => ?_) (fun c_2 => ?_)
    ·
      have hR1 : (q, τ) = pkL r 4 0 0 σ := by rw [← hR, show n = 0 by omega]; rfl
      exact J69 (q, τ) _ _ ls ⟨⟨hP, hS, hq, hR1⟩, (lv_sub hl [0, 1, 2, 3] rfl)⟩
    ·
      refine lv_iload_n C0.hx C0.hb dX1_pickMattering_11 rfl (lv_at hl 3 rfl) ?_
      refine lv_aload_n C0.hx C0.hb dX1_pickMattering_12 rfl (lv_at hl 2 rfl) ?_
      refine x_getN C0 hP 2 (mX_n rfl) rfl rfl 2 (by decide) i_X3 q_2 rfl rfl dX1_pickMattering_13 ?_
      obtain ⟨e_3, b_4⟩ := (ok.dep : inR (τ 2 0 0) _)
      refine x_top e_3 ?_
      refine x_icmp_ge (tgt := 69) C0.hx C0.hb (by omega) (by omega) dX1_pickMattering_16 (by decide) (fun c_5 => ?_) (fun c_5 => ?_)
      ·
        obtain ⟨n, rfl⟩ : ∃ z, n = z + 1 := ⟨n - 1, by omega⟩
        have hR1 : (q, τ) = pkL r 4 0 0 σ := by rw [← hR, pkL, if_pos c_5]
        exact J69 (q, τ) _ _ ls ⟨⟨hP, hS, hq, hR1⟩, (lv_sub hl [0, 1, 2, 3] rfl)⟩
      ·
        obtain ⟨n, rfl⟩ : ∃ z, n = z + 1 := ⟨n - 1, by omega⟩
        rw [pkL, if_neg (by omega)] at hR
        refine lv_aload_n C0.hx C0.hb dX1_pickMattering_19 rfl (lv_at hl 0 rfl) ?_
        refine x_get C0 hP 4 (mX_n rfl) rfl rfl 0 (by decide) i_X1 k_4 rfl rfl dX1_pickMattering_20 ?_
        refine lv_iload_n C0.hx C0.hb dX1_pickMattering_23 rfl (lv_at hl 1 rfl) ?_
        refine x_aald C0 hP 16 r 60 24 (mX_n rfl) rfl (by omega) (by decide) dX1_pickMattering_24 ?_
        refine lv_iload C0.hx C0.hb dX1_pickMattering_25 (lv_at hl 4 rfl) ?_
        refine x_iald C0 hP 24 k 4 (mX24 (by omega)) rfl (by omega) (by decide) dX1_pickMattering_27 ?_
        refine lv_istore (lv' := [(5, .int (τ 24 r k)), (0, .ref (a 4 0)), (1, .int (nI r)), (2, .ref (a 2 0)), (3, .int (nI q)), (4, .int (nI k))]) C0.hx C0.hb dX1_pickMattering_28 hl (by decide) rfl (fun ls hl => ?_)
        refine x_join (α := Nat × xS) 63 (fun ⟨q', τ'⟩ H' locs' ls => (va_P g.1 vwCl (xw NLX g a τ') H' ∧ va_S (xA NLX a s.heap.size) s.heap H' locs' ∧ q' ≤ 4 ∧ okX τ' ∧ okF τ' ∧ pkL r n (k + 1) q' τ' = pkL r 4 0 0 σ) ∧ lv_has ls 6 [(0, .ref (a 4 0)), (1, .int (nI r)), (2, .ref (a 2 0)), (4, .int (nI k)), (3, .int (nI q'))]) (fun ⟨q', τ'⟩ => []) ?_ (fun J63 => ?_)
        · rintro ⟨q', τ'⟩ H locs ls ⟨⟨hP, hS, hq', ok', okf', hR2⟩, hl⟩
          refine lv_iinc (v := nI (k + 1)) (lv' := [(4, .int (nI (k + 1))), (0, .ref (a 4 0)), (1, .int (nI r)), (2, .ref (a 2 0)), (3, .int (nI q'))]) C0.hx C0.hb dX1_pickMattering_63 hl (k := 3) rfl (nI_1 k) (by decide) rfl (fun ls hl => ?_)
          refine lv_goto (tgt := 5) C0.hx C0.hb dX1_pickMattering_66 (by decide) ?_
          exact ih5 ((n, k + 1, q', τ')) H locs ls ⟨hP, hS, (by omega), (by omega), ok', okf', hR2, (lv_sub hl [1, 2, 3, 4, 0] rfl)⟩ (Nat.lt_succ_self _)
        ·
          refine lv_iload C0.hx C0.hb dX1_pickMattering_30 (lv_at hl 0 rfl) ?_
          refine lv_iconst (v := -1) C0.hx C0.hb dX1_pickMattering_32 (by decide) ?_
          refine lv_icmp_eq (tgt := 63) C0.hx C0.hb dX1_pickMattering_33 (by decide) (fun c_6 => ?_) (fun c_6 => ?_)
          ·
            have hR2 : pkL r n (k + 1) q τ = pkL r 4 0 0 σ := by rw [← hR, if_pos c_6]
            exact J63 (q, τ) _ _ ls ⟨⟨hP, hS, (by omega), ok, okf, hR2⟩, (lv_sub hl [1, 2, 3, 5, 4] rfl)⟩
          ·
            rw [if_neg c_6] at hR
            obtain ⟨e33, b33⟩ := (okf r hr0 k (by omega)).resolve_left c_6
            refine lv_aload_n C0.hx C0.hb dX1_pickMattering_36 rfl (lv_at hl 3 rfl) ?_
            refine x_getN C0 hP 2 (mX_n rfl) rfl rfl 0 (by decide) i_X3 q_5 rfl rfl dX1_pickMattering_37 ?_
            refine lv_iload C0.hx C0.hb dX1_pickMattering_40 (lv_at hl 0 rfl) ?_
            refine x_top e33 ?_
            refine x_zald C0 hP 10 (nv (τ 24 r k)) 30 (mX_n rfl) rfl (by omega) (by decide) dX1_pickMattering_42 ?_
            refine lv_if_ne (tgt := 63) C0.hx C0.hb dX1_pickMattering_43 (by decide) (fun c_7 => ?_) (fun c_7 => ?_)
            ·
              have hR2 : pkL r n (k + 1) q τ = pkL r 4 0 0 σ := by rw [← hR, if_pos c_7]
              exact J63 (q, τ) _ _ ls ⟨⟨hP, hS, (by omega), ok, okf, hR2⟩, (lv_sub hl [1, 2, 3, 5, 4] rfl)⟩
            ·
              rw [if_neg (fun z => z c_7)] at hR
              refine lv_aload_n C0.hx C0.hb dX1_pickMattering_46 rfl (lv_at hl 1 rfl) ?_
              refine x_get C0 hP 4 (mX_n rfl) rfl rfl 1 (by decide) i_X1 k_0 rfl rfl dX1_pickMattering_47 ?_
              refine lv_iload_n C0.hx C0.hb dX1_pickMattering_50 rfl (lv_at hl 2 rfl) ?_
              refine x_aald C0 hP 17 r 60 25 (mX_n rfl) rfl (by omega) (by decide) dX1_pickMattering_51 ?_
              refine lv_iload_n C0.hx C0.hb dX1_pickMattering_52 rfl (lv_at hl 4 rfl) ?_
              refine lv_aload_n C0.hx C0.hb dX1_pickMattering_53 rfl (lv_at hl 3 rfl) ?_
              refine lv_iload C0.hx C0.hb dX1_pickMattering_54 (lv_at hl 0 rfl) ?_
              refine x_top e33 ?_
              refine x_VNi (As := [.int (nI (nv (τ 24 r k)))]) (rest := [.int (nI q), .ref (a 25 r)]) C0 (mtX3_inTheEnd l g a τ (nv (τ 24 r k)) (by omega) ok) hP C0.2.2.2.1 (va_cnB 1 C0.hts gX1_pickMattering_X3_inTheEnd_n69 rfl rfl rfl (C0.2.2.1.2 _ m_6) (C0.hts _ k_7) (by decide +kernel) ⟨Nat.le_of_ble_eq_true rfl, Nat.le_of_ble_eq_true rfl⟩) (C0.hts _ k_8) (C0.hts _ k_9) (x_recv C0 hP 2 (mX_n rfl) rfl rfl) rfl hl rfl (Nat.le_of_ble_eq_true rfl) (Nat.zero_le _) (Nat.zero_le _) dX1_pickMattering_56 ?_
              refine x_iast C0 hP hS 25 q 4 (v := nI (ieA τ 30 (nv (τ 24 r k)))) (mX25 (by omega)) (fun _ => rfl) (by omega) (by decide) dX1_pickMattering_59 (fun H locs hP hS => ?_)
              have hR2 : pkL r n (k + 1) (q + 1) (up3 τ 25 r q (nI (ieA τ 30 (nv (τ 24 r k))))) = pkL r 4 0 0 σ := hR
              refine lv_iinc (v := nI (q + 1)) (lv' := [(3, .int (nI (q + 1))), (5, .int (τ 24 r k)), (0, .ref (a 4 0)), (1, .int (nI r)), (2, .ref (a 2 0)), (4, .int (nI k))]) C0.hx C0.hb dX1_pickMattering_60 hl (k := 4) rfl (nI_1 q) (by decide) rfl (fun ls hl => ?_)
              exact J63 (q + 1, up3 τ 25 r q (nI (ieA τ 30 (nv (τ 24 r k))))) _ _ ls ⟨⟨hP, hS, (by omega), (ok.ne (fun t i j h => up3_ne (fun z => bT_ne h (u := 25) rfl z.1))), (okf.ne (fun i j => up3_ne (fun z => absurd z.1 (by decide)))), hR2⟩, (lv_sub hl [2, 3, 4, 5, 0] rfl)⟩

set_option maxHeartbeats 4000000 in
set_option maxRecDepth 100000 in
theorem mtX1_signatureOf (l : Launch) (g : xG) (a : xAd) (σ : xS) (r : Nat) (hr0 : r < 60) : xMi l yX1_signatureOf wsX1_signatureOf ({ frames := 0, cells := 0, slots := 0, locals := 0 }) NLX g a σ [.ref (a 4 0), .int (nI r), .ref (a 3 0)] (sgX σ r) := by
  unfold xMi
  refine Met.ofW (cc := cX1_signatureOf) (maxL := 5) (ret := (some .int)) (by decide) rfl ?_
  intro p e s m args below meth c s₁ B hml hv
  obtain ⟨rfl, hP, hK, hN, hj⟩ := hv
  have hr := B.returns
  have hlocks := B.notSynchronized
  have C0 : xC p s m _ c cX1_signatureOf 5 wsX1_signatureOf RX1 NLX g a (xA NLX a s.heap.size) := ⟨⟨B.exec, B.bytes, hml, findClass_of_methodNamed B.named, atoms_spec (ws := wsX1_signatureOf) B.pre⟩, hK, hN, hj, fun n h => Or.inl ⟨n, h, rfl⟩, fun q h => Or.inr h⟩
  have hS : va_S (xA NLX a s.heap.size) s.heap s.heap [] := va_S.rf
  have hl := lv_entry ([.ref (a 4 0), .int (nI r), .ref (a 3 0)]) (n := 5) (Nat.le_of_ble_eq_true rfl)
  rw [lg_entry_eq]
  generalize (lg_sl ([.ref (a 4 0), .int (nI r), .ref (a 3 0)]) ++ List.replicate (5 - (lg_sl ([.ref (a 4 0), .int (nI r), .ref (a 3 0)])).length) Slot.unset).toArray = ls at hl ⊢
  have hl : lv_has ls 5 [(0, .ref (a 4 0)), (1, .int (nI r)), (2, .ref (a 3 0))] := hl
  have q_0 : Cond.fieldLinkNest RX1 32 RX2 (TX2 1).2.1 (TX2 1).2.2.1 RX4 ∈ xNs := by decide +kernel
  have i_X2 : ∀ w ∈ wsX20, w ∈ wsX1_signatureOf := by decide +kernel
  have q_2 : Cond.fieldLinkNest RX1 39 RX2 (TX2 3).2.1 (TX2 3).2.2.1 RX4 ∈ xNs := by decide +kernel
  have k_3 : Cond.fieldLink RX1 16 RX1 (TX1 1).2.1 (TX1 1).2.2.1 ∈ wsX1_signatureOf := by decide +kernel
  have i_X1 : ∀ w ∈ wsX10, w ∈ wsX1_signatureOf := by decide +kernel
  refine lv_iconst (v := nI 0) C0.hx C0.hb dX1_signatureOf_0 (by decide) ?_
  refine lv_istore_n (lv' := [(3, .int (nI 0)), (0, .ref (a 4 0)), (1, .int (nI r)), (2, .ref (a 3 0))]) C0.hx C0.hb dX1_signatureOf_1 rfl hl (by decide) rfl (fun ls hl => ?_)
  refine lv_iconst (v := nI 0) C0.hx C0.hb dX1_signatureOf_2 (by decide) ?_
  refine lv_istore (lv' := [(4, .int (nI 0)), (3, .int (nI 0)), (0, .ref (a 4 0)), (1, .int (nI r)), (2, .ref (a 3 0))]) C0.hx C0.hb dX1_signatureOf_3 hl (by decide) rfl (fun ls hl => ?_)
  refine x_loopR (α := Nat) (fun k => 4 - k) (fun k ls => k ≤ 4 ∧ lv_has ls 5 [(0, .ref (a 4 0)), (1, .int (nI r)), (2, .ref (a 3 0)), (3, .int (sgL σ r k)), (4, .int (nI k))]) ?_ 0 ⟨(by omega), (lv_sub hl [2, 3, 4, 1, 0] rfl)⟩
  rintro k ls ⟨h5_0, hl⟩ ih5
  have h5 := h5_0
  refine lv_iload C0.hx C0.hb dX1_signatureOf_5 (lv_at hl 4 rfl) ?_
  refine lv_iconst (v := nI 4) C0.hx C0.hb dX1_signatureOf_7 (by decide) ?_
  refine x_icmp_ge (tgt := 34) C0.hx C0.hb (by omega) (by omega) dX1_signatureOf_8 (by decide) (fun c_1 => ?_) (fun c_1 => ?_)
  ·
    obtain rfl : k = 4 := by omega
    have hl := lv_sub (l' := [(0, .ref (a 4 0)), (1, .int (nI r)), (2, .ref (a 3 0)), (3, .int (sgL σ r 4))]) hl [0, 1, 2, 3] rfl
    refine lv_iload_n C0.hx C0.hb dX1_signatureOf_34 rfl (lv_at hl 3 rfl) ?_
    refine lv_if_le (tgt := 40) C0.hx C0.hb dX1_signatureOf_35 (by decide) (fun c_2 => ?_) (fun c_2 => ?_)
    ·
      refine lv_iconst (v := -1) C0.hx C0.hb dX1_signatureOf_40 (by decide) ?_
      refine lv_aload_n C0.hx C0.hb dX1_signatureOf_41 rfl (lv_at hl 2 rfl) ?_
      refine x_getN C0 hP 3 (mX_n rfl) rfl rfl 1 (by decide) i_X2 q_0 rfl rfl dX1_signatureOf_42 ?_
      refine lv_iload_n C0.hx C0.hb dX1_signatureOf_45 rfl (lv_at hl 1 rfl) ?_
      refine x_iald C0 hP 12 r 60 (mX_n rfl) rfl (by omega) (by decide) dX1_signatureOf_46 ?_
      refine lv_sipush (v := nI 10000) C0.hx C0.hb dX1_signatureOf_47 (by decide) ?_
      refine lv_imul C0.hx C0.hb dX1_signatureOf_50 ?_
      refine lv_isub C0.hx C0.hb dX1_signatureOf_51 ?_
      refine lv_aload_n C0.hx C0.hb dX1_signatureOf_52 rfl (lv_at hl 2 rfl) ?_
      refine x_getN C0 hP 3 (mX_n rfl) rfl rfl 3 (by decide) i_X2 q_2 rfl rfl dX1_signatureOf_53 ?_
      refine lv_iload_n C0.hx C0.hb dX1_signatureOf_56 rfl (lv_at hl 1 rfl) ?_
      refine x_aald C0 hP 14 r 60 23 (mX_n rfl) rfl (by omega) (by decide) dX1_signatureOf_57 ?_
      refine lv_iconst (v := nI 0) C0.hx C0.hb dX1_signatureOf_58 (by decide) ?_
      refine x_iald C0 hP 23 0 4 (mX23 (by omega)) rfl (by omega) (by decide) dX1_signatureOf_59 ?_
      refine lv_isub C0.hx C0.hb dX1_signatureOf_60 ?_
      exact W.iret (v := ((-1) - ((σ 12 0 r) * (nI 10000))) - (σ 23 r 0)) C0.hx C0.hb hr (fun t ht hW => ⟨_, rfl, (by unfold sgX; rw [if_pos c_2]; rfl), ht⟩) (fun q h => nomatch h) dX1_signatureOf_61
    ·
      refine lv_iload_n C0.hx C0.hb dX1_signatureOf_38 rfl (lv_at hl 3 rfl) ?_
      exact W.iret (v := sgL σ r 4) C0.hx C0.hb hr (fun t ht hW => ⟨_, rfl, (by unfold sgX; rw [if_neg c_2]), ht⟩) (fun q h => nomatch h) dX1_signatureOf_39
  ·
    refine lv_iload_n C0.hx C0.hb dX1_signatureOf_11 rfl (lv_at hl 3 rfl) ?_
    refine lv_bipush (v := nI 31) C0.hx C0.hb dX1_signatureOf_12 (by decide) ?_
    refine lv_imul C0.hx C0.hb dX1_signatureOf_14 ?_
    refine lv_aload_n C0.hx C0.hb dX1_signatureOf_15 rfl (lv_at hl 0 rfl) ?_
    refine x_get C0 hP 4 (mX_n rfl) rfl rfl 1 (by decide) i_X1 k_3 rfl rfl dX1_signatureOf_16 ?_
    refine lv_iload_n C0.hx C0.hb dX1_signatureOf_19 rfl (lv_at hl 1 rfl) ?_
    refine x_aald C0 hP 17 r 60 25 (mX_n rfl) rfl (by omega) (by decide) dX1_signatureOf_20 ?_
    refine lv_iload C0.hx C0.hb dX1_signatureOf_21 (lv_at hl 4 rfl) ?_
    refine x_iald C0 hP 25 k 4 (mX25 (by omega)) rfl (by omega) (by decide) dX1_signatureOf_23 ?_
    refine lv_iadd C0.hx C0.hb dX1_signatureOf_24 ?_
    refine lv_iconst (v := nI 1) C0.hx C0.hb dX1_signatureOf_25 (by decide) ?_
    refine lv_iadd C0.hx C0.hb dX1_signatureOf_26 ?_
    refine lv_istore_n (lv' := [(3, .int ((((sgL σ r k) * (nI 31)) + (σ 25 r k)) + (nI 1))), (0, .ref (a 4 0)), (1, .int (nI r)), (2, .ref (a 3 0)), (4, .int (nI k))]) C0.hx C0.hb dX1_signatureOf_27 rfl hl (by decide) rfl (fun ls hl => ?_)
    refine lv_iinc (v := nI (k + 1)) (lv' := [(4, .int (nI (k + 1))), (3, .int ((((sgL σ r k) * (nI 31)) + (σ 25 r k)) + (nI 1))), (0, .ref (a 4 0)), (1, .int (nI r)), (2, .ref (a 3 0))]) C0.hx C0.hb dX1_signatureOf_28 hl (k := 4) rfl (nI_1 k) (by decide) rfl (fun ls hl => ?_)
    refine lv_goto (tgt := 5) C0.hx C0.hb dX1_signatureOf_31 (by decide) ?_
    exact ih5 ((k + 1)) ls ⟨(by omega), (lv_sub hl [2, 3, 4, 1, 0] rfl)⟩ (by omega)

set_option maxHeartbeats 4000000 in
set_option maxRecDepth 100000 in
theorem mtX1_sort (l : Launch) (g : xG) (a : xAd) (σ : xS) (r : Nat) (hr0 : r < 60) (ok : okX σ) (okf : okF σ) : xMv l yX1_sort wsX1_sort ({ frames := 2, cells := 0, slots := 0, locals := 48 }) NLX g a σ [.ref (a 4 0), .int (nI r), .ref (a 3 0), .ref (a 2 0)] (soS σ r) := by
  intro sz
  refine Met.ofW (cc := cX1_sort) (maxL := 5) (ret := none) (by decide) rfl ?_
  intro p e s m args below meth c s₁ B hml hv
  obtain ⟨rfl, hsz, hP, hK, hN, hj⟩ := hv
  subst hsz
  have hr := B.returns
  have hlocks := B.notSynchronized
  have C0 : xC p s m _ c cX1_sort 5 wsX1_sort RX1 NLX g a (xA NLX a s.heap.size) := ⟨⟨B.exec, B.bytes, hml, findClass_of_methodNamed B.named, atoms_spec (ws := wsX1_sort) B.pre⟩, hK, hN, hj, fun n h => Or.inl ⟨n, h, rfl⟩, fun q h => Or.inr h⟩
  have hS : va_S (xA NLX a s.heap.size) s.heap s.heap [] := va_S.rf
  have hl := lv_entry ([.ref (a 4 0), .int (nI r), .ref (a 3 0), .ref (a 2 0)]) (n := 5) (Nat.le_of_ble_eq_true rfl)
  rw [lg_entry_eq]
  generalize (lg_sl ([.ref (a 4 0), .int (nI r), .ref (a 3 0), .ref (a 2 0)]) ++ List.replicate (5 - (lg_sl ([.ref (a 4 0), .int (nI r), .ref (a 3 0), .ref (a 2 0)])).length) Slot.unset).toArray = ls at hl ⊢
  have hl : lv_has ls 5 [(0, .ref (a 4 0)), (1, .int (nI r)), (2, .ref (a 3 0)), (3, .ref (a 2 0))] := hl
  have k_0 : Cond.fieldLink RX1 19 RX1 (TX1 2).2.1 (TX1 2).2.2.1 ∈ wsX1_sort := by decide +kernel
  have i_X1 : ∀ w ∈ wsX10, w ∈ wsX1_sort := by decide +kernel
  have k_2 : Cond.fieldLink RX1 23 RX1 (TX1 3).2.1 (TX1 3).2.2.1 ∈ wsX1_sort := by decide +kernel
  refine lv_aload_n C0.hx C0.hb dX1_sort_0 rfl (lv_at hl 0 rfl) ?_
  refine lv_iload_n C0.hx C0.hb dX1_sort_1 rfl (lv_at hl 1 rfl) ?_
  refine lv_aload_n C0.hx C0.hb dX1_sort_2 rfl (lv_at hl 3 rfl) ?_
  refine x_Vv (As := [.int (nI r), .ref (a 2 0)]) (rest := []) C0 (mtX1_pickMattering l g a σ r (by omega) ok okf) hP hS (cwV 2 C0.hts gX1_sort_X1_pickMattering rfl rfl rfl (by decide +kernel) ⟨Nat.le_of_ble_eq_true rfl, Nat.le_of_ble_eq_true rfl⟩) (x_recv C0 hP 4 (mX_n rfl) rfl rfl) rfl hl rfl (Nat.le_of_ble_eq_true rfl) (Nat.zero_le _) (Nat.zero_le _) dX1_sort_3 (fun H locs hP hS => ?_)
  refine lv_aload_n C0.hx C0.hb dX1_sort_6 rfl (lv_at hl 0 rfl) ?_
  refine x_get C0 hP 4 (mX_n rfl) rfl rfl 2 (by decide) i_X1 k_0 rfl rfl dX1_sort_7 ?_
  refine lv_iload_n C0.hx C0.hb dX1_sort_10 rfl (lv_at hl 1 rfl) ?_
  refine lv_aload_n C0.hx C0.hb dX1_sort_11 rfl (lv_at hl 0 rfl) ?_
  refine lv_iload_n C0.hx C0.hb dX1_sort_12 rfl (lv_at hl 1 rfl) ?_
  refine lv_aload_n C0.hx C0.hb dX1_sort_13 rfl (lv_at hl 2 rfl) ?_
  refine x_Vi (As := [.int (nI r), .ref (a 3 0)]) (rest := [.int (nI r), .ref (a 18 0)]) C0 (mtX1_signatureOf l g a (pkS σ r) r (by omega)) hP C0.2.2.2.1 (cwV 2 C0.hts gX1_sort_X1_signatureOf rfl rfl rfl (by decide +kernel) ⟨Nat.le_of_ble_eq_true rfl, Nat.le_of_ble_eq_true rfl⟩) (x_recv C0 hP 4 (mX_n rfl) rfl rfl) rfl hl rfl (Nat.le_of_ble_eq_true rfl) (Nat.zero_le _) (Nat.zero_le _) dX1_sort_14 ?_
  refine x_iast C0 hP hS 18 r 60 (v := sgX (pkS σ r) r) (mX_n rfl) (fun _ => rfl) (by omega) (by decide) dX1_sort_17 (fun H locs hP hS => ?_)
  obtain ⟨υ, hυ⟩ : ∃ z : xS, z = up3 (pkS σ r) 18 0 r (sgX (pkS σ r) r) := ⟨_, rfl⟩
  rw [← hυ] at hP
  refine lv_iconst (v := nI 0) C0.hx C0.hb dX1_sort_18 (by decide) ?_
  refine lv_istore (lv' := [(4, .int (nI 0)), (0, .ref (a 4 0)), (1, .int (nI r)), (2, .ref (a 3 0)), (3, .ref (a 2 0))]) C0.hx C0.hb dX1_sort_19 hl (by decide) rfl (fun ls hl => ?_)
  refine x_loopR (α := Nat × Nat) (fun u => u.1) (fun ⟨n, k⟩ ls => k + n = r ∧ nmA υ r n k = nmA υ r r 0 ∧ lv_has ls 5 [(0, .ref (a 4 0)), (1, .int (nI r)), (2, .ref (a 3 0)), (3, .ref (a 2 0)), (4, .int (nI k))]) ?_ ((r, 0)) ⟨(by omega), rfl, (lv_sub hl [1, 2, 3, 4, 0] rfl)⟩
  rintro ⟨n, k⟩ ls ⟨h21_0, h21_1, hl⟩ ih21
  refine lv_iload C0.hx C0.hb dX1_sort_21 (lv_at hl 4 rfl) ?_
  refine lv_iload_n C0.hx C0.hb dX1_sort_23 rfl (lv_at hl 1 rfl) ?_
  refine x_join (α := Unit) 49 (fun _ H' locs' ls => (H' = H ∧ locs' = locs ∧ k = nmA υ r r 0) ∧ lv_has ls 5 [(0, .ref (a 4 0)), (1, .int (nI r)), (2, .ref (a 3 0)), (3, .ref (a 2 0)), (4, .int (nI k))]) (fun _ => []) ?_ (fun J49 => ?_)
  · rintro _ _ _ ls ⟨⟨rfl, rfl, hj49_0⟩, hl⟩
    refine lv_aload_n C0.hx C0.hb dX1_sort_49 rfl (lv_at hl 0 rfl) ?_
    refine x_get C0 hP 4 (mX_n rfl) rfl rfl 3 (by decide) i_X1 k_2 rfl rfl dX1_sort_50 ?_
    refine lv_iload_n C0.hx C0.hb dX1_sort_53 rfl (lv_at hl 1 rfl) ?_
    refine lv_iload C0.hx C0.hb dX1_sort_54 (lv_at hl 4 rfl) ?_
    refine x_iast C0 hP hS 19 r 60 (v := nI k) (mX_n rfl) (fun _ => rfl) (by omega) (by decide) dX1_sort_56 (fun H locs hP hS => ?_)
    exact W.vret C0.hx C0.hb hr (fun t ht hW => ⟨⟨up3 υ 19 0 r (nI k), rfl, (by rw [hj49_0, hυ]; rfl), x_end ht hP⟩, hS.F ht⟩) hS.2.2 dX1_sort_57
  ·
    refine x_icmp_ge (tgt := 49) C0.hx C0.hb (by omega) (by omega) dX1_sort_24 (by decide) (fun c_1 => ?_) (fun c_1 => ?_)
    ·
      have hR : k = nmA υ r r 0 := by rw [← h21_1, show n = 0 by omega]; rfl
      exact J49 () _ _ ls ⟨⟨rfl, rfl, hR⟩, (lv_sub hl [0, 1, 2, 3, 4] rfl)⟩
    ·
      refine lv_aload_n C0.hx C0.hb dX1_sort_27 rfl (lv_at hl 0 rfl) ?_
      refine x_get C0 hP 4 (mX_n rfl) rfl rfl 2 (by decide) i_X1 k_0 rfl rfl dX1_sort_28 ?_
      refine lv_iload C0.hx C0.hb dX1_sort_31 (lv_at hl 4 rfl) ?_
      refine x_iald C0 hP 18 k 60 (mX_n rfl) rfl (by omega) (by decide) dX1_sort_33 ?_
      refine lv_aload_n C0.hx C0.hb dX1_sort_34 rfl (lv_at hl 0 rfl) ?_
      refine x_get C0 hP 4 (mX_n rfl) rfl rfl 2 (by decide) i_X1 k_0 rfl rfl dX1_sort_35 ?_
      refine lv_iload_n C0.hx C0.hb dX1_sort_38 rfl (lv_at hl 1 rfl) ?_
      refine x_iald C0 hP 18 r 60 (mX_n rfl) rfl (by omega) (by decide) dX1_sort_39 ?_
      refine lv_icmp_eq (tgt := 49) C0.hx C0.hb dX1_sort_40 (by decide) (fun c_2 => ?_) (fun c_2 => ?_)
      ·
        have hR : k = nmA υ r r 0 := by rw [← h21_1]; obtain ⟨n, rfl⟩ : ∃ z, n = z + 1 := ⟨n - 1, by omega⟩; rw [nmA, if_pos c_2]
        exact J49 () _ _ ls ⟨⟨rfl, rfl, hR⟩, (lv_sub hl [0, 1, 2, 3, 4] rfl)⟩
      ·
        obtain ⟨n, rfl⟩ : ∃ z, n = z + 1 := ⟨n - 1, by omega⟩
        have hR : nmA υ r n (k + 1) = nmA υ r r 0 := by rw [← h21_1, nmA, if_neg c_2]
        refine lv_iinc (v := nI (k + 1)) (lv' := [(4, .int (nI (k + 1))), (0, .ref (a 4 0)), (1, .int (nI r)), (2, .ref (a 3 0)), (3, .ref (a 2 0))]) C0.hx C0.hb dX1_sort_43 hl (k := 4) rfl (nI_1 k) (by decide) rfl (fun ls hl => ?_)
        refine lv_goto (tgt := 21) C0.hx C0.hb dX1_sort_46 (by decide) ?_
        exact ih21 ((n, k + 1)) ls ⟨(by omega), hR, (lv_sub hl [1, 2, 3, 4, 0] rfl)⟩ (Nat.lt_succ_self _)

set_option maxHeartbeats 4000000 in
set_option maxRecDepth 100000 in
theorem mtX1_sortAll (l : Launch) (g : xG) (a : xAd) (σ : xS) (ok : okX σ) (okf : okF σ) : xMv l yX1_sortAll wsX1_sortAll ({ frames := 3, cells := 0, slots := 0, locals := 72 }) NLX g a σ [.ref (a 4 0), .ref (a 3 0), .ref (a 2 0)] (saS σ) := by
  intro sz
  refine Met.ofW (cc := cX1_sortAll) (maxL := 4) (ret := none) (by decide) rfl ?_
  intro p e s m args below meth c s₁ B hml hv
  obtain ⟨rfl, hsz, hP, hK, hN, hj⟩ := hv
  subst hsz
  have hr := B.returns
  have hlocks := B.notSynchronized
  have C0 : xC p s m _ c cX1_sortAll 4 wsX1_sortAll RX1 NLX g a (xA NLX a s.heap.size) := ⟨⟨B.exec, B.bytes, hml, findClass_of_methodNamed B.named, atoms_spec (ws := wsX1_sortAll) B.pre⟩, hK, hN, hj, fun n h => Or.inl ⟨n, h, rfl⟩, fun q h => Or.inr h⟩
  have hS : va_S (xA NLX a s.heap.size) s.heap s.heap [] := va_S.rf
  have hl := lv_entry ([.ref (a 4 0), .ref (a 3 0), .ref (a 2 0)]) (n := 4) (Nat.le_of_ble_eq_true rfl)
  rw [lg_entry_eq]
  generalize (lg_sl ([.ref (a 4 0), .ref (a 3 0), .ref (a 2 0)]) ++ List.replicate (4 - (lg_sl ([.ref (a 4 0), .ref (a 3 0), .ref (a 2 0)])).length) Slot.unset).toArray = ls at hl ⊢
  have hl : lv_has ls 4 [(0, .ref (a 4 0)), (1, .ref (a 3 0)), (2, .ref (a 2 0))] := hl
  have q_0 : Cond.fieldLinkNest RX1 26 RX2 (TX2 0).2.1 (TX2 0).2.2.1 RX4 ∈ xNs := by decide +kernel
  have i_X2 : ∀ w ∈ wsX20, w ∈ wsX1_sortAll := by decide +kernel
  refine lv_iconst (v := nI 0) C0.hx C0.hb dX1_sortAll_0 (by decide) ?_
  refine lv_istore_n (lv' := [(3, .int (nI 0)), (0, .ref (a 4 0)), (1, .ref (a 3 0)), (2, .ref (a 2 0))]) C0.hx C0.hb dX1_sortAll_1 rfl hl (by decide) rfl (fun ls hl => ?_)
  refine x_loopW (α := Nat) (fun k => 60 - k) (fun k H locs ls => va_P g.1 vwCl (xw NLX g a (saL σ k)) H ∧ va_S (xA NLX a s.heap.size) s.heap H locs ∧ k ≤ nv (σ 3 0 0) ∧ lv_has ls 4 [(0, .ref (a 4 0)), (1, .ref (a 3 0)), (2, .ref (a 2 0)), (3, .int (nI k))]) ?_ 0 ⟨hP, hS, (by omega), (lv_sub hl [1, 2, 3, 0] rfl)⟩
  rintro k H locs ls ⟨hP, hS, h2_0, hl⟩ ih2
  have ok1 : okX (saL σ k) := saL_ok ok
  have okf1 : okF (saL σ k) := saL_okF okf
  have on : saL σ k 3 0 0 = nI (nv (σ 3 0 0)) := (saL_ne k 3 0 0 rfl).trans ok.n.1
  have hn := ok.n.2
  refine lv_iload_n C0.hx C0.hb dX1_sortAll_2 rfl (lv_at hl 3 rfl) ?_
  refine lv_aload_n C0.hx C0.hb dX1_sortAll_3 rfl (lv_at hl 1 rfl) ?_
  refine x_getN C0 hP 3 (mX_n rfl) rfl rfl 0 (by decide) i_X2 q_0 rfl rfl dX1_sortAll_4 ?_
  refine x_top on ?_
  refine x_icmp_ge (tgt := 23) C0.hx C0.hb (by omega) (by omega) dX1_sortAll_7 (by decide) (fun c_1 => ?_) (fun c_1 => ?_)
  ·
    exact W.vret C0.hx C0.hb hr (fun t ht hW => ⟨⟨saL σ k, rfl, (by rw [show k = nv (σ 3 0 0) by omega]; rfl), x_end ht hP⟩, hS.F ht⟩) hS.2.2 dX1_sortAll_23
  ·
    refine lv_aload_n C0.hx C0.hb dX1_sortAll_10 rfl (lv_at hl 0 rfl) ?_
    refine lv_iload_n C0.hx C0.hb dX1_sortAll_11 rfl (lv_at hl 3 rfl) ?_
    refine lv_aload_n C0.hx C0.hb dX1_sortAll_12 rfl (lv_at hl 1 rfl) ?_
    refine lv_aload_n C0.hx C0.hb dX1_sortAll_13 rfl (lv_at hl 2 rfl) ?_
    refine x_Vv (As := [.int (nI k), .ref (a 3 0), .ref (a 2 0)]) (rest := []) C0 (mtX1_sort l g a (saL σ k) k (by omega) ok1 okf1) hP hS (cwV 3 C0.hts gX1_sortAll_X1_sort rfl rfl rfl (by decide +kernel) ⟨Nat.le_of_ble_eq_true rfl, Nat.le_of_ble_eq_true rfl⟩) (x_recv C0 hP 4 (mX_n rfl) rfl rfl) rfl hl rfl (Nat.le_of_ble_eq_true rfl) (Nat.zero_le _) (Nat.zero_le _) dX1_sortAll_14 (fun H locs hP hS => ?_)
    refine lv_iinc (v := nI (k + 1)) (lv' := [(3, .int (nI (k + 1))), (0, .ref (a 4 0)), (1, .ref (a 3 0)), (2, .ref (a 2 0))]) C0.hx C0.hb dX1_sortAll_17 hl (k := 3) rfl (nI_1 k) (by decide) rfl (fun ls hl => ?_)
    refine lv_goto (tgt := 2) C0.hx C0.hb dX1_sortAll_20 (by decide) ?_
    exact ih2 ((k + 1)) H locs ls ⟨hP, hS, (by omega), (lv_sub hl [1, 2, 3, 0] rfl)⟩ (by omega)

set_option maxHeartbeats 4000000 in
set_option maxRecDepth 100000 in
theorem mtX0_isFull (l : Launch) (g : xG) (a : xAd) (σ : xS) (v : Nat) (hv : v < 4) (ok : okX σ) : xMi l yX0_isFull wsX0_isFull ({ frames := 0, cells := 0, slots := 0, locals := 0 }) NLX g a σ [.ref (a 1 0), .int (nI v)] (bI (decide (30 ≤ nv (σ 6 0 v)))) := by
  unfold xMi
  refine Met.ofW (cc := cX0_isFull) (maxL := 2) (ret := (some .boolean)) (by decide) rfl ?_
  intro p e s m args below meth c s₁ B hml hv
  obtain ⟨rfl, hP, hK, hN, hj⟩ := hv
  have hr := B.returns
  have hlocks := B.notSynchronized
  have C0 : xC p s m _ c cX0_isFull 2 wsX0_isFull RX0 NLX g a (xA NLX a s.heap.size) := ⟨⟨B.exec, B.bytes, hml, findClass_of_methodNamed B.named, atoms_spec (ws := wsX0_isFull) B.pre⟩, hK, hN, hj, fun n h => Or.inl ⟨n, h, rfl⟩, fun q h => Or.inr h⟩
  have hS : va_S (xA NLX a s.heap.size) s.heap s.heap [] := va_S.rf
  have hl := lv_entry ([.ref (a 1 0), .int (nI v)]) (n := 2) (Nat.le_of_ble_eq_true rfl)
  rw [lg_entry_eq]
  generalize (lg_sl ([.ref (a 1 0), .int (nI v)]) ++ List.replicate (2 - (lg_sl ([.ref (a 1 0), .int (nI v)])).length) Slot.unset).toArray = ls at hl ⊢
  have hl : lv_has ls 2 [(0, .ref (a 1 0)), (1, .int (nI v))] := hl
  have k_0 : Cond.fieldLink RX0 9 RX0 (TX0 0).2.1 (TX0 0).2.2.1 ∈ wsX0_isFull := by decide +kernel
  have i_X0 : ∀ w ∈ wsX00, w ∈ wsX0_isFull := by decide +kernel
  refine lv_aload_n C0.hx C0.hb dX0_isFull_0 rfl (lv_at hl 0 rfl) ?_
  refine x_get C0 hP 1 (mX_n rfl) rfl rfl 0 (by decide) i_X0 k_0 rfl rfl dX0_isFull_1 ?_
  refine lv_iload_n C0.hx C0.hb dX0_isFull_4 rfl (lv_at hl 1 rfl) ?_
  refine x_iald C0 hP 6 v 4 (mX_n rfl) rfl (by omega) (by decide) dX0_isFull_5 ?_
  obtain ⟨e_1, b_2⟩ := (ok.cnt (by omega) : inR (σ 6 0 v) _)
  refine x_top e_1 ?_
  refine lv_bipush (v := nI 30) C0.hx C0.hb dX0_isFull_6 (by decide) ?_
  refine x_join (α := Bool) 16 (fun x H' locs' ls => (H' = s.heap ∧ locs' = [] ∧ x = decide (30 ≤ nv (σ 6 0 v))) ∧ lv_has ls 2 [(0, .ref (a 1 0)), (1, .int (nI v))]) (fun x => [.int (bI x)]) ?_ (fun J16 => ?_)
  · rintro x _ _ ls ⟨⟨rfl, rfl, hj16_0⟩, hl⟩
    exact W.zret (v := bI x) C0.hx C0.hb hr (bI_nar _) (fun t ht hW => ⟨_, rfl, congrArg bI hj16_0, ht⟩) (fun q h => nomatch h) dX0_isFull_16
  ·
    refine x_icmp_lt (tgt := 15) C0.hx C0.hb (by omega) (by omega) dX0_isFull_8 (by decide) (fun c_3 => ?_) (fun c_3 => ?_)
    ·
      refine lv_iconst (v := nI 0) C0.hx C0.hb dX0_isFull_15 (by decide) ?_
      exact J16 false _ _ ls ⟨⟨rfl, rfl, (by simp only [true_eq_decide_iff, false_eq_decide_iff]; omega)⟩, (lv_sub hl [0, 1] rfl)⟩
    ·
      refine lv_iconst (v := nI 1) C0.hx C0.hb dX0_isFull_11 (by decide) ?_
      refine lv_goto (tgt := 16) C0.hx C0.hb dX0_isFull_12 (by decide) ?_
      exact J16 true _ _ ls ⟨⟨rfl, rfl, (by simp only [true_eq_decide_iff, false_eq_decide_iff]; omega)⟩, (lv_sub hl [0, 1] rfl)⟩

set_option maxHeartbeats 4000000 in
set_option maxRecDepth 100000 in
theorem mtX0_overlaps (l : Launch) (g : xG) (a : xAd) (σ : xS) (v : Nat) (hv : v < 4) (ok : okX σ) (x y : Int32) : xMi l yX0_overlaps wsX0_overlaps ({ frames := 0, cells := 0, slots := 0, locals := 0 }) NLX g a σ [.ref (a 1 0), .int (nI v), .int x, .int y] (bI (ovlA σ v x y (nv (σ 6 0 v)) 0)) := by
  unfold xMi
  refine Met.ofW (cc := cX0_overlaps) (maxL := 5) (ret := (some .boolean)) (by decide) rfl ?_
  intro p e s m args below meth c s₁ B hml hv
  obtain ⟨rfl, hP, hK, hN, hj⟩ := hv
  have hr := B.returns
  have hlocks := B.notSynchronized
  have C0 : xC p s m _ c cX0_overlaps 5 wsX0_overlaps RX0 NLX g a (xA NLX a s.heap.size) := ⟨⟨B.exec, B.bytes, hml, findClass_of_methodNamed B.named, atoms_spec (ws := wsX0_overlaps) B.pre⟩, hK, hN, hj, fun n h => Or.inl ⟨n, h, rfl⟩, fun q h => Or.inr h⟩
  have hS : va_S (xA NLX a s.heap.size) s.heap s.heap [] := va_S.rf
  have hl := lv_entry ([.ref (a 1 0), .int (nI v), .int x, .int y]) (n := 5) (Nat.le_of_ble_eq_true rfl)
  rw [lg_entry_eq]
  generalize (lg_sl ([.ref (a 1 0), .int (nI v), .int x, .int y]) ++ List.replicate (5 - (lg_sl ([.ref (a 1 0), .int (nI v), .int x, .int y])).length) Slot.unset).toArray = ls at hl ⊢
  have hl : lv_has ls 5 [(0, .ref (a 1 0)), (1, .int (nI v)), (2, .int x), (3, .int y)] := hl
  have k_0 : Cond.fieldLink RX0 9 RX0 (TX0 0).2.1 (TX0 0).2.2.1 ∈ wsX0_overlaps := by decide +kernel
  have i_X0 : ∀ w ∈ wsX00, w ∈ wsX0_overlaps := by decide +kernel
  have k_2 : Cond.fieldLink RX0 17 RX0 (TX0 1).2.1 (TX0 1).2.2.1 ∈ wsX0_overlaps := by decide +kernel
  have k_3 : Cond.fieldLink RX0 20 RX0 (TX0 2).2.1 (TX0 2).2.2.1 ∈ wsX0_overlaps := by decide +kernel
  refine lv_iconst (v := nI 0) C0.hx C0.hb dX0_overlaps_0 (by decide) ?_
  refine lv_istore (lv' := [(4, .int (nI 0)), (0, .ref (a 1 0)), (1, .int (nI v)), (2, .int x), (3, .int y)]) C0.hx C0.hb dX0_overlaps_1 hl (by decide) rfl (fun ls hl => ?_)
  refine x_loopR (α := Nat × Nat) (fun u => u.1) (fun ⟨n, k⟩ ls => k + n = nv (σ 6 0 v) ∧ ovlA σ v x y n k = ovlA σ v x y (nv (σ 6 0 v)) 0 ∧ lv_has ls 5 [(0, .ref (a 1 0)), (1, .int (nI v)), (2, .int x), (3, .int y), (4, .int (nI k))]) ?_ ((nv (σ 6 0 v), 0)) ⟨(by omega), rfl, (lv_sub hl [1, 2, 3, 4, 0] rfl)⟩
  rintro ⟨n, k⟩ ls ⟨h3_0, h3_1, hl⟩ ih3
  refine lv_iload C0.hx C0.hb dX0_overlaps_3 (lv_at hl 4 rfl) ?_
  refine lv_aload_n C0.hx C0.hb dX0_overlaps_5 rfl (lv_at hl 0 rfl) ?_
  refine x_get C0 hP 1 (mX_n rfl) rfl rfl 0 (by decide) i_X0 k_0 rfl rfl dX0_overlaps_6 ?_
  refine lv_iload_n C0.hx C0.hb dX0_overlaps_9 rfl (lv_at hl 1 rfl) ?_
  refine x_iald C0 hP 6 v 4 (mX_n rfl) rfl (by omega) (by decide) dX0_overlaps_10 ?_
  obtain ⟨e_1, b_2⟩ := (ok.cnt (by omega) : inR (σ 6 0 v) _)
  refine x_top e_1 ?_
  refine x_icmp_ge (tgt := 48) C0.hx C0.hb (by omega) (by omega) dX0_overlaps_11 (by decide) (fun c_3 => ?_) (fun c_3 => ?_)
  ·
    refine lv_iconst (v := nI 0) C0.hx C0.hb dX0_overlaps_48 (by decide) ?_
    exact W.zret (v := nI 0) C0.hx C0.hb hr rfl (fun t ht hW => ⟨_, rfl, by rw [← h3_1, show n = 0 by omega]; rfl, ht⟩) (fun q h => nomatch h) dX0_overlaps_49
  ·
    refine lv_aload_n C0.hx C0.hb dX0_overlaps_14 rfl (lv_at hl 0 rfl) ?_
    refine x_get C0 hP 1 (mX_n rfl) rfl rfl 1 (by decide) i_X0 k_2 rfl rfl dX0_overlaps_15 ?_
    refine lv_iload_n C0.hx C0.hb dX0_overlaps_18 rfl (lv_at hl 1 rfl) ?_
    refine x_aald C0 hP 7 v 4 20 (mX_n rfl) rfl (by omega) (by decide) dX0_overlaps_19 ?_
    refine lv_iload C0.hx C0.hb dX0_overlaps_20 (lv_at hl 4 rfl) ?_
    refine x_iald C0 hP 20 k 30 (mX20 (by omega)) rfl (by omega) (by decide) dX0_overlaps_22 ?_
    refine lv_iload_n C0.hx C0.hb dX0_overlaps_23 rfl (lv_at hl 3 rfl) ?_
    refine lv_icmp_gt (tgt := 42) C0.hx C0.hb dX0_overlaps_24 (by decide) (fun c_4 => ?_) (fun c_4 => ?_)
    ·
      obtain ⟨n, rfl⟩ : ∃ z, n = z + 1 := ⟨n - 1, by omega⟩
      have hR : ovlA σ v x y n (k + 1) = ovlA σ v x y (nv (σ 6 0 v)) 0 := by rw [← h3_1, ovlA, if_neg (by rintro ⟨z1, z2⟩; first | exact z1 c_4 | exact z2 c_4)]
      refine lv_iinc (v := nI (k + 1)) (lv' := [(4, .int (nI (k + 1))), (0, .ref (a 1 0)), (1, .int (nI v)), (2, .int x), (3, .int y)]) C0.hx C0.hb dX0_overlaps_42 hl (k := 4) rfl (nI_1 k) (by decide) rfl (fun ls hl => ?_)
      refine lv_goto (tgt := 3) C0.hx C0.hb dX0_overlaps_45 (by decide) ?_
      exact ih3 ((n, k + 1)) ls ⟨(by omega), hR, (lv_sub hl [1, 2, 3, 4, 0] rfl)⟩ (Nat.lt_succ_self _)
    ·
      refine lv_iload_n C0.hx C0.hb dX0_overlaps_27 rfl (lv_at hl 2 rfl) ?_
      refine lv_aload_n C0.hx C0.hb dX0_overlaps_28 rfl (lv_at hl 0 rfl) ?_
      refine x_get C0 hP 1 (mX_n rfl) rfl rfl 2 (by decide) i_X0 k_3 rfl rfl dX0_overlaps_29 ?_
      refine lv_iload_n C0.hx C0.hb dX0_overlaps_32 rfl (lv_at hl 1 rfl) ?_
      refine x_aald C0 hP 8 v 4 21 (mX_n rfl) rfl (by omega) (by decide) dX0_overlaps_33 ?_
      refine lv_iload C0.hx C0.hb dX0_overlaps_34 (lv_at hl 4 rfl) ?_
      refine x_iald C0 hP 21 k 30 (mX21 (by omega)) rfl (by omega) (by decide) dX0_overlaps_36 ?_
      refine lv_icmp_gt (tgt := 42) C0.hx C0.hb dX0_overlaps_37 (by decide) (fun c_5 => ?_) (fun c_5 => ?_)
      ·
        obtain ⟨n, rfl⟩ : ∃ z, n = z + 1 := ⟨n - 1, by omega⟩
        have hR : ovlA σ v x y n (k + 1) = ovlA σ v x y (nv (σ 6 0 v)) 0 := by rw [← h3_1, ovlA, if_neg (by rintro ⟨z1, z2⟩; first | exact z1 c_5 | exact z2 c_5)]
        refine lv_iinc (v := nI (k + 1)) (lv' := [(4, .int (nI (k + 1))), (0, .ref (a 1 0)), (1, .int (nI v)), (2, .int x), (3, .int y)]) C0.hx C0.hb dX0_overlaps_42 hl (k := 4) rfl (nI_1 k) (by decide) rfl (fun ls hl => ?_)
        refine lv_goto (tgt := 3) C0.hx C0.hb dX0_overlaps_45 (by decide) ?_
        exact ih3 ((n, k + 1)) ls ⟨(by omega), hR, (lv_sub hl [1, 2, 3, 4, 0] rfl)⟩ (Nat.lt_succ_self _)
      ·
        refine lv_iconst (v := nI 1) C0.hx C0.hb dX0_overlaps_40 (by decide) ?_
        exact W.zret (v := nI 1) C0.hx C0.hb hr rfl (fun t ht hW => ⟨_, rfl, by rw [← h3_1]; obtain ⟨n, rfl⟩ : ∃ z, n = z + 1 := ⟨n - 1, by omega⟩; rw [ovlA, if_pos ⟨c_4, c_5⟩]; rfl, ht⟩) (fun q h => nomatch h) dX0_overlaps_41

set_option maxHeartbeats 4000000 in
set_option maxRecDepth 100000 in
theorem mtX0_add (l : Launch) (g : xG) (a : xAd) (σ : xS) (v : Nat) (hv : v < 4) (ok : okX σ) (hc : nv (σ 6 0 v) < 30) (x y z : Int32) : xMv l yX0_add wsX0_add ({ frames := 0, cells := 0, slots := 0, locals := 0 }) NLX g a σ [.ref (a 1 0), .int (nI v), .int x, .int y, .int z] (addS σ v (nv (σ 6 0 v)) x y z) := by
  intro sz
  refine Met.ofW (cc := cX0_add) (maxL := 6) (ret := none) (by decide) rfl ?_
  intro p e s m args below meth c s₁ B hml hv
  obtain ⟨rfl, hsz, hP, hK, hN, hj⟩ := hv
  subst hsz
  have hr := B.returns
  have hlocks := B.notSynchronized
  have C0 : xC p s m _ c cX0_add 6 wsX0_add RX0 NLX g a (xA NLX a s.heap.size) := ⟨⟨B.exec, B.bytes, hml, findClass_of_methodNamed B.named, atoms_spec (ws := wsX0_add) B.pre⟩, hK, hN, hj, fun n h => Or.inl ⟨n, h, rfl⟩, fun q h => Or.inr h⟩
  have hS : va_S (xA NLX a s.heap.size) s.heap s.heap [] := va_S.rf
  have hl := lv_entry ([.ref (a 1 0), .int (nI v), .int x, .int y, .int z]) (n := 6) (Nat.le_of_ble_eq_true rfl)
  rw [lg_entry_eq]
  generalize (lg_sl ([.ref (a 1 0), .int (nI v), .int x, .int y, .int z]) ++ List.replicate (6 - (lg_sl ([.ref (a 1 0), .int (nI v), .int x, .int y, .int z])).length) Slot.unset).toArray = ls at hl ⊢
  have hl : lv_has ls 6 [(0, .ref (a 1 0)), (1, .int (nI v)), (2, .int x), (3, .int y), (4, .int z)] := hl
  have k_0 : Cond.fieldLink RX0 9 RX0 (TX0 0).2.1 (TX0 0).2.2.1 ∈ wsX0_add := by decide +kernel
  have i_X0 : ∀ w ∈ wsX00, w ∈ wsX0_add := by decide +kernel
  have k_2 : Cond.fieldLink RX0 17 RX0 (TX0 1).2.1 (TX0 1).2.2.1 ∈ wsX0_add := by decide +kernel
  have k_3 : Cond.fieldLink RX0 20 RX0 (TX0 2).2.1 (TX0 2).2.2.1 ∈ wsX0_add := by decide +kernel
  have k_4 : Cond.fieldLink RX0 23 RX0 (TX0 3).2.1 (TX0 3).2.2.1 ∈ wsX0_add := by decide +kernel
  refine lv_aload_n C0.hx C0.hb dX0_add_0 rfl (lv_at hl 0 rfl) ?_
  refine x_get C0 hP 1 (mX_n rfl) rfl rfl 0 (by decide) i_X0 k_0 rfl rfl dX0_add_1 ?_
  refine lv_iload_n C0.hx C0.hb dX0_add_4 rfl (lv_at hl 1 rfl) ?_
  refine x_iald C0 hP 6 v 4 (mX_n rfl) rfl (by omega) (by decide) dX0_add_5 ?_
  obtain ⟨e_1, b_2⟩ := (ok.cnt (by omega) : inR (σ 6 0 v) _)
  refine x_top e_1 ?_
  refine lv_istore (lv' := [(5, .int (nI (nv (σ 6 0 v)))), (0, .ref (a 1 0)), (1, .int (nI v)), (2, .int x), (3, .int y), (4, .int z)]) C0.hx C0.hb dX0_add_6 hl (by decide) rfl (fun ls hl => ?_)
  refine lv_aload_n C0.hx C0.hb dX0_add_8 rfl (lv_at hl 1 rfl) ?_
  refine x_get C0 hP 1 (mX_n rfl) rfl rfl 1 (by decide) i_X0 k_2 rfl rfl dX0_add_9 ?_
  refine lv_iload_n C0.hx C0.hb dX0_add_12 rfl (lv_at hl 2 rfl) ?_
  refine x_aald C0 hP 7 v 4 20 (mX_n rfl) rfl (by omega) (by decide) dX0_add_13 ?_
  refine lv_iload C0.hx C0.hb dX0_add_14 (lv_at hl 0 rfl) ?_
  refine lv_iload_n C0.hx C0.hb dX0_add_16 rfl (lv_at hl 3 rfl) ?_
  refine x_iast C0 hP hS 20 (nv (σ 6 0 v)) 30 (v := x) (mX20 (by omega)) (fun _ => rfl) (by omega) (by decide) dX0_add_17 (fun H locs hP hS => ?_)
  refine lv_aload_n C0.hx C0.hb dX0_add_18 rfl (lv_at hl 1 rfl) ?_
  refine x_get C0 hP 1 (mX_n rfl) rfl rfl 2 (by decide) i_X0 k_3 rfl rfl dX0_add_19 ?_
  refine lv_iload_n C0.hx C0.hb dX0_add_22 rfl (lv_at hl 2 rfl) ?_
  refine x_aald C0 hP 8 v 4 21 (mX_n rfl) rfl (by omega) (by decide) dX0_add_23 ?_
  refine lv_iload C0.hx C0.hb dX0_add_24 (lv_at hl 0 rfl) ?_
  refine lv_iload_n C0.hx C0.hb dX0_add_26 rfl (lv_at hl 4 rfl) ?_
  refine x_iast C0 hP hS 21 (nv (σ 6 0 v)) 30 (v := y) (mX21 (by omega)) (fun _ => rfl) (by omega) (by decide) dX0_add_27 (fun H locs hP hS => ?_)
  refine lv_aload_n C0.hx C0.hb dX0_add_28 rfl (lv_at hl 1 rfl) ?_
  refine x_get C0 hP 1 (mX_n rfl) rfl rfl 3 (by decide) i_X0 k_4 rfl rfl dX0_add_29 ?_
  refine lv_iload_n C0.hx C0.hb dX0_add_32 rfl (lv_at hl 2 rfl) ?_
  refine x_aald C0 hP 9 v 4 22 (mX_n rfl) rfl (by omega) (by decide) dX0_add_33 ?_
  refine lv_iload C0.hx C0.hb dX0_add_34 (lv_at hl 0 rfl) ?_
  refine lv_iload C0.hx C0.hb dX0_add_36 (lv_at hl 5 rfl) ?_
  refine x_iast C0 hP hS 22 (nv (σ 6 0 v)) 30 (v := z) (mX22 (by omega)) (fun _ => rfl) (by omega) (by decide) dX0_add_38 (fun H locs hP hS => ?_)
  refine lv_aload_n C0.hx C0.hb dX0_add_39 rfl (lv_at hl 1 rfl) ?_
  refine x_get C0 hP 1 (mX_n rfl) rfl rfl 0 (by decide) i_X0 k_0 rfl rfl dX0_add_40 ?_
  refine lv_iload_n C0.hx C0.hb dX0_add_43 rfl (lv_at hl 2 rfl) ?_
  refine lv_iload C0.hx C0.hb dX0_add_44 (lv_at hl 0 rfl) ?_
  refine lv_iconst (v := nI 1) C0.hx C0.hb dX0_add_46 (by decide) ?_
  refine lv_iadd C0.hx C0.hb dX0_add_47 ?_
  refine x_top (nI_add (nv (σ 6 0 v)) 1) ?_
  refine x_iast C0 hP hS 6 v 4 (v := nI ((nv (σ 6 0 v)) + 1)) (mX_n rfl) (fun _ => rfl) (by omega) (by decide) dX0_add_48 (fun H locs hP hS => ?_)
  exact W.vret C0.hx C0.hb hr (fun t ht hW => ⟨⟨up3 (up3 (up3 (up3 σ 20 v (nv (σ 6 0 v)) x) 21 v (nv (σ 6 0 v)) y) 22 v (nv (σ 6 0 v)) z) 6 0 v (nI ((nv (σ 6 0 v)) + 1)), rfl, rfl, x_end ht hP⟩, hS.F ht⟩) hS.2.2 dX0_add_49

set_option maxHeartbeats 4000000 in
set_option maxRecDepth 100000 in
theorem mtX0_functionAt (l : Launch) (g : xG) (a : xAd) (σ : xS) (v : Nat) (hv : v < 4) (ok : okX σ) (x : Int32) : xMi l yX0_functionAt wsX0_functionAt ({ frames := 0, cells := 0, slots := 0, locals := 0 }) NLX g a σ [.ref (a 1 0), .int (nI v), .int x] (fnX σ v x) := by
  unfold xMi
  refine Met.ofW (cc := cX0_functionAt) (maxL := 4) (ret := (some .int)) (by decide) rfl ?_
  intro p e s m args below meth c s₁ B hml hv
  obtain ⟨rfl, hP, hK, hN, hj⟩ := hv
  have hr := B.returns
  have hlocks := B.notSynchronized
  have C0 : xC p s m _ c cX0_functionAt 4 wsX0_functionAt RX0 NLX g a (xA NLX a s.heap.size) := ⟨⟨B.exec, B.bytes, hml, findClass_of_methodNamed B.named, atoms_spec (ws := wsX0_functionAt) B.pre⟩, hK, hN, hj, fun n h => Or.inl ⟨n, h, rfl⟩, fun q h => Or.inr h⟩
  have hS : va_S (xA NLX a s.heap.size) s.heap s.heap [] := va_S.rf
  have hl := lv_entry ([.ref (a 1 0), .int (nI v), .int x]) (n := 4) (Nat.le_of_ble_eq_true rfl)
  rw [lg_entry_eq]
  generalize (lg_sl ([.ref (a 1 0), .int (nI v), .int x]) ++ List.replicate (4 - (lg_sl ([.ref (a 1 0), .int (nI v), .int x])).length) Slot.unset).toArray = ls at hl ⊢
  have hl : lv_has ls 4 [(0, .ref (a 1 0)), (1, .int (nI v)), (2, .int x)] := hl
  have k_0 : Cond.fieldLink RX0 9 RX0 (TX0 0).2.1 (TX0 0).2.2.1 ∈ wsX0_functionAt := by decide +kernel
  have i_X0 : ∀ w ∈ wsX00, w ∈ wsX0_functionAt := by decide +kernel
  have k_2 : Cond.fieldLink RX0 17 RX0 (TX0 1).2.1 (TX0 1).2.2.1 ∈ wsX0_functionAt := by decide +kernel
  have k_3 : Cond.fieldLink RX0 20 RX0 (TX0 2).2.1 (TX0 2).2.2.1 ∈ wsX0_functionAt := by decide +kernel
  have k_4 : Cond.fieldLink RX0 23 RX0 (TX0 3).2.1 (TX0 3).2.2.1 ∈ wsX0_functionAt := by decide +kernel
  refine lv_iconst (v := nI 0) C0.hx C0.hb dX0_functionAt_0 (by decide) ?_
  refine lv_istore_n (lv' := [(3, .int (nI 0)), (0, .ref (a 1 0)), (1, .int (nI v)), (2, .int x)]) C0.hx C0.hb dX0_functionAt_1 rfl hl (by decide) rfl (fun ls hl => ?_)
  refine x_loopR (α := Nat × Nat) (fun u => u.1) (fun ⟨n, k⟩ ls => k + n = nv (σ 6 0 v) ∧ fnA σ v x n k = fnX σ v x ∧ lv_has ls 4 [(0, .ref (a 1 0)), (1, .int (nI v)), (2, .int x), (3, .int (nI k))]) ?_ ((nv (σ 6 0 v), 0)) ⟨(by omega), rfl, (lv_sub hl [1, 2, 3, 0] rfl)⟩
  rintro ⟨n, k⟩ ls ⟨h2_0, h2_1, hl⟩ ih2
  refine lv_iload_n C0.hx C0.hb dX0_functionAt_2 rfl (lv_at hl 3 rfl) ?_
  refine lv_aload_n C0.hx C0.hb dX0_functionAt_3 rfl (lv_at hl 0 rfl) ?_
  refine x_get C0 hP 1 (mX_n rfl) rfl rfl 0 (by decide) i_X0 k_0 rfl rfl dX0_functionAt_4 ?_
  refine lv_iload_n C0.hx C0.hb dX0_functionAt_7 rfl (lv_at hl 1 rfl) ?_
  refine x_iald C0 hP 6 v 4 (mX_n rfl) rfl (by omega) (by decide) dX0_functionAt_8 ?_
  obtain ⟨e_1, b_2⟩ := (ok.cnt (by omega) : inR (σ 6 0 v) _)
  refine x_top e_1 ?_
  refine x_icmp_ge (tgt := 51) C0.hx C0.hb (by omega) (by omega) dX0_functionAt_9 (by decide) (fun c_3 => ?_) (fun c_3 => ?_)
  ·
    refine lv_iconst (v := -1) C0.hx C0.hb dX0_functionAt_51 (by decide) ?_
    exact W.iret (v := -1) C0.hx C0.hb hr (fun t ht hW => ⟨_, rfl, by rw [← h2_1, show n = 0 by omega]; rfl, ht⟩) (fun q h => nomatch h) dX0_functionAt_52
  ·
    refine lv_aload_n C0.hx C0.hb dX0_functionAt_12 rfl (lv_at hl 0 rfl) ?_
    refine x_get C0 hP 1 (mX_n rfl) rfl rfl 1 (by decide) i_X0 k_2 rfl rfl dX0_functionAt_13 ?_
    refine lv_iload_n C0.hx C0.hb dX0_functionAt_16 rfl (lv_at hl 1 rfl) ?_
    refine x_aald C0 hP 7 v 4 20 (mX_n rfl) rfl (by omega) (by decide) dX0_functionAt_17 ?_
    refine lv_iload_n C0.hx C0.hb dX0_functionAt_18 rfl (lv_at hl 3 rfl) ?_
    refine x_iald C0 hP 20 k 30 (mX20 (by omega)) rfl (by omega) (by decide) dX0_functionAt_19 ?_
    refine lv_iload_n C0.hx C0.hb dX0_functionAt_20 rfl (lv_at hl 2 rfl) ?_
    refine lv_icmp_gt (tgt := 45) C0.hx C0.hb dX0_functionAt_21 (by decide) (fun c_4 => ?_) (fun c_4 => ?_)
    ·
      obtain ⟨n, rfl⟩ : ∃ z, n = z + 1 := ⟨n - 1, by omega⟩
      have hR : fnA σ v x n (k + 1) = fnX σ v x := by rw [← h2_1, fnA, if_neg (by rintro ⟨z1, z2⟩; first | exact z1 c_4 | exact z2 c_4)]
      refine lv_iinc (v := nI (k + 1)) (lv' := [(3, .int (nI (k + 1))), (0, .ref (a 1 0)), (1, .int (nI v)), (2, .int x)]) C0.hx C0.hb dX0_functionAt_45 hl (k := 3) rfl (nI_1 k) (by decide) rfl (fun ls hl => ?_)
      refine lv_goto (tgt := 2) C0.hx C0.hb dX0_functionAt_48 (by decide) ?_
      exact ih2 ((n, k + 1)) ls ⟨(by omega), hR, (lv_sub hl [1, 2, 3, 0] rfl)⟩ (Nat.lt_succ_self _)
    ·
      refine lv_iload_n C0.hx C0.hb dX0_functionAt_24 rfl (lv_at hl 2 rfl) ?_
      refine lv_aload_n C0.hx C0.hb dX0_functionAt_25 rfl (lv_at hl 0 rfl) ?_
      refine x_get C0 hP 1 (mX_n rfl) rfl rfl 2 (by decide) i_X0 k_3 rfl rfl dX0_functionAt_26 ?_
      refine lv_iload_n C0.hx C0.hb dX0_functionAt_29 rfl (lv_at hl 1 rfl) ?_
      refine x_aald C0 hP 8 v 4 21 (mX_n rfl) rfl (by omega) (by decide) dX0_functionAt_30 ?_
      refine lv_iload_n C0.hx C0.hb dX0_functionAt_31 rfl (lv_at hl 3 rfl) ?_
      refine x_iald C0 hP 21 k 30 (mX21 (by omega)) rfl (by omega) (by decide) dX0_functionAt_32 ?_
      refine lv_icmp_gt (tgt := 45) C0.hx C0.hb dX0_functionAt_33 (by decide) (fun c_5 => ?_) (fun c_5 => ?_)
      ·
        obtain ⟨n, rfl⟩ : ∃ z, n = z + 1 := ⟨n - 1, by omega⟩
        have hR : fnA σ v x n (k + 1) = fnX σ v x := by rw [← h2_1, fnA, if_neg (by rintro ⟨z1, z2⟩; first | exact z1 c_5 | exact z2 c_5)]
        refine lv_iinc (v := nI (k + 1)) (lv' := [(3, .int (nI (k + 1))), (0, .ref (a 1 0)), (1, .int (nI v)), (2, .int x)]) C0.hx C0.hb dX0_functionAt_45 hl (k := 3) rfl (nI_1 k) (by decide) rfl (fun ls hl => ?_)
        refine lv_goto (tgt := 2) C0.hx C0.hb dX0_functionAt_48 (by decide) ?_
        exact ih2 ((n, k + 1)) ls ⟨(by omega), hR, (lv_sub hl [1, 2, 3, 0] rfl)⟩ (Nat.lt_succ_self _)
      ·
        refine lv_aload_n C0.hx C0.hb dX0_functionAt_36 rfl (lv_at hl 0 rfl) ?_
        refine x_get C0 hP 1 (mX_n rfl) rfl rfl 3 (by decide) i_X0 k_4 rfl rfl dX0_functionAt_37 ?_
        refine lv_iload_n C0.hx C0.hb dX0_functionAt_40 rfl (lv_at hl 1 rfl) ?_
        refine x_aald C0 hP 9 v 4 22 (mX_n rfl) rfl (by omega) (by decide) dX0_functionAt_41 ?_
        refine lv_iload_n C0.hx C0.hb dX0_functionAt_42 rfl (lv_at hl 3 rfl) ?_
        refine x_iald C0 hP 22 k 30 (mX22 (by omega)) rfl (by omega) (by decide) dX0_functionAt_43 ?_
        exact W.iret (v := σ 22 v k) C0.hx C0.hb hr (fun t ht hW => ⟨_, rfl, by rw [← h2_1]; obtain ⟨n, rfl⟩ : ∃ z, n = z + 1 := ⟨n - 1, by omega⟩; rw [fnA, if_pos ⟨c_4, c_5⟩], ht⟩) (fun q h => nomatch h) dX0_functionAt_44

set_option maxHeartbeats 4000000 in
set_option maxRecDepth 100000 in
theorem mtX3_leadsTo (l : Launch) (g : xG) (a : xAd) (σ : xS) (t f : Nat) (ht0 : t < 30) (hf : f < 30) (ok : okX σ) : xMi l yX3_leadsTo wsX3_leadsTo ({ frames := 0, cells := 0, slots := 0, locals := 0 }) NLX g a σ [.ref (a 2 0), .int (nI t), .int (nI f)] (bI (decide (ldA σ f 30 t = f))) := by
  unfold xMi
  refine Met.ofW (cc := cX3_leadsTo) (maxL := 5) (ret := (some .boolean)) (by decide) rfl ?_
  intro p e s m args below meth c s₁ B hml hv
  obtain ⟨rfl, hP, hK, hN, hj⟩ := hv
  have hr := B.returns
  have hlocks := B.notSynchronized
  have C0 : xC p s m _ c cX3_leadsTo 5 wsX3_leadsTo RX3 NLX g a (xA NLX a s.heap.size) := ⟨⟨B.exec, B.bytes, hml, findClass_of_methodNamed B.named, atoms_spec (ws := wsX3_leadsTo) B.pre⟩, hK, hN, hj, fun n h => Or.inl ⟨n, h, rfl⟩, fun q h => Or.inr h⟩
  have hS : va_S (xA NLX a s.heap.size) s.heap s.heap [] := va_S.rf
  have hl := lv_entry ([.ref (a 2 0), .int (nI t), .int (nI f)]) (n := 5) (Nat.le_of_ble_eq_true rfl)
  rw [lg_entry_eq]
  generalize (lg_sl ([.ref (a 2 0), .int (nI t), .int (nI f)]) ++ List.replicate (5 - (lg_sl ([.ref (a 2 0), .int (nI t), .int (nI f)])).length) Slot.unset).toArray = ls at hl ⊢
  have hl : lv_has ls 5 [(0, .ref (a 2 0)), (1, .int (nI t)), (2, .int (nI f))] := hl
  have k_0 : Cond.fieldLink RX3 15 RX3 (TX3 1).2.1 (TX3 1).2.2.1 ∈ wsX3_leadsTo := by decide +kernel
  have i_X3 : ∀ w ∈ wsX30, w ∈ wsX3_leadsTo := by decide +kernel
  refine lv_iload_n C0.hx C0.hb dX3_leadsTo_0 rfl (lv_at hl 1 rfl) ?_
  refine lv_istore_n (lv' := [(3, .int (nI t)), (0, .ref (a 2 0)), (1, .int (nI t)), (2, .int (nI f))]) C0.hx C0.hb dX3_leadsTo_1 rfl hl (by decide) rfl (fun ls hl => ?_)
  refine lv_iconst (v := nI 0) C0.hx C0.hb dX3_leadsTo_2 (by decide) ?_
  refine lv_istore (lv' := [(4, .int (nI 0)), (3, .int (nI t)), (0, .ref (a 2 0)), (1, .int (nI t)), (2, .int (nI f))]) C0.hx C0.hb dX3_leadsTo_3 hl (by decide) rfl (fun ls hl => ?_)
  refine x_loopR (α := Nat × Nat × Nat) (fun u => u.1) (fun ⟨n, k, t'⟩ ls => k + n = 30 ∧ t' < 30 ∧ ldA σ f n t' = ldA σ f 30 t ∧ lv_has ls 5 [(0, .ref (a 2 0)), (1, .int (nI t)), (2, .int (nI f)), (3, .int (nI t')), (4, .int (nI k))]) ?_ ((30, 0, t)) ⟨(by omega), ht0, rfl, (lv_sub hl [2, 3, 4, 1, 0] rfl)⟩
  rintro ⟨n, k, t'⟩ ls ⟨h5_0, h5_1, h5_2, hl⟩ ih5
  refine lv_iload C0.hx C0.hb dX3_leadsTo_5 (lv_at hl 4 rfl) ?_
  refine lv_bipush (v := nI 30) C0.hx C0.hb dX3_leadsTo_7 (by decide) ?_
  refine x_join (α := Unit) 30 (fun _ H' locs' ls => (H' = s.heap ∧ locs' = [] ∧ t' = ldA σ f 30 t) ∧ lv_has ls 5 [(0, .ref (a 2 0)), (1, .int (nI t)), (2, .int (nI f)), (3, .int (nI t')), (4, .int (nI k))]) (fun _ => []) ?_ (fun J30 => ?_)
  · rintro _ _ _ ls ⟨⟨rfl, rfl, hj30_0⟩, hl⟩
    refine lv_iload_n C0.hx C0.hb dX3_leadsTo_30 rfl (lv_at hl 3 rfl) ?_
    refine lv_iload_n C0.hx C0.hb dX3_leadsTo_31 rfl (lv_at hl 2 rfl) ?_
    refine x_join (α := Bool) 40 (fun x H' locs' ls => (H' = s.heap ∧ locs' = [] ∧ x = decide (t' = f)) ∧ lv_has ls 5 [(0, .ref (a 2 0)), (1, .int (nI t)), (2, .int (nI f)), (3, .int (nI t')), (4, .int (nI k))]) (fun x => [.int (bI x)]) ?_ (fun J40 => ?_)
    · rintro x _ _ ls ⟨⟨rfl, rfl, hj40_0⟩, hl⟩
      exact W.zret (v := bI x) C0.hx C0.hb hr (bI_nar _) (fun t ht hW => ⟨_, rfl, by rw [hj40_0, ← hj30_0], ht⟩) (fun q h => nomatch h) dX3_leadsTo_40
    ·
      refine x_icmp_ne (tgt := 39) C0.hx C0.hb (by omega) (by omega) dX3_leadsTo_32 (by decide) (fun c_1 => ?_) (fun c_1 => ?_)
      ·
        refine lv_iconst (v := nI 0) C0.hx C0.hb dX3_leadsTo_39 (by decide) ?_
        exact J40 false _ _ ls ⟨⟨rfl, rfl, (by simp only [true_eq_decide_iff, false_eq_decide_iff]; omega)⟩, (lv_sub hl [0, 1, 2, 3, 4] rfl)⟩
      ·
        refine lv_iconst (v := nI 1) C0.hx C0.hb dX3_leadsTo_35 (by decide) ?_
        refine lv_goto (tgt := 40) C0.hx C0.hb dX3_leadsTo_36 (by decide) ?_
        exact J40 true _ _ ls ⟨⟨rfl, rfl, (by simp only [true_eq_decide_iff, false_eq_decide_iff]; omega)⟩, (lv_sub hl [0, 1, 2, 3, 4] rfl)⟩
  ·
    refine x_icmp_ge (tgt := 30) C0.hx C0.hb (by omega) (by omega) dX3_leadsTo_9 (by decide) (fun c_2 => ?_) (fun c_2 => ?_)
    ·
      have hR : t' = ldA σ f 30 t := by rw [← h5_2, show n = 0 by omega]; rfl
      exact J30 () _ _ ls ⟨⟨rfl, rfl, hR⟩, (lv_sub hl [0, 1, 2, 3, 4] rfl)⟩
    ·
      refine lv_iload_n C0.hx C0.hb dX3_leadsTo_12 rfl (lv_at hl 3 rfl) ?_
      refine lv_iload_n C0.hx C0.hb dX3_leadsTo_13 rfl (lv_at hl 2 rfl) ?_
      refine x_icmp_eq (tgt := 30) C0.hx C0.hb (by omega) (by omega) dX3_leadsTo_14 (by decide) (fun c_3 => ?_) (fun c_3 => ?_)
      ·
        have hR : t' = ldA σ f 30 t := by rw [← h5_2]; obtain ⟨n, rfl⟩ : ∃ z, n = z + 1 := ⟨n - 1, by omega⟩; rw [ldA, if_pos c_3]
        exact J30 () _ _ ls ⟨⟨rfl, rfl, hR⟩, (lv_sub hl [0, 1, 2, 3, 4] rfl)⟩
      ·
        obtain ⟨n, rfl⟩ : ∃ z, n = z + 1 := ⟨n - 1, by omega⟩
        have hR : ldA σ f n (nv (σ 11 0 t')) = ldA σ f 30 t := by rw [← h5_2, ldA, if_neg c_3]
        refine lv_aload_n C0.hx C0.hb dX3_leadsTo_17 rfl (lv_at hl 0 rfl) ?_
        refine x_get C0 hP 2 (mX_n rfl) rfl rfl 1 (by decide) i_X3 k_0 rfl rfl dX3_leadsTo_18 ?_
        refine lv_iload_n C0.hx C0.hb dX3_leadsTo_21 rfl (lv_at hl 3 rfl) ?_
        refine x_iald C0 hP 11 t' 30 (mX_n rfl) rfl (by omega) (by decide) dX3_leadsTo_22 ?_
        obtain ⟨e_4, b_5⟩ := (ok.std (by omega) : inR (σ 11 0 t') _)
        refine x_top e_4 ?_
        refine lv_istore_n (lv' := [(3, .int (nI (nv (σ 11 0 t')))), (0, .ref (a 2 0)), (1, .int (nI t)), (2, .int (nI f)), (4, .int (nI k))]) C0.hx C0.hb dX3_leadsTo_23 rfl hl (by decide) rfl (fun ls hl => ?_)
        refine lv_iinc (v := nI (k + 1)) (lv' := [(4, .int (nI (k + 1))), (3, .int (nI (nv (σ 11 0 t')))), (0, .ref (a 2 0)), (1, .int (nI t)), (2, .int (nI f))]) C0.hx C0.hb dX3_leadsTo_24 hl (k := 4) rfl (nI_1 k) (by decide) rfl (fun ls hl => ?_)
        refine lv_goto (tgt := 5) C0.hx C0.hb dX3_leadsTo_27 (by decide) ?_
        exact ih5 ((n, k + 1, nv (σ 11 0 t'))) ls ⟨(by omega), (by omega), hR, (lv_sub hl [2, 3, 4, 1, 0] rfl)⟩ (Nat.lt_succ_self _)

set_option maxHeartbeats 4000000 in
set_option maxRecDepth 100000 in
theorem mtX3_inTheEnd (l : Launch) (g : xG) (a : xAd) (σ : xS) (t : Nat) (ht0 : t < 30) (ok : okX σ) : xMi l yX3_inTheEnd wsX3_inTheEnd ({ frames := 0, cells := 0, slots := 0, locals := 0 }) NLX g a σ [.ref (a 2 0), .int (nI t)] (nI (ieA σ 30 t)) := by
  unfold xMi
  refine Met.ofW (cc := cX3_inTheEnd) (maxL := 4) (ret := (some .int)) (by decide) rfl ?_
  intro p e s m args below meth c s₁ B hml hv
  obtain ⟨rfl, hP, hK, hN, hj⟩ := hv
  have hr := B.returns
  have hlocks := B.notSynchronized
  have C0 : xC p s m _ c cX3_inTheEnd 4 wsX3_inTheEnd RX3 NLX g a (xA NLX a s.heap.size) := ⟨⟨B.exec, B.bytes, hml, findClass_of_methodNamed B.named, atoms_spec (ws := wsX3_inTheEnd) B.pre⟩, hK, hN, hj, fun n h => Or.inl ⟨n, h, rfl⟩, fun q h => Or.inr h⟩
  have hS : va_S (xA NLX a s.heap.size) s.heap s.heap [] := va_S.rf
  have hl := lv_entry ([.ref (a 2 0), .int (nI t)]) (n := 4) (Nat.le_of_ble_eq_true rfl)
  rw [lg_entry_eq]
  generalize (lg_sl ([.ref (a 2 0), .int (nI t)]) ++ List.replicate (4 - (lg_sl ([.ref (a 2 0), .int (nI t)])).length) Slot.unset).toArray = ls at hl ⊢
  have hl : lv_has ls 4 [(0, .ref (a 2 0)), (1, .int (nI t))] := hl
  have k_0 : Cond.fieldLink RX3 15 RX3 (TX3 1).2.1 (TX3 1).2.2.1 ∈ wsX3_inTheEnd := by decide +kernel
  have i_X3 : ∀ w ∈ wsX30, w ∈ wsX3_inTheEnd := by decide +kernel
  refine lv_iload_n C0.hx C0.hb dX3_inTheEnd_0 rfl (lv_at hl 1 rfl) ?_
  refine lv_istore_n (lv' := [(2, .int (nI t)), (0, .ref (a 2 0)), (1, .int (nI t))]) C0.hx C0.hb dX3_inTheEnd_1 rfl hl (by decide) rfl (fun ls hl => ?_)
  refine lv_iconst (v := nI 0) C0.hx C0.hb dX3_inTheEnd_2 (by decide) ?_
  refine lv_istore_n (lv' := [(3, .int (nI 0)), (2, .int (nI t)), (0, .ref (a 2 0)), (1, .int (nI t))]) C0.hx C0.hb dX3_inTheEnd_3 rfl hl (by decide) rfl (fun ls hl => ?_)
  refine x_loopR (α := Nat × Nat × Nat) (fun u => u.1) (fun ⟨n, k, t'⟩ ls => k + n = 30 ∧ t' < 30 ∧ ieA σ n t' = ieA σ 30 t ∧ lv_has ls 4 [(0, .ref (a 2 0)), (1, .int (nI t)), (2, .int (nI t')), (3, .int (nI k))]) ?_ ((30, 0, t)) ⟨(by omega), ht0, rfl, (lv_sub hl [2, 3, 1, 0] rfl)⟩
  rintro ⟨n, k, t'⟩ ls ⟨h4_0, h4_1, h4_2, hl⟩ ih4
  refine lv_iload_n C0.hx C0.hb dX3_inTheEnd_4 rfl (lv_at hl 3 rfl) ?_
  refine lv_bipush (v := nI 30) C0.hx C0.hb dX3_inTheEnd_5 (by decide) ?_
  refine x_join (α := Unit) 33 (fun _ H' locs' ls => (H' = s.heap ∧ locs' = [] ∧ t' = ieA σ 30 t) ∧ lv_has ls 4 [(0, .ref (a 2 0)), (1, .int (nI t)), (2, .int (nI t')), (3, .int (nI k))]) (fun _ => []) ?_ (fun J33 => ?_)
  · rintro _ _ _ ls ⟨⟨rfl, rfl, hj33_0⟩, hl⟩
    refine lv_iload_n C0.hx C0.hb dX3_inTheEnd_33 rfl (lv_at hl 2 rfl) ?_
    exact W.iret (v := nI t') C0.hx C0.hb hr (fun t ht hW => ⟨_, rfl, by rw [← hj33_0], ht⟩) (fun q h => nomatch h) dX3_inTheEnd_34
  ·
    refine x_icmp_ge (tgt := 33) C0.hx C0.hb (by omega) (by omega) dX3_inTheEnd_7 (by decide) (fun c_1 => ?_) (fun c_1 => ?_)
    ·
      have hR : t' = ieA σ 30 t := by rw [← h4_2, show n = 0 by omega]; rfl
      exact J33 () _ _ ls ⟨⟨rfl, rfl, hR⟩, (lv_sub hl [0, 1, 2, 3] rfl)⟩
    ·
      refine lv_aload_n C0.hx C0.hb dX3_inTheEnd_10 rfl (lv_at hl 0 rfl) ?_
      refine x_get C0 hP 2 (mX_n rfl) rfl rfl 1 (by decide) i_X3 k_0 rfl rfl dX3_inTheEnd_11 ?_
      refine lv_iload_n C0.hx C0.hb dX3_inTheEnd_14 rfl (lv_at hl 2 rfl) ?_
      refine x_iald C0 hP 11 t' 30 (mX_n rfl) rfl (by omega) (by decide) dX3_inTheEnd_15 ?_
      obtain ⟨e_2, b_3⟩ := (ok.std (by omega) : inR (σ 11 0 t') _)
      refine x_top e_2 ?_
      refine lv_iload_n C0.hx C0.hb dX3_inTheEnd_16 rfl (lv_at hl 2 rfl) ?_
      refine x_icmp_eq (tgt := 33) C0.hx C0.hb (by omega) (by omega) dX3_inTheEnd_17 (by decide) (fun c_4 => ?_) (fun c_4 => ?_)
      ·
        have hR : t' = ieA σ 30 t := by rw [← h4_2]; obtain ⟨n, rfl⟩ : ∃ z, n = z + 1 := ⟨n - 1, by omega⟩; rw [ieA, if_pos c_4]
        exact J33 () _ _ ls ⟨⟨rfl, rfl, hR⟩, (lv_sub hl [0, 1, 2, 3] rfl)⟩
      ·
        obtain ⟨n, rfl⟩ : ∃ z, n = z + 1 := ⟨n - 1, by omega⟩
        have hR : ieA σ n (nv (σ 11 0 t')) = ieA σ 30 t := by rw [← h4_2, ieA, if_neg c_4]
        refine lv_aload_n C0.hx C0.hb dX3_inTheEnd_20 rfl (lv_at hl 0 rfl) ?_
        refine x_get C0 hP 2 (mX_n rfl) rfl rfl 1 (by decide) i_X3 k_0 rfl rfl dX3_inTheEnd_21 ?_
        refine lv_iload_n C0.hx C0.hb dX3_inTheEnd_24 rfl (lv_at hl 2 rfl) ?_
        refine x_iald C0 hP 11 t' 30 (mX_n rfl) rfl (by omega) (by decide) dX3_inTheEnd_25 ?_
        obtain ⟨e_5, b_6⟩ := (ok.std (by omega) : inR (σ 11 0 t') _)
        refine x_top e_5 ?_
        refine lv_istore_n (lv' := [(2, .int (nI (nv (σ 11 0 t')))), (0, .ref (a 2 0)), (1, .int (nI t)), (3, .int (nI k))]) C0.hx C0.hb dX3_inTheEnd_26 rfl hl (by decide) rfl (fun ls hl => ?_)
        refine lv_iinc (v := nI (k + 1)) (lv' := [(3, .int (nI (k + 1))), (2, .int (nI (nv (σ 11 0 t')))), (0, .ref (a 2 0)), (1, .int (nI t))]) C0.hx C0.hb dX3_inTheEnd_27 hl (k := 3) rfl (nI_1 k) (by decide) rfl (fun ls hl => ?_)
        refine lv_goto (tgt := 4) C0.hx C0.hb dX3_inTheEnd_30 (by decide) ?_
        exact ih4 ((n, k + 1, nv (σ 11 0 t'))) ls ⟨(by omega), (by omega), hR, (lv_sub hl [2, 3, 1, 0] rfl)⟩ (Nat.lt_succ_self _)

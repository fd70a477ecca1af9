set_option maxHeartbeats 4000000 in
set_option maxRecDepth 100000 in
theorem mtX5_in (l : Launch) (g : xG) (a : xAd) (σ : xS) (x y z : Int32) : xMi l yX5_in wsX5_in ({ frames := 0, cells := 0, slots := 0, locals := 0 }) [] g a σ [.int x, .int y, .int z] (bI (inX x y z)) := by
  unfold xMi
  refine Met.ofW (cc := cX5_in) (maxL := 3) (ret := (some .boolean)) (by decide) rfl ?_
  intro p e s m args below meth c s₁ B hml hv
  obtain ⟨rfl, hP, hK, hN, hj⟩ := hv
  have hr := B.returns
  have hlocks := B.notSynchronized
  have C0 : xC p s m _ c cX5_in 3 wsX5_in RX5 [] g a (xA [] a s.heap.size) := ⟨⟨B.exec, B.bytes, hml, findClass_of_methodNamed B.named, atoms_spec (ws := wsX5_in) B.pre⟩, hK, hN, hj, fun n h => Or.inl ⟨n, h, rfl⟩, fun q h => Or.inr h⟩
  have hS : va_S (xA [] a s.heap.size) s.heap s.heap [] := va_S.rf
  have hl := lv_entry ([.int x, .int y, .int z]) (n := 3) (Nat.le_of_ble_eq_true rfl)
  rw [lg_entry_eq]
  generalize (lg_sl ([.int x, .int y, .int z]) ++ List.replicate (3 - (lg_sl ([.int x, .int y, .int z])).length) Slot.unset).toArray = ls at hl ⊢
  have hl : lv_has ls 3 [(0, .int x), (1, .int y), (2, .int z)] := hl
  refine x_join (α := Bool) 15 (fun b15 H' locs' ls => (H' = s.heap ∧ locs' = [] ∧ b15 = (inX x y z)) ∧ lv_has ls 3 [(0, .int x), (1, .int y), (2, .int z)]) (fun b15 => [.int (bI b15)]) ?_ (fun J15 => ?_)
  · rintro b15 _ _ ls ⟨⟨rfl, rfl, hb15⟩, hl⟩
    subst hb15
    exact W.zret (v := bI (inX x y z)) C0.hx C0.hb hr (bI_nar _) (fun t ht hW => ⟨_, rfl, rfl, ht⟩) (fun q h => nomatch h) dX5_in_15
  ·
    refine lv_iload_n C0.hx C0.hb dX5_in_0 rfl (lv_at hl 0 rfl) ?_
    refine lv_iload_n C0.hx C0.hb dX5_in_1 rfl (lv_at hl 1 rfl) ?_
    refine lv_icmp_lt (tgt := 14) C0.hx C0.hb dX5_in_2 (by decide) (fun c_1 => ?_) (fun c_1 => ?_)
    ·
      refine lv_iconst (v := nI 0) C0.hx C0.hb dX5_in_14 (by decide) ?_
      exact J15 false _ _ ls ⟨⟨rfl, rfl, (by simp [inX, c_1])⟩, (lv_sub hl [0, 1, 2] rfl)⟩
    ·
      refine lv_iload_n C0.hx C0.hb dX5_in_5 rfl (lv_at hl 0 rfl) ?_
      refine lv_iload_n C0.hx C0.hb dX5_in_6 rfl (lv_at hl 2 rfl) ?_
      refine lv_icmp_gt (tgt := 14) C0.hx C0.hb dX5_in_7 (by decide) (fun c_2 => ?_) (fun c_2 => ?_)
      ·
        refine lv_iconst (v := nI 0) C0.hx C0.hb dX5_in_14 (by decide) ?_
        exact J15 false _ _ ls ⟨⟨rfl, rfl, (by simp [inX, c_2, c_1])⟩, (lv_sub hl [0, 1, 2] rfl)⟩
      ·
        refine lv_iconst (v := nI 1) C0.hx C0.hb dX5_in_10 (by decide) ?_
        refine lv_goto (tgt := 15) C0.hx C0.hb dX5_in_11 (by decide) ?_
        exact J15 true _ _ ls ⟨⟨rfl, rfl, (by simp [inX, c_2, c_1])⟩, (lv_sub hl [0, 1, 2] rfl)⟩

set_option maxHeartbeats 4000000 in
set_option maxRecDepth 100000 in
theorem mtX5_isVersion (l : Launch) (g : xG) (a : xAd) (σ : xS) (x : Int32) : xMi l yX5_isVersion wsX5_isVersion ({ frames := 1, cells := 0, slots := 0, locals := 22 }) [] g a σ [.int x] (bI (verM x)) := by
  unfold xMi
  refine Met.ofW (cc := cX5_isVersion) (maxL := 1) (ret := (some .boolean)) (by decide) rfl ?_
  intro p e s m args below meth c s₁ B hml hv
  obtain ⟨rfl, hP, hK, hN, hj⟩ := hv
  have hr := B.returns
  have hlocks := B.notSynchronized
  have C0 : xC p s m _ c cX5_isVersion 1 wsX5_isVersion RX5 [] g a (xA [] a s.heap.size) := ⟨⟨B.exec, B.bytes, hml, findClass_of_methodNamed B.named, atoms_spec (ws := wsX5_isVersion) B.pre⟩, hK, hN, hj, fun n h => Or.inl ⟨n, h, rfl⟩, fun q h => Or.inr h⟩
  have hS : va_S (xA [] a s.heap.size) s.heap s.heap [] := va_S.rf
  have hl := lv_entry ([.int x]) (n := 1) (Nat.le_of_ble_eq_true rfl)
  rw [lg_entry_eq]
  generalize (lg_sl ([.int x]) ++ List.replicate (1 - (lg_sl ([.int x])).length) Slot.unset).toArray = ls at hl ⊢
  have hl : lv_has ls 1 [(0, .int x)] := hl
  refine lv_iload_n C0.hx C0.hb dX5_isVersion_0 rfl (lv_at hl 0 rfl) ?_
  refine lv_iconst (v := nI 0) C0.hx C0.hb dX5_isVersion_1 (by decide) ?_
  refine lv_iconst (v := nI 3) C0.hx C0.hb dX5_isVersion_2 (by decide) ?_
  refine x_Si (As := [.int x, .int (nI 0), .int (nI 3)]) (rest := []) C0 (mtX5_in l g a σ x (nI 0) (nI 3)) hP C0.2.2.2.1 (va_cwS 3 C0.hts gX5_isVersion_X5_in rfl rfl rfl (by decide +kernel) ⟨Nat.le_of_ble_eq_true rfl, Nat.le_of_ble_eq_true rfl⟩) rfl hl rfl (Nat.le_of_ble_eq_true rfl) (Nat.zero_le _) (Nat.zero_le _) dX5_isVersion_3 ?_
  exact W.zret (v := bI (inX x (nI 0) (nI 3))) C0.hx C0.hb hr (bI_nar _) (fun t ht hW => ⟨_, rfl, rfl, ht⟩) (fun q h => nomatch h) dX5_isVersion_6

set_option maxHeartbeats 4000000 in
set_option maxRecDepth 100000 in
theorem mtX5_isFunction (l : Launch) (g : xG) (a : xAd) (σ : xS) (x : Int32) : xMi l yX5_isFunction wsX5_isFunction ({ frames := 1, cells := 0, slots := 0, locals := 22 }) [] g a σ [.int x] (bI (funM x)) := by
  unfold xMi
  refine Met.ofW (cc := cX5_isFunction) (maxL := 1) (ret := (some .boolean)) (by decide) rfl ?_
  intro p e s m args below meth c s₁ B hml hv
  obtain ⟨rfl, hP, hK, hN, hj⟩ := hv
  have hr := B.returns
  have hlocks := B.notSynchronized
  have C0 : xC p s m _ c cX5_isFunction 1 wsX5_isFunction RX5 [] g a (xA [] a s.heap.size) := ⟨⟨B.exec, B.bytes, hml, findClass_of_methodNamed B.named, atoms_spec (ws := wsX5_isFunction) B.pre⟩, hK, hN, hj, fun n h => Or.inl ⟨n, h, rfl⟩, fun q h => Or.inr h⟩
  have hS : va_S (xA [] a s.heap.size) s.heap s.heap [] := va_S.rf
  have hl := lv_entry ([.int x]) (n := 1) (Nat.le_of_ble_eq_true rfl)
  rw [lg_entry_eq]
  generalize (lg_sl ([.int x]) ++ List.replicate (1 - (lg_sl ([.int x])).length) Slot.unset).toArray = ls at hl ⊢
  have hl : lv_has ls 1 [(0, .int x)] := hl
  refine lv_iload_n C0.hx C0.hb dX5_isFunction_0 rfl (lv_at hl 0 rfl) ?_
  refine lv_iconst (v := nI 0) C0.hx C0.hb dX5_isFunction_1 (by decide) ?_
  refine lv_bipush (v := nI 29) C0.hx C0.hb dX5_isFunction_2 (by decide) ?_
  refine x_Si (As := [.int x, .int (nI 0), .int (nI 29)]) (rest := []) C0 (mtX5_in l g a σ x (nI 0) (nI 29)) hP C0.2.2.2.1 (va_cwS 3 C0.hts gX5_isFunction_X5_in rfl rfl rfl (by decide +kernel) ⟨Nat.le_of_ble_eq_true rfl, Nat.le_of_ble_eq_true rfl⟩) rfl hl rfl (Nat.le_of_ble_eq_true rfl) (Nat.zero_le _) (Nat.zero_le _) dX5_isFunction_4 ?_
  exact W.zret (v := bI (inX x (nI 0) (nI 29))) C0.hx C0.hb hr (bI_nar _) (fun t ht hW => ⟨_, rfl, rfl, ht⟩) (fun q h => nomatch h) dX5_isFunction_7

set_option maxHeartbeats 4000000 in
set_option maxRecDepth 100000 in
theorem mtX5_isAddress (l : Launch) (g : xG) (a : xAd) (σ : xS) (x : Int32) : xMi l yX5_isAddress wsX5_isAddress ({ frames := 1, cells := 0, slots := 0, locals := 22 }) [] g a σ [.int x] (bI (adrM x)) := by
  unfold xMi
  refine Met.ofW (cc := cX5_isAddress) (maxL := 1) (ret := (some .boolean)) (by decide) rfl ?_
  intro p e s m args below meth c s₁ B hml hv
  obtain ⟨rfl, hP, hK, hN, hj⟩ := hv
  have hr := B.returns
  have hlocks := B.notSynchronized
  have C0 : xC p s m _ c cX5_isAddress 1 wsX5_isAddress RX5 [] g a (xA [] a s.heap.size) := ⟨⟨B.exec, B.bytes, hml, findClass_of_methodNamed B.named, atoms_spec (ws := wsX5_isAddress) B.pre⟩, hK, hN, hj, fun n h => Or.inl ⟨n, h, rfl⟩, fun q h => Or.inr h⟩
  have hS : va_S (xA [] a s.heap.size) s.heap s.heap [] := va_S.rf
  have hl := lv_entry ([.int x]) (n := 1) (Nat.le_of_ble_eq_true rfl)
  rw [lg_entry_eq]
  generalize (lg_sl ([.int x]) ++ List.replicate (1 - (lg_sl ([.int x])).length) Slot.unset).toArray = ls at hl ⊢
  have hl : lv_has ls 1 [(0, .int x)] := hl
  refine lv_iload_n C0.hx C0.hb dX5_isAddress_0 rfl (lv_at hl 0 rfl) ?_
  refine lv_iconst (v := nI 0) C0.hx C0.hb dX5_isAddress_1 (by decide) ?_
  refine lv_sipush (v := nI 9999) C0.hx C0.hb dX5_isAddress_2 (by decide) ?_
  refine x_Si (As := [.int x, .int (nI 0), .int (nI 9999)]) (rest := []) C0 (mtX5_in l g a σ x (nI 0) (nI 9999)) hP C0.2.2.2.1 (va_cwS 3 C0.hts gX5_isAddress_X5_in rfl rfl rfl (by decide +kernel) ⟨Nat.le_of_ble_eq_true rfl, Nat.le_of_ble_eq_true rfl⟩) rfl hl rfl (Nat.le_of_ble_eq_true rfl) (Nat.zero_le _) (Nat.zero_le _) dX5_isAddress_5 ?_
  exact W.zret (v := bI (inX x (nI 0) (nI 9999))) C0.hx C0.hb hr (bI_nar _) (fun t ht hW => ⟨_, rfl, rfl, ht⟩) (fun q h => nomatch h) dX5_isAddress_8

set_option maxHeartbeats 4000000 in
set_option maxRecDepth 100000 in
theorem mtX5_isNext (l : Launch) (g : xG) (a : xAd) (σ : xS) (x y : Int32) : xMi l yX5_isNext wsX5_isNext ({ frames := 2, cells := 0, slots := 0, locals := 42 }) [] g a σ [.int x, .int y] (bI (nxM x y)) := by
  unfold xMi
  refine Met.ofW (cc := cX5_isNext) (maxL := 2) (ret := (some .boolean)) (by decide) rfl ?_
  intro p e s m args below meth c s₁ B hml hv
  obtain ⟨rfl, hP, hK, hN, hj⟩ := hv
  have hr := B.returns
  have hlocks := B.notSynchronized
  have C0 : xC p s m _ c cX5_isNext 2 wsX5_isNext RX5 [] g a (xA [] a s.heap.size) := ⟨⟨B.exec, B.bytes, hml, findClass_of_methodNamed B.named, atoms_spec (ws := wsX5_isNext) B.pre⟩, hK, hN, hj, fun n h => Or.inl ⟨n, h, rfl⟩, fun q h => Or.inr h⟩
  have hS : va_S (xA [] a s.heap.size) s.heap s.heap [] := va_S.rf
  have hl := lv_entry ([.int x, .int y]) (n := 2) (Nat.le_of_ble_eq_true rfl)
  rw [lg_entry_eq]
  generalize (lg_sl ([.int x, .int y]) ++ List.replicate (2 - (lg_sl ([.int x, .int y])).length) Slot.unset).toArray = ls at hl ⊢
  have hl : lv_has ls 2 [(0, .int x), (1, .int y)] := hl
  refine x_join (α := Bool) 22 (fun b22 H' locs' ls => (H' = s.heap ∧ locs' = [] ∧ b22 = (nxM x y)) ∧ lv_has ls 2 [(0, .int x), (1, .int y)]) (fun b22 => [.int (bI b22)]) ?_ (fun J22 => ?_)
  · rintro b22 _ _ ls ⟨⟨rfl, rfl, hb22⟩, hl⟩
    subst hb22
    exact W.zret (v := bI (nxM x y)) C0.hx C0.hb hr (bI_nar _) (fun t ht hW => ⟨_, rfl, rfl, ht⟩) (fun q h => nomatch h) dX5_isNext_22
  ·
    refine lv_iload_n C0.hx C0.hb dX5_isNext_0 rfl (lv_at hl 0 rfl) ?_
    refine lv_iconst (v := -1) C0.hx C0.hb dX5_isNext_1 (by decide) ?_
    refine lv_icmp_eq (tgt := 17) C0.hx C0.hb dX5_isNext_2 (by decide) (fun c_1 => ?_) (fun c_1 => ?_)
    ·
      refine lv_iconst (v := nI 1) C0.hx C0.hb dX5_isNext_17 (by decide) ?_
      refine lv_goto (tgt := 22) C0.hx C0.hb dX5_isNext_18 (by decide) ?_
      exact J22 true _ _ ls ⟨⟨rfl, rfl, (by simp [nxM, c_1])⟩, (lv_sub hl [0, 1] rfl)⟩
    ·
      refine lv_iload_n C0.hx C0.hb dX5_isNext_5 rfl (lv_at hl 0 rfl) ?_
      refine x_Si (As := [.int x]) (rest := []) C0 (mtX5_isAddress l g a σ x) hP C0.2.2.2.1 (va_cwS 1 C0.hts gX5_isNext_X5_isAddress rfl rfl rfl (by decide +kernel) ⟨Nat.le_of_ble_eq_true rfl, Nat.le_of_ble_eq_true rfl⟩) rfl hl rfl (Nat.le_of_ble_eq_true rfl) (Nat.zero_le _) (Nat.zero_le _) dX5_isNext_6 ?_
      refine x_ifeq (tgt := 21) C0.hx C0.hb dX5_isNext_9 (by decide) (fun c_2 => ?_) (fun c_2 => ?_)
      ·
        refine lv_iconst (v := nI 0) C0.hx C0.hb dX5_isNext_21 (by decide) ?_
        exact J22 false _ _ ls ⟨⟨rfl, rfl, (by simp [nxM, c_2, c_1])⟩, (lv_sub hl [0, 1] rfl)⟩
      ·
        refine lv_iload_n C0.hx C0.hb dX5_isNext_12 rfl (lv_at hl 1 rfl) ?_
        refine lv_iconst (v := -1) C0.hx C0.hb dX5_isNext_13 (by decide) ?_
        refine lv_icmp_eq (tgt := 21) C0.hx C0.hb dX5_isNext_14 (by decide) (fun c_3 => ?_) (fun c_3 => ?_)
        ·
          refine lv_iconst (v := nI 0) C0.hx C0.hb dX5_isNext_21 (by decide) ?_
          exact J22 false _ _ ls ⟨⟨rfl, rfl, (by simp [nxM, c_3, c_2, c_1])⟩, (lv_sub hl [0, 1] rfl)⟩
        ·
          refine lv_iconst (v := nI 1) C0.hx C0.hb dX5_isNext_17 (by decide) ?_
          refine lv_goto (tgt := 22) C0.hx C0.hb dX5_isNext_18 (by decide) ?_
          exact J22 true _ _ ls ⟨⟨rfl, rfl, (by simp [nxM, c_3, c_2, c_1])⟩, (lv_sub hl [0, 1] rfl)⟩

set_option maxHeartbeats 4000000 in
set_option maxRecDepth 100000 in
theorem mtX5_isReport (l : Launch) (g : xG) (a : xAd) (σ : xS) (r : Int32) (ok : okM σ) : xMi l yX5_isReport wsX5_isReport ({ frames := 1, cells := 0, slots := 0, locals := 22 }) NLM g a σ [.ref (a 30 0), .int r] (bI (irM σ r)) := by
  unfold xMi
  refine Met.ofW (cc := cX5_isReport) (maxL := 2) (ret := (some .boolean)) (by decide) rfl ?_
  intro p e s m args below meth c s₁ B hml hv
  obtain ⟨rfl, hP, hK, hN, hj⟩ := hv
  have hr := B.returns
  have hlocks := B.notSynchronized
  have C0 : xC p s m _ c cX5_isReport 2 wsX5_isReport RX5 NLM g a (xA NLM a s.heap.size) := ⟨⟨B.exec, B.bytes, hml, findClass_of_methodNamed B.named, atoms_spec (ws := wsX5_isReport) B.pre⟩, hK, hN, hj, fun n h => Or.inl ⟨n, h, rfl⟩, fun q h => Or.inr h⟩
  have hS : va_S (xA NLM a s.heap.size) s.heap s.heap [] := va_S.rf
  have hl := lv_entry ([.ref (a 30 0), .int r]) (n := 2) (Nat.le_of_ble_eq_true rfl)
  rw [lg_entry_eq]
  generalize (lg_sl ([.ref (a 30 0), .int r]) ++ List.replicate (2 - (lg_sl ([.ref (a 30 0), .int r])).length) Slot.unset).toArray = ls at hl ⊢
  have hl : lv_has ls 2 [(0, .ref (a 30 0)), (1, .int r)] := hl
  have k_0 : Cond.fieldLink RX5 67 RX5 (TX5 8).2.1 (TX5 8).2.2.1 ∈ wsX5_isReport := by decide +kernel
  have i_X5 : ∀ w ∈ wsX50, w ∈ wsX5_isReport := by decide +kernel
  refine lv_iload_n C0.hx C0.hb dX5_isReport_0 rfl (lv_at hl 1 rfl) ?_
  refine lv_iconst (v := nI 0) C0.hx C0.hb dX5_isReport_1 (by decide) ?_
  refine lv_aload_n C0.hx C0.hb dX5_isReport_2 rfl (lv_at hl 0 rfl) ?_
  refine x_get C0 hP 30 (mM_n rfl rfl) rfl rfl 8 (by decide) i_X5 k_0 rfl rfl dX5_isReport_3 ?_
  obtain ⟨e_1, b_2⟩ := (ok.n : inR (σ 30 0 2) _)
  refine x_top e_1 ?_
  refine lv_iconst (v := nI 1) C0.hx C0.hb dX5_isReport_6 (by decide) ?_
  refine lv_isub C0.hx C0.hb dX5_isReport_7 ?_
  refine x_Si (As := [.int r, .int (nI 0), .int ((nI (nv (σ 30 0 2))) - (nI 1))]) (rest := []) C0 (mtX5_in l g a σ r (nI 0) ((nI (nv (σ 30 0 2))) - (nI 1))) (xP0 _) xDj0 (va_cwS 3 C0.hts gX5_isReport_X5_in rfl rfl rfl (by decide +kernel) ⟨Nat.le_of_ble_eq_true rfl, Nat.le_of_ble_eq_true rfl⟩) rfl hl rfl (Nat.le_of_ble_eq_true rfl) (Nat.zero_le _) (Nat.zero_le _) dX5_isReport_8 ?_
  exact W.zret (v := bI (inX r (nI 0) ((nI (nv (σ 30 0 2))) - (nI 1)))) C0.hx C0.hb hr (bI_nar _) (fun t ht hW => ⟨_, rfl, rfl, ht⟩) (fun q h => nomatch h) dX5_isReport_11

set_option maxHeartbeats 4000000 in
set_option maxRecDepth 100000 in
theorem mtX5_thrown (l : Launch) (g : xG) (a : xAd) (σ : xS) : xMi l yX5_thrown wsX5_thrown ({ frames := 0, cells := 0, slots := 0, locals := 0 }) NLM g a σ [.ref (a 30 0)] (σ 30 0 0) := by
  unfold xMi
  refine Met.ofW (cc := cX5_thrown) (maxL := 1) (ret := (some .int)) (by decide) rfl ?_
  intro p e s m args below meth c s₁ B hml hv
  obtain ⟨rfl, hP, hK, hN, hj⟩ := hv
  have hr := B.returns
  have hlocks := B.notSynchronized
  have C0 : xC p s m _ c cX5_thrown 1 wsX5_thrown RX5 NLM g a (xA NLM a s.heap.size) := ⟨⟨B.exec, B.bytes, hml, findClass_of_methodNamed B.named, atoms_spec (ws := wsX5_thrown) B.pre⟩, hK, hN, hj, fun n h => Or.inl ⟨n, h, rfl⟩, fun q h => Or.inr h⟩
  have hS : va_S (xA NLM a s.heap.size) s.heap s.heap [] := va_S.rf
  have hl := lv_entry ([.ref (a 30 0)]) (n := 1) (Nat.le_of_ble_eq_true rfl)
  rw [lg_entry_eq]
  generalize (lg_sl ([.ref (a 30 0)]) ++ List.replicate (1 - (lg_sl ([.ref (a 30 0)])).length) Slot.unset).toArray = ls at hl ⊢
  have hl : lv_has ls 1 [(0, .ref (a 30 0))] := hl
  have k_0 : Cond.fieldLink RX5 60 RX5 (TX5 0).2.1 (TX5 0).2.2.1 ∈ wsX5_thrown := by decide +kernel
  have i_X5 : ∀ w ∈ wsX50, w ∈ wsX5_thrown := by decide +kernel
  refine lv_aload_n C0.hx C0.hb dX5_thrown_0 rfl (lv_at hl 0 rfl) ?_
  refine x_get C0 hP 30 (mM_n rfl rfl) rfl rfl 0 (by decide) i_X5 k_0 rfl rfl dX5_thrown_1 ?_
  exact W.iret (v := σ 30 0 0) C0.hx C0.hb hr (fun t ht hW => ⟨_, rfl, rfl, ht⟩) (fun q h => nomatch h) dX5_thrown_4

set_option maxHeartbeats 4000000 in
set_option maxRecDepth 100000 in
theorem mtX5_fails (l : Launch) (g : xG) (a : xAd) (σ : xS) (k : Nat) : xMw l yX5_fails wsX5_fails ({ frames := 0, cells := 0, slots := 0, locals := 0 }) NLM g a σ [.ref (a 30 0), .int (nI k)] (nI 0) (up3 σ 30 0 0 (nI k)) := by
  intro sz
  refine Met.ofW (cc := cX5_fails) (maxL := 2) (ret := (some .int)) (by decide) rfl ?_
  intro p e s m args below meth c s₁ B hml hv
  obtain ⟨rfl, hsz, hP, hK, hN, hj⟩ := hv
  subst hsz
  have hr := B.returns
  have hlocks := B.notSynchronized
  have C0 : xC p s m _ c cX5_fails 2 wsX5_fails RX5 NLM g a (xA NLM a s.heap.size) := ⟨⟨B.exec, B.bytes, hml, findClass_of_methodNamed B.named, atoms_spec (ws := wsX5_fails) B.pre⟩, hK, hN, hj, fun n h => Or.inl ⟨n, h, rfl⟩, fun q h => Or.inr h⟩
  have hS : va_S (xA NLM a s.heap.size) s.heap s.heap [] := va_S.rf
  have hl := lv_entry ([.ref (a 30 0), .int (nI k)]) (n := 2) (Nat.le_of_ble_eq_true rfl)
  rw [lg_entry_eq]
  generalize (lg_sl ([.ref (a 30 0), .int (nI k)]) ++ List.replicate (2 - (lg_sl ([.ref (a 30 0), .int (nI k)])).length) Slot.unset).toArray = ls at hl ⊢
  have hl : lv_has ls 2 [(0, .ref (a 30 0)), (1, .int (nI k))] := hl
  have k_0 : Cond.fieldLink RX5 60 RX5 (TX5 0).2.1 (TX5 0).2.2.1 ∈ wsX5_fails := by decide +kernel
  have i_X5 : ∀ w ∈ wsX50, w ∈ wsX5_fails := by decide +kernel
  refine lv_aload_n C0.hx C0.hb dX5_fails_0 rfl (lv_at hl 0 rfl) ?_
  refine lv_iload_n C0.hx C0.hb dX5_fails_1 rfl (lv_at hl 1 rfl) ?_
  refine x_put C0 hP hS 30 (mM_n rfl rfl) rfl rfl tyX5 tyX5_ok nmX5 0 (by decide) i_X5 k_0 rfl rfl 0 rfl (Nat.le_of_ble_eq_true rfl) rfl dX5_fails_2 (fun H locs hP hS => ?_)
  refine lv_iconst (v := nI 0) C0.hx C0.hb dX5_fails_5 (by decide) ?_
  exact W.iret (v := nI 0) C0.hx C0.hb hr (fun t ht hW => ⟨⟨_, up3 σ 30 0 0 (nI k), rfl, ⟨rfl, rfl⟩, x_end ht hP⟩, hS.F ht⟩) hS.2.2 dX5_fails_6

set_option maxHeartbeats 4000000 in
set_option maxRecDepth 100000 in
theorem mtX5_leads (l : Launch) (g : xG) (a : xAd) (σ : xS) (t f : Nat) (ht0 : t < 30) (hf : f < 30) (ok : okM σ) : xMi l yX5_leads wsX5_leads ({ frames := 0, cells := 0, slots := 0, locals := 0 }) NLM g a σ [.ref (a 30 0), .int (nI t), .int (nI f)] (bI (ldM σ f 30 t)) := by
  unfold xMi
  refine Met.ofW (cc := cX5_leads) (maxL := 6) (ret := (some .boolean)) (by decide) rfl ?_
  intro p e s m args below meth c s₁ B hml hv
  obtain ⟨rfl, hP, hK, hN, hj⟩ := hv
  have hr := B.returns
  have hlocks := B.notSynchronized
  have C0 : xC p s m _ c cX5_leads 6 wsX5_leads RX5 NLM g a (xA NLM a s.heap.size) := ⟨⟨B.exec, B.bytes, hml, findClass_of_methodNamed B.named, atoms_spec (ws := wsX5_leads) B.pre⟩, hK, hN, hj, fun n h => Or.inl ⟨n, h, rfl⟩, fun q h => Or.inr h⟩
  have hS : va_S (xA NLM a s.heap.size) s.heap s.heap [] := va_S.rf
  have hl := lv_entry ([.ref (a 30 0), .int (nI t), .int (nI f)]) (n := 6) (Nat.le_of_ble_eq_true rfl)
  rw [lg_entry_eq]
  generalize (lg_sl ([.ref (a 30 0), .int (nI t), .int (nI f)]) ++ List.replicate (6 - (lg_sl ([.ref (a 30 0), .int (nI t), .int (nI f)])).length) Slot.unset).toArray = ls at hl ⊢
  have hl : lv_has ls 6 [(0, .ref (a 30 0)), (1, .int (nI t)), (2, .int (nI f))] := hl
  have k_0 : Cond.fieldLink RX5 26 RX5 (TX5 6).2.1 (TX5 6).2.2.1 ∈ wsX5_leads := by decide +kernel
  have i_X5 : ∀ w ∈ wsX50, w ∈ wsX5_leads := by decide +kernel
  refine lv_iload_n C0.hx C0.hb dX5_leads_0 rfl (lv_at hl 1 rfl) ?_
  refine lv_istore_n (lv' := [(3, .int (nI t)), (0, .ref (a 30 0)), (1, .int (nI t)), (2, .int (nI f))]) C0.hx C0.hb dX5_leads_1 rfl hl (by decide) rfl (fun ls hl => ?_)
  refine lv_iload_n C0.hx C0.hb dX5_leads_2 rfl (lv_at hl 0 rfl) ?_
  refine lv_iload_n C0.hx C0.hb dX5_leads_3 rfl (lv_at hl 3 rfl) ?_
  refine x_join (α := Bool) 12 (fun b12 H' locs' ls => (H' = s.heap ∧ locs' = [] ∧ b12 = (decide (t = f))) ∧ lv_has ls 6 [(0, .ref (a 30 0)), (1, .int (nI t)), (2, .int (nI f)), (3, .int (nI t))]) (fun b12 => [.int (bI b12)]) ?_ (fun J12 => ?_)
  · rintro b12 _ _ ls ⟨⟨rfl, rfl, hb12⟩, hl⟩
    subst hb12
    refine lv_istore (lv' := [(4, .int (bI (decide (t = f)))), (0, .ref (a 30 0)), (1, .int (nI t)), (2, .int (nI f)), (3, .int (nI t))]) C0.hx C0.hb dX5_leads_12 hl (by decide) rfl (fun ls hl => ?_)
    refine lv_iconst (v := nI 0) C0.hx C0.hb dX5_leads_14 (by decide) ?_
    refine lv_istore (lv' := [(5, .int (nI 0)), (4, .int (bI (decide (t = f)))), (0, .ref (a 30 0)), (1, .int (nI t)), (2, .int (nI f)), (3, .int (nI t))]) C0.hx C0.hb dX5_leads_15 hl (by decide) rfl (fun ls hl => ?_)
    refine x_loopR (α := Nat × Nat × Nat × Bool) (fun u => u.1) (fun ⟨n, k, t', b⟩ ls => k + n = 30 ∧ t' < 30 ∧ b = decide (t' = f) ∧ ldM σ f n t' = ldM σ f 30 t ∧ lv_has ls 6 [(0, .ref (a 30 0)), (1, .int (nI t)), (2, .int (nI f)), (3, .int (nI t')), (4, .int (bI b)), (5, .int (nI k))]) ?_ ((30, 0, t, decide (t = f))) ⟨(by omega), ht0, rfl, rfl, (lv_sub hl [2, 3, 4, 5, 1, 0] rfl)⟩
    rintro ⟨n, k, t', b⟩ ls ⟨hn, ht1, hb, hG, hl⟩ ih17
    refine lv_iload C0.hx C0.hb dX5_leads_17 (lv_at hl 5 rfl) ?_
    refine lv_bipush (v := nI 30) C0.hx C0.hb dX5_leads_19 (by decide) ?_
    refine x_join (α := Unit) 54 (fun _ H' locs' ls => (H' = s.heap ∧ locs' = [] ∧ b = ldM σ f 30 t) ∧ lv_has ls 6 [(0, .ref (a 30 0)), (1, .int (nI t)), (2, .int (nI f)), (3, .int (nI t')), (4, .int (bI b)), (5, .int (nI k))]) (fun _ => []) ?_ (fun J54 => ?_)
    · rintro _ _ _ ls ⟨⟨rfl, rfl, hR⟩, hl⟩
      refine lv_iload C0.hx C0.hb dX5_leads_54 (lv_at hl 4 rfl) ?_
      exact W.zret (v := bI b) C0.hx C0.hb hr (bI_nar _) (fun t ht hW => ⟨_, rfl, (by rw [hR]), ht⟩) (fun q h => nomatch h) dX5_leads_56
    ·
      refine x_icmp_ge (tgt := 54) C0.hx C0.hb (by omega) (by omega) dX5_leads_21 (by decide) (fun c_1 => ?_) (fun c_1 => ?_)
      ·
        have hR : b = ldM σ f 30 t := by rw [← hG, show n = 0 by omega, hb]; rfl
        exact J54 () _ _ ls ⟨⟨rfl, rfl, hR⟩, (lv_sub hl [0, 1, 2, 3, 4, 5] rfl)⟩
      ·
        refine lv_iload C0.hx C0.hb dX5_leads_24 (lv_at hl 4 rfl) ?_
        refine x_ifne (tgt := 54) C0.hx C0.hb dX5_leads_26 (by decide) (fun c_2 => ?_) (fun c_2 => ?_)
        ·
          have hR : b = ldM σ f 30 t := by rw [← hG]; obtain ⟨n, rfl⟩ : ∃ z, n = z + 1 := ⟨n - 1, by omega⟩; rw [ldM, if_pos (by rw [hb] at c_2; simpa using c_2), c_2]
          exact J54 () _ _ ls ⟨⟨rfl, rfl, hR⟩, (lv_sub hl [0, 1, 2, 3, 4, 5] rfl)⟩
        ·
          obtain ⟨n, rfl⟩ : ∃ z, n = z + 1 := ⟨n - 1, by omega⟩
          have hR : ldM σ f n (nv (σ 36 0 t')) = ldM σ f 30 t := by rw [← hG, ldM, if_neg (by rw [hb] at c_2; simpa using c_2)]
          refine lv_aload_n C0.hx C0.hb dX5_leads_29 rfl (lv_at hl 0 rfl) ?_
          refine x_get C0 hP 30 (mM_n rfl rfl) rfl rfl 6 (by decide) i_X5 k_0 rfl rfl dX5_leads_30 ?_
          refine lv_iload_n C0.hx C0.hb dX5_leads_33 rfl (lv_at hl 3 rfl) ?_
          refine x_iald C0 hP 36 t' 30 (mM_n rfl rfl) rfl (by omega) (by decide) dX5_leads_34 ?_
          obtain ⟨e_3, b_4⟩ := (ok.std (by omega) : inR (σ 36 0 t') _)
          refine x_top e_3 ?_
          refine lv_istore_n (lv' := [(3, .int (nI (nv (σ 36 0 t')))), (0, .ref (a 30 0)), (1, .int (nI t)), (2, .int (nI f)), (4, .int (bI b)), (5, .int (nI k))]) C0.hx C0.hb dX5_leads_35 rfl hl (by decide) rfl (fun ls hl => ?_)
          refine lv_iload_n C0.hx C0.hb dX5_leads_36 rfl (lv_at hl 0 rfl) ?_
          refine lv_iload_n C0.hx C0.hb dX5_leads_37 rfl (lv_at hl 3 rfl) ?_
          refine x_join (α := Bool) 46 (fun b46 H' locs' ls => (H' = s.heap ∧ locs' = [] ∧ b46 = (decide (nv (σ 36 0 t') = f))) ∧ lv_has ls 6 [(0, .ref (a 30 0)), (1, .int (nI t)), (2, .int (nI f)), (3, .int (nI (nv (σ 36 0 t')))), (4, .int (bI b)), (5, .int (nI k))]) (fun b46 => [.int (bI b46)]) ?_ (fun J46 => ?_)
          · rintro b46 _ _ ls ⟨⟨rfl, rfl, hb46⟩, hl⟩
            subst hb46
            refine lv_istore (lv' := [(4, .int (bI (decide (nv (σ 36 0 t') = f)))), (0, .ref (a 30 0)), (1, .int (nI t)), (2, .int (nI f)), (3, .int (nI (nv (σ 36 0 t')))), (5, .int (nI k))]) C0.hx C0.hb dX5_leads_46 hl (by decide) rfl (fun ls hl => ?_)
            refine lv_iinc (v := nI (k + 1)) (lv' := [(5, .int (nI (k + 1))), (4, .int (bI (decide (nv (σ 36 0 t') = f)))), (0, .ref (a 30 0)), (1, .int (nI t)), (2, .int (nI f)), (3, .int (nI (nv (σ 36 0 t'))))]) C0.hx C0.hb dX5_leads_48 hl (k := 5) rfl (nI_1 k) (by decide) rfl (fun ls hl => ?_)
            refine lv_goto (tgt := 17) C0.hx C0.hb dX5_leads_51 (by decide) ?_
            exact ih17 ((n, k + 1, nv (σ 36 0 t'), decide (nv (σ 36 0 t') = f))) ls ⟨(by omega), (by omega), rfl, hR, (lv_sub hl [2, 3, 4, 5, 1, 0] rfl)⟩ (Nat.lt_succ_self _)
          ·
            refine x_icmp_ne (tgt := 45) C0.hx C0.hb (by omega) (by omega) dX5_leads_38 (by decide) (fun c_5 => ?_) (fun c_5 => ?_)
            ·
              refine lv_iconst (v := nI 0) C0.hx C0.hb dX5_leads_45 (by decide) ?_
              exact J46 false _ _ ls ⟨⟨rfl, rfl, (by simp [c_5])⟩, (lv_sub hl [1, 2, 3, 0, 4, 5] rfl)⟩
            ·
              refine lv_iconst (v := nI 1) C0.hx C0.hb dX5_leads_41 (by decide) ?_
              refine lv_goto (tgt := 46) C0.hx C0.hb dX5_leads_42 (by decide) ?_
              exact J46 true _ _ ls ⟨⟨rfl, rfl, (by simp [c_5])⟩, (lv_sub hl [1, 2, 3, 0, 4, 5] rfl)⟩
  ·
    refine x_icmp_ne (tgt := 11) C0.hx C0.hb (by omega) (by omega) dX5_leads_4 (by decide) (fun c_6 => ?_) (fun c_6 => ?_)
    ·
      refine lv_iconst (v := nI 0) C0.hx C0.hb dX5_leads_11 (by decide) ?_
      exact J12 false _ _ ls ⟨⟨rfl, rfl, (by simp [c_6])⟩, (lv_sub hl [1, 2, 3, 0] rfl)⟩
    ·
      refine lv_iconst (v := nI 1) C0.hx C0.hb dX5_leads_7 (by decide) ?_
      refine lv_goto (tgt := 12) C0.hx C0.hb dX5_leads_8 (by decide) ?_
      exact J12 true _ _ ls ⟨⟨rfl, rfl, (by simp [c_6])⟩, (lv_sub hl [1, 2, 3, 0] rfl)⟩

set_option maxHeartbeats 4000000 in
set_option maxRecDepth 100000 in
theorem mtX5_root (l : Launch) (g : xG) (a : xAd) (σ : xS) (t : Nat) (ht0 : t < 30) (ok : okM σ) (ac : acM σ) : xMi l yX5_root wsX5_root ({ frames := 0, cells := 0, slots := 0, locals := 0 }) NLM g a σ [.ref (a 30 0), .int (nI t)] (nI (ieM σ 30 t)) := by
  unfold xMi
  refine Met.ofW (cc := cX5_root) (maxL := 3) (ret := (some .int)) (by decide) rfl ?_
  intro p e s m args below meth c s₁ B hml hv
  obtain ⟨rfl, hP, hK, hN, hj⟩ := hv
  have hr := B.returns
  have hlocks := B.notSynchronized
  have C0 : xC p s m _ c cX5_root 3 wsX5_root RX5 NLM g a (xA NLM a s.heap.size) := ⟨⟨B.exec, B.bytes, hml, findClass_of_methodNamed B.named, atoms_spec (ws := wsX5_root) B.pre⟩, hK, hN, hj, fun n h => Or.inl ⟨n, h, rfl⟩, fun q h => Or.inr h⟩
  have hS : va_S (xA NLM a s.heap.size) s.heap s.heap [] := va_S.rf
  have hl := lv_entry ([.ref (a 30 0), .int (nI t)]) (n := 3) (Nat.le_of_ble_eq_true rfl)
  rw [lg_entry_eq]
  generalize (lg_sl ([.ref (a 30 0), .int (nI t)]) ++ List.replicate (3 - (lg_sl ([.ref (a 30 0), .int (nI t)])).length) Slot.unset).toArray = ls at hl ⊢
  have hl : lv_has ls 3 [(0, .ref (a 30 0)), (1, .int (nI t))] := hl
  have k_0 : Cond.fieldLink RX5 26 RX5 (TX5 6).2.1 (TX5 6).2.2.1 ∈ wsX5_root := by decide +kernel
  have i_X5 : ∀ w ∈ wsX50, w ∈ wsX5_root := by decide +kernel
  refine lv_iload_n C0.hx C0.hb dX5_root_0 rfl (lv_at hl 1 rfl) ?_
  refine lv_istore_n (lv' := [(2, .int (nI t)), (0, .ref (a 30 0)), (1, .int (nI t))]) C0.hx C0.hb dX5_root_1 rfl hl (by decide) rfl (fun ls hl => ?_)
  refine x_loopR (α := Nat × Nat) (fun u => u.1) (fun ⟨n, t'⟩ ls => t' < 30 ∧ ieM σ n t' = ieM σ 30 t ∧ lv_has ls 3 [(0, .ref (a 30 0)), (1, .int (nI t)), (2, .int (nI t'))]) ?_ ((30, t)) ⟨ht0, rfl, (lv_sub hl [1, 2, 0] rfl)⟩
  rintro ⟨n, t'⟩ ls ⟨ht1, hG, hl⟩ ih2
  refine lv_aload_n C0.hx C0.hb dX5_root_2 rfl (lv_at hl 0 rfl) ?_
  refine x_get C0 hP 30 (mM_n rfl rfl) rfl rfl 6 (by decide) i_X5 k_0 rfl rfl dX5_root_3 ?_
  refine lv_iload_n C0.hx C0.hb dX5_root_6 rfl (lv_at hl 2 rfl) ?_
  refine x_iald C0 hP 36 t' 30 (mM_n rfl rfl) rfl (by omega) (by decide) dX5_root_7 ?_
  obtain ⟨e_1, b_2⟩ := (ok.std (by omega) : inR (σ 36 0 t') _)
  refine x_top e_1 ?_
  refine lv_iload_n C0.hx C0.hb dX5_root_8 rfl (lv_at hl 2 rfl) ?_
  refine x_icmp_eq (tgt := 22) C0.hx C0.hb (by omega) (by omega) dX5_root_9 (by decide) (fun c_3 => ?_) (fun c_3 => ?_)
  ·
    have hR : t' = ieM σ 30 t := by rw [← hG]; cases n with | zero => rfl | succ n => rw [ieM, if_pos c_3]
    refine lv_iload_n C0.hx C0.hb dX5_root_22 rfl (lv_at hl 2 rfl) ?_
    exact W.iret (v := nI t') C0.hx C0.hb hr (fun t ht hW => ⟨_, rfl, (by rw [hR]), ht⟩) (fun q h => nomatch h) dX5_root_23
  ·
    cases n with | zero => exact absurd (by have h9 := ac t ht0; rw [← hG] at h9; exact h9) c_3 | succ n =>
    have hR : ieM σ n (nv (σ 36 0 t')) = ieM σ 30 t := by rw [← hG, ieM, if_neg c_3]
    refine lv_aload_n C0.hx C0.hb dX5_root_12 rfl (lv_at hl 0 rfl) ?_
    refine x_get C0 hP 30 (mM_n rfl rfl) rfl rfl 6 (by decide) i_X5 k_0 rfl rfl dX5_root_13 ?_
    refine lv_iload_n C0.hx C0.hb dX5_root_16 rfl (lv_at hl 2 rfl) ?_
    refine x_iald C0 hP 36 t' 30 (mM_n rfl rfl) rfl (by omega) (by decide) dX5_root_17 ?_
    obtain ⟨e_4, b_5⟩ := (ok.std (by omega) : inR (σ 36 0 t') _)
    refine x_top e_4 ?_
    refine lv_istore_n (lv' := [(2, .int (nI (nv (σ 36 0 t')))), (0, .ref (a 30 0)), (1, .int (nI t))]) C0.hx C0.hb dX5_root_18 rfl hl (by decide) rfl (fun ls hl => ?_)
    refine lv_goto (tgt := 2) C0.hx C0.hb dX5_root_19 (by decide) ?_
    exact ih2 ((n, nv (σ 36 0 t'))) ls ⟨(by omega), hR, (lv_sub hl [1, 2, 0] rfl)⟩ (Nat.lt_succ_self _)

set_option maxHeartbeats 4000000 in
set_option maxRecDepth 100000 in
theorem mtX5_frameOf (l : Launch) (g : xG) (a : xAd) (σ : xS) (r q : Nat) (hr0 : r < 60) (hq0 : q < 4) (ok : okM σ) : xMi l yX5_frameOf wsX5_frameOf ({ frames := 0, cells := 0, slots := 0, locals := 0 }) NLM g a σ [.ref (a 30 0), .int (nI r), .int (nI q)] (frM σ r q) := by
  unfold xMi
  refine Met.ofW (cc := cX5_frameOf) (maxL := 6) (ret := (some .int)) (by decide) rfl ?_
  intro p e s m args below meth c s₁ B hml hv
  obtain ⟨rfl, hP, hK, hN, hj⟩ := hv
  have hr := B.returns
  have hlocks := B.notSynchronized
  have C0 : xC p s m _ c cX5_frameOf 6 wsX5_frameOf RX5 NLM g a (xA NLM a s.heap.size) := ⟨⟨B.exec, B.bytes, hml, findClass_of_methodNamed B.named, atoms_spec (ws := wsX5_frameOf) B.pre⟩, hK, hN, hj, fun n h => Or.inl ⟨n, h, rfl⟩, fun q h => Or.inr h⟩
  have hS : va_S (xA NLM a s.heap.size) s.heap s.heap [] := va_S.rf
  have hl := lv_entry ([.ref (a 30 0), .int (nI r), .int (nI q)]) (n := 6) (Nat.le_of_ble_eq_true rfl)
  rw [lg_entry_eq]
  generalize (lg_sl ([.ref (a 30 0), .int (nI r), .int (nI q)]) ++ List.replicate (6 - (lg_sl ([.ref (a 30 0), .int (nI r), .int (nI q)])).length) Slot.unset).toArray = ls at hl ⊢
  have hl : lv_has ls 6 [(0, .ref (a 30 0)), (1, .int (nI r)), (2, .int (nI q))] := hl
  have k_0 : Cond.fieldLink RX5 39 RX5 (TX5 11).2.1 (TX5 11).2.2.1 ∈ wsX5_frameOf := by decide +kernel
  have i_X5 : ∀ w ∈ wsX50, w ∈ wsX5_frameOf := by decide +kernel
  have k_2 : Cond.fieldLink RX5 33 RX5 (TX5 9).2.1 (TX5 9).2.2.1 ∈ wsX5_frameOf := by decide +kernel
  have k_3 : Cond.fieldLink RX5 7 RX5 (TX5 1).2.1 (TX5 1).2.2.1 ∈ wsX5_frameOf := by decide +kernel
  have k_4 : Cond.fieldLink RX5 13 RX5 (TX5 2).2.1 (TX5 2).2.2.1 ∈ wsX5_frameOf := by decide +kernel
  have k_5 : Cond.fieldLink RX5 16 RX5 (TX5 3).2.1 (TX5 3).2.2.1 ∈ wsX5_frameOf := by decide +kernel
  have k_6 : Cond.fieldLink RX5 19 RX5 (TX5 4).2.1 (TX5 4).2.2.1 ∈ wsX5_frameOf := by decide +kernel
  refine lv_aload_n C0.hx C0.hb dX5_frameOf_0 rfl (lv_at hl 0 rfl) ?_
  refine x_get C0 hP 30 (mM_n rfl rfl) rfl rfl 11 (by decide) i_X5 k_0 rfl rfl dX5_frameOf_1 ?_
  refine lv_iconst (v := nI 4) C0.hx C0.hb dX5_frameOf_4 (by decide) ?_
  refine lv_iload_n C0.hx C0.hb dX5_frameOf_5 rfl (lv_at hl 1 rfl) ?_
  refine lv_imul C0.hx C0.hb dX5_frameOf_6 ?_
  refine x_top (pk_mul 4 r) ?_
  refine lv_iload_n C0.hx C0.hb dX5_frameOf_7 rfl (lv_at hl 2 rfl) ?_
  refine lv_iadd C0.hx C0.hb dX5_frameOf_8 ?_
  refine x_top (nI_add (4 * r) q) ?_
  refine x_iald C0 hP 39 ((4 * r) + q) 240 (mM_n rfl rfl) rfl (by omega) (by decide) dX5_frameOf_9 ?_
  refine lv_istore_n (lv' := [(3, .int (σ 39 0 ((4 * r) + q))), (0, .ref (a 30 0)), (1, .int (nI r)), (2, .int (nI q))]) C0.hx C0.hb dX5_frameOf_10 rfl hl (by decide) rfl (fun ls hl => ?_)
  refine lv_iconst (v := -1) C0.hx C0.hb dX5_frameOf_11 (by decide) ?_
  refine lv_istore (lv' := [(4, .int (-1)), (3, .int (σ 39 0 ((4 * r) + q))), (0, .ref (a 30 0)), (1, .int (nI r)), (2, .int (nI q))]) C0.hx C0.hb dX5_frameOf_12 hl (by decide) rfl (fun ls hl => ?_)
  have hv := (ok.ver hr0).2
  have hc := (ok.cnt hv).2
  refine lv_bipush (v := nI 30) C0.hx C0.hb dX5_frameOf_14 (by decide) ?_
  refine lv_aload_n C0.hx C0.hb dX5_frameOf_16 rfl (lv_at hl 2 rfl) ?_
  refine x_get C0 hP 30 (mM_n rfl rfl) rfl rfl 9 (by decide) i_X5 k_2 rfl rfl dX5_frameOf_17 ?_
  refine lv_iload_n C0.hx C0.hb dX5_frameOf_20 rfl (lv_at hl 3 rfl) ?_
  refine x_iald C0 hP 37 r 60 (mM_n rfl rfl) rfl (by omega) (by decide) dX5_frameOf_21 ?_
  obtain ⟨e_1, b_2⟩ := (ok.ver (by omega) : inR (σ 37 0 r) _)
  refine x_top e_1 ?_
  refine lv_imul C0.hx C0.hb dX5_frameOf_22 ?_
  refine x_top (pk_mul 30 (nv (σ 37 0 r))) ?_
  refine lv_istore (lv' := [(5, .int (nI (30 * (nv (σ 37 0 r))))), (4, .int (-1)), (3, .int (σ 39 0 ((4 * r) + q))), (0, .ref (a 30 0)), (1, .int (nI r)), (2, .int (nI q))]) C0.hx C0.hb dX5_frameOf_23 hl (by decide) rfl (fun ls hl => ?_)
  refine x_loopR (α := Nat) (fun j => 31 - j) (fun j ls => j ≤ nv (σ 31 0 (nv (σ 37 0 r))) ∧ lv_has ls 6 [(0, .ref (a 30 0)), (1, .int (nI r)), (2, .int (nI q)), (3, .int (σ 39 0 ((4 * r) + q))), (4, .int (frL σ (σ 39 0 (4 * r + q)) (nv (σ 37 0 r)) j)), (5, .int (nI (30 * (nv (σ 37 0 r)) + j)))]) ?_ 0 ⟨(Nat.zero_le _), (lv_sub hl [3, 4, 5, 2, 1, 0] rfl)⟩
  rintro j ls ⟨hj1, hl⟩ ih25
  refine lv_iload C0.hx C0.hb dX5_frameOf_25 (lv_at hl 5 rfl) ?_
  refine lv_bipush (v := nI 30) C0.hx C0.hb dX5_frameOf_27 (by decide) ?_
  refine lv_aload_n C0.hx C0.hb dX5_frameOf_29 rfl (lv_at hl 0 rfl) ?_
  refine x_get C0 hP 30 (mM_n rfl rfl) rfl rfl 9 (by decide) i_X5 k_2 rfl rfl dX5_frameOf_30 ?_
  refine lv_iload_n C0.hx C0.hb dX5_frameOf_33 rfl (lv_at hl 1 rfl) ?_
  refine x_iald C0 hP 37 r 60 (mM_n rfl rfl) rfl (by omega) (by decide) dX5_frameOf_34 ?_
  obtain ⟨e_3, b_4⟩ := (ok.ver (by omega) : inR (σ 37 0 r) _)
  refine x_top e_3 ?_
  refine lv_imul C0.hx C0.hb dX5_frameOf_35 ?_
  refine x_top (pk_mul 30 (nv (σ 37 0 r))) ?_
  refine lv_aload_n C0.hx C0.hb dX5_frameOf_36 rfl (lv_at hl 0 rfl) ?_
  refine x_get C0 hP 30 (mM_n rfl rfl) rfl rfl 1 (by decide) i_X5 k_3 rfl rfl dX5_frameOf_37 ?_
  refine lv_aload_n C0.hx C0.hb dX5_frameOf_40 rfl (lv_at hl 0 rfl) ?_
  refine x_get C0 hP 30 (mM_n rfl rfl) rfl rfl 9 (by decide) i_X5 k_2 rfl rfl dX5_frameOf_41 ?_
  refine lv_iload_n C0.hx C0.hb dX5_frameOf_44 rfl (lv_at hl 1 rfl) ?_
  refine x_iald C0 hP 37 r 60 (mM_n rfl rfl) rfl (by omega) (by decide) dX5_frameOf_45 ?_
  obtain ⟨e_5, b_6⟩ := (ok.ver (by omega) : inR (σ 37 0 r) _)
  refine x_top e_5 ?_
  refine x_iald C0 hP 31 (nv (σ 37 0 r)) 4 (mM_n rfl rfl) rfl (by omega) (by decide) dX5_frameOf_46 ?_
  obtain ⟨e_7, b_8⟩ := (ok.cnt (by omega) : inR (σ 31 0 (nv (σ 37 0 r))) _)
  refine x_top e_7 ?_
  refine lv_iadd C0.hx C0.hb dX5_frameOf_47 ?_
  refine x_top (nI_add (30 * (nv (σ 37 0 r))) (nv (σ 31 0 (nv (σ 37 0 r))))) ?_
  refine x_icmp_ge (tgt := 98) C0.hx C0.hb (by omega) (by omega) dX5_frameOf_48 (by decide) (fun c_9 => ?_) (fun c_9 => ?_)
  ·
    refine lv_iload C0.hx C0.hb dX5_frameOf_98 (lv_at hl 4 rfl) ?_
    exact W.iret (v := frL σ (σ 39 0 (4 * r + q)) (nv (σ 37 0 r)) j) C0.hx C0.hb hr (fun t ht hW => ⟨_, rfl, (by unfold frM; rw [show j = nv (σ 31 0 (nv (σ 37 0 r))) by omega]), ht⟩) (fun q h => nomatch h) dX5_frameOf_100
  ·
    refine x_join (α := Int32) 90 (fun z H' locs' ls => (H' = s.heap ∧ locs' = [] ∧ z = frL σ (σ 39 0 (4 * r + q)) (nv (σ 37 0 r)) (j + 1)) ∧ lv_has ls 6 [(0, .ref (a 30 0)), (1, .int (nI r)), (2, .int (nI q)), (3, .int (σ 39 0 ((4 * r) + q))), (4, .int (frL σ (σ 39 0 (4 * r + q)) (nv (σ 37 0 r)) j)), (5, .int (nI (30 * (nv (σ 37 0 r)) + j)))]) (fun z => [.int z]) ?_ (fun J90 => ?_)
    · rintro z _ _ ls ⟨⟨rfl, rfl, hz⟩, hl⟩
      subst hz
      refine lv_istore (lv' := [(4, .int (frL σ (σ 39 0 (4 * r + q)) (nv (σ 37 0 r)) (j + 1))), (0, .ref (a 30 0)), (1, .int (nI r)), (2, .int (nI q)), (3, .int (σ 39 0 ((4 * r) + q))), (5, .int (nI (30 * (nv (σ 37 0 r)) + j)))]) C0.hx C0.hb dX5_frameOf_90 hl (by decide) rfl (fun ls hl => ?_)
      refine lv_iinc (v := nI (30 * (nv (σ 37 0 r)) + j + 1)) (lv' := [(5, .int (nI (30 * (nv (σ 37 0 r)) + j + 1))), (4, .int (frL σ (σ 39 0 (4 * r + q)) (nv (σ 37 0 r)) (j + 1))), (0, .ref (a 30 0)), (1, .int (nI r)), (2, .int (nI q)), (3, .int (σ 39 0 ((4 * r) + q)))]) C0.hx C0.hb dX5_frameOf_92 hl (k := 5) rfl (nI_1 (30 * (nv (σ 37 0 r)) + j)) (by decide) rfl (fun ls hl => ?_)
      refine lv_goto (tgt := 25) C0.hx C0.hb dX5_frameOf_95 (by decide) ?_
      exact ih25 ((j + 1)) ls ⟨(by omega), (lv_sub hl [2, 3, 4, 5, 1, 0] rfl)⟩ (by omega)
    ·
      refine lv_iload_n C0.hx C0.hb dX5_frameOf_51 rfl (lv_at hl 3 rfl) ?_
      refine lv_iconst (v := -1) C0.hx C0.hb dX5_frameOf_52 (by decide) ?_
      refine lv_icmp_eq (tgt := 88) C0.hx C0.hb dX5_frameOf_53 (by decide) (fun c_10 => ?_) (fun c_10 => ?_)
      ·
        refine lv_iload C0.hx C0.hb dX5_frameOf_88 (lv_at hl 4 rfl) ?_
        exact J90 (frL σ (σ 39 0 (4 * r + q)) (nv (σ 37 0 r)) j) _ _ ls ⟨⟨rfl, rfl, (by rw [frL, if_neg (by rintro ⟨z1, z2, z3⟩; first | exact z1 c_10 | exact z2 c_10 | exact z3 c_10)])⟩, (lv_sub hl [0, 1, 2, 3, 4, 5] rfl)⟩
      ·
        refine lv_aload_n C0.hx C0.hb dX5_frameOf_56 rfl (lv_at hl 0 rfl) ?_
        refine x_get C0 hP 30 (mM_n rfl rfl) rfl rfl 2 (by decide) i_X5 k_4 rfl rfl dX5_frameOf_57 ?_
        refine lv_iload C0.hx C0.hb dX5_frameOf_60 (lv_at hl 5 rfl) ?_
        refine x_iald C0 hP 32 (30 * (nv (σ 37 0 r)) + j) 120 (mM_n rfl rfl) rfl (by omega) (by decide) dX5_frameOf_62 ?_
        refine lv_iload_n C0.hx C0.hb dX5_frameOf_63 rfl (lv_at hl 3 rfl) ?_
        refine lv_icmp_gt (tgt := 88) C0.hx C0.hb dX5_frameOf_64 (by decide) (fun c_11 => ?_) (fun c_11 => ?_)
        ·
          refine lv_iload C0.hx C0.hb dX5_frameOf_88 (lv_at hl 4 rfl) ?_
          exact J90 (frL σ (σ 39 0 (4 * r + q)) (nv (σ 37 0 r)) j) _ _ ls ⟨⟨rfl, rfl, (by rw [frL, if_neg (by rintro ⟨z1, z2, z3⟩; first | exact z1 c_11 | exact z2 c_11 | exact z3 c_11)])⟩, (lv_sub hl [0, 1, 2, 3, 4, 5] rfl)⟩
        ·
          refine lv_iload_n C0.hx C0.hb dX5_frameOf_67 rfl (lv_at hl 3 rfl) ?_
          refine lv_aload_n C0.hx C0.hb dX5_frameOf_68 rfl (lv_at hl 0 rfl) ?_
          refine x_get C0 hP 30 (mM_n rfl rfl) rfl rfl 3 (by decide) i_X5 k_5 rfl rfl dX5_frameOf_69 ?_
          refine lv_iload C0.hx C0.hb dX5_frameOf_72 (lv_at hl 5 rfl) ?_
          refine x_iald C0 hP 33 (30 * (nv (σ 37 0 r)) + j) 120 (mM_n rfl rfl) rfl (by omega) (by decide) dX5_frameOf_74 ?_
          refine lv_icmp_gt (tgt := 88) C0.hx C0.hb dX5_frameOf_75 (by decide) (fun c_12 => ?_) (fun c_12 => ?_)
          ·
            refine lv_iload C0.hx C0.hb dX5_frameOf_88 (lv_at hl 4 rfl) ?_
            exact J90 (frL σ (σ 39 0 (4 * r + q)) (nv (σ 37 0 r)) j) _ _ ls ⟨⟨rfl, rfl, (by rw [frL, if_neg (by rintro ⟨z1, z2, z3⟩; first | exact z1 c_12 | exact z2 c_12 | exact z3 c_12)])⟩, (lv_sub hl [0, 1, 2, 3, 4, 5] rfl)⟩
          ·
            refine lv_aload_n C0.hx C0.hb dX5_frameOf_78 rfl (lv_at hl 0 rfl) ?_
            refine x_get C0 hP 30 (mM_n rfl rfl) rfl rfl 4 (by decide) i_X5 k_6 rfl rfl dX5_frameOf_79 ?_
            refine lv_iload C0.hx C0.hb dX5_frameOf_82 (lv_at hl 5 rfl) ?_
            refine x_iald C0 hP 34 (30 * (nv (σ 37 0 r)) + j) 120 (mM_n rfl rfl) rfl (by omega) (by decide) dX5_frameOf_84 ?_
            refine lv_goto (tgt := 90) C0.hx C0.hb dX5_frameOf_85 (by decide) ?_
            exact J90 (σ 34 0 (30 * (nv (σ 37 0 r)) + j)) _ _ ls ⟨⟨rfl, rfl, (by rw [frL, if_pos ⟨c_10, c_11, c_12⟩])⟩, (lv_sub hl [0, 1, 2, 3, 4, 5] rfl)⟩

set_option maxHeartbeats 4000000 in
set_option maxRecDepth 100000 in
theorem mtX5_keys (l : Launch) (g : xG) (a : xAd) (σ : xS) (r : Nat) (hr0 : r < 60) (ok0 : okM σ) (ac0 : acM σ) : xMv l yX5_keys wsX5_keys ({ frames := 1, cells := 0, slots := 0, locals := 25 }) NLM g a σ [.ref (a 30 0), .int (nI r)] (kyS σ r) := by
  intro sz
  refine Met.ofW (cc := cX5_keys) (maxL := 5) (ret := none) (by decide) rfl ?_
  intro p e s m args below meth c s₁ B hml hv
  obtain ⟨rfl, hsz, hP, hK, hN, hj⟩ := hv
  subst hsz
  have hr := B.returns
  have hlocks := B.notSynchronized
  have C0 : xC p s m _ c cX5_keys 5 wsX5_keys RX5 NLM g a (xA NLM a s.heap.size) := ⟨⟨B.exec, B.bytes, hml, findClass_of_methodNamed B.named, atoms_spec (ws := wsX5_keys) B.pre⟩, hK, hN, hj, fun n h => Or.inl ⟨n, h, rfl⟩, fun q h => Or.inr h⟩
  have hS : va_S (xA NLM a s.heap.size) s.heap s.heap [] := va_S.rf
  have hl := lv_entry ([.ref (a 30 0), .int (nI r)]) (n := 5) (Nat.le_of_ble_eq_true rfl)
  rw [lg_entry_eq]
  generalize (lg_sl ([.ref (a 30 0), .int (nI r)]) ++ List.replicate (5 - (lg_sl ([.ref (a 30 0), .int (nI r)])).length) Slot.unset).toArray = ls at hl ⊢
  have hl : lv_has ls 5 [(0, .ref (a 30 0)), (1, .int (nI r))] := hl
  have k_0 : Cond.fieldLink RX5 22 RX5 (TX5 5).2.1 (TX5 5).2.2.1 ∈ wsX5_keys := by decide +kernel
  have i_X5 : ∀ w ∈ wsX50, w ∈ wsX5_keys := by decide +kernel
  have k_2 : Cond.fieldLink RX5 29 RX5 (TX5 7).2.1 (TX5 7).2.2.1 ∈ wsX5_keys := by decide +kernel
  have k_3 : Cond.fieldLink RX5 54 RX5 (TX5 16).2.1 (TX5 16).2.2.1 ∈ wsX5_keys := by decide +kernel
  refine lv_iconst (v := nI 0) C0.hx C0.hb dX5_keys_0 (by decide) ?_
  refine lv_istore_n (lv' := [(2, .int (nI 0)), (0, .ref (a 30 0)), (1, .int (nI r))]) C0.hx C0.hb dX5_keys_1 rfl hl (by decide) rfl (fun ls hl => ?_)
  refine lv_iconst (v := nI 0) C0.hx C0.hb dX5_keys_2 (by decide) ?_
  refine lv_istore_n (lv' := [(3, .int (nI 0)), (2, .int (nI 0)), (0, .ref (a 30 0)), (1, .int (nI r))]) C0.hx C0.hb dX5_keys_3 rfl hl (by decide) rfl (fun ls hl => ?_)
  refine x_loopW (α := Nat) (fun k => 4 - k) (fun k H locs ls => va_P g.1 vwCl (xw NLM g a (kiL σ r k)) H ∧ va_S (xA NLM a s.heap.size) s.heap H locs ∧ k ≤ 4 ∧ lv_has ls 5 [(0, .ref (a 30 0)), (1, .int (nI r)), (2, .int (nI 0)), (3, .int (nI k))]) ?_ 0 ⟨hP, hS, (by omega), (lv_sub hl [2, 3, 1, 0] rfl)⟩
  rintro k H locs ls ⟨hP, hS, hk4, hl⟩ ih4
  refine lv_iload_n C0.hx C0.hb dX5_keys_4 rfl (lv_at hl 3 rfl) ?_
  refine lv_iconst (v := nI 4) C0.hx C0.hb dX5_keys_5 (by decide) ?_
  refine x_icmp_ge (tgt := 26) C0.hx C0.hb (by omega) (by omega) dX5_keys_6 (by decide) (fun c_1 => ?_) (fun c_1 => ?_)
  ·
    obtain rfl : k = 4 := by omega
    have hI : (kpL r 4 0 0 (kiL σ r 4)).2 = kyS σ r := rfl
    refine lv_iconst (v := nI 0) C0.hx C0.hb dX5_keys_26 (by decide) ?_
    refine lv_istore_n (lv' := [(3, .int (nI 0)), (0, .ref (a 30 0)), (1, .int (nI r)), (2, .int (nI 0))]) C0.hx C0.hb dX5_keys_27 rfl hl (by decide) rfl (fun ls hl => ?_)
    refine x_loopW (α := Nat × Nat × Nat × xS) (fun u => u.1) (fun ⟨n, k, q, τ⟩ H locs ls => va_P g.1 vwCl (xw NLM g a τ) H ∧ va_S (xA NLM a s.heap.size) s.heap H locs ∧ k + n = 4 ∧ q ≤ 4 ∧ q ≤ k ∧ okM τ ∧ acM τ ∧ (kpL r n k q τ).2 = kyS σ r ∧ lv_has ls 5 [(0, .ref (a 30 0)), (1, .int (nI r)), (2, .int (nI q)), (3, .int (nI k))]) ?_ ((4, 0, 0, kiL σ r 4)) ⟨hP, hS, (by omega), (by omega), (by omega), (kiL_ok ok0), (kiL_ac ac0), hI, (lv_sub hl [1, 2, 3, 0] rfl)⟩
    rintro ⟨n, k, q, τ⟩ H locs ls ⟨hP, hS, hn, hq, hqk, ok, ac, hG, hl⟩ ih28
    refine lv_iload_n C0.hx C0.hb dX5_keys_28 rfl (lv_at hl 3 rfl) ?_
    refine lv_iconst (v := nI 4) C0.hx C0.hb dX5_keys_29 (by decide) ?_
    refine x_icmp_ge (tgt := 90) C0.hx C0.hb (by omega) (by omega) dX5_keys_30 (by decide) (fun c_2 => ?_) (fun c_2 => ?_)
    ·
      exact W.vret C0.hx C0.hb hr (fun t ht hW => ⟨⟨τ, rfl, (by rw [← hG, show n = 0 by omega]; rfl), x_end ht hP⟩, hS.F ht⟩) hS.2.2 dX5_keys_90
    ·
      obtain ⟨n, rfl⟩ : ∃ z, n = z + 1 := ⟨n - 1, by omega⟩
      rw [kpL] at hG
      refine lv_aload_n C0.hx C0.hb dX5_keys_33 rfl (lv_at hl 0 rfl) ?_
      refine lv_iload_n C0.hx C0.hb dX5_keys_34 rfl (lv_at hl 1 rfl) ?_
      refine lv_iload_n C0.hx C0.hb dX5_keys_35 rfl (lv_at hl 3 rfl) ?_
      refine x_Vi (As := [.int (nI r), .int (nI k)]) (rest := []) C0 (mtX5_frameOf l g a τ r k (by omega) (by omega) ok) hP C0.2.2.2.1 (cwV 2 C0.hts gX5_keys_X5_frameOf rfl rfl rfl (by decide +kernel) ⟨Nat.le_of_ble_eq_true rfl, Nat.le_of_ble_eq_true rfl⟩) (x_recv C0 hP 30 (mM_n rfl rfl) rfl rfl) rfl hl rfl (Nat.le_of_ble_eq_true rfl) (Nat.zero_le _) (Nat.zero_le _) dX5_keys_36 ?_
      refine lv_istore (lv' := [(4, .int (frM τ r k)), (0, .ref (a 30 0)), (1, .int (nI r)), (2, .int (nI q)), (3, .int (nI k))]) C0.hx C0.hb dX5_keys_39 hl (by decide) rfl (fun ls hl => ?_)
      refine x_join (α := Nat × xS) 84 (fun ⟨q', τ'⟩ H' locs' ls => (va_P g.1 vwCl (xw NLM g a τ') H' ∧ va_S (xA NLM a s.heap.size) s.heap H' locs' ∧ q' ≤ 4 ∧ q' ≤ k + 1 ∧ okM τ' ∧ acM τ' ∧ (kpL r n (k + 1) q' τ').2 = kyS σ r) ∧ lv_has ls 5 [(0, .ref (a 30 0)), (1, .int (nI r)), (3, .int (nI k)), (2, .int (nI q'))]) (fun ⟨q', τ'⟩ => []) ?_ (fun J84 => ?_)
      · rintro ⟨q', τ'⟩ H locs ls ⟨⟨hP, hS, hq', hqk', ok', ac', hR⟩, hl⟩
        refine lv_iinc (v := nI (k + 1)) (lv' := [(3, .int (nI (k + 1))), (0, .ref (a 30 0)), (1, .int (nI r)), (2, .int (nI q'))]) C0.hx C0.hb dX5_keys_84 hl (k := 2) rfl (nI_1 k) (by decide) rfl (fun ls hl => ?_)
        refine lv_goto (tgt := 28) C0.hx C0.hb dX5_keys_87 (by decide) ?_
        exact ih28 ((n, k + 1, q', τ')) H locs ls ⟨hP, hS, (by omega), (by omega), (by omega), ok', ac', hR, (lv_sub hl [1, 2, 3, 0] rfl)⟩ (Nat.lt_succ_self _)
      ·
        refine lv_iload C0.hx C0.hb dX5_keys_41 (lv_at hl 0 rfl) ?_
        refine lv_iconst (v := -1) C0.hx C0.hb dX5_keys_43 (by decide) ?_
        refine lv_icmp_eq (tgt := 84) C0.hx C0.hb dX5_keys_44 (by decide) (fun c_3 => ?_) (fun c_3 => ?_)
        ·
          rw [if_pos c_3] at hG
          have hR := hG
          exact J84 (q, τ) _ _ ls ⟨⟨hP, hS, (by omega), (by omega), ok, ac, hR⟩, (lv_sub hl [1, 2, 4, 3] rfl)⟩
        ·
          rw [if_neg c_3] at hG
          obtain ⟨e44, b44⟩ := (frM_rng ok hr0).resolve_left c_3
          refine lv_aload_n C0.hx C0.hb dX5_keys_47 rfl (lv_at hl 1 rfl) ?_
          refine x_get C0 hP 30 (mM_n rfl rfl) rfl rfl 5 (by decide) i_X5 k_0 rfl rfl dX5_keys_48 ?_
          refine lv_iload C0.hx C0.hb dX5_keys_51 (lv_at hl 0 rfl) ?_
          refine x_top e44 ?_
          refine x_zald C0 hP 35 (nv (frM τ r k)) 30 (mM_n rfl rfl) rfl (by omega) (by decide) dX5_keys_53 ?_
          refine lv_if_ne (tgt := 84) C0.hx C0.hb dX5_keys_54 (by decide) (fun c_4 => ?_) (fun c_4 => ?_)
          ·
            rw [if_pos c_4] at hG
            have hR := hG
            exact J84 (q, τ) _ _ ls ⟨⟨hP, hS, (by omega), (by omega), ok, ac, hR⟩, (lv_sub hl [1, 2, 4, 3] rfl)⟩
          ·
            rw [if_neg (fun z => z c_4)] at hG
            refine lv_iload_n C0.hx C0.hb dX5_keys_57 rfl (lv_at hl 3 rfl) ?_
            refine lv_aload_n C0.hx C0.hb dX5_keys_58 rfl (lv_at hl 1 rfl) ?_
            refine x_get C0 hP 30 (mM_n rfl rfl) rfl rfl 7 (by decide) i_X5 k_2 rfl rfl dX5_keys_59 ?_
            obtain ⟨e_5, b_6⟩ := (ok.dep : inR (τ 30 0 1) _)
            refine x_top e_5 ?_
            refine x_icmp_ge (tgt := 84) C0.hx C0.hb (by omega) (by omega) dX5_keys_62 (by decide) (fun c_7 => ?_) (fun c_7 => ?_)
            ·
              rw [if_pos c_7] at hG
              have hR := hG
              exact J84 (q, τ) _ _ ls ⟨⟨hP, hS, (by omega), (by omega), ok, ac, hR⟩, (lv_sub hl [1, 2, 4, 3] rfl)⟩
            ·
              rw [if_neg (by omega)] at hG
              refine lv_aload_n C0.hx C0.hb dX5_keys_65 rfl (lv_at hl 1 rfl) ?_
              refine x_get C0 hP 30 (mM_n rfl rfl) rfl rfl 16 (by decide) i_X5 k_3 rfl rfl dX5_keys_66 ?_
              refine lv_iconst (v := nI 4) C0.hx C0.hb dX5_keys_69 (by decide) ?_
              refine lv_iload_n C0.hx C0.hb dX5_keys_70 rfl (lv_at hl 2 rfl) ?_
              refine lv_imul C0.hx C0.hb dX5_keys_71 ?_
              refine x_top (pk_mul 4 r) ?_
              refine lv_iload_n C0.hx C0.hb dX5_keys_72 rfl (lv_at hl 3 rfl) ?_
              refine lv_iadd C0.hx C0.hb dX5_keys_73 ?_
              refine x_top (nI_add (4 * r) q) ?_
              refine lv_aload_n C0.hx C0.hb dX5_keys_74 rfl (lv_at hl 1 rfl) ?_
              refine lv_iload C0.hx C0.hb dX5_keys_75 (lv_at hl 0 rfl) ?_
              refine x_top e44 ?_
              refine x_Vi (As := [.int (nI (nv (frM τ r k)))]) (rest := [.int (nI ((4 * r) + q)), .ref (a 43 0)]) C0 (mtX5_root l g a τ (nv (frM τ r k)) (by omega) ok ac) hP C0.2.2.2.1 (cwV 1 C0.hts gX5_keys_X5_root rfl rfl rfl (by decide +kernel) ⟨Nat.le_of_ble_eq_true rfl, Nat.le_of_ble_eq_true rfl⟩) (x_recv C0 hP 30 (mM_n rfl rfl) rfl rfl) rfl hl rfl (Nat.le_of_ble_eq_true rfl) (Nat.zero_le _) (Nat.zero_le _) dX5_keys_77 ?_
              refine x_iast C0 hP hS 43 ((4 * r) + q) 240 (v := nI (ieM τ 30 (nv (frM τ r k)))) (mM_n rfl rfl) (fun _ => rfl) (by omega) (by decide) dX5_keys_80 (fun H locs hP hS => ?_)
              have hR : (kpL r n (k + 1) (q + 1) (up3 τ 43 0 ((4 * r) + q) (nI (ieM τ 30 (nv (frM τ r k)))))).2 = kyS σ r := hG
              refine lv_iinc (v := nI (q + 1)) (lv' := [(2, .int (nI (q + 1))), (4, .int (frM τ r k)), (0, .ref (a 30 0)), (1, .int (nI r)), (3, .int (nI k))]) C0.hx C0.hb dX5_keys_81 hl (k := 3) rfl (nI_1 q) (by decide) rfl (fun ls hl => ?_)
              exact J84 ((q + 1, up3 τ 43 0 ((4 * r) + q) (nI (ieM τ 30 (nv (frM τ r k)))))) _ _ ls ⟨⟨hP, hS, (by omega), (by omega), (up43_ok ok), (up43_ac ac), hR⟩, (lv_sub hl [2, 3, 4, 0] rfl)⟩
  ·
    refine lv_aload_n C0.hx C0.hb dX5_keys_9 rfl (lv_at hl 0 rfl) ?_
    refine x_get C0 hP 30 (mM_n rfl rfl) rfl rfl 16 (by decide) i_X5 k_3 rfl rfl dX5_keys_10 ?_
    refine lv_iconst (v := nI 4) C0.hx C0.hb dX5_keys_13 (by decide) ?_
    refine lv_iload_n C0.hx C0.hb dX5_keys_14 rfl (lv_at hl 1 rfl) ?_
    refine lv_imul C0.hx C0.hb dX5_keys_15 ?_
    refine x_top (pk_mul 4 r) ?_
    refine lv_iload_n C0.hx C0.hb dX5_keys_16 rfl (lv_at hl 3 rfl) ?_
    refine lv_iadd C0.hx C0.hb dX5_keys_17 ?_
    refine x_top (nI_add (4 * r) k) ?_
    refine lv_iconst (v := -1) C0.hx C0.hb dX5_keys_18 (by decide) ?_
    refine x_iast C0 hP hS 43 ((4 * r) + k) 240 (v := -1) (mM_n rfl rfl) (fun _ => rfl) (by omega) (by decide) dX5_keys_19 (fun H locs hP hS => ?_)
    refine lv_iinc (v := nI (k + 1)) (lv' := [(3, .int (nI (k + 1))), (0, .ref (a 30 0)), (1, .int (nI r)), (2, .int (nI 0))]) C0.hx C0.hb dX5_keys_20 hl (k := 3) rfl (nI_1 k) (by decide) rfl (fun ls hl => ?_)
    refine lv_goto (tgt := 4) C0.hx C0.hb dX5_keys_23 (by decide) ?_
    exact ih4 ((k + 1)) H locs ls ⟨hP, hS, (by omega), (lv_sub hl [1, 2, 3, 0] rfl)⟩ (by omega)

set_option maxHeartbeats 4000000 in
set_option maxRecDepth 100000 in
theorem mtX5_isSame (l : Launch) (g : xG) (a : xAd) (σ : xS) (r o : Nat) (hr0 : r < 60) (ho0 : o < 60) (ok : okM σ) : xMi l yX5_isSame wsX5_isSame ({ frames := 0, cells := 0, slots := 0, locals := 0 }) NLM g a σ [.ref (a 30 0), .int (nI r), .int (nI o)] (bI (isM σ r o)) := by
  unfold xMi
  refine Met.ofW (cc := cX5_isSame) (maxL := 5) (ret := (some .boolean)) (by decide) rfl ?_
  intro p e s m args below meth c s₁ B hml hv
  obtain ⟨rfl, hP, hK, hN, hj⟩ := hv
  have hr := B.returns
  have hlocks := B.notSynchronized
  have C0 : xC p s m _ c cX5_isSame 5 wsX5_isSame RX5 NLM g a (xA NLM a s.heap.size) := ⟨⟨B.exec, B.bytes, hml, findClass_of_methodNamed B.named, atoms_spec (ws := wsX5_isSame) B.pre⟩, hK, hN, hj, fun n h => Or.inl ⟨n, h, rfl⟩, fun q h => Or.inr h⟩
  have hS : va_S (xA NLM a s.heap.size) s.heap s.heap [] := va_S.rf
  have hl := lv_entry ([.ref (a 30 0), .int (nI r), .int (nI o)]) (n := 5) (Nat.le_of_ble_eq_true rfl)
  rw [lg_entry_eq]
  generalize (lg_sl ([.ref (a 30 0), .int (nI r), .int (nI o)]) ++ List.replicate (5 - (lg_sl ([.ref (a 30 0), .int (nI r), .int (nI o)])).length) Slot.unset).toArray = ls at hl ⊢
  have hl : lv_has ls 5 [(0, .ref (a 30 0)), (1, .int (nI r)), (2, .int (nI o))] := hl
  have k_0 : Cond.fieldLink RX5 39 RX5 (TX5 11).2.1 (TX5 11).2.2.1 ∈ wsX5_isSame := by decide +kernel
  have i_X5 : ∀ w ∈ wsX50, w ∈ wsX5_isSame := by decide +kernel
  have k_2 : Cond.fieldLink RX5 33 RX5 (TX5 9).2.1 (TX5 9).2.2.1 ∈ wsX5_isSame := by decide +kernel
  have k_3 : Cond.fieldLink RX5 54 RX5 (TX5 16).2.1 (TX5 16).2.2.1 ∈ wsX5_isSame := by decide +kernel
  refine lv_iconst (v := nI 1) C0.hx C0.hb dX5_isSame_0 (by decide) ?_
  refine lv_istore_n (lv' := [(3, .int (nI 1)), (0, .ref (a 30 0)), (1, .int (nI r)), (2, .int (nI o))]) C0.hx C0.hb dX5_isSame_1 rfl hl (by decide) rfl (fun ls hl => ?_)
  have hl := lv_sub (l' := [(0, .ref (a 30 0)), (1, .int (nI r)), (2, .int (nI o)), (3, .int (bI (isL σ r o 0)))]) hl [1, 2, 3, 0] rfl
  refine lv_iconst (v := nI 0) C0.hx C0.hb dX5_isSame_2 (by decide) ?_
  refine lv_istore (lv' := [(4, .int (nI 0)), (0, .ref (a 30 0)), (1, .int (nI r)), (2, .int (nI o)), (3, .int (bI (isL σ r o 0)))]) C0.hx C0.hb dX5_isSame_3 hl (by decide) rfl (fun ls hl => ?_)
  refine x_loopR (α := Nat) (fun k => 4 - k) (fun k ls => k ≤ 4 ∧ lv_has ls 5 [(0, .ref (a 30 0)), (1, .int (nI r)), (2, .int (nI o)), (3, .int (bI (isL σ r o k))), (4, .int (nI k))]) ?_ 0 ⟨(by omega), (lv_sub hl [1, 2, 3, 4, 0] rfl)⟩
  rintro k ls ⟨hk4, hl⟩ ih5
  refine lv_iload C0.hx C0.hb dX5_isSame_5 (lv_at hl 4 rfl) ?_
  refine lv_iconst (v := nI 4) C0.hx C0.hb dX5_isSame_7 (by decide) ?_
  refine x_icmp_ge (tgt := 52) C0.hx C0.hb (by omega) (by omega) dX5_isSame_8 (by decide) (fun c_1 => ?_) (fun c_1 => ?_)
  ·
    obtain rfl : k = 4 := by omega
    refine x_join (α := Bool) 69 (fun b69 H' locs' ls => (H' = s.heap ∧ locs' = [] ∧ b69 = (!decide (σ 43 0 (4 * r) = -1))) ∧ lv_has ls 5 [(0, .ref (a 30 0)), (1, .int (nI r)), (2, .int (nI o)), (3, .int (bI (isL σ r o 4))), (4, .int (nI 4))]) (fun b69 => [.int (bI b69)]) ?_ (fun J69 => ?_)
    · rintro b69 _ _ ls ⟨⟨rfl, rfl, hb69⟩, hl⟩
      subst hb69
      refine lv_istore (lv' := [(4, .int (bI (!decide (σ 43 0 (4 * r) = -1)))), (0, .ref (a 30 0)), (1, .int (nI r)), (2, .int (nI o)), (3, .int (bI (isL σ r o 4)))]) C0.hx C0.hb dX5_isSame_69 hl (by decide) rfl (fun ls hl => ?_)
      refine x_join (α := Bool) 119 (fun b119 H' locs' ls => (H' = s.heap ∧ locs' = [] ∧ b119 = (isM σ r o)) ∧ lv_has ls 5 [(0, .ref (a 30 0)), (1, .int (nI r)), (2, .int (nI o)), (3, .int (bI (isL σ r o 4))), (4, .int (bI (!decide (σ 43 0 (4 * r) = -1))))]) (fun b119 => [.int (bI b119)]) ?_ (fun J119 => ?_)
      · rintro b119 _ _ ls ⟨⟨rfl, rfl, hb119⟩, hl⟩
        subst hb119
        exact W.zret (v := bI (isM σ r o)) C0.hx C0.hb hr (bI_nar _) (fun t ht hW => ⟨_, rfl, rfl, ht⟩) (fun q h => nomatch h) dX5_isSame_119
      ·
        refine lv_iload_n C0.hx C0.hb dX5_isSame_71 rfl (lv_at hl 4 rfl) ?_
        refine x_ifeq (tgt := 118) C0.hx C0.hb dX5_isSame_72 (by decide) (fun c_2 => ?_) (fun c_2 => ?_)
        ·
          refine lv_iconst (v := nI 0) C0.hx C0.hb dX5_isSame_118 (by decide) ?_
          exact J119 false _ _ ls ⟨⟨rfl, rfl, (by simp [isM, c_2])⟩, (lv_sub hl [1, 2, 3, 4, 0] rfl)⟩
        ·
          refine lv_iload C0.hx C0.hb dX5_isSame_75 (lv_at hl 0 rfl) ?_
          refine x_ifne (tgt := 114) C0.hx C0.hb dX5_isSame_77 (by decide) (fun c_3 => ?_) (fun c_3 => ?_)
          ·
            refine lv_iconst (v := nI 1) C0.hx C0.hb dX5_isSame_114 (by decide) ?_
            refine lv_goto (tgt := 119) C0.hx C0.hb dX5_isSame_115 (by decide) ?_
            exact J119 true _ _ ls ⟨⟨rfl, rfl, (by simp [isM, c_3, c_2])⟩, (lv_sub hl [1, 2, 3, 4, 0] rfl)⟩
          ·
            refine lv_aload_n C0.hx C0.hb dX5_isSame_80 rfl (lv_at hl 1 rfl) ?_
            refine x_get C0 hP 30 (mM_n rfl rfl) rfl rfl 11 (by decide) i_X5 k_0 rfl rfl dX5_isSame_81 ?_
            refine lv_iconst (v := nI 4) C0.hx C0.hb dX5_isSame_84 (by decide) ?_
            refine lv_iload_n C0.hx C0.hb dX5_isSame_85 rfl (lv_at hl 2 rfl) ?_
            refine lv_imul C0.hx C0.hb dX5_isSame_86 ?_
            refine x_top (pk_mul 4 r) ?_
            refine x_iald C0 hP 39 (4 * r) 240 (mM_n rfl rfl) rfl (by omega) (by decide) dX5_isSame_87 ?_
            refine lv_aload_n C0.hx C0.hb dX5_isSame_88 rfl (lv_at hl 1 rfl) ?_
            refine x_get C0 hP 30 (mM_n rfl rfl) rfl rfl 11 (by decide) i_X5 k_0 rfl rfl dX5_isSame_89 ?_
            refine lv_iconst (v := nI 4) C0.hx C0.hb dX5_isSame_92 (by decide) ?_
            refine lv_iload_n C0.hx C0.hb dX5_isSame_93 rfl (lv_at hl 3 rfl) ?_
            refine lv_imul C0.hx C0.hb dX5_isSame_94 ?_
            refine x_top (pk_mul 4 o) ?_
            refine x_iald C0 hP 39 (4 * o) 240 (mM_n rfl rfl) rfl (by omega) (by decide) dX5_isSame_95 ?_
            refine lv_icmp_ne (tgt := 118) C0.hx C0.hb dX5_isSame_96 (by decide) (fun c_4 => ?_) (fun c_4 => ?_)
            ·
              refine lv_iconst (v := nI 0) C0.hx C0.hb dX5_isSame_118 (by decide) ?_
              exact J119 false _ _ ls ⟨⟨rfl, rfl, (by simp [isM, c_4, c_3, c_2])⟩, (lv_sub hl [1, 2, 3, 4, 0] rfl)⟩
            ·
              refine lv_aload_n C0.hx C0.hb dX5_isSame_99 rfl (lv_at hl 1 rfl) ?_
              refine x_get C0 hP 30 (mM_n rfl rfl) rfl rfl 9 (by decide) i_X5 k_2 rfl rfl dX5_isSame_100 ?_
              refine lv_iload_n C0.hx C0.hb dX5_isSame_103 rfl (lv_at hl 2 rfl) ?_
              refine x_iald C0 hP 37 r 60 (mM_n rfl rfl) rfl (by omega) (by decide) dX5_isSame_104 ?_
              obtain ⟨e_5, b_6⟩ := (ok.ver (by omega) : inR (σ 37 0 r) _)
              refine x_top e_5 ?_
              refine lv_aload_n C0.hx C0.hb dX5_isSame_105 rfl (lv_at hl 1 rfl) ?_
              refine x_get C0 hP 30 (mM_n rfl rfl) rfl rfl 9 (by decide) i_X5 k_2 rfl rfl dX5_isSame_106 ?_
              refine lv_iload_n C0.hx C0.hb dX5_isSame_109 rfl (lv_at hl 3 rfl) ?_
              refine x_iald C0 hP 37 o 60 (mM_n rfl rfl) rfl (by omega) (by decide) dX5_isSame_110 ?_
              obtain ⟨e_7, b_8⟩ := (ok.ver (by omega) : inR (σ 37 0 o) _)
              refine x_top e_7 ?_
              refine x_icmp_ne (tgt := 118) C0.hx C0.hb (by omega) (by omega) dX5_isSame_111 (by decide) (fun c_9 => ?_) (fun c_9 => ?_)
              ·
                refine lv_iconst (v := nI 0) C0.hx C0.hb dX5_isSame_118 (by decide) ?_
                exact J119 false _ _ ls ⟨⟨rfl, rfl, (by simp [isM, c_9, c_4, c_3, c_2])⟩, (lv_sub hl [1, 2, 3, 4, 0] rfl)⟩
              ·
                refine lv_iconst (v := nI 1) C0.hx C0.hb dX5_isSame_114 (by decide) ?_
                refine lv_goto (tgt := 119) C0.hx C0.hb dX5_isSame_115 (by decide) ?_
                exact J119 true _ _ ls ⟨⟨rfl, rfl, (by simp [isM, c_9, c_4, c_3, c_2])⟩, (lv_sub hl [1, 2, 3, 4, 0] rfl)⟩
    ·
      refine lv_aload_n C0.hx C0.hb dX5_isSame_52 rfl (lv_at hl 0 rfl) ?_
      refine x_get C0 hP 30 (mM_n rfl rfl) rfl rfl 16 (by decide) i_X5 k_3 rfl rfl dX5_isSame_53 ?_
      refine lv_iconst (v := nI 4) C0.hx C0.hb dX5_isSame_56 (by decide) ?_
      refine lv_iload_n C0.hx C0.hb dX5_isSame_57 rfl (lv_at hl 1 rfl) ?_
      refine lv_imul C0.hx C0.hb dX5_isSame_58 ?_
      refine x_top (pk_mul 4 r) ?_
      refine x_iald C0 hP 43 (4 * r) 240 (mM_n rfl rfl) rfl (by omega) (by decide) dX5_isSame_59 ?_
      refine lv_iconst (v := -1) C0.hx C0.hb dX5_isSame_60 (by decide) ?_
      refine lv_icmp_eq (tgt := 68) C0.hx C0.hb dX5_isSame_61 (by decide) (fun c_10 => ?_) (fun c_10 => ?_)
      ·
        refine lv_iconst (v := nI 0) C0.hx C0.hb dX5_isSame_68 (by decide) ?_
        exact J69 false _ _ ls ⟨⟨rfl, rfl, (by simp [c_10])⟩, (lv_sub hl [0, 1, 2, 3, 4] rfl)⟩
      ·
        refine lv_iconst (v := nI 1) C0.hx C0.hb dX5_isSame_64 (by decide) ?_
        refine lv_goto (tgt := 69) C0.hx C0.hb dX5_isSame_65 (by decide) ?_
        exact J69 true _ _ ls ⟨⟨rfl, rfl, (by simp [c_10])⟩, (lv_sub hl [0, 1, 2, 3, 4] rfl)⟩
  ·
    refine x_join (α := Bool) 45 (fun b45 H' locs' ls => (H' = s.heap ∧ locs' = [] ∧ b45 = (isL σ r o (k + 1))) ∧ lv_has ls 5 [(0, .ref (a 30 0)), (1, .int (nI r)), (2, .int (nI o)), (3, .int (bI (isL σ r o k))), (4, .int (nI k))]) (fun b45 => [.int (bI b45)]) ?_ (fun J45 => ?_)
    · rintro b45 _ _ ls ⟨⟨rfl, rfl, hb45⟩, hl⟩
      subst hb45
      refine lv_istore_n (lv' := [(3, .int (bI (isL σ r o (k + 1)))), (0, .ref (a 30 0)), (1, .int (nI r)), (2, .int (nI o)), (4, .int (nI k))]) C0.hx C0.hb dX5_isSame_45 rfl hl (by decide) rfl (fun ls hl => ?_)
      refine lv_iinc (v := nI (k + 1)) (lv' := [(4, .int (nI (k + 1))), (3, .int (bI (isL σ r o (k + 1)))), (0, .ref (a 30 0)), (1, .int (nI r)), (2, .int (nI o))]) C0.hx C0.hb dX5_isSame_46 hl (k := 4) rfl (nI_1 k) (by decide) rfl (fun ls hl => ?_)
      refine lv_goto (tgt := 5) C0.hx C0.hb dX5_isSame_49 (by decide) ?_
      exact ih5 ((k + 1)) ls ⟨(by omega), (lv_sub hl [2, 3, 4, 1, 0] rfl)⟩ (by omega)
    ·
      refine lv_iload_n C0.hx C0.hb dX5_isSame_11 rfl (lv_at hl 3 rfl) ?_
      refine x_ifeq (tgt := 44) C0.hx C0.hb dX5_isSame_12 (by decide) (fun c_11 => ?_) (fun c_11 => ?_)
      ·
        refine lv_iconst (v := nI 0) C0.hx C0.hb dX5_isSame_44 (by decide) ?_
        exact J45 false _ _ ls ⟨⟨rfl, rfl, (by simp [isL, c_11])⟩, (lv_sub hl [0, 1, 2, 3, 4] rfl)⟩
      ·
        refine lv_aload_n C0.hx C0.hb dX5_isSame_15 rfl (lv_at hl 0 rfl) ?_
        refine x_get C0 hP 30 (mM_n rfl rfl) rfl rfl 16 (by decide) i_X5 k_3 rfl rfl dX5_isSame_16 ?_
        refine lv_iconst (v := nI 4) C0.hx C0.hb dX5_isSame_19 (by decide) ?_
        refine lv_iload_n C0.hx C0.hb dX5_isSame_20 rfl (lv_at hl 1 rfl) ?_
        refine lv_imul C0.hx C0.hb dX5_isSame_21 ?_
        refine x_top (pk_mul 4 r) ?_
        refine lv_iload C0.hx C0.hb dX5_isSame_22 (lv_at hl 4 rfl) ?_
        refine lv_iadd C0.hx C0.hb dX5_isSame_24 ?_
        refine x_top (nI_add (4 * r) k) ?_
        refine x_iald C0 hP 43 ((4 * r) + k) 240 (mM_n rfl rfl) rfl (by omega) (by decide) dX5_isSame_25 ?_
        refine lv_aload_n C0.hx C0.hb dX5_isSame_26 rfl (lv_at hl 0 rfl) ?_
        refine x_get C0 hP 30 (mM_n rfl rfl) rfl rfl 16 (by decide) i_X5 k_3 rfl rfl dX5_isSame_27 ?_
        refine lv_iconst (v := nI 4) C0.hx C0.hb dX5_isSame_30 (by decide) ?_
        refine lv_iload_n C0.hx C0.hb dX5_isSame_31 rfl (lv_at hl 2 rfl) ?_
        refine lv_imul C0.hx C0.hb dX5_isSame_32 ?_
        refine x_top (pk_mul 4 o) ?_
        refine lv_iload C0.hx C0.hb dX5_isSame_33 (lv_at hl 4 rfl) ?_
        refine lv_iadd C0.hx C0.hb dX5_isSame_35 ?_
        refine x_top (nI_add (4 * o) k) ?_
        refine x_iald C0 hP 43 ((4 * o) + k) 240 (mM_n rfl rfl) rfl (by omega) (by decide) dX5_isSame_36 ?_
        refine lv_icmp_ne (tgt := 44) C0.hx C0.hb dX5_isSame_37 (by decide) (fun c_12 => ?_) (fun c_12 => ?_)
        ·
          refine lv_iconst (v := nI 0) C0.hx C0.hb dX5_isSame_44 (by decide) ?_
          exact J45 false _ _ ls ⟨⟨rfl, rfl, (by simp [isL, c_12, c_11])⟩, (lv_sub hl [0, 1, 2, 3, 4] rfl)⟩
        ·
          refine lv_iconst (v := nI 1) C0.hx C0.hb dX5_isSame_40 (by decide) ?_
          refine lv_goto (tgt := 45) C0.hx C0.hb dX5_isSame_41 (by decide) ?_
          exact J45 true _ _ ls ⟨⟨rfl, rfl, (by simp [isL, c_12, c_11])⟩, (lv_sub hl [0, 1, 2, 3, 4] rfl)⟩

set_option maxHeartbeats 4000000 in
set_option maxRecDepth 100000 in
theorem mtX5_names (l : Launch) (g : xG) (a : xAd) (σ : xS) (ok : okM σ) (ac : acM σ) : xMv l yX5_names wsX5_names ({ frames := 2, cells := 0, slots := 0, locals := 49 }) NLM g a σ [.ref (a 30 0)] (naS σ) := by
  intro sz
  refine Met.ofW (cc := cX5_names) (maxL := 3) (ret := none) (by decide) rfl ?_
  intro p e s m args below meth c s₁ B hml hv
  obtain ⟨rfl, hsz, hP, hK, hN, hj⟩ := hv
  subst hsz
  have hr := B.returns
  have hlocks := B.notSynchronized
  have C0 : xC p s m _ c cX5_names 3 wsX5_names RX5 NLM g a (xA NLM a s.heap.size) := ⟨⟨B.exec, B.bytes, hml, findClass_of_methodNamed B.named, atoms_spec (ws := wsX5_names) B.pre⟩, hK, hN, hj, fun n h => Or.inl ⟨n, h, rfl⟩, fun q h => Or.inr h⟩
  have hS : va_S (xA NLM a s.heap.size) s.heap s.heap [] := va_S.rf
  have hl := lv_entry ([.ref (a 30 0)]) (n := 3) (Nat.le_of_ble_eq_true rfl)
  rw [lg_entry_eq]
  generalize (lg_sl ([.ref (a 30 0)]) ++ List.replicate (3 - (lg_sl ([.ref (a 30 0)])).length) Slot.unset).toArray = ls at hl ⊢
  have hl : lv_has ls 3 [(0, .ref (a 30 0))] := hl
  have k_0 : Cond.fieldLink RX5 67 RX5 (TX5 8).2.1 (TX5 8).2.2.1 ∈ wsX5_names := by decide +kernel
  have i_X5 : ∀ w ∈ wsX50, w ∈ wsX5_names := by decide +kernel
  have k_2 : Cond.fieldLink RX5 51 RX5 (TX5 15).2.1 (TX5 15).2.2.1 ∈ wsX5_names := by decide +kernel
  refine lv_iconst (v := nI 0) C0.hx C0.hb dX5_names_0 (by decide) ?_
  refine lv_istore_n (lv' := [(1, .int (nI 0)), (0, .ref (a 30 0))]) C0.hx C0.hb dX5_names_1 rfl hl (by decide) rfl (fun ls hl => ?_)
  refine x_loopW (α := Nat) (fun r => 60 - r) (fun r H locs ls => va_P g.1 vwCl (xw NLM g a (naL σ r)) H ∧ va_S (xA NLM a s.heap.size) s.heap H locs ∧ r ≤ nv (σ 30 0 2) ∧ lv_has ls 3 [(0, .ref (a 30 0)), (1, .int (nI r))]) ?_ 0 ⟨hP, hS, (by omega), (lv_sub hl [1, 0] rfl)⟩
  rintro r H locs ls ⟨hP, hS, hrn, hl⟩ ih2
  have ok1 : okM (naL σ r) := naL_ok ok
  have ac1 : acM (naL σ r) := naL_ac ac
  have on : naL σ r 30 0 2 = nI (nv (σ 30 0 2)) := (naL_ne r 30 0 2 (by decide) (by decide)).trans ok.n.1
  have hn := ok.n.2
  refine lv_iload_n C0.hx C0.hb dX5_names_2 rfl (lv_at hl 1 rfl) ?_
  refine lv_aload_n C0.hx C0.hb dX5_names_3 rfl (lv_at hl 0 rfl) ?_
  refine x_get C0 hP 30 (mM_n rfl rfl) rfl rfl 8 (by decide) i_X5 k_0 rfl rfl dX5_names_4 ?_
  refine x_top on ?_
  refine x_icmp_ge (tgt := 67) C0.hx C0.hb (by omega) (by omega) dX5_names_7 (by decide) (fun c_1 => ?_) (fun c_1 => ?_)
  ·
    exact W.vret C0.hx C0.hb hr (fun t ht hW => ⟨⟨naL σ r, rfl, (by rw [show r = nv (σ 30 0 2) by omega]; rfl), x_end ht hP⟩, hS.F ht⟩) hS.2.2 dX5_names_67
  ·
    refine lv_aload_n C0.hx C0.hb dX5_names_10 rfl (lv_at hl 0 rfl) ?_
    refine lv_iload_n C0.hx C0.hb dX5_names_11 rfl (lv_at hl 1 rfl) ?_
    refine x_Vv (As := [.int (nI r)]) (rest := []) C0 (mtX5_keys l g a (naL σ r) r (by omega) ok1 ac1) hP hS (cwV 1 C0.hts gX5_names_X5_keys rfl rfl rfl (by decide +kernel) ⟨Nat.le_of_ble_eq_true rfl, Nat.le_of_ble_eq_true rfl⟩) (x_recv C0 hP 30 (mM_n rfl rfl) rfl rfl) rfl hl rfl (Nat.le_of_ble_eq_true rfl) (Nat.zero_le _) (Nat.zero_le _) dX5_names_12 (fun H locs hP hS => ?_)
    refine lv_aload_n C0.hx C0.hb dX5_names_15 rfl (lv_at hl 0 rfl) ?_
    refine x_get C0 hP 30 (mM_n rfl rfl) rfl rfl 15 (by decide) i_X5 k_2 rfl rfl dX5_names_16 ?_
    refine lv_iload_n C0.hx C0.hb dX5_names_19 rfl (lv_at hl 1 rfl) ?_
    refine lv_iload_n C0.hx C0.hb dX5_names_20 rfl (lv_at hl 1 rfl) ?_
    refine x_iast C0 hP hS 42 r 60 (v := nI r) (mM_n rfl rfl) (fun _ => rfl) (by omega) (by decide) dX5_names_21 (fun H locs hP hS => ?_)
    refine lv_iload_n C0.hx C0.hb dX5_names_22 rfl (lv_at hl 1 rfl) ?_
    refine lv_iconst (v := nI 1) C0.hx C0.hb dX5_names_23 (by decide) ?_
    refine lv_isub C0.hx C0.hb dX5_names_24 ?_
    refine lv_istore_n (lv' := [(2, .int ((nI r) - (nI 1))), (0, .ref (a 30 0)), (1, .int (nI r))]) C0.hx C0.hb dX5_names_25 rfl hl (by decide) rfl (fun ls hl => ?_)
    refine x_loopW (α := Nat × xS) (fun u => u.1) (fun ⟨j, τ⟩ H locs ls => va_P g.1 vwCl (xw NLM g a τ) H ∧ va_S (xA NLM a s.heap.size) s.heap H locs ∧ j ≤ r ∧ okM τ ∧ ndL r j τ = naL σ (r + 1) ∧ lv_has ls 3 [(0, .ref (a 30 0)), (1, .int (nI r)), (2, .int (nI j - nI 1))]) ?_ ((r, up3 (kyS (naL σ r) r) 42 0 r (nI r))) ⟨hP, hS, (by omega), (up42_ok (kyS_ok ok1)), rfl, (lv_sub hl [1, 2, 0] rfl)⟩
    rintro ⟨j, τ⟩ H locs ls ⟨hP, hS, hjr, ok2, hG, hl⟩ ih26
    refine lv_iload_n C0.hx C0.hb dX5_names_26 rfl (lv_at hl 2 rfl) ?_
    refine lv_if_lt (tgt := 61) C0.hx C0.hb dX5_names_27 (by decide) (fun c_2 => ?_) (fun c_2 => ?_)
    ·
      rw [nIs_lt0 (by omega)] at c_2
      subst c_2
      have hG2 : τ = naL σ (r + 1) := hG
      subst hG2
      refine lv_iinc (v := nI (r + 1)) (lv' := [(1, .int (nI (r + 1))), (0, .ref (a 30 0)), (2, .int (nI 0 - nI 1))]) C0.hx C0.hb dX5_names_61 hl (k := 1) rfl (nI_1 r) (by decide) rfl (fun ls hl => ?_)
      refine lv_goto (tgt := 2) C0.hx C0.hb dX5_names_64 (by decide) ?_
      exact ih2 ((r + 1)) H locs ls ⟨hP, hS, (by omega), (lv_sub hl [1, 0] rfl)⟩ (by omega)
    ·
      rw [nIs_lt0 (by omega)] at c_2
      obtain ⟨j, rfl⟩ : ∃ z, j = z + 1 := ⟨j - 1, by omega⟩
      rw [show nI (j + 1) - nI 1 = nI j from nI_pred j] at hl
      refine lv_aload_n C0.hx C0.hb dX5_names_30 rfl (lv_at hl 0 rfl) ?_
      refine x_get C0 hP 30 (mM_n rfl rfl) rfl rfl 15 (by decide) i_X5 k_2 rfl rfl dX5_names_31 ?_
      refine lv_iload_n C0.hx C0.hb dX5_names_34 rfl (lv_at hl 1 rfl) ?_
      refine lv_aload_n C0.hx C0.hb dX5_names_35 rfl (lv_at hl 0 rfl) ?_
      refine lv_iload_n C0.hx C0.hb dX5_names_36 rfl (lv_at hl 1 rfl) ?_
      refine lv_iload_n C0.hx C0.hb dX5_names_37 rfl (lv_at hl 2 rfl) ?_
      refine x_Vi (As := [.int (nI r), .int (nI j)]) (rest := [.int (nI r), .ref (a 42 0)]) C0 (mtX5_isSame l g a τ r j (by omega) (by omega) ok2) hP C0.2.2.2.1 (cwV 2 C0.hts gX5_names_X5_isSame rfl rfl rfl (by decide +kernel) ⟨Nat.le_of_ble_eq_true rfl, Nat.le_of_ble_eq_true rfl⟩) (x_recv C0 hP 30 (mM_n rfl rfl) rfl rfl) rfl hl rfl (Nat.le_of_ble_eq_true rfl) (Nat.zero_le _) (Nat.zero_le _) dX5_names_38 ?_
      refine x_join (α := Int32) 54 (fun z H' locs' ls => (H' = H ∧ locs' = locs ∧ z = if isM τ r j = true then nI j else τ 42 0 r) ∧ lv_has ls 3 [(0, .ref (a 30 0)), (1, .int (nI r)), (2, .int (nI j))]) (fun z => [.int z, .int (nI r), .ref (a 42 0)]) ?_ (fun J54 => ?_)
      · rintro z H locs ls ⟨⟨rfl, rfl, hz⟩, hl⟩
        subst hz
        refine x_iast C0 hP hS 42 r 60 (v := if isM τ r j = true then nI j else τ 42 0 r) (mM_n rfl rfl) (fun _ => rfl) (by omega) (by decide) dX5_names_54 (fun H locs hP hS => ?_)
        have hR : ndL r j (up3 τ 42 0 r (if isM τ r j = true then nI j else τ 42 0 r)) = naL σ (r + 1) := hG
        refine lv_iinc (v := nI j - nI 1) (lv' := [(2, .int (nI j - nI 1)), (0, .ref (a 30 0)), (1, .int (nI r))]) C0.hx C0.hb dX5_names_55 hl (k := 2) rfl (nI_m1 j) (by decide) rfl (fun ls hl => ?_)
        refine lv_goto (tgt := 26) C0.hx C0.hb dX5_names_58 (by decide) ?_
        exact ih26 ((j, up3 τ 42 0 r (if isM τ r j = true then nI j else τ 42 0 r))) H locs ls ⟨hP, hS, (by omega), (up42_ok ok2), hR, (lv_sub hl [1, 2, 0] rfl)⟩ (Nat.lt_succ_self _)
      ·
        refine x_ifeq (tgt := 48) C0.hx C0.hb dX5_names_41 (by decide) (fun c_3 => ?_) (fun c_3 => ?_)
        ·
          refine lv_aload_n C0.hx C0.hb dX5_names_48 rfl (lv_at hl 0 rfl) ?_
          refine x_get C0 hP 30 (mM_n rfl rfl) rfl rfl 15 (by decide) i_X5 k_2 rfl rfl dX5_names_49 ?_
          refine lv_iload_n C0.hx C0.hb dX5_names_52 rfl (lv_at hl 1 rfl) ?_
          refine x_iald C0 hP 42 r 60 (mM_n rfl rfl) rfl (by omega) (by decide) dX5_names_53 ?_
          exact J54 (τ 42 0 r) _ _ ls ⟨⟨rfl, rfl, (by rw [if_neg (by rw [c_3]; decide)])⟩, (lv_sub hl [0, 1, 2] rfl)⟩
        ·
          refine lv_iload_n C0.hx C0.hb dX5_names_44 rfl (lv_at hl 2 rfl) ?_
          refine lv_goto (tgt := 54) C0.hx C0.hb dX5_names_45 (by decide) ?_
          exact J54 (nI j) _ _ ls ⟨⟨rfl, rfl, (by rw [if_pos c_3])⟩, (lv_sub hl [0, 1, 2] rfl)⟩

theorem ig_01 {σ : xS} {f : Int32} (o : okX σ) (h : chOk (igC f)) : σ 10 0 (nv f) = 0 ∨ σ 10 0 (nv f) = 1 := by
  obtain ⟨j, hj, rfl⟩ := ibX_nat (n := 30) (by decide) h.1
  have e : nv (nI j) = j := nI_clamp (by omega)
  rw [e]
  exact o.2.2.2.2.2.2.2.2.2 j hj
set_option maxHeartbeats 4000000 in
set_option maxRecDepth 100000 in
theorem mtL_addRange (l : Launch) (hfl : l.stackTraces = false) (g : xG) (a : xAd) (σ : xS) (v x y f : Int32) (ok : okX σ) (okf : okF σ) : xMl l yL_addRange wsL_addRange ({ frames := 8, cells := 3, slots := 18, locals := 150 }) 3 18 g a σ [.ref (a 0 0), .int v, .int x, .int y, .int f, .ref (a 50 0)] (cdX (cd1 eIA) (arC σ v x y f)) (wS (arC σ v x y f) σ (arS σ v x y f) (arS σ v x y f 6 0 (nv v))) := by
  intro sz
  refine x_ofWH (cc := cL_addRange) (maxL := 7) (ret := some .int) (hh := [(0, 14, 17, 13), (0, 14, 21, 15)]) (by decide) rfl ?_
  intro p e s m args below meth c s₁ B hml hv
  obtain ⟨rfl, hsz, ⟨hP, hK, hN, hj⟩, hT, hZ, hW9⟩ := hv
  have hr := B.returns
  have hlocks := B.notSynchronized
  have htb : c.exceptionTable.toList = tableOf [(0, 14, 17, 13), (0, 14, 21, 15)] := vx_table (x := yL_addRange) B (atoms_spec (ws := wsL_addRange) B.pre _ List.mem_cons_self)
  subst hsz
  have C0 : xC p s m _ c cL_addRange 7 wsL_addRange RL NLL g a (xA NLL a s.heap.size) := ⟨⟨B.exec, B.bytes, hml, findClass_of_methodNamed B.named, atoms_spec (ws := wsL_addRange) B.pre⟩, hK, hN, hj, fun n h => Or.inl ⟨n, h, rfl⟩, fun q h => Or.inr h⟩
  have hS : va_S (xA NLL a s.heap.size) s.heap s.heap [] := va_S.rf
  have hl := lv_entry ([.ref (a 0 0), .int v, .int x, .int y, .int f, .ref (a 50 0)]) (n := 7) (Nat.le_of_ble_eq_true rfl)
  rw [lg_entry_eq]
  generalize (lg_sl ([.ref (a 0 0), .int v, .int x, .int y, .int f, .ref (a 50 0)]) ++ List.replicate (7 - (lg_sl ([.ref (a 0 0), .int v, .int x, .int y, .int f, .ref (a 50 0)])).length) Slot.unset).toArray = ls at hl ⊢
  have hl : lv_has ls 7 [(0, .ref (a 0 0)), (1, .int v), (2, .int x), (3, .int y), (4, .int f), (5, .ref (a 50 0))] := hl
  refine lv_aload C0.hx C0.hb dL_addRange_0 (lv_at hl 5 rfl) ?_
  refine lv_iconst (v := nI 0) C0.hx C0.hb dL_addRange_2 (by decide) ?_
  refine lv_aload_n C0.hx C0.hb dL_addRange_3 rfl (lv_at hl 0 rfl) ?_
  refine lv_iload_n C0.hx C0.hb dL_addRange_4 rfl (lv_at hl 1 rfl) ?_
  refine lv_iload_n C0.hx C0.hb dL_addRange_5 rfl (lv_at hl 2 rfl) ?_
  refine lv_iload_n C0.hx C0.hb dL_addRange_6 rfl (lv_at hl 3 rfl) ?_
  refine lv_iload C0.hx C0.hb dL_addRange_7 (lv_at hl 4 rfl) ?_
  refine x_VXL (As := [.int v, .int x, .int y, .int f]) (rest := [.int (nI 0), .ref (a 50 0)]) C0 (mtX4_addRange l hfl g a σ v x y f ok okf) hP hS hT hZ (cwV 4 C0.hts gL_addRange_X4_addRange rfl rfl rfl (by decide +kernel) ⟨Nat.le_of_ble_eq_true rfl, Nat.le_of_ble_eq_true rfl⟩) (x_recv C0 hP 0 (NLX_L _ (mX_n rfl)) rfl rfl) rfl hl rfl (Nat.le_of_ble_eq_true rfl) (Nat.le_of_ble_eq_true rfl) (Nat.le_of_ble_eq_true rfl) dL_addRange_9 (fun E ce qx H locs hE hP hS hcell hv hcl => ?_) (fun H locs hok hP hS => ?_)
  · have hE2 := chEx_B (f := cd1 eIA) hE
    have hE3 := chEx_mem hE
    have hw : (wS (arC σ v x y f) σ (arS σ v x y f) (arS σ v x y f 6 0 (nv v))) = σ := by unfold wS; rw [if_neg (by rw [hE2.1]; decide)]
    rw [hw, hE2.2]
    have hE4 : E = eIA ∨ E = eIS := by
      simp only [arC, List.map_cons, List.map_nil, List.mem_cons, List.not_mem_nil, or_false] at hE3
      first | exact hE3 | (rcases hE3 with h | h <;> simp [h]) | (rcases hE3 with h | h | h <;> simp [h]) | (rcases hE3 with h | h | h | h <;> simp [h])
    rcases hE4 with rfl | rfl
    · refine x_catch C0 hT (name := eIA) [] (⟨0, 14, 17, 13⟩ : ExceptionTableEntry) [(⟨0, 14, 21, 15⟩ : ExceptionTableEntry)] htb (fun z hz => nomatch hz) rfl (by decide) (ct := 13) rfl (by decide +kernel) rfl (by decide +kernel) hcell hv hcl ?_
      refine lv_astore (lv' := [(6, .ref qx), (0, .ref (a 0 0)), (1, .int v), (2, .int x), (3, .int y), (4, .int f), (5, .ref (a 50 0))]) C0.hx C0.hb dL_addRange_17 hl (by decide) rfl (fun ls hl => ?_)
      refine lv_iconst (v := nI 1) C0.hx C0.hb dL_addRange_19 (by decide) ?_
      exact W.zret (v := nI 1) C0.hx C0.hb hr rfl (fun t ht hW => ⟨⟨nI 1, σ, rfl, ⟨by decide, rfl⟩, x_end ht hP⟩, hS.F ht⟩) hS.2.2 dL_addRange_20
    · refine x_catch C0 hT (name := eIS) [(⟨0, 14, 17, 13⟩ : ExceptionTableEntry)] (⟨0, 14, 21, 15⟩ : ExceptionTableEntry) [] htb (fun z hz => by rw [List.mem_singleton] at hz; subst hz; exact Or.inr ⟨by decide, eIA, C0.hts _ (by decide +kernel), hW9.1⟩) rfl (by decide) (ct := 15) rfl (by decide +kernel) rfl (by decide +kernel) hcell hv hcl ?_
      refine lv_astore (lv' := [(6, .ref qx), (0, .ref (a 0 0)), (1, .int v), (2, .int x), (3, .int y), (4, .int f), (5, .ref (a 50 0))]) C0.hx C0.hb dL_addRange_21 hl (by decide) rfl (fun ls hl => ?_)
      refine lv_iconst (v := nI 2) C0.hx C0.hb dL_addRange_23 (by decide) ?_
      exact W.zret (v := nI 2) C0.hx C0.hb hr rfl (fun t ht hW => ⟨⟨nI 2, σ, rfl, ⟨by decide, rfl⟩, x_end ht hP⟩, hS.F ht⟩) hS.2.2 dL_addRange_24
  · have hw : (wS (arC σ v x y f) σ (arS σ v x y f) (arS σ v x y f 6 0 (nv v))) = up3 (oM σ (arS σ v x y f)) 50 0 0 (arS σ v x y f 6 0 (nv v)) := by unfold wS; rw [if_pos (chOk_B hok)]
    rw [hw, chOk_cd hok]
    refine lv_i2l C0.hx C0.hb dL_addRange_12 rfl ?_
    refine x_last C0 hP hS (r := (arS σ v x y f 6 0 (nv v))) rfl dL_addRange_13 (fun H locs hP hS => ?_)
    refine lv_goto (tgt := 25) C0.hx C0.hb dL_addRange_14 (by decide) ?_
    refine lv_iconst (v := nI 0) C0.hx C0.hb dL_addRange_25 (by decide) ?_
    exact W.zret (v := nI 0) C0.hx C0.hb hr rfl (fun t ht hW => ⟨⟨nI 0, _, rfl, ⟨rfl, rfl⟩, x_end ht hP⟩, hS.F ht⟩) hS.2.2 dL_addRange_26
set_option maxHeartbeats 4000000 in
set_option maxRecDepth 100000 in
theorem mtL_ignore (l : Launch) (hfl : l.stackTraces = false) (g : xG) (a : xAd) (σ : xS) (f : Int32) (b : Bool) (ok : okX σ) (okf : okF σ) : xMl l yL_ignore wsL_ignore ({ frames := 8, cells := 1, slots := 6, locals := 150 }) 1 6 g a σ [.ref (a 0 0), .int f, .int (bI b), .ref (a 50 0)] (cdX (cd1 eIA) (igC f)) (wS (igC f) σ (igS σ f b) (σ 10 0 (nv f))) := by
  intro sz
  refine x_ofWH (cc := cL_ignore) (maxL := 5) (ret := some .int) (hh := [(0, 17, 20, 13)]) (by decide) rfl ?_
  intro p e s m args below meth c s₁ B hml hv
  obtain ⟨rfl, hsz, ⟨hP, hK, hN, hj⟩, hT, hZ, hW9⟩ := hv
  have hr := B.returns
  have hlocks := B.notSynchronized
  have htb : c.exceptionTable.toList = tableOf [(0, 17, 20, 13)] := vx_table (x := yL_ignore) B (atoms_spec (ws := wsL_ignore) B.pre _ List.mem_cons_self)
  subst hsz
  have C0 : xC p s m _ c cL_ignore 5 wsL_ignore RL NLL g a (xA NLL a s.heap.size) := ⟨⟨B.exec, B.bytes, hml, findClass_of_methodNamed B.named, atoms_spec (ws := wsL_ignore) B.pre⟩, hK, hN, hj, fun n h => Or.inl ⟨n, h, rfl⟩, fun q h => Or.inr h⟩
  have hS : va_S (xA NLL a s.heap.size) s.heap s.heap [] := va_S.rf
  have hl := lv_entry ([.ref (a 0 0), .int f, .int (bI b), .ref (a 50 0)]) (n := 5) (Nat.le_of_ble_eq_true rfl)
  rw [lg_entry_eq]
  generalize (lg_sl ([.ref (a 0 0), .int f, .int (bI b), .ref (a 50 0)]) ++ List.replicate (5 - (lg_sl ([.ref (a 0 0), .int f, .int (bI b), .ref (a 50 0)])).length) Slot.unset).toArray = ls at hl ⊢
  have hl : lv_has ls 5 [(0, .ref (a 0 0)), (1, .int f), (2, .int (bI b)), (3, .ref (a 50 0))] := hl
  refine lv_aload_n C0.hx C0.hb dL_ignore_0 rfl (lv_at hl 3 rfl) ?_
  refine lv_iconst (v := nI 0) C0.hx C0.hb dL_ignore_1 (by decide) ?_
  refine lv_aload_n C0.hx C0.hb dL_ignore_2 rfl (lv_at hl 0 rfl) ?_
  refine lv_iload_n C0.hx C0.hb dL_ignore_3 rfl (lv_at hl 1 rfl) ?_
  refine lv_iload_n C0.hx C0.hb dL_ignore_4 rfl (lv_at hl 2 rfl) ?_
  refine x_VXL (As := [.int f, .int (bI b)]) (rest := [.int (nI 0), .ref (a 50 0)]) C0 (mtX4_ignore l hfl g a σ f b ok okf) hP hS hT hZ (cwV 2 C0.hts gL_ignore_X4_ignore rfl rfl rfl (by decide +kernel) ⟨Nat.le_of_ble_eq_true rfl, Nat.le_of_ble_eq_true rfl⟩) (x_recv C0 hP 0 (NLX_L _ (mX_n rfl)) rfl rfl) rfl hl rfl (Nat.le_of_ble_eq_true rfl) (Nat.le_of_ble_eq_true rfl) (Nat.le_of_ble_eq_true rfl) dL_ignore_5 (fun E ce qx H locs hE hP hS hcell hv hcl => ?_) (fun H locs hok hP hS => ?_)
  · have hE2 := chEx_B (f := cd1 eIA) hE
    have hE3 := chEx_mem hE
    have hw : (wS (igC f) σ (igS σ f b) (σ 10 0 (nv f))) = σ := by unfold wS; rw [if_neg (by rw [hE2.1]; decide)]
    rw [hw, hE2.2]
    have hE4 : E = eIA := by
      simp only [igC, List.map_cons, List.map_nil, List.mem_cons, List.not_mem_nil, or_false] at hE3
      first | exact hE3 | (rcases hE3 with h | h <;> simp [h]) | (rcases hE3 with h | h | h <;> simp [h]) | (rcases hE3 with h | h | h | h <;> simp [h])
    subst hE4
    refine x_catch C0 hT (name := eIA) [] (⟨0, 17, 20, 13⟩ : ExceptionTableEntry) [] htb (fun z hz => nomatch hz) rfl (by decide) (ct := 13) rfl (by decide +kernel) rfl (by decide +kernel) hcell hv hcl ?_
    refine lv_astore (lv' := [(4, .ref qx), (0, .ref (a 0 0)), (1, .int f), (2, .int (bI b)), (3, .ref (a 50 0))]) C0.hx C0.hb dL_ignore_20 hl (by decide) rfl (fun ls hl => ?_)
    refine lv_iconst (v := nI 1) C0.hx C0.hb dL_ignore_22 (by decide) ?_
    exact W.zret (v := nI 1) C0.hx C0.hb hr rfl (fun t ht hW => ⟨⟨nI 1, σ, rfl, ⟨by decide, rfl⟩, x_end ht hP⟩, hS.F ht⟩) hS.2.2 dL_ignore_23
  · have hw : (wS (igC f) σ (igS σ f b) (σ 10 0 (nv f))) = up3 (oM σ (igS σ f b)) 50 0 0 (σ 10 0 (nv f)) := by unfold wS; rw [if_pos (chOk_B hok)]
    rw [hw, chOk_cd hok]
    have h01 : (σ 10 0 (nv f)) = 0 ∨ (σ 10 0 (nv f)) = 1 := ig_01 ok hok
    refine lv_if_eq (tgt := 15) C0.hx C0.hb dL_ignore_8 (by decide) (fun hz => ?_) (fun hz => ?_)
    · refine lv_lconst (v := 0) C0.hx C0.hb dL_ignore_15 rfl ?_
      refine x_last C0 hP hS (r := (σ 10 0 (nv f))) (by rw [hz]; rfl) dL_ignore_16 (fun H locs hP hS => ?_)
      refine lv_goto (tgt := 24) C0.hx C0.hb dL_ignore_17 (by decide) ?_
      refine lv_iconst (v := nI 0) C0.hx C0.hb dL_ignore_24 (by decide) ?_
      exact W.zret (v := nI 0) C0.hx C0.hb hr rfl (fun t ht hW => ⟨⟨nI 0, _, rfl, ⟨rfl, rfl⟩, x_end ht hP⟩, hS.F ht⟩) hS.2.2 dL_ignore_25
    · refine lv_lconst (v := 1) C0.hx C0.hb dL_ignore_11 rfl ?_
      refine lv_goto (tgt := 16) C0.hx C0.hb dL_ignore_12 (by decide) ?_
      refine x_last C0 hP hS (r := (σ 10 0 (nv f))) (h01.elim (fun h => absurd h hz) (fun h => by rw [h]; rfl)) dL_ignore_16 (fun H locs hP hS => ?_)
      refine lv_goto (tgt := 24) C0.hx C0.hb dL_ignore_17 (by decide) ?_
      refine lv_iconst (v := nI 0) C0.hx C0.hb dL_ignore_24 (by decide) ?_
      exact W.zret (v := nI 0) C0.hx C0.hb hr rfl (fun t ht hW => ⟨⟨nI 0, _, rfl, ⟨rfl, rfl⟩, x_end ht hP⟩, hS.F ht⟩) hS.2.2 dL_ignore_25
set_option maxHeartbeats 4000000 in
set_option maxRecDepth 100000 in
theorem mtL_standFor (l : Launch) (hfl : l.stackTraces = false) (g : xG) (a : xAd) (σ : xS) (f o : Int32) (ok : okX σ) (okf : okF σ) : xMl l yL_standFor wsL_standFor ({ frames := 8, cells := 2, slots := 12, locals := 150 }) 2 12 g a σ [.ref (a 0 0), .int f, .int o, .ref (a 50 0)] (cdX (cd1 eIA) (sfC σ f o)) (wS (sfC σ f o) σ (sfS σ f o) (σ 11 0 (nv f))) := by
  intro sz
  refine x_ofWH (cc := cL_standFor) (maxL := 5) (ret := some .int) (hh := [(0, 10, 13, 13), (0, 10, 17, 15)]) (by decide) rfl ?_
  intro p e s m args below meth c s₁ B hml hv
  obtain ⟨rfl, hsz, ⟨hP, hK, hN, hj⟩, hT, hZ, hW9⟩ := hv
  have hr := B.returns
  have hlocks := B.notSynchronized
  have htb : c.exceptionTable.toList = tableOf [(0, 10, 13, 13), (0, 10, 17, 15)] := vx_table (x := yL_standFor) B (atoms_spec (ws := wsL_standFor) B.pre _ List.mem_cons_self)
  subst hsz
  have C0 : xC p s m _ c cL_standFor 5 wsL_standFor RL NLL g a (xA NLL a s.heap.size) := ⟨⟨B.exec, B.bytes, hml, findClass_of_methodNamed B.named, atoms_spec (ws := wsL_standFor) B.pre⟩, hK, hN, hj, fun n h => Or.inl ⟨n, h, rfl⟩, fun q h => Or.inr h⟩
  have hS : va_S (xA NLL a s.heap.size) s.heap s.heap [] := va_S.rf
  have hl := lv_entry ([.ref (a 0 0), .int f, .int o, .ref (a 50 0)]) (n := 5) (Nat.le_of_ble_eq_true rfl)
  rw [lg_entry_eq]
  generalize (lg_sl ([.ref (a 0 0), .int f, .int o, .ref (a 50 0)]) ++ List.replicate (5 - (lg_sl ([.ref (a 0 0), .int f, .int o, .ref (a 50 0)])).length) Slot.unset).toArray = ls at hl ⊢
  have hl : lv_has ls 5 [(0, .ref (a 0 0)), (1, .int f), (2, .int o), (3, .ref (a 50 0))] := hl
  refine lv_aload_n C0.hx C0.hb dL_standFor_0 rfl (lv_at hl 3 rfl) ?_
  refine lv_iconst (v := nI 0) C0.hx C0.hb dL_standFor_1 (by decide) ?_
  refine lv_aload_n C0.hx C0.hb dL_standFor_2 rfl (lv_at hl 0 rfl) ?_
  refine lv_iload_n C0.hx C0.hb dL_standFor_3 rfl (lv_at hl 1 rfl) ?_
  refine lv_iload_n C0.hx C0.hb dL_standFor_4 rfl (lv_at hl 2 rfl) ?_
  refine x_VXL (As := [.int f, .int o]) (rest := [.int (nI 0), .ref (a 50 0)]) C0 (mtX4_standFor l hfl g a σ f o ok okf) hP hS hT hZ (cwV 2 C0.hts gL_standFor_X4_standFor rfl rfl rfl (by decide +kernel) ⟨Nat.le_of_ble_eq_true rfl, Nat.le_of_ble_eq_true rfl⟩) (x_recv C0 hP 0 (NLX_L _ (mX_n rfl)) rfl rfl) rfl hl rfl (Nat.le_of_ble_eq_true rfl) (Nat.le_of_ble_eq_true rfl) (Nat.le_of_ble_eq_true rfl) dL_standFor_5 (fun E ce qx H locs hE hP hS hcell hv hcl => ?_) (fun H locs hok hP hS => ?_)
  · have hE2 := chEx_B (f := cd1 eIA) hE
    have hE3 := chEx_mem hE
    have hw : (wS (sfC σ f o) σ (sfS σ f o) (σ 11 0 (nv f))) = σ := by unfold wS; rw [if_neg (by rw [hE2.1]; decide)]
    rw [hw, hE2.2]
    have hE4 : E = eIA ∨ E = eIS := by
      simp only [sfC, List.map_cons, List.map_nil, List.mem_cons, List.not_mem_nil, or_false] at hE3
      first | exact hE3 | (rcases hE3 with h | h <;> simp [h]) | (rcases hE3 with h | h | h <;> simp [h]) | (rcases hE3 with h | h | h | h <;> simp [h])
    rcases hE4 with rfl | rfl
    · refine x_catch C0 hT (name := eIA) [] (⟨0, 10, 13, 13⟩ : ExceptionTableEntry) [(⟨0, 10, 17, 15⟩ : ExceptionTableEntry)] htb (fun z hz => nomatch hz) rfl (by decide) (ct := 13) rfl (by decide +kernel) rfl (by decide +kernel) hcell hv hcl ?_
      refine lv_astore (lv' := [(4, .ref qx), (0, .ref (a 0 0)), (1, .int f), (2, .int o), (3, .ref (a 50 0))]) C0.hx C0.hb dL_standFor_13 hl (by decide) rfl (fun ls hl => ?_)
      refine lv_iconst (v := nI 1) C0.hx C0.hb dL_standFor_15 (by decide) ?_
      exact W.zret (v := nI 1) C0.hx C0.hb hr rfl (fun t ht hW => ⟨⟨nI 1, σ, rfl, ⟨by decide, rfl⟩, x_end ht hP⟩, hS.F ht⟩) hS.2.2 dL_standFor_16
    · refine x_catch C0 hT (name := eIS) [(⟨0, 10, 13, 13⟩ : ExceptionTableEntry)] (⟨0, 10, 17, 15⟩ : ExceptionTableEntry) [] htb (fun z hz => by rw [List.mem_singleton] at hz; subst hz; exact Or.inr ⟨by decide, eIA, C0.hts _ (by decide +kernel), hW9.1⟩) rfl (by decide) (ct := 15) rfl (by decide +kernel) rfl (by decide +kernel) hcell hv hcl ?_
      refine lv_astore (lv' := [(4, .ref qx), (0, .ref (a 0 0)), (1, .int f), (2, .int o), (3, .ref (a 50 0))]) C0.hx C0.hb dL_standFor_17 hl (by decide) rfl (fun ls hl => ?_)
      refine lv_iconst (v := nI 2) C0.hx C0.hb dL_standFor_19 (by decide) ?_
      exact W.zret (v := nI 2) C0.hx C0.hb hr rfl (fun t ht hW => ⟨⟨nI 2, σ, rfl, ⟨by decide, rfl⟩, x_end ht hP⟩, hS.F ht⟩) hS.2.2 dL_standFor_20
  · have hw : (wS (sfC σ f o) σ (sfS σ f o) (σ 11 0 (nv f))) = up3 (oM σ (sfS σ f o)) 50 0 0 (σ 11 0 (nv f)) := by unfold wS; rw [if_pos (chOk_B hok)]
    rw [hw, chOk_cd hok]
    refine lv_i2l C0.hx C0.hb dL_standFor_8 rfl ?_
    refine x_last C0 hP hS (r := (σ 11 0 (nv f))) rfl dL_standFor_9 (fun H locs hP hS => ?_)
    refine lv_goto (tgt := 21) C0.hx C0.hb dL_standFor_10 (by decide) ?_
    refine lv_iconst (v := nI 0) C0.hx C0.hb dL_standFor_21 (by decide) ?_
    exact W.zret (v := nI 0) C0.hx C0.hb hr rfl (fun t ht hW => ⟨⟨nI 0, _, rfl, ⟨rfl, rfl⟩, x_end ht hP⟩, hS.F ht⟩) hS.2.2 dL_standFor_22
set_option maxHeartbeats 4000000 in
set_option maxRecDepth 100000 in
theorem mtL_setDepth (l : Launch) (hfl : l.stackTraces = false) (g : xG) (a : xAd) (σ : xS) (d : Int32) (ok : okX σ) (okf : okF σ) : xMl l yL_setDepth wsL_setDepth ({ frames := 8, cells := 1, slots := 6, locals := 150 }) 1 6 g a σ [.ref (a 0 0), .int d, .ref (a 50 0)] (cdX (cd1 eIA) (sdC d)) (wS (sdC d) σ (sdS σ d) (σ 2 0 0)) := by
  intro sz
  refine x_ofWH (cc := cL_setDepth) (maxL := 4) (ret := some .int) (hh := [(0, 9, 12, 13)]) (by decide) rfl ?_
  intro p e s m args below meth c s₁ B hml hv
  obtain ⟨rfl, hsz, ⟨hP, hK, hN, hj⟩, hT, hZ, hW9⟩ := hv
  have hr := B.returns
  have hlocks := B.notSynchronized
  have htb : c.exceptionTable.toList = tableOf [(0, 9, 12, 13)] := vx_table (x := yL_setDepth) B (atoms_spec (ws := wsL_setDepth) B.pre _ List.mem_cons_self)
  subst hsz
  have C0 : xC p s m _ c cL_setDepth 4 wsL_setDepth RL NLL g a (xA NLL a s.heap.size) := ⟨⟨B.exec, B.bytes, hml, findClass_of_methodNamed B.named, atoms_spec (ws := wsL_setDepth) B.pre⟩, hK, hN, hj, fun n h => Or.inl ⟨n, h, rfl⟩, fun q h => Or.inr h⟩
  have hS : va_S (xA NLL a s.heap.size) s.heap s.heap [] := va_S.rf
  have hl := lv_entry ([.ref (a 0 0), .int d, .ref (a 50 0)]) (n := 4) (Nat.le_of_ble_eq_true rfl)
  rw [lg_entry_eq]
  generalize (lg_sl ([.ref (a 0 0), .int d, .ref (a 50 0)]) ++ List.replicate (4 - (lg_sl ([.ref (a 0 0), .int d, .ref (a 50 0)])).length) Slot.unset).toArray = ls at hl ⊢
  have hl : lv_has ls 4 [(0, .ref (a 0 0)), (1, .int d), (2, .ref (a 50 0))] := hl
  refine lv_aload_n C0.hx C0.hb dL_setDepth_0 rfl (lv_at hl 2 rfl) ?_
  refine lv_iconst (v := nI 0) C0.hx C0.hb dL_setDepth_1 (by decide) ?_
  refine lv_aload_n C0.hx C0.hb dL_setDepth_2 rfl (lv_at hl 0 rfl) ?_
  refine lv_iload_n C0.hx C0.hb dL_setDepth_3 rfl (lv_at hl 1 rfl) ?_
  refine x_VXL (As := [.int d]) (rest := [.int (nI 0), .ref (a 50 0)]) C0 (mtX4_setDepth l hfl g a σ d ok okf) hP hS hT hZ (cwV 1 C0.hts gL_setDepth_X4_setDepth rfl rfl rfl (by decide +kernel) ⟨Nat.le_of_ble_eq_true rfl, Nat.le_of_ble_eq_true rfl⟩) (x_recv C0 hP 0 (NLX_L _ (mX_n rfl)) rfl rfl) rfl hl rfl (Nat.le_of_ble_eq_true rfl) (Nat.le_of_ble_eq_true rfl) (Nat.le_of_ble_eq_true rfl) dL_setDepth_4 (fun E ce qx H locs hE hP hS hcell hv hcl => ?_) (fun H locs hok hP hS => ?_)
  · have hE2 := chEx_B (f := cd1 eIA) hE
    have hE3 := chEx_mem hE
    have hw : (wS (sdC d) σ (sdS σ d) (σ 2 0 0)) = σ := by unfold wS; rw [if_neg (by rw [hE2.1]; decide)]
    rw [hw, hE2.2]
    have hE4 : E = eIA := by
      simp only [sdC, List.map_cons, List.map_nil, List.mem_cons, List.not_mem_nil, or_false] at hE3
      first | exact hE3 | (rcases hE3 with h | h <;> simp [h]) | (rcases hE3 with h | h | h <;> simp [h]) | (rcases hE3 with h | h | h | h <;> simp [h])
    subst hE4
    refine x_catch C0 hT (name := eIA) [] (⟨0, 9, 12, 13⟩ : ExceptionTableEntry) [] htb (fun z hz => nomatch hz) rfl (by decide) (ct := 13) rfl (by decide +kernel) rfl (by decide +kernel) hcell hv hcl ?_
    refine lv_astore_n (lv' := [(3, .ref qx), (0, .ref (a 0 0)), (1, .int d), (2, .ref (a 50 0))]) C0.hx C0.hb dL_setDepth_12 rfl hl (by decide) rfl (fun ls hl => ?_)
    refine lv_iconst (v := nI 1) C0.hx C0.hb dL_setDepth_13 (by decide) ?_
    exact W.zret (v := nI 1) C0.hx C0.hb hr rfl (fun t ht hW => ⟨⟨nI 1, σ, rfl, ⟨by decide, rfl⟩, x_end ht hP⟩, hS.F ht⟩) hS.2.2 dL_setDepth_14
  · have hw : (wS (sdC d) σ (sdS σ d) (σ 2 0 0)) = up3 (oM σ (sdS σ d)) 50 0 0 (σ 2 0 0) := by unfold wS; rw [if_pos (chOk_B hok)]
    rw [hw, chOk_cd hok]
    refine lv_i2l C0.hx C0.hb dL_setDepth_7 rfl ?_
    refine x_last C0 hP hS (r := (σ 2 0 0)) rfl dL_setDepth_8 (fun H locs hP hS => ?_)
    refine lv_goto (tgt := 15) C0.hx C0.hb dL_setDepth_9 (by decide) ?_
    refine lv_iconst (v := nI 0) C0.hx C0.hb dL_setDepth_15 (by decide) ?_
    exact W.zret (v := nI 0) C0.hx C0.hb hr rfl (fun t ht hW => ⟨⟨nI 0, _, rfl, ⟨rfl, rfl⟩, x_end ht hP⟩, hS.F ht⟩) hS.2.2 dL_setDepth_16
set_option maxHeartbeats 4000000 in
set_option maxRecDepth 100000 in
theorem mtL_report (l : Launch) (hfl : l.stackTraces = false) (g : xG) (a : xAd) (σ : xS) (v u x y z w : Int32) (ok : okX σ) (okf : okF σ) : xMl l yL_report wsL_report ({ frames := 8, cells := 3, slots := 18, locals := 150 }) 3 18 g a σ [.ref (a 0 0), .int v, .int u, .int x, .int y, .int z, .int w, .ref (a 50 0)] (cdX (cd1 eIA) (rpC σ v u x y z w)) (wS (rpC σ v u x y z w) σ (rpS σ v u x y z w) (nI (nv (σ 3 0 0)))) := by
  intro sz
  refine x_ofWH (cc := cL_report) (maxL := 9) (ret := some .int) (hh := [(0, 18, 21, 13), (0, 18, 25, 15)]) (by decide) rfl ?_
  intro p e s m args below meth c s₁ B hml hv
  obtain ⟨rfl, hsz, ⟨hP, hK, hN, hj⟩, hT, hZ, hW9⟩ := hv
  have hr := B.returns
  have hlocks := B.notSynchronized
  have htb : c.exceptionTable.toList = tableOf [(0, 18, 21, 13), (0, 18, 25, 15)] := vx_table (x := yL_report) B (atoms_spec (ws := wsL_report) B.pre _ List.mem_cons_self)
  subst hsz
  have C0 : xC p s m _ c cL_report 9 wsL_report RL NLL g a (xA NLL a s.heap.size) := ⟨⟨B.exec, B.bytes, hml, findClass_of_methodNamed B.named, atoms_spec (ws := wsL_report) B.pre⟩, hK, hN, hj, fun n h => Or.inl ⟨n, h, rfl⟩, fun q h => Or.inr h⟩
  have hS : va_S (xA NLL a s.heap.size) s.heap s.heap [] := va_S.rf
  have hl := lv_entry ([.ref (a 0 0), .int v, .int u, .int x, .int y, .int z, .int w, .ref (a 50 0)]) (n := 9) (Nat.le_of_ble_eq_true rfl)
  rw [lg_entry_eq]
  generalize (lg_sl ([.ref (a 0 0), .int v, .int u, .int x, .int y, .int z, .int w, .ref (a 50 0)]) ++ List.replicate (9 - (lg_sl ([.ref (a 0 0), .int v, .int u, .int x, .int y, .int z, .int w, .ref (a 50 0)])).length) Slot.unset).toArray = ls at hl ⊢
  have hl : lv_has ls 9 [(0, .ref (a 0 0)), (1, .int v), (2, .int u), (3, .int x), (4, .int y), (5, .int z), (6, .int w), (7, .ref (a 50 0))] := hl
  refine lv_aload C0.hx C0.hb dL_report_0 (lv_at hl 7 rfl) ?_
  refine lv_iconst (v := nI 0) C0.hx C0.hb dL_report_2 (by decide) ?_
  refine lv_aload_n C0.hx C0.hb dL_report_3 rfl (lv_at hl 0 rfl) ?_
  refine lv_iload_n C0.hx C0.hb dL_report_4 rfl (lv_at hl 1 rfl) ?_
  refine lv_iload_n C0.hx C0.hb dL_report_5 rfl (lv_at hl 2 rfl) ?_
  refine lv_iload_n C0.hx C0.hb dL_report_6 rfl (lv_at hl 3 rfl) ?_
  refine lv_iload C0.hx C0.hb dL_report_7 (lv_at hl 4 rfl) ?_
  refine lv_iload C0.hx C0.hb dL_report_9 (lv_at hl 5 rfl) ?_
  refine lv_iload C0.hx C0.hb dL_report_11 (lv_at hl 6 rfl) ?_
  refine x_VXL (As := [.int v, .int u, .int x, .int y, .int z, .int w]) (rest := [.int (nI 0), .ref (a 50 0)]) C0 (mtX4_report l hfl g a σ v u x y z w ok okf) hP hS hT hZ (cwV 6 C0.hts gL_report_X4_report rfl rfl rfl (by decide +kernel) ⟨Nat.le_of_ble_eq_true rfl, Nat.le_of_ble_eq_true rfl⟩) (x_recv C0 hP 0 (NLX_L _ (mX_n rfl)) rfl rfl) rfl hl rfl (Nat.le_of_ble_eq_true rfl) (Nat.le_of_ble_eq_true rfl) (Nat.le_of_ble_eq_true rfl) dL_report_13 (fun E ce qx H locs hE hP hS hcell hv hcl => ?_) (fun H locs hok hP hS => ?_)
  · have hE2 := chEx_B (f := cd1 eIA) hE
    have hE3 := chEx_mem hE
    have hw : (wS (rpC σ v u x y z w) σ (rpS σ v u x y z w) (nI (nv (σ 3 0 0)))) = σ := by unfold wS; rw [if_neg (by rw [hE2.1]; decide)]
    rw [hw, hE2.2]
    have hE4 : E = eIA ∨ E = eIS := by
      simp only [rpC, List.map_cons, List.map_nil, List.mem_cons, List.not_mem_nil, or_false] at hE3
      first | exact hE3 | (rcases hE3 with h | h <;> simp [h]) | (rcases hE3 with h | h | h <;> simp [h]) | (rcases hE3 with h | h | h | h <;> simp [h])
    rcases hE4 with rfl | rfl
    · refine x_catch C0 hT (name := eIA) [] (⟨0, 18, 21, 13⟩ : ExceptionTableEntry) [(⟨0, 18, 25, 15⟩ : ExceptionTableEntry)] htb (fun z hz => nomatch hz) rfl (by decide) (ct := 13) rfl (by decide +kernel) rfl (by decide +kernel) hcell hv hcl ?_
      refine lv_astore (lv' := [(8, .ref qx), (0, .ref (a 0 0)), (1, .int v), (2, .int u), (3, .int x), (4, .int y), (5, .int z), (6, .int w), (7, .ref (a 50 0))]) C0.hx C0.hb dL_report_21 hl (by decide) rfl (fun ls hl => ?_)
      refine lv_iconst (v := nI 1) C0.hx C0.hb dL_report_23 (by decide) ?_
      exact W.zret (v := nI 1) C0.hx C0.hb hr rfl (fun t ht hW => ⟨⟨nI 1, σ, rfl, ⟨by decide, rfl⟩, x_end ht hP⟩, hS.F ht⟩) hS.2.2 dL_report_24
    · refine x_catch C0 hT (name := eIS) [(⟨0, 18, 21, 13⟩ : ExceptionTableEntry)] (⟨0, 18, 25, 15⟩ : ExceptionTableEntry) [] htb (fun z hz => by rw [List.mem_singleton] at hz; subst hz; exact Or.inr ⟨by decide, eIA, C0.hts _ (by decide +kernel), hW9.1⟩) rfl (by decide) (ct := 15) rfl (by decide +kernel) rfl (by decide +kernel) hcell hv hcl ?_
      refine lv_astore (lv' := [(8, .ref qx), (0, .ref (a 0 0)), (1, .int v), (2, .int u), (3, .int x), (4, .int y), (5, .int z), (6, .int w), (7, .ref (a 50 0))]) C0.hx C0.hb dL_report_25 hl (by decide) rfl (fun ls hl => ?_)
      refine lv_iconst (v := nI 2) C0.hx C0.hb dL_report_27 (by decide) ?_
      exact W.zret (v := nI 2) C0.hx C0.hb hr rfl (fun t ht hW => ⟨⟨nI 2, σ, rfl, ⟨by decide, rfl⟩, x_end ht hP⟩, hS.F ht⟩) hS.2.2 dL_report_28
  · have hw : (wS (rpC σ v u x y z w) σ (rpS σ v u x y z w) (nI (nv (σ 3 0 0)))) = up3 (oM σ (rpS σ v u x y z w)) 50 0 0 (nI (nv (σ 3 0 0))) := by unfold wS; rw [if_pos (chOk_B hok)]
    rw [hw, chOk_cd hok]
    refine lv_i2l C0.hx C0.hb dL_report_16 rfl ?_
    refine x_last C0 hP hS (r := (nI (nv (σ 3 0 0)))) rfl dL_report_17 (fun H locs hP hS => ?_)
    refine lv_goto (tgt := 29) C0.hx C0.hb dL_report_18 (by decide) ?_
    refine lv_iconst (v := nI 0) C0.hx C0.hb dL_report_29 (by decide) ?_
    exact W.zret (v := nI 0) C0.hx C0.hb hr rfl (fun t ht hW => ⟨⟨nI 0, _, rfl, ⟨rfl, rfl⟩, x_end ht hP⟩, hS.F ht⟩) hS.2.2 dL_report_30
set_option maxHeartbeats 4000000 in
set_option maxRecDepth 100000 in
theorem mtL_frame (l : Launch) (hfl : l.stackTraces = false) (g : xG) (a : xAd) (σ : xS) (r q : Int32) (ok : okX σ) : xMl l yL_frame wsL_frame ({ frames := 8, cells := 2, slots := 12, locals := 150 }) 2 12 g a σ [.ref (a 0 0), .int r, .int q, .ref (a 50 0)] (cdX (cd1 eIO) (frC σ r q)) (wS (frC σ r q) σ σ (σ 24 (nv r) (nv q))) := by
  intro sz
  refine x_ofWH (cc := cL_frame) (maxL := 5) (ret := some .int) (hh := [(0, 10, 13, 36), (0, 10, 17, 13)]) (by decide) rfl ?_
  intro p e s m args below meth c s₁ B hml hv
  obtain ⟨rfl, hsz, ⟨hP, hK, hN, hj⟩, hT, hZ, hW9⟩ := hv
  have hr := B.returns
  have hlocks := B.notSynchronized
  have htb : c.exceptionTable.toList = tableOf [(0, 10, 13, 36), (0, 10, 17, 13)] := vx_table (x := yL_frame) B (atoms_spec (ws := wsL_frame) B.pre _ List.mem_cons_self)
  subst hsz
  have C0 : xC p s m _ c cL_frame 5 wsL_frame RL NLL g a (xA NLL a s.heap.size) := ⟨⟨B.exec, B.bytes, hml, findClass_of_methodNamed B.named, atoms_spec (ws := wsL_frame) B.pre⟩, hK, hN, hj, fun n h => Or.inl ⟨n, h, rfl⟩, fun q h => Or.inr h⟩
  have hS : va_S (xA NLL a s.heap.size) s.heap s.heap [] := va_S.rf
  have hl := lv_entry ([.ref (a 0 0), .int r, .int q, .ref (a 50 0)]) (n := 5) (Nat.le_of_ble_eq_true rfl)
  rw [lg_entry_eq]
  generalize (lg_sl ([.ref (a 0 0), .int r, .int q, .ref (a 50 0)]) ++ List.replicate (5 - (lg_sl ([.ref (a 0 0), .int r, .int q, .ref (a 50 0)])).length) Slot.unset).toArray = ls at hl ⊢
  have hl : lv_has ls 5 [(0, .ref (a 0 0)), (1, .int r), (2, .int q), (3, .ref (a 50 0))] := hl
  refine lv_aload_n C0.hx C0.hb dL_frame_0 rfl (lv_at hl 3 rfl) ?_
  refine lv_iconst (v := nI 0) C0.hx C0.hb dL_frame_1 (by decide) ?_
  refine lv_aload_n C0.hx C0.hb dL_frame_2 rfl (lv_at hl 0 rfl) ?_
  refine lv_iload_n C0.hx C0.hb dL_frame_3 rfl (lv_at hl 1 rfl) ?_
  refine lv_iload_n C0.hx C0.hb dL_frame_4 rfl (lv_at hl 2 rfl) ?_
  refine x_VXL (As := [.int r, .int q]) (rest := [.int (nI 0), .ref (a 50 0)]) C0 (mtX4_frame l hfl g a σ r q ok) hP hS hT hZ (cwV 2 C0.hts gL_frame_X4_frame rfl rfl rfl (by decide +kernel) ⟨Nat.le_of_ble_eq_true rfl, Nat.le_of_ble_eq_true rfl⟩) (x_recv C0 hP 0 (NLX_L _ (mX_n rfl)) rfl rfl) rfl hl rfl (Nat.le_of_ble_eq_true rfl) (Nat.le_of_ble_eq_true rfl) (Nat.le_of_ble_eq_true rfl) dL_frame_5 (fun E ce qx H locs hE hP hS hcell hv hcl => ?_) (fun H locs hok hP hS => ?_)
  · have hE2 := chEx_B (f := cd1 eIO) hE
    have hE3 := chEx_mem hE
    have hw : (wS (frC σ r q) σ σ (σ 24 (nv r) (nv q))) = σ := by unfold wS; rw [if_neg (by rw [hE2.1]; decide)]
    rw [hw, hE2.2]
    have hE4 : E = eIO ∨ E = eIA := by
      simp only [frC, List.map_cons, List.map_nil, List.mem_cons, List.not_mem_nil, or_false] at hE3
      first | exact hE3 | (rcases hE3 with h | h <;> simp [h]) | (rcases hE3 with h | h | h <;> simp [h]) | (rcases hE3 with h | h | h | h <;> simp [h])
    rcases hE4 with rfl | rfl
    · refine x_catch C0 hT (name := eIO) [] (⟨0, 10, 13, 36⟩ : ExceptionTableEntry) [(⟨0, 10, 17, 13⟩ : ExceptionTableEntry)] htb (fun z hz => nomatch hz) rfl (by decide) (ct := 36) rfl (by decide +kernel) rfl (by decide +kernel) hcell hv hcl ?_
      refine lv_astore (lv' := [(4, .ref qx), (0, .ref (a 0 0)), (1, .int r), (2, .int q), (3, .ref (a 50 0))]) C0.hx C0.hb dL_frame_13 hl (by decide) rfl (fun ls hl => ?_)
      refine lv_iconst (v := nI 1) C0.hx C0.hb dL_frame_15 (by decide) ?_
      exact W.zret (v := nI 1) C0.hx C0.hb hr rfl (fun t ht hW => ⟨⟨nI 1, σ, rfl, ⟨by decide, rfl⟩, x_end ht hP⟩, hS.F ht⟩) hS.2.2 dL_frame_16
    · refine x_catch C0 hT (name := eIA) [(⟨0, 10, 13, 36⟩ : ExceptionTableEntry)] (⟨0, 10, 17, 13⟩ : ExceptionTableEntry) [] htb (fun z hz => by rw [List.mem_singleton] at hz; subst hz; exact Or.inr ⟨by decide, eIO, C0.hts _ (by decide +kernel), hW9.2.1⟩) rfl (by decide) (ct := 13) rfl (by decide +kernel) rfl (by decide +kernel) hcell hv hcl ?_
      refine lv_astore (lv' := [(4, .ref qx), (0, .ref (a 0 0)), (1, .int r), (2, .int q), (3, .ref (a 50 0))]) C0.hx C0.hb dL_frame_17 hl (by decide) rfl (fun ls hl => ?_)
      refine lv_iconst (v := nI 2) C0.hx C0.hb dL_frame_19 (by decide) ?_
      exact W.zret (v := nI 2) C0.hx C0.hb hr rfl (fun t ht hW => ⟨⟨nI 2, σ, rfl, ⟨by decide, rfl⟩, x_end ht hP⟩, hS.F ht⟩) hS.2.2 dL_frame_20
  · have hw : (wS (frC σ r q) σ σ (σ 24 (nv r) (nv q))) = up3 (oM σ σ) 50 0 0 (σ 24 (nv r) (nv q)) := by unfold wS; rw [if_pos (chOk_B hok)]
    rw [hw, chOk_cd hok]
    refine lv_i2l C0.hx C0.hb dL_frame_8 rfl ?_
    refine x_last C0 hP hS (r := (σ 24 (nv r) (nv q))) rfl dL_frame_9 (fun H locs hP hS => ?_)
    refine lv_goto (tgt := 21) C0.hx C0.hb dL_frame_10 (by decide) ?_
    refine lv_iconst (v := nI 0) C0.hx C0.hb dL_frame_21 (by decide) ?_
    exact W.zret (v := nI 0) C0.hx C0.hb hr rfl (fun t ht hW => ⟨⟨nI 0, _, rfl, ⟨rfl, rfl⟩, x_end ht hP⟩, hS.F ht⟩) hS.2.2 dL_frame_22
set_option maxHeartbeats 4000000 in
set_option maxRecDepth 100000 in
theorem mtL_matters (l : Launch) (hfl : l.stackTraces = false) (g : xG) (a : xAd) (σ : xS) (r q : Int32) (ok : okX σ) : xMl l yL_matters wsL_matters ({ frames := 8, cells := 2, slots := 12, locals := 150 }) 2 12 g a σ [.ref (a 0 0), .int r, .int q, .ref (a 50 0)] (cdX (cd1 eIO) (frC σ r q)) (wS (frC σ r q) σ σ (σ 25 (nv r) (nv q))) := by
  intro sz
  refine x_ofWH (cc := cL_matters) (maxL := 5) (ret := some .int) (hh := [(0, 10, 13, 36), (0, 10, 17, 13)]) (by decide) rfl ?_
  intro p e s m args below meth c s₁ B hml hv
  obtain ⟨rfl, hsz, ⟨hP, hK, hN, hj⟩, hT, hZ, hW9⟩ := hv
  have hr := B.returns
  have hlocks := B.notSynchronized
  have htb : c.exceptionTable.toList = tableOf [(0, 10, 13, 36), (0, 10, 17, 13)] := vx_table (x := yL_matters) B (atoms_spec (ws := wsL_matters) B.pre _ List.mem_cons_self)
  subst hsz
  have C0 : xC p s m _ c cL_matters 5 wsL_matters RL NLL g a (xA NLL a s.heap.size) := ⟨⟨B.exec, B.bytes, hml, findClass_of_methodNamed B.named, atoms_spec (ws := wsL_matters) B.pre⟩, hK, hN, hj, fun n h => Or.inl ⟨n, h, rfl⟩, fun q h => Or.inr h⟩
  have hS : va_S (xA NLL a s.heap.size) s.heap s.heap [] := va_S.rf
  have hl := lv_entry ([.ref (a 0 0), .int r, .int q, .ref (a 50 0)]) (n := 5) (Nat.le_of_ble_eq_true rfl)
  rw [lg_entry_eq]
  generalize (lg_sl ([.ref (a 0 0), .int r, .int q, .ref (a 50 0)]) ++ List.replicate (5 - (lg_sl ([.ref (a 0 0), .int r, .int q, .ref (a 50 0)])).length) Slot.unset).toArray = ls at hl ⊢
  have hl : lv_has ls 5 [(0, .ref (a 0 0)), (1, .int r), (2, .int q), (3, .ref (a 50 0))] := hl
  refine lv_aload_n C0.hx C0.hb dL_matters_0 rfl (lv_at hl 3 rfl) ?_
  refine lv_iconst (v := nI 0) C0.hx C0.hb dL_matters_1 (by decide) ?_
  refine lv_aload_n C0.hx C0.hb dL_matters_2 rfl (lv_at hl 0 rfl) ?_
  refine lv_iload_n C0.hx C0.hb dL_matters_3 rfl (lv_at hl 1 rfl) ?_
  refine lv_iload_n C0.hx C0.hb dL_matters_4 rfl (lv_at hl 2 rfl) ?_
  refine x_VXL (As := [.int r, .int q]) (rest := [.int (nI 0), .ref (a 50 0)]) C0 (mtX4_matters l hfl g a σ r q ok) hP hS hT hZ (cwV 2 C0.hts gL_matters_X4_matters rfl rfl rfl (by decide +kernel) ⟨Nat.le_of_ble_eq_true rfl, Nat.le_of_ble_eq_true rfl⟩) (x_recv C0 hP 0 (NLX_L _ (mX_n rfl)) rfl rfl) rfl hl rfl (Nat.le_of_ble_eq_true rfl) (Nat.le_of_ble_eq_true rfl) (Nat.le_of_ble_eq_true rfl) dL_matters_5 (fun E ce qx H locs hE hP hS hcell hv hcl => ?_) (fun H locs hok hP hS => ?_)
  · have hE2 := chEx_B (f := cd1 eIO) hE
    have hE3 := chEx_mem hE
    have hw : (wS (frC σ r q) σ σ (σ 25 (nv r) (nv q))) = σ := by unfold wS; rw [if_neg (by rw [hE2.1]; decide)]
    rw [hw, hE2.2]
    have hE4 : E = eIO ∨ E = eIA := by
      simp only [frC, List.map_cons, List.map_nil, List.mem_cons, List.not_mem_nil, or_false] at hE3
      first | exact hE3 | (rcases hE3 with h | h <;> simp [h]) | (rcases hE3 with h | h | h <;> simp [h]) | (rcases hE3 with h | h | h | h <;> simp [h])
    rcases hE4 with rfl | rfl
    · refine x_catch C0 hT (name := eIO) [] (⟨0, 10, 13, 36⟩ : ExceptionTableEntry) [(⟨0, 10, 17, 13⟩ : ExceptionTableEntry)] htb (fun z hz => nomatch hz) rfl (by decide) (ct := 36) rfl (by decide +kernel) rfl (by decide +kernel) hcell hv hcl ?_
      refine lv_astore (lv' := [(4, .ref qx), (0, .ref (a 0 0)), (1, .int r), (2, .int q), (3, .ref (a 50 0))]) C0.hx C0.hb dL_matters_13 hl (by decide) rfl (fun ls hl => ?_)
      refine lv_iconst (v := nI 1) C0.hx C0.hb dL_matters_15 (by decide) ?_
      exact W.zret (v := nI 1) C0.hx C0.hb hr rfl (fun t ht hW => ⟨⟨nI 1, σ, rfl, ⟨by decide, rfl⟩, x_end ht hP⟩, hS.F ht⟩) hS.2.2 dL_matters_16
    · refine x_catch C0 hT (name := eIA) [(⟨0, 10, 13, 36⟩ : ExceptionTableEntry)] (⟨0, 10, 17, 13⟩ : ExceptionTableEntry) [] htb (fun z hz => by rw [List.mem_singleton] at hz; subst hz; exact Or.inr ⟨by decide, eIO, C0.hts _ (by decide +kernel), hW9.2.1⟩) rfl (by decide) (ct := 13) rfl (by decide +kernel) rfl (by decide +kernel) hcell hv hcl ?_
      refine lv_astore (lv' := [(4, .ref qx), (0, .ref (a 0 0)), (1, .int r), (2, .int q), (3, .ref (a 50 0))]) C0.hx C0.hb dL_matters_17 hl (by decide) rfl (fun ls hl => ?_)
      refine lv_iconst (v := nI 2) C0.hx C0.hb dL_matters_19 (by decide) ?_
      exact W.zret (v := nI 2) C0.hx C0.hb hr rfl (fun t ht hW => ⟨⟨nI 2, σ, rfl, ⟨by decide, rfl⟩, x_end ht hP⟩, hS.F ht⟩) hS.2.2 dL_matters_20
  · have hw : (wS (frC σ r q) σ σ (σ 25 (nv r) (nv q))) = up3 (oM σ σ) 50 0 0 (σ 25 (nv r) (nv q)) := by unfold wS; rw [if_pos (chOk_B hok)]
    rw [hw, chOk_cd hok]
    refine lv_i2l C0.hx C0.hb dL_matters_8 rfl ?_
    refine x_last C0 hP hS (r := (σ 25 (nv r) (nv q))) rfl dL_matters_9 (fun H locs hP hS => ?_)
    refine lv_goto (tgt := 21) C0.hx C0.hb dL_matters_10 (by decide) ?_
    refine lv_iconst (v := nI 0) C0.hx C0.hb dL_matters_21 (by decide) ?_
    exact W.zret (v := nI 0) C0.hx C0.hb hr rfl (fun t ht hW => ⟨⟨nI 0, _, rfl, ⟨rfl, rfl⟩, x_end ht hP⟩, hS.F ht⟩) hS.2.2 dL_matters_22
set_option maxHeartbeats 4000000 in
set_option maxRecDepth 100000 in
theorem mtL_bucket (l : Launch) (hfl : l.stackTraces = false) (g : xG) (a : xAd) (σ : xS) (r : Int32) (ok : okX σ) : xMl l yL_bucket wsL_bucket ({ frames := 8, cells := 1, slots := 6, locals := 150 }) 1 6 g a σ [.ref (a 0 0), .int r, .ref (a 50 0)] (cdX (cd1 eIO) (r1C σ r)) (wS (r1C σ r) σ σ (σ 19 0 (nv r))) := by
  intro sz
  refine x_ofWH (cc := cL_bucket) (maxL := 4) (ret := some .int) (hh := [(0, 9, 12, 36)]) (by decide) rfl ?_
  intro p e s m args below meth c s₁ B hml hv
  obtain ⟨rfl, hsz, ⟨hP, hK, hN, hj⟩, hT, hZ, hW9⟩ := hv
  have hr := B.returns
  have hlocks := B.notSynchronized
  have htb : c.exceptionTable.toList = tableOf [(0, 9, 12, 36)] := vx_table (x := yL_bucket) B (atoms_spec (ws := wsL_bucket) B.pre _ List.mem_cons_self)
  subst hsz
  have C0 : xC p s m _ c cL_bucket 4 wsL_bucket RL NLL g a (xA NLL a s.heap.size) := ⟨⟨B.exec, B.bytes, hml, findClass_of_methodNamed B.named, atoms_spec (ws := wsL_bucket) B.pre⟩, hK, hN, hj, fun n h => Or.inl ⟨n, h, rfl⟩, fun q h => Or.inr h⟩
  have hS : va_S (xA NLL a s.heap.size) s.heap s.heap [] := va_S.rf
  have hl := lv_entry ([.ref (a 0 0), .int r, .ref (a 50 0)]) (n := 4) (Nat.le_of_ble_eq_true rfl)
  rw [lg_entry_eq]
  generalize (lg_sl ([.ref (a 0 0), .int r, .ref (a 50 0)]) ++ List.replicate (4 - (lg_sl ([.ref (a 0 0), .int r, .ref (a 50 0)])).length) Slot.unset).toArray = ls at hl ⊢
  have hl : lv_has ls 4 [(0, .ref (a 0 0)), (1, .int r), (2, .ref (a 50 0))] := hl
  refine lv_aload_n C0.hx C0.hb dL_bucket_0 rfl (lv_at hl 2 rfl) ?_
  refine lv_iconst (v := nI 0) C0.hx C0.hb dL_bucket_1 (by decide) ?_
  refine lv_aload_n C0.hx C0.hb dL_bucket_2 rfl (lv_at hl 0 rfl) ?_
  refine lv_iload_n C0.hx C0.hb dL_bucket_3 rfl (lv_at hl 1 rfl) ?_
  refine x_VXL (As := [.int r]) (rest := [.int (nI 0), .ref (a 50 0)]) C0 (mtX4_bucket l hfl g a σ r ok) hP hS hT hZ (cwV 1 C0.hts gL_bucket_X4_bucket rfl rfl rfl (by decide +kernel) ⟨Nat.le_of_ble_eq_true rfl, Nat.le_of_ble_eq_true rfl⟩) (x_recv C0 hP 0 (NLX_L _ (mX_n rfl)) rfl rfl) rfl hl rfl (Nat.le_of_ble_eq_true rfl) (Nat.le_of_ble_eq_true rfl) (Nat.le_of_ble_eq_true rfl) dL_bucket_4 (fun E ce qx H locs hE hP hS hcell hv hcl => ?_) (fun H locs hok hP hS => ?_)
  · have hE2 := chEx_B (f := cd1 eIO) hE
    have hE3 := chEx_mem hE
    have hw : (wS (r1C σ r) σ σ (σ 19 0 (nv r))) = σ := by unfold wS; rw [if_neg (by rw [hE2.1]; decide)]
    rw [hw, hE2.2]
    have hE4 : E = eIO := by
      simp only [r1C, List.map_cons, List.map_nil, List.mem_cons, List.not_mem_nil, or_false] at hE3
      first | exact hE3 | (rcases hE3 with h | h <;> simp [h]) | (rcases hE3 with h | h | h <;> simp [h]) | (rcases hE3 with h | h | h | h <;> simp [h])
    subst hE4
    refine x_catch C0 hT (name := eIO) [] (⟨0, 9, 12, 36⟩ : ExceptionTableEntry) [] htb (fun z hz => nomatch hz) rfl (by decide) (ct := 36) rfl (by decide +kernel) rfl (by decide +kernel) hcell hv hcl ?_
    refine lv_astore_n (lv' := [(3, .ref qx), (0, .ref (a 0 0)), (1, .int r), (2, .ref (a 50 0))]) C0.hx C0.hb dL_bucket_12 rfl hl (by decide) rfl (fun ls hl => ?_)
    refine lv_iconst (v := nI 1) C0.hx C0.hb dL_bucket_13 (by decide) ?_
    exact W.zret (v := nI 1) C0.hx C0.hb hr rfl (fun t ht hW => ⟨⟨nI 1, σ, rfl, ⟨by decide, rfl⟩, x_end ht hP⟩, hS.F ht⟩) hS.2.2 dL_bucket_14
  · have hw : (wS (r1C σ r) σ σ (σ 19 0 (nv r))) = up3 (oM σ σ) 50 0 0 (σ 19 0 (nv r)) := by unfold wS; rw [if_pos (chOk_B hok)]
    rw [hw, chOk_cd hok]
    refine lv_i2l C0.hx C0.hb dL_bucket_7 rfl ?_
    refine x_last C0 hP hS (r := (σ 19 0 (nv r))) rfl dL_bucket_8 (fun H locs hP hS => ?_)
    refine lv_goto (tgt := 15) C0.hx C0.hb dL_bucket_9 (by decide) ?_
    refine lv_iconst (v := nI 0) C0.hx C0.hb dL_bucket_15 (by decide) ?_
    exact W.zret (v := nI 0) C0.hx C0.hb hr rfl (fun t ht hW => ⟨⟨nI 0, _, rfl, ⟨rfl, rfl⟩, x_end ht hP⟩, hS.F ht⟩) hS.2.2 dL_bucket_16
set_option maxHeartbeats 4000000 in
set_option maxRecDepth 100000 in
theorem mtL_size (l : Launch) (hfl : l.stackTraces = false) (g : xG) (a : xAd) (σ : xS) (r : Int32) (ok : okX σ) : xMl l yL_size wsL_size ({ frames := 8, cells := 1, slots := 6, locals := 150 }) 1 6 g a σ [.ref (a 0 0), .int r, .ref (a 50 0)] (cdX (cd1 eIO) (r1C σ r)) (wS (r1C σ r) σ σ (nI (siL σ (σ 19 0 (nv r)) 4))) := by
  intro sz
  refine x_ofWH (cc := cL_size) (maxL := 4) (ret := some .int) (hh := [(0, 9, 12, 36)]) (by decide) rfl ?_
  intro p e s m args below meth c s₁ B hml hv
  obtain ⟨rfl, hsz, ⟨hP, hK, hN, hj⟩, hT, hZ, hW9⟩ := hv
  have hr := B.returns
  have hlocks := B.notSynchronized
  have htb : c.exceptionTable.toList = tableOf [(0, 9, 12, 36)] := vx_table (x := yL_size) B (atoms_spec (ws := wsL_size) B.pre _ List.mem_cons_self)
  subst hsz
  have C0 : xC p s m _ c cL_size 4 wsL_size RL NLL g a (xA NLL a s.heap.size) := ⟨⟨B.exec, B.bytes, hml, findClass_of_methodNamed B.named, atoms_spec (ws := wsL_size) B.pre⟩, hK, hN, hj, fun n h => Or.inl ⟨n, h, rfl⟩, fun q h => Or.inr h⟩
  have hS : va_S (xA NLL a s.heap.size) s.heap s.heap [] := va_S.rf
  have hl := lv_entry ([.ref (a 0 0), .int r, .ref (a 50 0)]) (n := 4) (Nat.le_of_ble_eq_true rfl)
  rw [lg_entry_eq]
  generalize (lg_sl ([.ref (a 0 0), .int r, .ref (a 50 0)]) ++ List.replicate (4 - (lg_sl ([.ref (a 0 0), .int r, .ref (a 50 0)])).length) Slot.unset).toArray = ls at hl ⊢
  have hl : lv_has ls 4 [(0, .ref (a 0 0)), (1, .int r), (2, .ref (a 50 0))] := hl
  refine lv_aload_n C0.hx C0.hb dL_size_0 rfl (lv_at hl 2 rfl) ?_
  refine lv_iconst (v := nI 0) C0.hx C0.hb dL_size_1 (by decide) ?_
  refine lv_aload_n C0.hx C0.hb dL_size_2 rfl (lv_at hl 0 rfl) ?_
  refine lv_iload_n C0.hx C0.hb dL_size_3 rfl (lv_at hl 1 rfl) ?_
  refine x_VXL (As := [.int r]) (rest := [.int (nI 0), .ref (a 50 0)]) C0 (mtX4_size l hfl g a σ r ok) hP hS hT hZ (cwV 1 C0.hts gL_size_X4_size rfl rfl rfl (by decide +kernel) ⟨Nat.le_of_ble_eq_true rfl, Nat.le_of_ble_eq_true rfl⟩) (x_recv C0 hP 0 (NLX_L _ (mX_n rfl)) rfl rfl) rfl hl rfl (Nat.le_of_ble_eq_true rfl) (Nat.le_of_ble_eq_true rfl) (Nat.le_of_ble_eq_true rfl) dL_size_4 (fun E ce qx H locs hE hP hS hcell hv hcl => ?_) (fun H locs hok hP hS => ?_)
  · have hE2 := chEx_B (f := cd1 eIO) hE
    have hE3 := chEx_mem hE
    have hw : (wS (r1C σ r) σ σ (nI (siL σ (σ 19 0 (nv r)) 4))) = σ := by unfold wS; rw [if_neg (by rw [hE2.1]; decide)]
    rw [hw, hE2.2]
    have hE4 : E = eIO := by
      simp only [r1C, List.map_cons, List.map_nil, List.mem_cons, List.not_mem_nil, or_false] at hE3
      first | exact hE3 | (rcases hE3 with h | h <;> simp [h]) | (rcases hE3 with h | h | h <;> simp [h]) | (rcases hE3 with h | h | h | h <;> simp [h])
    subst hE4
    refine x_catch C0 hT (name := eIO) [] (⟨0, 9, 12, 36⟩ : ExceptionTableEntry) [] htb (fun z hz => nomatch hz) rfl (by decide) (ct := 36) rfl (by decide +kernel) rfl (by decide +kernel) hcell hv hcl ?_
    refine lv_astore_n (lv' := [(3, .ref qx), (0, .ref (a 0 0)), (1, .int r), (2, .ref (a 50 0))]) C0.hx C0.hb dL_size_12 rfl hl (by decide) rfl (fun ls hl => ?_)
    refine lv_iconst (v := nI 1) C0.hx C0.hb dL_size_13 (by decide) ?_
    exact W.zret (v := nI 1) C0.hx C0.hb hr rfl (fun t ht hW => ⟨⟨nI 1, σ, rfl, ⟨by decide, rfl⟩, x_end ht hP⟩, hS.F ht⟩) hS.2.2 dL_size_14
  · have hw : (wS (r1C σ r) σ σ (nI (siL σ (σ 19 0 (nv r)) 4))) = up3 (oM σ σ) 50 0 0 (nI (siL σ (σ 19 0 (nv r)) 4)) := by unfold wS; rw [if_pos (chOk_B hok)]
    rw [hw, chOk_cd hok]
    refine lv_i2l C0.hx C0.hb dL_size_7 rfl ?_
    refine x_last C0 hP hS (r := (nI (siL σ (σ 19 0 (nv r)) 4))) rfl dL_size_8 (fun H locs hP hS => ?_)
    refine lv_goto (tgt := 15) C0.hx C0.hb dL_size_9 (by decide) ?_
    refine lv_iconst (v := nI 0) C0.hx C0.hb dL_size_15 (by decide) ?_
    exact W.zret (v := nI 0) C0.hx C0.hb hr rfl (fun t ht hW => ⟨⟨nI 0, _, rfl, ⟨rfl, rfl⟩, x_end ht hP⟩, hS.F ht⟩) hS.2.2 dL_size_16
set_option maxHeartbeats 4000000 in
set_option maxRecDepth 100000 in
theorem mtL_setSessions (l : Launch) (hfl : l.stackTraces = false) (g : xG) (a : xAd) (σ : xS) (v n : Int32) (ok : okX σ) : xMl l yL_setSessions wsL_setSessions ({ frames := 8, cells := 1, slots := 6, locals := 150 }) 1 6 g a σ [.ref (a 0 0), .int v, .int n, .ref (a 50 0)] (cdX (cd1 eIA) (ssC v n)) (wS (ssC v n) σ (ssS σ v n) (σ 5 0 (nv v))) := by
  intro sz
  refine x_ofWH (cc := cL_setSessions) (maxL := 5) (ret := some .int) (hh := [(0, 10, 13, 13)]) (by decide) rfl ?_
  intro p e s m args below meth c s₁ B hml hv
  obtain ⟨rfl, hsz, ⟨hP, hK, hN, hj⟩, hT, hZ, hW9⟩ := hv
  have hr := B.returns
  have hlocks := B.notSynchronized
  have htb : c.exceptionTable.toList = tableOf [(0, 10, 13, 13)] := vx_table (x := yL_setSessions) B (atoms_spec (ws := wsL_setSessions) B.pre _ List.mem_cons_self)
  subst hsz
  have C0 : xC p s m _ c cL_setSessions 5 wsL_setSessions RL NLL g a (xA NLL a s.heap.size) := ⟨⟨B.exec, B.bytes, hml, findClass_of_methodNamed B.named, atoms_spec (ws := wsL_setSessions) B.pre⟩, hK, hN, hj, fun n h => Or.inl ⟨n, h, rfl⟩, fun q h => Or.inr h⟩
  have hS : va_S (xA NLL a s.heap.size) s.heap s.heap [] := va_S.rf
  have hl := lv_entry ([.ref (a 0 0), .int v, .int n, .ref (a 50 0)]) (n := 5) (Nat.le_of_ble_eq_true rfl)
  rw [lg_entry_eq]
  generalize (lg_sl ([.ref (a 0 0), .int v, .int n, .ref (a 50 0)]) ++ List.replicate (5 - (lg_sl ([.ref (a 0 0), .int v, .int n, .ref (a 50 0)])).length) Slot.unset).toArray = ls at hl ⊢
  have hl : lv_has ls 5 [(0, .ref (a 0 0)), (1, .int v), (2, .int n), (3, .ref (a 50 0))] := hl
  refine lv_aload_n C0.hx C0.hb dL_setSessions_0 rfl (lv_at hl 3 rfl) ?_
  refine lv_iconst (v := nI 0) C0.hx C0.hb dL_setSessions_1 (by decide) ?_
  refine lv_aload_n C0.hx C0.hb dL_setSessions_2 rfl (lv_at hl 0 rfl) ?_
  refine lv_iload_n C0.hx C0.hb dL_setSessions_3 rfl (lv_at hl 1 rfl) ?_
  refine lv_iload_n C0.hx C0.hb dL_setSessions_4 rfl (lv_at hl 2 rfl) ?_
  refine x_VXL (As := [.int v, .int n]) (rest := [.int (nI 0), .ref (a 50 0)]) C0 (mtX4_setSessions l hfl g a σ v n ok) hP hS hT hZ (cwV 2 C0.hts gL_setSessions_X4_setSessions rfl rfl rfl (by decide +kernel) ⟨Nat.le_of_ble_eq_true rfl, Nat.le_of_ble_eq_true rfl⟩) (x_recv C0 hP 0 (NLX_L _ (mX_n rfl)) rfl rfl) rfl hl rfl (Nat.le_of_ble_eq_true rfl) (Nat.le_of_ble_eq_true rfl) (Nat.le_of_ble_eq_true rfl) dL_setSessions_5 (fun E ce qx H locs hE hP hS hcell hv hcl => ?_) (fun H locs hok hP hS => ?_)
  · have hE2 := chEx_B (f := cd1 eIA) hE
    have hE3 := chEx_mem hE
    have hw : (wS (ssC v n) σ (ssS σ v n) (σ 5 0 (nv v))) = σ := by unfold wS; rw [if_neg (by rw [hE2.1]; decide)]
    rw [hw, hE2.2]
    have hE4 : E = eIA := by
      simp only [ssC, List.map_cons, List.map_nil, List.mem_cons, List.not_mem_nil, or_false] at hE3
      first | exact hE3 | (rcases hE3 with h | h <;> simp [h]) | (rcases hE3 with h | h | h <;> simp [h]) | (rcases hE3 with h | h | h | h <;> simp [h])
    subst hE4
    refine x_catch C0 hT (name := eIA) [] (⟨0, 10, 13, 13⟩ : ExceptionTableEntry) [] htb (fun z hz => nomatch hz) rfl (by decide) (ct := 13) rfl (by decide +kernel) rfl (by decide +kernel) hcell hv hcl ?_
    refine lv_astore (lv' := [(4, .ref qx), (0, .ref (a 0 0)), (1, .int v), (2, .int n), (3, .ref (a 50 0))]) C0.hx C0.hb dL_setSessions_13 hl (by decide) rfl (fun ls hl => ?_)
    refine lv_iconst (v := nI 1) C0.hx C0.hb dL_setSessions_15 (by decide) ?_
    exact W.zret (v := nI 1) C0.hx C0.hb hr rfl (fun t ht hW => ⟨⟨nI 1, σ, rfl, ⟨by decide, rfl⟩, x_end ht hP⟩, hS.F ht⟩) hS.2.2 dL_setSessions_16
  · have hw : (wS (ssC v n) σ (ssS σ v n) (σ 5 0 (nv v))) = up3 (oM σ (ssS σ v n)) 50 0 0 (σ 5 0 (nv v)) := by unfold wS; rw [if_pos (chOk_B hok)]
    rw [hw, chOk_cd hok]
    refine lv_i2l C0.hx C0.hb dL_setSessions_8 rfl ?_
    refine x_last C0 hP hS (r := (σ 5 0 (nv v))) rfl dL_setSessions_9 (fun H locs hP hS => ?_)
    refine lv_goto (tgt := 17) C0.hx C0.hb dL_setSessions_10 (by decide) ?_
    refine lv_iconst (v := nI 0) C0.hx C0.hb dL_setSessions_17 (by decide) ?_
    exact W.zret (v := nI 0) C0.hx C0.hb hr rfl (fun t ht hW => ⟨⟨nI 0, _, rfl, ⟨rfl, rfl⟩, x_end ht hP⟩, hS.F ht⟩) hS.2.2 dL_setSessions_18
set_option maxHeartbeats 4000000 in
set_option maxRecDepth 100000 in
theorem mtL_setLimit (l : Launch) (hfl : l.stackTraces = false) (g : xG) (a : xAd) (σ : xS) (n : Int32) : xMl l yL_setLimit wsL_setLimit ({ frames := 8, cells := 1, slots := 6, locals := 150 }) 1 6 g a σ [.ref (a 0 0), .int n, .ref (a 50 0)] (cdX (cd1 eIA) (slC n)) (wS (slC n) σ (slS σ n) (σ 0 0 0)) := by
  intro sz
  refine x_ofWH (cc := cL_setLimit) (maxL := 4) (ret := some .int) (hh := [(0, 9, 12, 13)]) (by decide) rfl ?_
  intro p e s m args below meth c s₁ B hml hv
  obtain ⟨rfl, hsz, ⟨hP, hK, hN, hj⟩, hT, hZ, hW9⟩ := hv
  have hr := B.returns
  have hlocks := B.notSynchronized
  have htb : c.exceptionTable.toList = tableOf [(0, 9, 12, 13)] := vx_table (x := yL_setLimit) B (atoms_spec (ws := wsL_setLimit) B.pre _ List.mem_cons_self)
  subst hsz
  have C0 : xC p s m _ c cL_setLimit 4 wsL_setLimit RL NLL g a (xA NLL a s.heap.size) := ⟨⟨B.exec, B.bytes, hml, findClass_of_methodNamed B.named, atoms_spec (ws := wsL_setLimit) B.pre⟩, hK, hN, hj, fun n h => Or.inl ⟨n, h, rfl⟩, fun q h => Or.inr h⟩
  have hS : va_S (xA NLL a s.heap.size) s.heap s.heap [] := va_S.rf
  have hl := lv_entry ([.ref (a 0 0), .int n, .ref (a 50 0)]) (n := 4) (Nat.le_of_ble_eq_true rfl)
  rw [lg_entry_eq]
  generalize (lg_sl ([.ref (a 0 0), .int n, .ref (a 50 0)]) ++ List.replicate (4 - (lg_sl ([.ref (a 0 0), .int n, .ref (a 50 0)])).length) Slot.unset).toArray = ls at hl ⊢
  have hl : lv_has ls 4 [(0, .ref (a 0 0)), (1, .int n), (2, .ref (a 50 0))] := hl
  refine lv_aload_n C0.hx C0.hb dL_setLimit_0 rfl (lv_at hl 2 rfl) ?_
  refine lv_iconst (v := nI 0) C0.hx C0.hb dL_setLimit_1 (by decide) ?_
  refine lv_aload_n C0.hx C0.hb dL_setLimit_2 rfl (lv_at hl 0 rfl) ?_
  refine lv_iload_n C0.hx C0.hb dL_setLimit_3 rfl (lv_at hl 1 rfl) ?_
  refine x_VXL (As := [.int n]) (rest := [.int (nI 0), .ref (a 50 0)]) C0 (mtX4_setLimit l hfl g a σ n) hP hS hT hZ (cwV 1 C0.hts gL_setLimit_X4_setLimit rfl rfl rfl (by decide +kernel) ⟨Nat.le_of_ble_eq_true rfl, Nat.le_of_ble_eq_true rfl⟩) (x_recv C0 hP 0 (NLX_L _ (mX_n rfl)) rfl rfl) rfl hl rfl (Nat.le_of_ble_eq_true rfl) (Nat.le_of_ble_eq_true rfl) (Nat.le_of_ble_eq_true rfl) dL_setLimit_4 (fun E ce qx H locs hE hP hS hcell hv hcl => ?_) (fun H locs hok hP hS => ?_)
  · have hE2 := chEx_B (f := cd1 eIA) hE
    have hE3 := chEx_mem hE
    have hw : (wS (slC n) σ (slS σ n) (σ 0 0 0)) = σ := by unfold wS; rw [if_neg (by rw [hE2.1]; decide)]
    rw [hw, hE2.2]
    have hE4 : E = eIA := by
      simp only [slC, List.map_cons, List.map_nil, List.mem_cons, List.not_mem_nil, or_false] at hE3
      first | exact hE3 | (rcases hE3 with h | h <;> simp [h]) | (rcases hE3 with h | h | h <;> simp [h]) | (rcases hE3 with h | h | h | h <;> simp [h])
    subst hE4
    refine x_catch C0 hT (name := eIA) [] (⟨0, 9, 12, 13⟩ : ExceptionTableEntry) [] htb (fun z hz => nomatch hz) rfl (by decide) (ct := 13) rfl (by decide +kernel) rfl (by decide +kernel) hcell hv hcl ?_
    refine lv_astore_n (lv' := [(3, .ref qx), (0, .ref (a 0 0)), (1, .int n), (2, .ref (a 50 0))]) C0.hx C0.hb dL_setLimit_12 rfl hl (by decide) rfl (fun ls hl => ?_)
    refine lv_iconst (v := nI 1) C0.hx C0.hb dL_setLimit_13 (by decide) ?_
    exact W.zret (v := nI 1) C0.hx C0.hb hr rfl (fun t ht hW => ⟨⟨nI 1, σ, rfl, ⟨by decide, rfl⟩, x_end ht hP⟩, hS.F ht⟩) hS.2.2 dL_setLimit_14
  · have hw : (wS (slC n) σ (slS σ n) (σ 0 0 0)) = up3 (oM σ (slS σ n)) 50 0 0 (σ 0 0 0) := by unfold wS; rw [if_pos (chOk_B hok)]
    rw [hw, chOk_cd hok]
    refine lv_i2l C0.hx C0.hb dL_setLimit_7 rfl ?_
    refine x_last C0 hP hS (r := (σ 0 0 0)) rfl dL_setLimit_8 (fun H locs hP hS => ?_)
    refine lv_goto (tgt := 15) C0.hx C0.hb dL_setLimit_9 (by decide) ?_
    refine lv_iconst (v := nI 0) C0.hx C0.hb dL_setLimit_15 (by decide) ?_
    exact W.zret (v := nI 0) C0.hx C0.hb hr rfl (fun t ht hW => ⟨⟨nI 0, _, rfl, ⟨rfl, rfl⟩, x_end ht hP⟩, hS.F ht⟩) hS.2.2 dL_setLimit_16
set_option maxHeartbeats 4000000 in
set_option maxRecDepth 100000 in
theorem mtL_rate (l : Launch) (hfl : l.stackTraces = false) (g : xG) (a : xAd) (σ : xS) (r q : Int32) (ok : okX σ) : xMl l yL_rate wsL_rate ({ frames := 8, cells := 2, slots := 12, locals := 150 }) 2 12 g a σ [.ref (a 0 0), .int r, .int q, .ref (a 50 0)] (cdX (cd1 eIO) (frC σ r q)) (wS (frC σ r q) σ σ (nI (rtX σ (σ 19 0 (nv r)) (nv q)))) := by
  intro sz
  refine x_ofWH (cc := cL_rate) (maxL := 5) (ret := some .int) (hh := [(0, 10, 13, 36), (0, 10, 17, 13)]) (by decide) rfl ?_
  intro p e s m args below meth c s₁ B hml hv
  obtain ⟨rfl, hsz, ⟨hP, hK, hN, hj⟩, hT, hZ, hW9⟩ := hv
  have hr := B.returns
  have hlocks := B.notSynchronized
  have htb : c.exceptionTable.toList = tableOf [(0, 10, 13, 36), (0, 10, 17, 13)] := vx_table (x := yL_rate) B (atoms_spec (ws := wsL_rate) B.pre _ List.mem_cons_self)
  subst hsz
  have C0 : xC p s m _ c cL_rate 5 wsL_rate RL NLL g a (xA NLL a s.heap.size) := ⟨⟨B.exec, B.bytes, hml, findClass_of_methodNamed B.named, atoms_spec (ws := wsL_rate) B.pre⟩, hK, hN, hj, fun n h => Or.inl ⟨n, h, rfl⟩, fun q h => Or.inr h⟩
  have hS : va_S (xA NLL a s.heap.size) s.heap s.heap [] := va_S.rf
  have hl := lv_entry ([.ref (a 0 0), .int r, .int q, .ref (a 50 0)]) (n := 5) (Nat.le_of_ble_eq_true rfl)
  rw [lg_entry_eq]
  generalize (lg_sl ([.ref (a 0 0), .int r, .int q, .ref (a 50 0)]) ++ List.replicate (5 - (lg_sl ([.ref (a 0 0), .int r, .int q, .ref (a 50 0)])).length) Slot.unset).toArray = ls at hl ⊢
  have hl : lv_has ls 5 [(0, .ref (a 0 0)), (1, .int r), (2, .int q), (3, .ref (a 50 0))] := hl
  refine lv_aload_n C0.hx C0.hb dL_rate_0 rfl (lv_at hl 3 rfl) ?_
  refine lv_iconst (v := nI 0) C0.hx C0.hb dL_rate_1 (by decide) ?_
  refine lv_aload_n C0.hx C0.hb dL_rate_2 rfl (lv_at hl 0 rfl) ?_
  refine lv_iload_n C0.hx C0.hb dL_rate_3 rfl (lv_at hl 1 rfl) ?_
  refine lv_iload_n C0.hx C0.hb dL_rate_4 rfl (lv_at hl 2 rfl) ?_
  refine x_VXL (As := [.int r, .int q]) (rest := [.int (nI 0), .ref (a 50 0)]) C0 (mtX4_rate l hfl g a σ r q ok) hP hS hT hZ (cwV 2 C0.hts gL_rate_X4_rate rfl rfl rfl (by decide +kernel) ⟨Nat.le_of_ble_eq_true rfl, Nat.le_of_ble_eq_true rfl⟩) (x_recv C0 hP 0 (NLX_L _ (mX_n rfl)) rfl rfl) rfl hl rfl (Nat.le_of_ble_eq_true rfl) (Nat.le_of_ble_eq_true rfl) (Nat.le_of_ble_eq_true rfl) dL_rate_5 (fun E ce qx H locs hE hP hS hcell hv hcl => ?_) (fun H locs hok hP hS => ?_)
  · have hE2 := chEx_B (f := cd1 eIO) hE
    have hE3 := chEx_mem hE
    have hw : (wS (frC σ r q) σ σ (nI (rtX σ (σ 19 0 (nv r)) (nv q)))) = σ := by unfold wS; rw [if_neg (by rw [hE2.1]; decide)]
    rw [hw, hE2.2]
    have hE4 : E = eIO ∨ E = eIA := by
      simp only [frC, List.map_cons, List.map_nil, List.mem_cons, List.not_mem_nil, or_false] at hE3
      first | exact hE3 | (rcases hE3 with h | h <;> simp [h]) | (rcases hE3 with h | h | h <;> simp [h]) | (rcases hE3 with h | h | h | h <;> simp [h])
    rcases hE4 with rfl | rfl
    · refine x_catch C0 hT (name := eIO) [] (⟨0, 10, 13, 36⟩ : ExceptionTableEntry) [(⟨0, 10, 17, 13⟩ : ExceptionTableEntry)] htb (fun z hz => nomatch hz) rfl (by decide) (ct := 36) rfl (by decide +kernel) rfl (by decide +kernel) hcell hv hcl ?_
      refine lv_astore (lv' := [(4, .ref qx), (0, .ref (a 0 0)), (1, .int r), (2, .int q), (3, .ref (a 50 0))]) C0.hx C0.hb dL_rate_13 hl (by decide) rfl (fun ls hl => ?_)
      refine lv_iconst (v := nI 1) C0.hx C0.hb dL_rate_15 (by decide) ?_
      exact W.zret (v := nI 1) C0.hx C0.hb hr rfl (fun t ht hW => ⟨⟨nI 1, σ, rfl, ⟨by decide, rfl⟩, x_end ht hP⟩, hS.F ht⟩) hS.2.2 dL_rate_16
    · refine x_catch C0 hT (name := eIA) [(⟨0, 10, 13, 36⟩ : ExceptionTableEntry)] (⟨0, 10, 17, 13⟩ : ExceptionTableEntry) [] htb (fun z hz => by rw [List.mem_singleton] at hz; subst hz; exact Or.inr ⟨by decide, eIO, C0.hts _ (by decide +kernel), hW9.2.1⟩) rfl (by decide) (ct := 13) rfl (by decide +kernel) rfl (by decide +kernel) hcell hv hcl ?_
      refine lv_astore (lv' := [(4, .ref qx), (0, .ref (a 0 0)), (1, .int r), (2, .int q), (3, .ref (a 50 0))]) C0.hx C0.hb dL_rate_17 hl (by decide) rfl (fun ls hl => ?_)
      refine lv_iconst (v := nI 2) C0.hx C0.hb dL_rate_19 (by decide) ?_
      exact W.zret (v := nI 2) C0.hx C0.hb hr rfl (fun t ht hW => ⟨⟨nI 2, σ, rfl, ⟨by decide, rfl⟩, x_end ht hP⟩, hS.F ht⟩) hS.2.2 dL_rate_20
  · have hw : (wS (frC σ r q) σ σ (nI (rtX σ (σ 19 0 (nv r)) (nv q)))) = up3 (oM σ σ) 50 0 0 (nI (rtX σ (σ 19 0 (nv r)) (nv q))) := by unfold wS; rw [if_pos (chOk_B hok)]
    rw [hw, chOk_cd hok]
    refine lv_i2l C0.hx C0.hb dL_rate_8 rfl ?_
    refine x_last C0 hP hS (r := (nI (rtX σ (σ 19 0 (nv r)) (nv q)))) rfl dL_rate_9 (fun H locs hP hS => ?_)
    refine lv_goto (tgt := 21) C0.hx C0.hb dL_rate_10 (by decide) ?_
    refine lv_iconst (v := nI 0) C0.hx C0.hb dL_rate_21 (by decide) ?_
    exact W.zret (v := nI 0) C0.hx C0.hb hr rfl (fun t ht hW => ⟨⟨nI 0, _, rfl, ⟨rfl, rfl⟩, x_end ht hP⟩, hS.F ht⟩) hS.2.2 dL_rate_22
set_option maxHeartbeats 4000000 in
set_option maxRecDepth 100000 in
theorem mtL_users (l : Launch) (hfl : l.stackTraces = false) (g : xG) (a : xAd) (σ : xS) (r q : Int32) (ok : okX σ) : xMl l yL_users wsL_users ({ frames := 8, cells := 2, slots := 12, locals := 150 }) 2 12 g a σ [.ref (a 0 0), .int r, .int q, .ref (a 50 0)] (cdX (cd1 eIO) (frC σ r q)) (wS (frC σ r q) σ σ (ucX σ (σ 19 0 (nv r)) (nv q))) := by
  intro sz
  refine x_ofWH (cc := cL_users) (maxL := 5) (ret := some .int) (hh := [(0, 10, 13, 36), (0, 10, 17, 13)]) (by decide) rfl ?_
  intro p e s m args below meth c s₁ B hml hv
  obtain ⟨rfl, hsz, ⟨hP, hK, hN, hj⟩, hT, hZ, hW9⟩ := hv
  have hr := B.returns
  have hlocks := B.notSynchronized
  have htb : c.exceptionTable.toList = tableOf [(0, 10, 13, 36), (0, 10, 17, 13)] := vx_table (x := yL_users) B (atoms_spec (ws := wsL_users) B.pre _ List.mem_cons_self)
  subst hsz
  have C0 : xC p s m _ c cL_users 5 wsL_users RL NLL g a (xA NLL a s.heap.size) := ⟨⟨B.exec, B.bytes, hml, findClass_of_methodNamed B.named, atoms_spec (ws := wsL_users) B.pre⟩, hK, hN, hj, fun n h => Or.inl ⟨n, h, rfl⟩, fun q h => Or.inr h⟩
  have hS : va_S (xA NLL a s.heap.size) s.heap s.heap [] := va_S.rf
  have hl := lv_entry ([.ref (a 0 0), .int r, .int q, .ref (a 50 0)]) (n := 5) (Nat.le_of_ble_eq_true rfl)
  rw [lg_entry_eq]
  generalize (lg_sl ([.ref (a 0 0), .int r, .int q, .ref (a 50 0)]) ++ List.replicate (5 - (lg_sl ([.ref (a 0 0), .int r, .int q, .ref (a 50 0)])).length) Slot.unset).toArray = ls at hl ⊢
  have hl : lv_has ls 5 [(0, .ref (a 0 0)), (1, .int r), (2, .int q), (3, .ref (a 50 0))] := hl
  refine lv_aload_n C0.hx C0.hb dL_users_0 rfl (lv_at hl 3 rfl) ?_
  refine lv_iconst (v := nI 0) C0.hx C0.hb dL_users_1 (by decide) ?_
  refine lv_aload_n C0.hx C0.hb dL_users_2 rfl (lv_at hl 0 rfl) ?_
  refine lv_iload_n C0.hx C0.hb dL_users_3 rfl (lv_at hl 1 rfl) ?_
  refine lv_iload_n C0.hx C0.hb dL_users_4 rfl (lv_at hl 2 rfl) ?_
  refine x_VXL (As := [.int r, .int q]) (rest := [.int (nI 0), .ref (a 50 0)]) C0 (mtX4_users l hfl g a σ r q ok) hP hS hT hZ (cwV 2 C0.hts gL_users_X4_users rfl rfl rfl (by decide +kernel) ⟨Nat.le_of_ble_eq_true rfl, Nat.le_of_ble_eq_true rfl⟩) (x_recv C0 hP 0 (NLX_L _ (mX_n rfl)) rfl rfl) rfl hl rfl (Nat.le_of_ble_eq_true rfl) (Nat.le_of_ble_eq_true rfl) (Nat.le_of_ble_eq_true rfl) dL_users_5 (fun E ce qx H locs hE hP hS hcell hv hcl => ?_) (fun H locs hok hP hS => ?_)
  · have hE2 := chEx_B (f := cd1 eIO) hE
    have hE3 := chEx_mem hE
    have hw : (wS (frC σ r q) σ σ (ucX σ (σ 19 0 (nv r)) (nv q))) = σ := by unfold wS; rw [if_neg (by rw [hE2.1]; decide)]
    rw [hw, hE2.2]
    have hE4 : E = eIO ∨ E = eIA := by
      simp only [frC, List.map_cons, List.map_nil, List.mem_cons, List.not_mem_nil, or_false] at hE3
      first | exact hE3 | (rcases hE3 with h | h <;> simp [h]) | (rcases hE3 with h | h | h <;> simp [h]) | (rcases hE3 with h | h | h | h <;> simp [h])
    rcases hE4 with rfl | rfl
    · refine x_catch C0 hT (name := eIO) [] (⟨0, 10, 13, 36⟩ : ExceptionTableEntry) [(⟨0, 10, 17, 13⟩ : ExceptionTableEntry)] htb (fun z hz => nomatch hz) rfl (by decide) (ct := 36) rfl (by decide +kernel) rfl (by decide +kernel) hcell hv hcl ?_
      refine lv_astore (lv' := [(4, .ref qx), (0, .ref (a 0 0)), (1, .int r), (2, .int q), (3, .ref (a 50 0))]) C0.hx C0.hb dL_users_13 hl (by decide) rfl (fun ls hl => ?_)
      refine lv_iconst (v := nI 1) C0.hx C0.hb dL_users_15 (by decide) ?_
      exact W.zret (v := nI 1) C0.hx C0.hb hr rfl (fun t ht hW => ⟨⟨nI 1, σ, rfl, ⟨by decide, rfl⟩, x_end ht hP⟩, hS.F ht⟩) hS.2.2 dL_users_16
    · refine x_catch C0 hT (name := eIA) [(⟨0, 10, 13, 36⟩ : ExceptionTableEntry)] (⟨0, 10, 17, 13⟩ : ExceptionTableEntry) [] htb (fun z hz => by rw [List.mem_singleton] at hz; subst hz; exact Or.inr ⟨by decide, eIO, C0.hts _ (by decide +kernel), hW9.2.1⟩) rfl (by decide) (ct := 13) rfl (by decide +kernel) rfl (by decide +kernel) hcell hv hcl ?_
      refine lv_astore (lv' := [(4, .ref qx), (0, .ref (a 0 0)), (1, .int r), (2, .int q), (3, .ref (a 50 0))]) C0.hx C0.hb dL_users_17 hl (by decide) rfl (fun ls hl => ?_)
      refine lv_iconst (v := nI 2) C0.hx C0.hb dL_users_19 (by decide) ?_
      exact W.zret (v := nI 2) C0.hx C0.hb hr rfl (fun t ht hW => ⟨⟨nI 2, σ, rfl, ⟨by decide, rfl⟩, x_end ht hP⟩, hS.F ht⟩) hS.2.2 dL_users_20
  · have hw : (wS (frC σ r q) σ σ (ucX σ (σ 19 0 (nv r)) (nv q))) = up3 (oM σ σ) 50 0 0 (ucX σ (σ 19 0 (nv r)) (nv q)) := by unfold wS; rw [if_pos (chOk_B hok)]
    rw [hw, chOk_cd hok]
    refine lv_i2l C0.hx C0.hb dL_users_8 rfl ?_
    refine x_last C0 hP hS (r := (ucX σ (σ 19 0 (nv r)) (nv q))) rfl dL_users_9 (fun H locs hP hS => ?_)
    refine lv_goto (tgt := 21) C0.hx C0.hb dL_users_10 (by decide) ?_
    refine lv_iconst (v := nI 0) C0.hx C0.hb dL_users_21 (by decide) ?_
    exact W.zret (v := nI 0) C0.hx C0.hb hr rfl (fun t ht hW => ⟨⟨nI 0, _, rfl, ⟨rfl, rfl⟩, x_end ht hP⟩, hS.F ht⟩) hS.2.2 dL_users_22
set_option maxHeartbeats 4000000 in
set_option maxRecDepth 100000 in
theorem mtL_gate (l : Launch) (hfl : l.stackTraces = false) (g : xG) (a : xAd) (σ : xS) (v : Int32) (ok : okX σ) : xMl l yL_gate wsL_gate ({ frames := 8, cells := 1, slots := 6, locals := 150 }) 1 6 g a σ [.ref (a 0 0), .int v, .ref (a 50 0)] (cdX (cd1 eIA) (v1C v)) (wS (v1C v) σ σ (gaX σ (nv v))) := by
  intro sz
  refine x_ofWH (cc := cL_gate) (maxL := 4) (ret := some .int) (hh := [(0, 9, 12, 13)]) (by decide) rfl ?_
  intro p e s m args below meth c s₁ B hml hv
  obtain ⟨rfl, hsz, ⟨hP, hK, hN, hj⟩, hT, hZ, hW9⟩ := hv
  have hr := B.returns
  have hlocks := B.notSynchronized
  have htb : c.exceptionTable.toList = tableOf [(0, 9, 12, 13)] := vx_table (x := yL_gate) B (atoms_spec (ws := wsL_gate) B.pre _ List.mem_cons_self)
  subst hsz
  have C0 : xC p s m _ c cL_gate 4 wsL_gate RL NLL g a (xA NLL a s.heap.size) := ⟨⟨B.exec, B.bytes, hml, findClass_of_methodNamed B.named, atoms_spec (ws := wsL_gate) B.pre⟩, hK, hN, hj, fun n h => Or.inl ⟨n, h, rfl⟩, fun q h => Or.inr h⟩
  have hS : va_S (xA NLL a s.heap.size) s.heap s.heap [] := va_S.rf
  have hl := lv_entry ([.ref (a 0 0), .int v, .ref (a 50 0)]) (n := 4) (Nat.le_of_ble_eq_true rfl)
  rw [lg_entry_eq]
  generalize (lg_sl ([.ref (a 0 0), .int v, .ref (a 50 0)]) ++ List.replicate (4 - (lg_sl ([.ref (a 0 0), .int v, .ref (a 50 0)])).length) Slot.unset).toArray = ls at hl ⊢
  have hl : lv_has ls 4 [(0, .ref (a 0 0)), (1, .int v), (2, .ref (a 50 0))] := hl
  refine lv_aload_n C0.hx C0.hb dL_gate_0 rfl (lv_at hl 2 rfl) ?_
  refine lv_iconst (v := nI 0) C0.hx C0.hb dL_gate_1 (by decide) ?_
  refine lv_aload_n C0.hx C0.hb dL_gate_2 rfl (lv_at hl 0 rfl) ?_
  refine lv_iload_n C0.hx C0.hb dL_gate_3 rfl (lv_at hl 1 rfl) ?_
  refine x_VXL (As := [.int v]) (rest := [.int (nI 0), .ref (a 50 0)]) C0 (mtX4_gate l hfl g a σ v ok) hP hS hT hZ (cwV 1 C0.hts gL_gate_X4_gate rfl rfl rfl (by decide +kernel) ⟨Nat.le_of_ble_eq_true rfl, Nat.le_of_ble_eq_true rfl⟩) (x_recv C0 hP 0 (NLX_L _ (mX_n rfl)) rfl rfl) rfl hl rfl (Nat.le_of_ble_eq_true rfl) (Nat.le_of_ble_eq_true rfl) (Nat.le_of_ble_eq_true rfl) dL_gate_4 (fun E ce qx H locs hE hP hS hcell hv hcl => ?_) (fun H locs hok hP hS => ?_)
  · have hE2 := chEx_B (f := cd1 eIA) hE
    have hE3 := chEx_mem hE
    have hw : (wS (v1C v) σ σ (gaX σ (nv v))) = σ := by unfold wS; rw [if_neg (by rw [hE2.1]; decide)]
    rw [hw, hE2.2]
    have hE4 : E = eIA := by
      simp only [v1C, List.map_cons, List.map_nil, List.mem_cons, List.not_mem_nil, or_false] at hE3
      first | exact hE3 | (rcases hE3 with h | h <;> simp [h]) | (rcases hE3 with h | h | h <;> simp [h]) | (rcases hE3 with h | h | h | h <;> simp [h])
    subst hE4
    refine x_catch C0 hT (name := eIA) [] (⟨0, 9, 12, 13⟩ : ExceptionTableEntry) [] htb (fun z hz => nomatch hz) rfl (by decide) (ct := 13) rfl (by decide +kernel) rfl (by decide +kernel) hcell hv hcl ?_
    refine lv_astore_n (lv' := [(3, .ref qx), (0, .ref (a 0 0)), (1, .int v), (2, .ref (a 50 0))]) C0.hx C0.hb dL_gate_12 rfl hl (by decide) rfl (fun ls hl => ?_)
    refine lv_iconst (v := nI 1) C0.hx C0.hb dL_gate_13 (by decide) ?_
    exact W.zret (v := nI 1) C0.hx C0.hb hr rfl (fun t ht hW => ⟨⟨nI 1, σ, rfl, ⟨by decide, rfl⟩, x_end ht hP⟩, hS.F ht⟩) hS.2.2 dL_gate_14
  · have hw : (wS (v1C v) σ σ (gaX σ (nv v))) = up3 (oM σ σ) 50 0 0 (gaX σ (nv v)) := by unfold wS; rw [if_pos (chOk_B hok)]
    rw [hw, chOk_cd hok]
    refine lv_i2l C0.hx C0.hb dL_gate_7 rfl ?_
    refine x_last C0 hP hS (r := (gaX σ (nv v))) rfl dL_gate_8 (fun H locs hP hS => ?_)
    refine lv_goto (tgt := 15) C0.hx C0.hb dL_gate_9 (by decide) ?_
    refine lv_iconst (v := nI 0) C0.hx C0.hb dL_gate_15 (by decide) ?_
    exact W.zret (v := nI 0) C0.hx C0.hb hr rfl (fun t ht hW => ⟨⟨nI 0, _, rfl, ⟨rfl, rfl⟩, x_end ht hP⟩, hS.F ht⟩) hS.2.2 dL_gate_16
set_option maxHeartbeats 4000000 in
set_option maxRecDepth 100000 in
theorem mtL_worst (l : Launch) (hfl : l.stackTraces = false) (g : xG) (a : xAd) (σ : xS) (v : Int32) (ok : okX σ) : xMl l yL_worst wsL_worst ({ frames := 8, cells := 1, slots := 6, locals := 150 }) 1 6 g a σ [.ref (a 0 0), .int v, .ref (a 50 0)] (cdX (cd1 eIA) (v1C v)) (wS (v1C v) σ σ (woX σ (nv v))) := by
  intro sz
  refine x_ofWH (cc := cL_worst) (maxL := 4) (ret := some .int) (hh := [(0, 9, 12, 13)]) (by decide) rfl ?_
  intro p e s m args below meth c s₁ B hml hv
  obtain ⟨rfl, hsz, ⟨hP, hK, hN, hj⟩, hT, hZ, hW9⟩ := hv
  have hr := B.returns
  have hlocks := B.notSynchronized
  have htb : c.exceptionTable.toList = tableOf [(0, 9, 12, 13)] := vx_table (x := yL_worst) B (atoms_spec (ws := wsL_worst) B.pre _ List.mem_cons_self)
  subst hsz
  have C0 : xC p s m _ c cL_worst 4 wsL_worst RL NLL g a (xA NLL a s.heap.size) := ⟨⟨B.exec, B.bytes, hml, findClass_of_methodNamed B.named, atoms_spec (ws := wsL_worst) B.pre⟩, hK, hN, hj, fun n h => Or.inl ⟨n, h, rfl⟩, fun q h => Or.inr h⟩
  have hS : va_S (xA NLL a s.heap.size) s.heap s.heap [] := va_S.rf
  have hl := lv_entry ([.ref (a 0 0), .int v, .ref (a 50 0)]) (n := 4) (Nat.le_of_ble_eq_true rfl)
  rw [lg_entry_eq]
  generalize (lg_sl ([.ref (a 0 0), .int v, .ref (a 50 0)]) ++ List.replicate (4 - (lg_sl ([.ref (a 0 0), .int v, .ref (a 50 0)])).length) Slot.unset).toArray = ls at hl ⊢
  have hl : lv_has ls 4 [(0, .ref (a 0 0)), (1, .int v), (2, .ref (a 50 0))] := hl
  refine lv_aload_n C0.hx C0.hb dL_worst_0 rfl (lv_at hl 2 rfl) ?_
  refine lv_iconst (v := nI 0) C0.hx C0.hb dL_worst_1 (by decide) ?_
  refine lv_aload_n C0.hx C0.hb dL_worst_2 rfl (lv_at hl 0 rfl) ?_
  refine lv_iload_n C0.hx C0.hb dL_worst_3 rfl (lv_at hl 1 rfl) ?_
  refine x_VXL (As := [.int v]) (rest := [.int (nI 0), .ref (a 50 0)]) C0 (mtX4_worst l hfl g a σ v ok) hP hS hT hZ (cwV 1 C0.hts gL_worst_X4_worst rfl rfl rfl (by decide +kernel) ⟨Nat.le_of_ble_eq_true rfl, Nat.le_of_ble_eq_true rfl⟩) (x_recv C0 hP 0 (NLX_L _ (mX_n rfl)) rfl rfl) rfl hl rfl (Nat.le_of_ble_eq_true rfl) (Nat.le_of_ble_eq_true rfl) (Nat.le_of_ble_eq_true rfl) dL_worst_4 (fun E ce qx H locs hE hP hS hcell hv hcl => ?_) (fun H locs hok hP hS => ?_)
  · have hE2 := chEx_B (f := cd1 eIA) hE
    have hE3 := chEx_mem hE
    have hw : (wS (v1C v) σ σ (woX σ (nv v))) = σ := by unfold wS; rw [if_neg (by rw [hE2.1]; decide)]
    rw [hw, hE2.2]
    have hE4 : E = eIA := by
      simp only [v1C, List.map_cons, List.map_nil, List.mem_cons, List.not_mem_nil, or_false] at hE3
      first | exact hE3 | (rcases hE3 with h | h <;> simp [h]) | (rcases hE3 with h | h | h <;> simp [h]) | (rcases hE3 with h | h | h | h <;> simp [h])
    subst hE4
    refine x_catch C0 hT (name := eIA) [] (⟨0, 9, 12, 13⟩ : ExceptionTableEntry) [] htb (fun z hz => nomatch hz) rfl (by decide) (ct := 13) rfl (by decide +kernel) rfl (by decide +kernel) hcell hv hcl ?_
    refine lv_astore_n (lv' := [(3, .ref qx), (0, .ref (a 0 0)), (1, .int v), (2, .ref (a 50 0))]) C0.hx C0.hb dL_worst_12 rfl hl (by decide) rfl (fun ls hl => ?_)
    refine lv_iconst (v := nI 1) C0.hx C0.hb dL_worst_13 (by decide) ?_
    exact W.zret (v := nI 1) C0.hx C0.hb hr rfl (fun t ht hW => ⟨⟨nI 1, σ, rfl, ⟨by decide, rfl⟩, x_end ht hP⟩, hS.F ht⟩) hS.2.2 dL_worst_14
  · have hw : (wS (v1C v) σ σ (woX σ (nv v))) = up3 (oM σ σ) 50 0 0 (woX σ (nv v)) := by unfold wS; rw [if_pos (chOk_B hok)]
    rw [hw, chOk_cd hok]
    refine lv_i2l C0.hx C0.hb dL_worst_7 rfl ?_
    refine x_last C0 hP hS (r := (woX σ (nv v))) rfl dL_worst_8 (fun H locs hP hS => ?_)
    refine lv_goto (tgt := 15) C0.hx C0.hb dL_worst_9 (by decide) ?_
    refine lv_iconst (v := nI 0) C0.hx C0.hb dL_worst_15 (by decide) ?_
    exact W.zret (v := nI 0) C0.hx C0.hb hr rfl (fun t ht hW => ⟨⟨nI 0, _, rfl, ⟨rfl, rfl⟩, x_end ht hP⟩, hS.F ht⟩) hS.2.2 dL_worst_16
set_option maxHeartbeats 4000000 in
set_option maxRecDepth 100000 in
theorem mtL_fix (l : Launch) (hfl : l.stackTraces = false) (g : xG) (a : xAd) (σ : xS) (r v : Int32) (ok : okX σ) : xMl l yL_fix wsL_fix ({ frames := 8, cells := 2, slots := 12, locals := 150 }) 2 12 g a σ [.ref (a 0 0), .int r, .int v, .ref (a 50 0)] (cdX (cd1 eIO) (fxC σ r v)) (wS (fxC σ r v) σ (fxS σ r v) (σ 15 0 (nv r))) := by
  intro sz
  refine x_ofWH (cc := cL_fix) (maxL := 5) (ret := some .int) (hh := [(0, 10, 13, 36), (0, 10, 17, 13)]) (by decide) rfl ?_
  intro p e s m args below meth c s₁ B hml hv
  obtain ⟨rfl, hsz, ⟨hP, hK, hN, hj⟩, hT, hZ, hW9⟩ := hv
  have hr := B.returns
  have hlocks := B.notSynchronized
  have htb : c.exceptionTable.toList = tableOf [(0, 10, 13, 36), (0, 10, 17, 13)] := vx_table (x := yL_fix) B (atoms_spec (ws := wsL_fix) B.pre _ List.mem_cons_self)
  subst hsz
  have C0 : xC p s m _ c cL_fix 5 wsL_fix RL NLL g a (xA NLL a s.heap.size) := ⟨⟨B.exec, B.bytes, hml, findClass_of_methodNamed B.named, atoms_spec (ws := wsL_fix) B.pre⟩, hK, hN, hj, fun n h => Or.inl ⟨n, h, rfl⟩, fun q h => Or.inr h⟩
  have hS : va_S (xA NLL a s.heap.size) s.heap s.heap [] := va_S.rf
  have hl := lv_entry ([.ref (a 0 0), .int r, .int v, .ref (a 50 0)]) (n := 5) (Nat.le_of_ble_eq_true rfl)
  rw [lg_entry_eq]
  generalize (lg_sl ([.ref (a 0 0), .int r, .int v, .ref (a 50 0)]) ++ List.replicate (5 - (lg_sl ([.ref (a 0 0), .int r, .int v, .ref (a 50 0)])).length) Slot.unset).toArray = ls at hl ⊢
  have hl : lv_has ls 5 [(0, .ref (a 0 0)), (1, .int r), (2, .int v), (3, .ref (a 50 0))] := hl
  refine lv_aload_n C0.hx C0.hb dL_fix_0 rfl (lv_at hl 3 rfl) ?_
  refine lv_iconst (v := nI 0) C0.hx C0.hb dL_fix_1 (by decide) ?_
  refine lv_aload_n C0.hx C0.hb dL_fix_2 rfl (lv_at hl 0 rfl) ?_
  refine lv_iload_n C0.hx C0.hb dL_fix_3 rfl (lv_at hl 1 rfl) ?_
  refine lv_iload_n C0.hx C0.hb dL_fix_4 rfl (lv_at hl 2 rfl) ?_
  refine x_VXL (As := [.int r, .int v]) (rest := [.int (nI 0), .ref (a 50 0)]) C0 (mtX4_fix l hfl g a σ r v ok) hP hS hT hZ (cwV 2 C0.hts gL_fix_X4_fix rfl rfl rfl (by decide +kernel) ⟨Nat.le_of_ble_eq_true rfl, Nat.le_of_ble_eq_true rfl⟩) (x_recv C0 hP 0 (NLX_L _ (mX_n rfl)) rfl rfl) rfl hl rfl (Nat.le_of_ble_eq_true rfl) (Nat.le_of_ble_eq_true rfl) (Nat.le_of_ble_eq_true rfl) dL_fix_5 (fun E ce qx H locs hE hP hS hcell hv hcl => ?_) (fun H locs hok hP hS => ?_)
  · have hE2 := chEx_B (f := cd1 eIO) hE
    have hE3 := chEx_mem hE
    have hw : (wS (fxC σ r v) σ (fxS σ r v) (σ 15 0 (nv r))) = σ := by unfold wS; rw [if_neg (by rw [hE2.1]; decide)]
    rw [hw, hE2.2]
    have hE4 : E = eIO ∨ E = eIA := by
      simp only [fxC, List.map_cons, List.map_nil, List.mem_cons, List.not_mem_nil, or_false] at hE3
      first | exact hE3 | (rcases hE3 with h | h <;> simp [h]) | (rcases hE3 with h | h | h <;> simp [h]) | (rcases hE3 with h | h | h | h <;> simp [h])
    rcases hE4 with rfl | rfl
    · refine x_catch C0 hT (name := eIO) [] (⟨0, 10, 13, 36⟩ : ExceptionTableEntry) [(⟨0, 10, 17, 13⟩ : ExceptionTableEntry)] htb (fun z hz => nomatch hz) rfl (by decide) (ct := 36) rfl (by decide +kernel) rfl (by decide +kernel) hcell hv hcl ?_
      refine lv_astore (lv' := [(4, .ref qx), (0, .ref (a 0 0)), (1, .int r), (2, .int v), (3, .ref (a 50 0))]) C0.hx C0.hb dL_fix_13 hl (by decide) rfl (fun ls hl => ?_)
      refine lv_iconst (v := nI 1) C0.hx C0.hb dL_fix_15 (by decide) ?_
      exact W.zret (v := nI 1) C0.hx C0.hb hr rfl (fun t ht hW => ⟨⟨nI 1, σ, rfl, ⟨by decide, rfl⟩, x_end ht hP⟩, hS.F ht⟩) hS.2.2 dL_fix_16
    · refine x_catch C0 hT (name := eIA) [(⟨0, 10, 13, 36⟩ : ExceptionTableEntry)] (⟨0, 10, 17, 13⟩ : ExceptionTableEntry) [] htb (fun z hz => by rw [List.mem_singleton] at hz; subst hz; exact Or.inr ⟨by decide, eIO, C0.hts _ (by decide +kernel), hW9.2.1⟩) rfl (by decide) (ct := 13) rfl (by decide +kernel) rfl (by decide +kernel) hcell hv hcl ?_
      refine lv_astore (lv' := [(4, .ref qx), (0, .ref (a 0 0)), (1, .int r), (2, .int v), (3, .ref (a 50 0))]) C0.hx C0.hb dL_fix_17 hl (by decide) rfl (fun ls hl => ?_)
      refine lv_iconst (v := nI 2) C0.hx C0.hb dL_fix_19 (by decide) ?_
      exact W.zret (v := nI 2) C0.hx C0.hb hr rfl (fun t ht hW => ⟨⟨nI 2, σ, rfl, ⟨by decide, rfl⟩, x_end ht hP⟩, hS.F ht⟩) hS.2.2 dL_fix_20
  · have hw : (wS (fxC σ r v) σ (fxS σ r v) (σ 15 0 (nv r))) = up3 (oM σ (fxS σ r v)) 50 0 0 (σ 15 0 (nv r)) := by unfold wS; rw [if_pos (chOk_B hok)]
    rw [hw, chOk_cd hok]
    refine lv_i2l C0.hx C0.hb dL_fix_8 rfl ?_
    refine x_last C0 hP hS (r := (σ 15 0 (nv r))) rfl dL_fix_9 (fun H locs hP hS => ?_)
    refine lv_goto (tgt := 21) C0.hx C0.hb dL_fix_10 (by decide) ?_
    refine lv_iconst (v := nI 0) C0.hx C0.hb dL_fix_21 (by decide) ?_
    exact W.zret (v := nI 0) C0.hx C0.hb hr rfl (fun t ht hW => ⟨⟨nI 0, _, rfl, ⟨rfl, rfl⟩, x_end ht hP⟩, hS.F ht⟩) hS.2.2 dL_fix_22
set_option maxHeartbeats 4000000 in
set_option maxRecDepth 100000 in
theorem mtL_holds (l : Launch) (hfl : l.stackTraces = false) (g : xG) (a : xAd) (σ : xS) (r : Int32) (ok : okX σ) : xMl l yL_holds wsL_holds ({ frames := 8, cells := 2, slots := 12, locals := 150 }) 2 12 g a σ [.ref (a 0 0), .int r, .ref (a 50 0)] (cdX (cd1 eIO) (hoC σ r)) (wS (hoC σ r) σ σ (bI (hoX σ (nv r)))) := by
  intro sz
  refine x_ofWH (cc := cL_holds) (maxL := 4) (ret := some .int) (hh := [(0, 16, 19, 36), (0, 16, 22, 15)]) (by decide) rfl ?_
  intro p e s m args below meth c s₁ B hml hv
  obtain ⟨rfl, hsz, ⟨hP, hK, hN, hj⟩, hT, hZ, hW9⟩ := hv
  have hr := B.returns
  have hlocks := B.notSynchronized
  have htb : c.exceptionTable.toList = tableOf [(0, 16, 19, 36), (0, 16, 22, 15)] := vx_table (x := yL_holds) B (atoms_spec (ws := wsL_holds) B.pre _ List.mem_cons_self)
  subst hsz
  have C0 : xC p s m _ c cL_holds 4 wsL_holds RL NLL g a (xA NLL a s.heap.size) := ⟨⟨B.exec, B.bytes, hml, findClass_of_methodNamed B.named, atoms_spec (ws := wsL_holds) B.pre⟩, hK, hN, hj, fun n h => Or.inl ⟨n, h, rfl⟩, fun q h => Or.inr h⟩
  have hS : va_S (xA NLL a s.heap.size) s.heap s.heap [] := va_S.rf
  have hl := lv_entry ([.ref (a 0 0), .int r, .ref (a 50 0)]) (n := 4) (Nat.le_of_ble_eq_true rfl)
  rw [lg_entry_eq]
  generalize (lg_sl ([.ref (a 0 0), .int r, .ref (a 50 0)]) ++ List.replicate (4 - (lg_sl ([.ref (a 0 0), .int r, .ref (a 50 0)])).length) Slot.unset).toArray = ls at hl ⊢
  have hl : lv_has ls 4 [(0, .ref (a 0 0)), (1, .int r), (2, .ref (a 50 0))] := hl
  refine lv_aload_n C0.hx C0.hb dL_holds_0 rfl (lv_at hl 2 rfl) ?_
  refine lv_iconst (v := nI 0) C0.hx C0.hb dL_holds_1 (by decide) ?_
  refine lv_aload_n C0.hx C0.hb dL_holds_2 rfl (lv_at hl 0 rfl) ?_
  refine lv_iload_n C0.hx C0.hb dL_holds_3 rfl (lv_at hl 1 rfl) ?_
  refine x_VXL (As := [.int r]) (rest := [.int (nI 0), .ref (a 50 0)]) C0 (mtX4_holds l hfl g a σ r ok) hP hS hT hZ (cwV 1 C0.hts gL_holds_X4_holds rfl rfl rfl (by decide +kernel) ⟨Nat.le_of_ble_eq_true rfl, Nat.le_of_ble_eq_true rfl⟩) (x_recv C0 hP 0 (NLX_L _ (mX_n rfl)) rfl rfl) rfl hl rfl (Nat.le_of_ble_eq_true rfl) (Nat.le_of_ble_eq_true rfl) (Nat.le_of_ble_eq_true rfl) dL_holds_4 (fun E ce qx H locs hE hP hS hcell hv hcl => ?_) (fun H locs hok hP hS => ?_)
  · have hE2 := chEx_B (f := cd1 eIO) hE
    have hE3 := chEx_mem hE
    have hw : (wS (hoC σ r) σ σ (bI (hoX σ (nv r)))) = σ := by unfold wS; rw [if_neg (by rw [hE2.1]; decide)]
    rw [hw, hE2.2]
    have hE4 : E = eIO ∨ E = eIS := by
      simp only [hoC, List.map_cons, List.map_nil, List.mem_cons, List.not_mem_nil, or_false] at hE3
      first | exact hE3 | (rcases hE3 with h | h <;> simp [h]) | (rcases hE3 with h | h | h <;> simp [h]) | (rcases hE3 with h | h | h | h <;> simp [h])
    rcases hE4 with rfl | rfl
    · refine x_catch C0 hT (name := eIO) [] (⟨0, 16, 19, 36⟩ : ExceptionTableEntry) [(⟨0, 16, 22, 15⟩ : ExceptionTableEntry)] htb (fun z hz => nomatch hz) rfl (by decide) (ct := 36) rfl (by decide +kernel) rfl (by decide +kernel) hcell hv hcl ?_
      refine lv_astore_n (lv' := [(3, .ref qx), (0, .ref (a 0 0)), (1, .int r), (2, .ref (a 50 0))]) C0.hx C0.hb dL_holds_19 rfl hl (by decide) rfl (fun ls hl => ?_)
      refine lv_iconst (v := nI 1) C0.hx C0.hb dL_holds_20 (by decide) ?_
      exact W.zret (v := nI 1) C0.hx C0.hb hr rfl (fun t ht hW => ⟨⟨nI 1, σ, rfl, ⟨by decide, rfl⟩, x_end ht hP⟩, hS.F ht⟩) hS.2.2 dL_holds_21
    · refine x_catch C0 hT (name := eIS) [(⟨0, 16, 19, 36⟩ : ExceptionTableEntry)] (⟨0, 16, 22, 15⟩ : ExceptionTableEntry) [] htb (fun z hz => by rw [List.mem_singleton] at hz; subst hz; exact Or.inr ⟨by decide, eIO, C0.hts _ (by decide +kernel), hW9.2.2⟩) rfl (by decide) (ct := 15) rfl (by decide +kernel) rfl (by decide +kernel) hcell hv hcl ?_
      refine lv_astore_n (lv' := [(3, .ref qx), (0, .ref (a 0 0)), (1, .int r), (2, .ref (a 50 0))]) C0.hx C0.hb dL_holds_22 rfl hl (by decide) rfl (fun ls hl => ?_)
      refine lv_iconst (v := nI 2) C0.hx C0.hb dL_holds_23 (by decide) ?_
      exact W.zret (v := nI 2) C0.hx C0.hb hr rfl (fun t ht hW => ⟨⟨nI 2, σ, rfl, ⟨by decide, rfl⟩, x_end ht hP⟩, hS.F ht⟩) hS.2.2 dL_holds_24
  · have hw : (wS (hoC σ r) σ σ (bI (hoX σ (nv r)))) = up3 (oM σ σ) 50 0 0 (bI (hoX σ (nv r))) := by unfold wS; rw [if_pos (chOk_B hok)]
    rw [hw, chOk_cd hok]
    have h01 : (bI (hoX σ (nv r))) = 0 ∨ (bI (hoX σ (nv r))) = 1 := bI_01 _
    refine lv_if_eq (tgt := 14) C0.hx C0.hb dL_holds_7 (by decide) (fun hz => ?_) (fun hz => ?_)
    · refine lv_lconst (v := 0) C0.hx C0.hb dL_holds_14 rfl ?_
      refine x_last C0 hP hS (r := (bI (hoX σ (nv r)))) (by rw [hz]; rfl) dL_holds_15 (fun H locs hP hS => ?_)
      refine lv_goto (tgt := 25) C0.hx C0.hb dL_holds_16 (by decide) ?_
      refine lv_iconst (v := nI 0) C0.hx C0.hb dL_holds_25 (by decide) ?_
      exact W.zret (v := nI 0) C0.hx C0.hb hr rfl (fun t ht hW => ⟨⟨nI 0, _, rfl, ⟨rfl, rfl⟩, x_end ht hP⟩, hS.F ht⟩) hS.2.2 dL_holds_26
    · refine lv_lconst (v := 1) C0.hx C0.hb dL_holds_10 rfl ?_
      refine lv_goto (tgt := 15) C0.hx C0.hb dL_holds_11 (by decide) ?_
      refine x_last C0 hP hS (r := (bI (hoX σ (nv r)))) (h01.elim (fun h => absurd h hz) (fun h => by rw [h]; rfl)) dL_holds_15 (fun H locs hP hS => ?_)
      refine lv_goto (tgt := 25) C0.hx C0.hb dL_holds_16 (by decide) ?_
      refine lv_iconst (v := nI 0) C0.hx C0.hb dL_holds_25 (by decide) ?_
      exact W.zret (v := nI 0) C0.hx C0.hb hr rfl (fun t ht hW => ⟨⟨nI 0, _, rfl, ⟨rfl, rfl⟩, x_end ht hP⟩, hS.F ht⟩) hS.2.2 dL_holds_26

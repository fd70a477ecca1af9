/-! ===== the law's method that calls and catches ===== -/
theorem ibX_ok {j n : Nat} (h : j < n) (hn : n < 2 ^ 31) : ibX (nI j) (nI n) = true := by
  simp only [ibX, Bool.and_eq_true, decide_eq_true_eq]
  refine ⟨nI_pos (by omega), ?_⟩
  rw [nI_leI hn (by omega)]
  omega
theorem crX_ok {σ : xS} (o : okX σ) {j : Nat} (h : j < nv (σ 3 0 0)) : crX σ (nI j) = true := ibX_ok h (by have := o.n.2; omega)
theorem r1_ok {σ : xS} (o : okX σ) {j : Nat} (h : j < nv (σ 3 0 0)) : chOk (r1C σ (nI j)) := ⟨crX_ok o h, trivial⟩
theorem fr_ok {σ : xS} (o : okX σ) {j q : Nat} (h : j < nv (σ 3 0 0)) (hq : q < 4) : chOk (frC σ (nI j) (nI q)) := ⟨crX_ok o h, ibX_ok hq (by decide), trivial⟩
theorem v1_ok {v : Nat} (hv : v < 4) : chOk (v1C (nI v)) := ⟨ibX_ok hv (by decide), trivial⟩
theorem caS_ge {L : List (Bool × String)} {σ τ : xS} {t i j : Nat} (h : 30 ≤ t) : caS L σ τ t i j = σ t i j := by
  unfold caS
  split
  · unfold oM
    rw [if_pos h]
  · rfl
theorem caS_self {L : List (Bool × String)} {σ : xS} : caS L σ σ = σ := by
  unfold caS
  split
  · exact oM_self
  · rfl
theorem hcE {σ : xS} {n : Nat} (o : okX σ) (h : n < nv (σ 3 0 0)) : ∀ E, chEx (hoC σ (nI n)) E → E = eIS := by
  intro E hE
  have h2 : (crX σ (nI n) = false ∧ E = eIO) ∨ (crX σ (nI n) = true ∧ chEx [(!decide (σ 15 0 (nv (nI n)) = -1), eIS)] E) := hE
  rcases h2 with ⟨h3, -⟩ | ⟨-, h3⟩
  · rw [crX_ok o h] at h3
    cases h3
  · have h4 : ((!decide (σ 15 0 (nv (nI n)) = -1)) = false ∧ E = eIS) ∨ ((!decide (σ 15 0 (nv (nI n)) = -1)) = true ∧ chEx [] E) := h3
    rcases h4 with ⟨-, h5⟩ | ⟨-, h5⟩
    · exact h5
    · exact h5.elim
set_option maxHeartbeats 4000000 in
set_option maxRecDepth 100000 in
theorem mtL_calls0 (l : Launch) (hfl : l.stackTraces = false) (g : xG) (a : xAd) (σ : xS) (v x y f : Int32) (okx : okX σ) (okf : okF σ) (hE9 : ∀ E, chEx (arC σ v x y f) E → E = eIS) : xMl l yL_calls wsL_calls ({ frames := 8, cells := 3, slots := 18, locals := 150 }) 3 18 g a σ [.ref (a 0 0), .int (nI 0), .int v, .int x, .int y, .int f] (caV (arC σ v x y f) (arS σ v x y f 6 0 (nv v))) (caS (arC σ v x y f) σ (arS σ v x y f)) := by
  intro sz
  refine x_ofWH (cc := cL_calls) (maxL := 7) (ret := some .int) (hh := [(0, 44, 45, 24)]) (by decide) rfl ?_
  intro p e s m args below meth c s₁ B hml hv
  obtain ⟨rfl, hsz, ⟨hP, hK, hN, hj⟩, hT, hZ⟩ := hv
  have hr := B.returns
  have hlocks := B.notSynchronized
  have htb : c.exceptionTable.toList = tableOf [(0, 44, 45, 24)] := vx_table (x := yL_calls) B (atoms_spec (ws := wsL_calls) B.pre _ List.mem_cons_self)
  subst hsz
  have C0 : xC p s m _ c cL_calls 7 wsL_calls RL NLA g a (xA NLA a s.heap.size) := ⟨⟨B.exec, B.bytes, hml, findClass_of_methodNamed B.named, atoms_spec (ws := wsL_calls) B.pre⟩, hK, hN, hj, fun n h => Or.inl ⟨n, h, rfl⟩, fun q h => Or.inr h⟩
  have hS : va_S (xA NLA a s.heap.size) s.heap s.heap [] := va_S.rf
  have hl := lv_entry ([.ref (a 0 0), .int (nI 0), .int v, .int x, .int y, .int f]) (n := 7) (Nat.le_of_ble_eq_true rfl)
  rw [lg_entry_eq]
  generalize (lg_sl ([.ref (a 0 0), .int (nI 0), .int v, .int x, .int y, .int f]) ++ List.replicate (7 - (lg_sl ([.ref (a 0 0), .int (nI 0), .int v, .int x, .int y, .int f])).length) Slot.unset).toArray = ls at hl ⊢
  have hl : lv_has ls 7 [(0, .ref (a 0 0)), (1, .int (nI 0)), (2, .int v), (3, .int x), (4, .int y), (5, .int f)] := hl
  refine lv_iload_n C0.hx C0.hb dL_calls_0 rfl (lv_at hl 1 rfl) ?_
  refine x_ifnen (tgt := 17) C0.hx C0.hb (by omega) dL_calls_1 (by decide) (fun h => absurd rfl h) (fun _ => ?_)
  refine lv_aload_n C0.hx C0.hb dL_calls_4 rfl (lv_at hl 0 rfl) ?_
  refine lv_iload_n C0.hx C0.hb dL_calls_5 rfl (lv_at hl 2 rfl) ?_
  refine lv_iload_n C0.hx C0.hb dL_calls_6 rfl (lv_at hl 3 rfl) ?_
  refine lv_iload C0.hx C0.hb dL_calls_7 (lv_at hl 4 rfl) ?_
  refine lv_iload C0.hx C0.hb dL_calls_9 (lv_at hl 5 rfl) ?_
  refine x_VXA (As := [.int v, .int x, .int y, .int f]) (rest := []) C0 (mtX4_addRange l hfl g a σ v x y f okx okf) hP hS hT hZ (cwV 4 C0.hts gL_calls_X4_addRange rfl rfl rfl (by decide +kernel) ⟨Nat.le_of_ble_eq_true rfl, Nat.le_of_ble_eq_true rfl⟩) (x_recv C0 hP 0 (NLA_X _ (mX_n rfl)) rfl rfl) rfl hl rfl (Nat.le_of_ble_eq_true rfl) (Nat.le_of_ble_eq_true rfl) (Nat.le_of_ble_eq_true rfl) dL_calls_11 (fun E ce qx H locs hE hP hS hcell hv hcl => ?_) (fun H locs hok hP hS => ?_)
  · obtain rfl := hE9 E hE
    have hw : (caS (arC σ v x y f) σ (arS σ v x y f)) = σ := by unfold caS; rw [if_neg (by rw [chEx_B hE]; decide)]
    have hw2 : (caV (arC σ v x y f) (arS σ v x y f 6 0 (nv v))) = -3 := by unfold caV; rw [if_neg (by rw [chEx_B hE]; decide)]
    rw [hw, hw2]
    refine x_catch C0 hT (name := eIS) [] (⟨0, 44, 45, 24⟩ : ExceptionTableEntry) [] htb (fun z hz => nomatch hz) rfl (by decide) (ct := 24) rfl (by decide +kernel) rfl (by decide +kernel) hcell hv hcl ?_
    refine lv_astore (lv' := [(6, .ref qx), (0, .ref (a 0 0)), (1, .int (nI 0)), (2, .int v), (3, .int x), (4, .int y), (5, .int f)]) C0.hx C0.hb dL_calls_45 hl (by decide) rfl (fun ls hl => ?_)
    refine lv_bipush (v := -3) C0.hx C0.hb dL_calls_47 (by decide) ?_
    refine W.widen (k := 3) (n := 18) (by omega) (by omega) ?_
    exact W.iret (v := -3) C0.hx C0.hb hr (fun t ht hW => ⟨⟨_, σ, rfl, ⟨rfl, rfl⟩, x_end ht hP⟩, hS.F ht⟩) hS.2.2 dL_calls_49
  · have hw : (caS (arC σ v x y f) σ (arS σ v x y f)) = oM σ (arS σ v x y f) := by unfold caS; rw [if_pos (chOk_B hok)]
    have hw2 : (caV (arC σ v x y f) (arS σ v x y f 6 0 (nv v))) = (arS σ v x y f 6 0 (nv v)) := by unfold caV; rw [if_pos (chOk_B hok)]
    rw [hw, hw2]
    refine lv_goto (tgt := 44) C0.hx C0.hb dL_calls_14 (by decide) ?_
    refine W.widen (k := 3) (n := 18) (by omega) (by omega) ?_
    exact W.iret (v := arS σ v x y f 6 0 (nv v)) C0.hx C0.hb hr (fun t ht hW => ⟨⟨_, _, rfl, ⟨rfl, rfl⟩, x_end ht hP⟩, hS.F ht⟩) hS.2.2 dL_calls_44
set_option maxHeartbeats 4000000 in
set_option maxRecDepth 100000 in
theorem mtL_calls1 (l : Launch) (hfl : l.stackTraces = false) (g : xG) (a : xAd) (σ : xS) (f q : Int32) (okx : okX σ) (okf : okF σ) (hE9 : ∀ E, chEx (sfC σ f q) E → E = eIS) : xMl l yL_calls wsL_calls ({ frames := 8, cells := 3, slots := 18, locals := 150 }) 3 18 g a σ [.ref (a 0 0), .int (nI 1), .int f, .int q, .int (nI 0), .int (nI 0)] (caV (sfC σ f q) (σ 11 0 (nv f))) (caS (sfC σ f q) σ (sfS σ f q)) := by
  intro sz
  refine x_ofWH (cc := cL_calls) (maxL := 7) (ret := some .int) (hh := [(0, 44, 45, 24)]) (by decide) rfl ?_
  intro p e s m args below meth c s₁ B hml hv
  obtain ⟨rfl, hsz, ⟨hP, hK, hN, hj⟩, hT, hZ⟩ := hv
  have hr := B.returns
  have hlocks := B.notSynchronized
  have htb : c.exceptionTable.toList = tableOf [(0, 44, 45, 24)] := vx_table (x := yL_calls) B (atoms_spec (ws := wsL_calls) B.pre _ List.mem_cons_self)
  subst hsz
  have C0 : xC p s m _ c cL_calls 7 wsL_calls RL NLA g a (xA NLA a s.heap.size) := ⟨⟨B.exec, B.bytes, hml, findClass_of_methodNamed B.named, atoms_spec (ws := wsL_calls) B.pre⟩, hK, hN, hj, fun n h => Or.inl ⟨n, h, rfl⟩, fun q h => Or.inr h⟩
  have hS : va_S (xA NLA a s.heap.size) s.heap s.heap [] := va_S.rf
  have hl := lv_entry ([.ref (a 0 0), .int (nI 1), .int f, .int q, .int (nI 0), .int (nI 0)]) (n := 7) (Nat.le_of_ble_eq_true rfl)
  rw [lg_entry_eq]
  generalize (lg_sl ([.ref (a 0 0), .int (nI 1), .int f, .int q, .int (nI 0), .int (nI 0)]) ++ List.replicate (7 - (lg_sl ([.ref (a 0 0), .int (nI 1), .int f, .int q, .int (nI 0), .int (nI 0)])).length) Slot.unset).toArray = ls at hl ⊢
  have hl : lv_has ls 7 [(0, .ref (a 0 0)), (1, .int (nI 1)), (2, .int f), (3, .int q), (4, .int (nI 0)), (5, .int (nI 0))] := hl
  refine lv_iload_n C0.hx C0.hb dL_calls_0 rfl (lv_at hl 1 rfl) ?_
  refine x_ifnen (tgt := 17) C0.hx C0.hb (by omega) dL_calls_1 (by decide) (fun _ => ?_) (fun h => absurd h (by decide))
  refine lv_iload_n C0.hx C0.hb dL_calls_17 rfl (lv_at hl 1 rfl) ?_
  refine lv_iconst (v := nI 1) C0.hx C0.hb dL_calls_18 (by decide) ?_
  refine x_icmp_ne (tgt := 31) C0.hx C0.hb (by omega) (by omega) dL_calls_19 (by decide) (fun h => absurd rfl h) (fun _ => ?_)
  refine lv_aload_n C0.hx C0.hb dL_calls_22 rfl (lv_at hl 0 rfl) ?_
  refine lv_iload_n C0.hx C0.hb dL_calls_23 rfl (lv_at hl 2 rfl) ?_
  refine lv_iload_n C0.hx C0.hb dL_calls_24 rfl (lv_at hl 3 rfl) ?_
  refine x_VXA (As := [.int f, .int q]) (rest := []) C0 (mtX4_standFor l hfl g a σ f q okx okf) hP hS hT hZ (cwV 2 C0.hts gL_calls_X4_standFor rfl rfl rfl (by decide +kernel) ⟨Nat.le_of_ble_eq_true rfl, Nat.le_of_ble_eq_true rfl⟩) (x_recv C0 hP 0 (NLA_X _ (mX_n rfl)) rfl rfl) rfl hl rfl (Nat.le_of_ble_eq_true rfl) (Nat.le_of_ble_eq_true rfl) (Nat.le_of_ble_eq_true rfl) dL_calls_25 (fun E ce qx H locs hE hP hS hcell hv hcl => ?_) (fun H locs hok hP hS => ?_)
  · obtain rfl := hE9 E hE
    have hw : (caS (sfC σ f q) σ (sfS σ f q)) = σ := by unfold caS; rw [if_neg (by rw [chEx_B hE]; decide)]
    have hw2 : (caV (sfC σ f q) (σ 11 0 (nv f))) = -3 := by unfold caV; rw [if_neg (by rw [chEx_B hE]; decide)]
    rw [hw, hw2]
    refine x_catch C0 hT (name := eIS) [] (⟨0, 44, 45, 24⟩ : ExceptionTableEntry) [] htb (fun z hz => nomatch hz) rfl (by decide) (ct := 24) rfl (by decide +kernel) rfl (by decide +kernel) hcell hv hcl ?_
    refine lv_astore (lv' := [(6, .ref qx), (0, .ref (a 0 0)), (1, .int (nI 1)), (2, .int f), (3, .int q), (4, .int (nI 0)), (5, .int (nI 0))]) C0.hx C0.hb dL_calls_45 hl (by decide) rfl (fun ls hl => ?_)
    refine lv_bipush (v := -3) C0.hx C0.hb dL_calls_47 (by decide) ?_
    refine W.widen (k := 3) (n := 18) (by omega) (by omega) ?_
    exact W.iret (v := -3) C0.hx C0.hb hr (fun t ht hW => ⟨⟨_, σ, rfl, ⟨rfl, rfl⟩, x_end ht hP⟩, hS.F ht⟩) hS.2.2 dL_calls_49
  · have hw : (caS (sfC σ f q) σ (sfS σ f q)) = oM σ (sfS σ f q) := by unfold caS; rw [if_pos (chOk_B hok)]
    have hw2 : (caV (sfC σ f q) (σ 11 0 (nv f))) = (σ 11 0 (nv f)) := by unfold caV; rw [if_pos (chOk_B hok)]
    rw [hw, hw2]
    refine lv_goto (tgt := 44) C0.hx C0.hb dL_calls_28 (by decide) ?_
    refine W.widen (k := 3) (n := 18) (by omega) (by omega) ?_
    exact W.iret (v := σ 11 0 (nv f)) C0.hx C0.hb hr (fun t ht hW => ⟨⟨_, _, rfl, ⟨rfl, rfl⟩, x_end ht hP⟩, hS.F ht⟩) hS.2.2 dL_calls_44
set_option maxHeartbeats 4000000 in
set_option maxRecDepth 100000 in
theorem mtL_calls2 (l : Launch) (hfl : l.stackTraces = false) (g : xG) (a : xAd) (σ : xS) (n : Nat) (okx : okX σ) (hE9 : ∀ E, chEx (hoC σ (nI n)) E → E = eIS) : xMl l yL_calls wsL_calls ({ frames := 8, cells := 3, slots := 18, locals := 150 }) 3 18 g a σ [.ref (a 0 0), .int (nI 2), .int (nI n), .int (nI 0), .int (nI 0), .int (nI 0)] (hcX σ n) (σ) := by
  intro sz
  refine x_ofWH (cc := cL_calls) (maxL := 7) (ret := some .int) (hh := [(0, 44, 45, 24)]) (by decide) rfl ?_
  intro p e s m args below meth c s₁ B hml hv
  obtain ⟨rfl, hsz, ⟨hP, hK, hN, hj⟩, hT, hZ⟩ := hv
  have hr := B.returns
  have hlocks := B.notSynchronized
  have htb : c.exceptionTable.toList = tableOf [(0, 44, 45, 24)] := vx_table (x := yL_calls) B (atoms_spec (ws := wsL_calls) B.pre _ List.mem_cons_self)
  subst hsz
  have C0 : xC p s m _ c cL_calls 7 wsL_calls RL NLA g a (xA NLA a s.heap.size) := ⟨⟨B.exec, B.bytes, hml, findClass_of_methodNamed B.named, atoms_spec (ws := wsL_calls) B.pre⟩, hK, hN, hj, fun n h => Or.inl ⟨n, h, rfl⟩, fun q h => Or.inr h⟩
  have hS : va_S (xA NLA a s.heap.size) s.heap s.heap [] := va_S.rf
  have hl := lv_entry ([.ref (a 0 0), .int (nI 2), .int (nI n), .int (nI 0), .int (nI 0), .int (nI 0)]) (n := 7) (Nat.le_of_ble_eq_true rfl)
  rw [lg_entry_eq]
  generalize (lg_sl ([.ref (a 0 0), .int (nI 2), .int (nI n), .int (nI 0), .int (nI 0), .int (nI 0)]) ++ List.replicate (7 - (lg_sl ([.ref (a 0 0), .int (nI 2), .int (nI n), .int (nI 0), .int (nI 0), .int (nI 0)])).length) Slot.unset).toArray = ls at hl ⊢
  have hl : lv_has ls 7 [(0, .ref (a 0 0)), (1, .int (nI 2)), (2, .int (nI n)), (3, .int (nI 0)), (4, .int (nI 0)), (5, .int (nI 0))] := hl
  refine lv_iload_n C0.hx C0.hb dL_calls_0 rfl (lv_at hl 1 rfl) ?_
  refine x_ifnen (tgt := 17) C0.hx C0.hb (by omega) dL_calls_1 (by decide) (fun _ => ?_) (fun h => absurd h (by decide))
  refine lv_iload_n C0.hx C0.hb dL_calls_17 rfl (lv_at hl 1 rfl) ?_
  refine lv_iconst (v := nI 1) C0.hx C0.hb dL_calls_18 (by decide) ?_
  refine x_icmp_ne (tgt := 31) C0.hx C0.hb (by omega) (by omega) dL_calls_19 (by decide) (fun _ => ?_) (fun h => absurd h (by decide))
  refine lv_aload_n C0.hx C0.hb dL_calls_31 rfl (lv_at hl 0 rfl) ?_
  refine lv_iload_n C0.hx C0.hb dL_calls_32 rfl (lv_at hl 2 rfl) ?_
  refine x_VXA (As := [.int (nI n)]) (rest := []) C0 (mtX4_holds l hfl g a σ (nI n) okx) hP hS hT hZ (cwV 1 C0.hts gL_calls_X4_holds rfl rfl rfl (by decide +kernel) ⟨Nat.le_of_ble_eq_true rfl, Nat.le_of_ble_eq_true rfl⟩) (x_recv C0 hP 0 (NLA_X _ (mX_n rfl)) rfl rfl) rfl hl rfl (Nat.le_of_ble_eq_true rfl) (Nat.le_of_ble_eq_true rfl) (Nat.le_of_ble_eq_true rfl) dL_calls_33 (fun E ce qx H locs hE hP hS hcell hv hcl => ?_) (fun H locs hok hP hS => ?_)
  · obtain rfl := hE9 E hE
    have hw : (σ) = σ := by rfl
    have hw2 : (hcX σ n) = -3 := by unfold hcX caV; rw [if_neg (by rw [chEx_B hE]; decide)]
    rw [hw, hw2]
    refine x_catch C0 hT (name := eIS) [] (⟨0, 44, 45, 24⟩ : ExceptionTableEntry) [] htb (fun z hz => nomatch hz) rfl (by decide) (ct := 24) rfl (by decide +kernel) rfl (by decide +kernel) hcell hv hcl ?_
    refine lv_astore (lv' := [(6, .ref qx), (0, .ref (a 0 0)), (1, .int (nI 2)), (2, .int (nI n)), (3, .int (nI 0)), (4, .int (nI 0)), (5, .int (nI 0))]) C0.hx C0.hb dL_calls_45 hl (by decide) rfl (fun ls hl => ?_)
    refine lv_bipush (v := -3) C0.hx C0.hb dL_calls_47 (by decide) ?_
    refine W.widen (k := 3) (n := 18) (by omega) (by omega) ?_
    exact W.iret (v := -3) C0.hx C0.hb hr (fun t ht hW => ⟨⟨_, σ, rfl, ⟨rfl, rfl⟩, x_end ht hP⟩, hS.F ht⟩) hS.2.2 dL_calls_49
  · have hw : (σ) = σ := by rfl
    have hw2 : (hcX σ n) = (bI (hoX σ (nv (nI n)))) := by unfold hcX caV; rw [if_pos (chOk_B hok)]
    rw [hw, hw2]
    rw [oM_self] at hP
    refine x_ifeq (tgt := 43) C0.hx C0.hb dL_calls_36 (by decide) (fun hb => ?_) (fun hb => ?_)
    · refine lv_iconst (v := nI 0) C0.hx C0.hb dL_calls_43 (by decide) ?_
      refine W.widen (k := 3) (n := 18) (by omega) (by omega) ?_
      rw [hb]
      exact W.iret (v := nI 0) C0.hx C0.hb hr (fun t ht hW => ⟨⟨_, _, rfl, ⟨rfl, rfl⟩, x_end ht hP⟩, hS.F ht⟩) hS.2.2 dL_calls_44
    · refine lv_iconst (v := nI 1) C0.hx C0.hb dL_calls_39 (by decide) ?_
      refine lv_goto (tgt := 44) C0.hx C0.hb dL_calls_40 (by decide) ?_
      refine W.widen (k := 3) (n := 18) (by omega) (by omega) ?_
      rw [hb]
      exact W.iret (v := nI 1) C0.hx C0.hb hr (fun t ht hW => ⟨⟨_, _, rfl, ⟨rfl, rfl⟩, x_end ht hP⟩, hS.F ht⟩) hS.2.2 dL_calls_44

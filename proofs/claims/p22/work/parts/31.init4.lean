theorem va_D.left {A : Nat → Prop} {w1 w2 : va_W} (h : va_D A (w1 ++ w2)) : va_D A w1 := by
  rw [va_D_nd, List.map_append] at h
  rw [va_D_nd]
  exact ⟨(List.sublist_append_left _ _).nodup h.1, fun q hq => h.2 q (List.mem_append_left _ hq)⟩
theorem xQ_join {g : xG} {A : Nat → Prop} {W1 W2 : va_W} {q : Nat} {en : va_E} {H H1 : Heap} {sz : Nat} (h : xQ g A (W1 ++ [(q, en)]) H) (hB : xQ g (fun x => x = q ∨ H.size ≤ x) W2 H1) (hk : ∀ z : Nat, z < H.size → ¬ (z = q ∨ H.size ≤ z) → H1[z]? = H[z]?) (hAf : ∀ z : Nat, sz ≤ z → A z) (hle : sz ≤ H.size) : xQ g A (W1 ++ W2) H1 := by
  have hq : A q := (va_D_nd.mp h.2).2 (q, en) (List.mem_append_right _ (List.mem_singleton.mpr rfl))
  have hne : ∀ x ∈ W1, x.1 ≠ q ∧ x.1 < H.size := fun x hx => by
    refine ⟨fun e => ?_, ((va_P_mem.mp h.1) x (List.mem_append_left _ hx)).lt⟩
    have := (va_D_nd.mp h.2).1
    rw [List.map_append, List.nodup_append] at this
    first
      | exact this.2.2 x.1 (List.mem_map.mpr ⟨x, hx, rfl⟩) q (List.mem_singleton.mpr rfl) e
      | exact this.2.2 (List.mem_map.mpr ⟨x, hx, rfl⟩) (by rw [e]; exact List.mem_singleton.mpr rfl)
  refine ⟨(va_P_mem.mpr (fun x hx => ((va_P_mem.mp h.1) x (List.mem_append_left _ hx)).kept (hk _ (hne x hx).2 (fun z => by
    rcases z with z | z
    · exact (hne x hx).1 z
    · exact absurd (hne x hx).2 (Nat.not_lt.mpr z))))).app hB.1, ?_⟩
  refine (va_D.left h.2).app (hB.2.weaken (fun k x hk2 hx => ?_)) (fun i j x y hi hj e => ?_)
  · rcases hx with hx | hx
    · rw [hx]; exact hq
    · exact hAf _ (Nat.le_trans hle hx)
  · have h1 := hne x (List.mem_of_getElem? hi)
    rcases hB.2.2 j y hj with h2 | h2
    · exact h1.1 (e.trans h2)
    · rw [e] at h1
      exact absurd h1.2 (Nat.not_lt.mpr h2)
section XNEW
variable {p : Program} {l : Launch} {e : Env} {R : Room} {s : State} {m : MethodId} {args : Array Value} {below : List Frame} {meth : Method} {c : Code} {H : Heap} {locs : List Loc} {cells slots : Nat} {Q : State → Prop}
variable {cc : ByteArray} {pc nL : Nat} {ls : Array Slot} {rest : List Value} {Ts : List Cond} {own : String} {g : xG} {a : xAd} {A : Nat → Prop} {σ : xS} {Wd : va_W}
theorem x_new (C0 : xC p s m args c cc nL Ts own [] g a A) (hQ : xQ g A Wd H) (hS : va_S A s.heap H locs) {C : String} {T : u_T} {N ci index : Nat} (hin : ∀ w ∈ u_ws C T N, w ∈ Ts) (ty : Nat → FieldType) (hty : ∀ k, k < N → parseFieldDescriptor (T k).2.2.1 = some (ty k)) (hcl : Cond.classLink own index C ∈ Ts) (hinst : Cond.instantiable C N ∈ Ts) (hini : Cond.initialized C ∈ Ts) (hc : vwCl[ci]? = some (C, T, N)) {fs : List Value} (hfs : ∀ j, j < N → defaultValue (ty j) = vp_V fs j) (hcells : cells + 1 ≤ R.cells) (hslots : slots + N ≤ R.slots) (hdg : decode cc pc = .ok (.new index, 3))
    (kk : ∀ (q : Nat) (H1 : Heap), xQ g A (Wd ++ [(q, .inr (ci, fs))]) H1 → va_S A s.heap H1 locs → W p l e R s m args below meth c H1 locs (cells + 1) (slots + N) Q (F0 m (pc + 3) ls (.ref q :: rest))) : W p l e R s m args below meth c H locs cells slots Q (F0 m pc ls rest) :=
  va_new C0.hx C0.hb C0.hts hin ty hty C0.1.2.2.2.1 (C0.hts _ hcl) (C0.hts _ hinst) (C0.hts _ hini) C0.hK hQ.1 hQ.2 hS C0.2.2.2.2.2 hc hfs hcells hslots hdg (fun q H1 q1 q2 q3 => kk q H1 ⟨q1, q2⟩ q3)
end XNEW
theorem va_N1 {s : State} (h : xN s) {q : String × Nat × MethodName} (hq : q ∈ xMs) : va_Nw (.methodLinkNest q.1 q.2.1 q.2.2 RX4) s := h.2 q hq

abbrev SX4 : Type := Nat × SX0 × Nat × SX3 × Nat × SX2 × Nat × SX1 × Nat
def wdX4 (g : xG) (b : Nat) (u : SX4) : va_W := (b, .inr (4, [.ref u.1, .ref u.2.2.1, .ref u.2.2.2.2.1, .ref u.2.2.2.2.2.2.1, .ref u.2.2.2.2.2.2.2.2, .int (nI 100)])) :: (((((([] : va_W) ++ wdX0 g u.1 u.2.1) ++ wdX3 g u.2.2.1 u.2.2.2.1) ++ wdX2 g u.2.2.2.2.1 u.2.2.2.2.2.1) ++ wdX1 g u.2.2.2.2.2.2.1 u.2.2.2.2.2.2.2.1) ++ [(u.2.2.2.2.2.2.2.2, xIa g 4 (fun _ => 0))])
set_option maxHeartbeats 4000000 in
set_option maxRecDepth 100000 in
theorem mtX4_init (l : Launch) (g : xG) (b : Nat) : xIn l yX4_init wsX4_init ({ frames := 2, cells := 211, slots := 1656, locals := 40 }) g b 4 [.null, .null, .null, .null, .null, .int 0] SX4 (wdX4 g b) 211 1656 := by
  intro sz
  refine Met.ofW (cc := cX4_init) (maxL := 1) (ret := none) (by decide) rfl ?_
  intro p e s m args below meth c s₁ B hml hv
  obtain ⟨rfl, hsz, hP, hK, hN, hO⟩ := hv
  have hr := B.returns
  have hlocks := B.notSynchronized
  subst hsz
  have hin2 : meth.name = "<init>" := (name_of_methodNamed B.named B.method).1
  generalize hAe : (fun q : Nat => q = b ∨ s.heap.size ≤ q) = A
  have hAb : A b := by rw [← hAe]; exact Or.inl rfl
  have hAf : ∀ q : Nat, s.heap.size ≤ q → A q := fun q h => by rw [← hAe]; exact Or.inr h
  have C0 : xC p s m _ c cX4_init 1 wsX4_init RX4 [] g (fun _ _ => 0) A := ⟨⟨B.exec, B.bytes, hml, findClass_of_methodNamed B.named, atoms_spec (ws := wsX4_init) B.pre⟩, hK, hN, (fun i j p q h => nomatch h), (fun n h => nomatch h), hAf⟩
  have hS : va_S A s.heap s.heap [] := va_S.rf
  have hQ : xQ g A ((b, .inr (4, [.null, .null, .null, .null, .null, .int 0])) :: ([] : va_W)) s.heap := ⟨hP, va_D_nd.mpr ⟨by simp, fun q hq => by rw [List.mem_singleton] at hq; rw [hq]; exact hAb⟩⟩
  have hl := lv_entry ([.ref b]) (n := 1) (Nat.le_of_ble_eq_true rfl)
  rw [lg_entry_eq]
  generalize (lg_sl ([.ref b]) ++ List.replicate (1 - (lg_sl ([.ref b])).length) Slot.unset).toArray = ls at hl ⊢
  have hl : lv_has ls 1 [(0, .ref b)] := hl
  have i_own : ∀ w ∈ u_ws RX4 TX4 6, w ∈ wsX4_init := by decide +kernel
  have hRc : 211 ≤ ({ frames := 2, cells := 211, slots := 1656, locals := 40 } : Room).cells := Nat.le_refl _
  have hRs : 1656 ≤ ({ frames := 2, cells := 211, slots := 1656, locals := 40 } : Room).slots := Nat.le_refl _
  refine lv_aload_n C0.hx C0.hb dX4_init_0 rfl (lv_at hl 0 rfl) ?_
  refine W.objInit C0.hx C0.hb C0.1.2.2.2.1 (C0.hts (.methodLink RX4 1 objectInit) (by decide +kernel)) (C0.hts (.instanceMethod objectInit) (by decide +kernel)) (C0.hts (.code objectInit ⟨#[0xb1]⟩ 1 none) (by decide +kernel)) rfl (by rw [hml]; exact hl.1) rfl dX4_init_1 (Nat.le_of_ble_eq_true rfl) (Nat.le_of_ble_eq_true rfl) ?_
  refine W.eq (g2 := F0 m 4 ls []) rfl ?_
  refine lv_aload_n C0.hx C0.hb dX4_init_4 rfl (lv_at hl 0 rfl) ?_
  refine x_new C0 hQ hS (by decide +kernel) tyX0 tyX0_ok (by decide +kernel) (by decide +kernel) (by decide +kernel) (ci := 0) (N := 4) rfl (fs := [.null, .null, .null, .null]) (by decide) (Nat.le_trans (Nat.le_of_ble_eq_true rfl) hRc) (Nat.le_trans (Nat.le_of_ble_eq_true rfl) hRs) dX4_init_5 (fun q5 H hQ hS => ?_)
  refine lv_dup C0.hx C0.hb dX4_init_8 rfl ?_
  have hPc : va_P g.1 vwCl [(q5, .inr (0, [.null, .null, .null, .null]))] H := va_P_mem.mpr (fun x hx => va_P_mem.mp hQ.1 x (List.mem_append_right _ hx))
  have hAq : A q5 := (va_D_nd.mp hQ.2).2 (q5, .inr (0, [.null, .null, .null, .null])) (List.mem_append_right _ (List.mem_singleton.mpr rfl))
  have hsz := hS.1
  refine va_callv (va_runIN (g := F0 m 9 ls [.ref q5, .ref q5, .ref b]) (As := []) (rest := [.ref q5, .ref b]) C0.1 (mtX0_init l g q5 H.size) ⟨va_cnB 0 C0.hts gX4_init_X0_init_n9 rfl rfl rfl (va_N1 C0.2.2.1 (q := (RX4, 9, yX0_init)) (by decide +kernel)) (C0.hts (.initialized RX0) (by decide +kernel)) (by decide +kernel) ⟨Nat.le_of_ble_eq_true rfl, Nat.le_of_ble_eq_true rfl⟩, rfl, C0.hts (.instanceMethod yX0_init) (by decide +kernel)⟩ ⟨xFBn, fun U hU hW => ⟨rfl, by rw [hU], by rw [hU]; exact hPc, va_K.moved hW.alike C0.hK, xN.warm hW C0.2.2.1, va_AOA.moved hW.alike hO⟩⟩ rfl rfl hl.1 rfl (lv_room (Nat.le_of_ble_eq_true rfl)) dX4_init_9 ⟨Nat.le_trans (Nat.le_of_ble_eq_true rfl) hRc, Nat.le_trans (Nat.le_of_ble_eq_true rfl) hRs⟩) hS (fun z _ h => h.elim (fun h => h ▸ hAq) (fun h => C0.2.2.2.2.2 z (Nat.le_trans hsz h))) (fun z h => h.elim (fun h => h ▸ hAq) (fun h => C0.2.2.2.2.2 z (Nat.le_trans hsz h))) (fun u5 t H1 locs1 ht hvm _ hB hz hk hS => ?_)
  rw [ht] at hB
  have hQ := xQ_join hQ hB hk C0.2.2.2.2.2 hsz
  clear hB ht hvm t hz hk hPc hAq hsz
  have hQ : xQ g A ((b, .inr (4, [.null, .null, .null, .null, .null, .int 0])) :: (([] : va_W) ++ wdX0 g q5 u5)) H1 := hQ
  refine x_putR C0 hin2 hQ hS rfl tyX4 tyX4_ok nmX4 0 (by decide) i_own (by decide +kernel) rfl rfl (ty := tyX4 0) rfl rfl rfl (Nat.le_of_ble_eq_true rfl) dX4_init_12 (fun H locs hQ hS => ?_)
  have hQ : xQ g A ((b, .inr (4, [.ref q5, .null, .null, .null, .null, .int 0])) :: (([] : va_W) ++ wdX0 g q5 u5)) H := hQ
  refine lv_aload_n C0.hx C0.hb dX4_init_15 rfl (lv_at hl 0 rfl) ?_
  refine x_new C0 hQ hS (by decide +kernel) tyX3 tyX3_ok (by decide +kernel) (by decide +kernel) (by decide +kernel) (ci := 3) (N := 3) rfl (fs := [.null, .null, .int 0]) (by decide) (Nat.le_trans (Nat.le_of_ble_eq_true rfl) hRc) (Nat.le_trans (Nat.le_of_ble_eq_true rfl) hRs) dX4_init_16 (fun q16 H hQ hS => ?_)
  refine lv_dup C0.hx C0.hb dX4_init_19 rfl ?_
  have hPc : va_P g.1 vwCl [(q16, .inr (3, [.null, .null, .int 0]))] H := va_P_mem.mpr (fun x hx => va_P_mem.mp hQ.1 x (List.mem_append_right _ hx))
  have hAq : A q16 := (va_D_nd.mp hQ.2).2 (q16, .inr (3, [.null, .null, .int 0])) (List.mem_append_right _ (List.mem_singleton.mpr rfl))
  have hsz := hS.1
  refine va_callv (va_runIN (g := F0 m 20 ls [.ref q16, .ref q16, .ref b]) (As := []) (rest := [.ref q16, .ref b]) C0.1 (mtX3_init l g q16 H.size) ⟨va_cnB 0 C0.hts gX4_init_X3_init_n18 rfl rfl rfl (va_N1 C0.2.2.1 (q := (RX4, 18, yX3_init)) (by decide +kernel)) (C0.hts (.initialized RX3) (by decide +kernel)) (by decide +kernel) ⟨Nat.le_of_ble_eq_true rfl, Nat.le_of_ble_eq_true rfl⟩, rfl, C0.hts (.instanceMethod yX3_init) (by decide +kernel)⟩ ⟨xFBn, fun U hU hW => ⟨rfl, by rw [hU], by rw [hU]; exact hPc, va_K.moved hW.alike C0.hK, xN.warm hW C0.2.2.1, va_AOA.moved hW.alike hO⟩⟩ rfl rfl hl.1 rfl (lv_room (Nat.le_of_ble_eq_true rfl)) dX4_init_20 ⟨Nat.le_trans (Nat.le_of_ble_eq_true rfl) hRc, Nat.le_trans (Nat.le_of_ble_eq_true rfl) hRs⟩) hS (fun z _ h => h.elim (fun h => h ▸ hAq) (fun h => C0.2.2.2.2.2 z (Nat.le_trans hsz h))) (fun z h => h.elim (fun h => h ▸ hAq) (fun h => C0.2.2.2.2.2 z (Nat.le_trans hsz h))) (fun u16 t H1 locs1 ht hvm _ hB hz hk hS => ?_)
  rw [ht] at hB
  have hQ := xQ_join hQ hB hk C0.2.2.2.2.2 hsz
  clear hB ht hvm t hz hk hPc hAq hsz
  have hQ : xQ g A ((b, .inr (4, [.ref q5, .null, .null, .null, .null, .int 0])) :: ((([] : va_W) ++ wdX0 g q5 u5) ++ wdX3 g q16 u16)) H1 := hQ
  refine x_putR C0 hin2 hQ hS rfl tyX4 tyX4_ok nmX4 1 (by decide) i_own (by decide +kernel) rfl rfl (ty := tyX4 1) rfl rfl rfl (Nat.le_of_ble_eq_true rfl) dX4_init_23 (fun H locs hQ hS => ?_)
  have hQ : xQ g A ((b, .inr (4, [.ref q5, .ref q16, .null, .null, .null, .int 0])) :: ((([] : va_W) ++ wdX0 g q5 u5) ++ wdX3 g q16 u16)) H := hQ
  refine lv_aload_n C0.hx C0.hb dX4_init_26 rfl (lv_at hl 0 rfl) ?_
  refine x_new C0 hQ hS (by decide +kernel) tyX2 tyX2_ok (by decide +kernel) (by decide +kernel) (by decide +kernel) (ci := 2) (N := 5) rfl (fs := [.int 0, .null, .null, .null, .null]) (by decide) (Nat.le_trans (Nat.le_of_ble_eq_true rfl) hRc) (Nat.le_trans (Nat.le_of_ble_eq_true rfl) hRs) dX4_init_27 (fun q27 H hQ hS => ?_)
  refine lv_dup C0.hx C0.hb dX4_init_30 rfl ?_
  have hPc : va_P g.1 vwCl [(q27, .inr (2, [.int 0, .null, .null, .null, .null]))] H := va_P_mem.mpr (fun x hx => va_P_mem.mp hQ.1 x (List.mem_append_right _ hx))
  have hAq : A q27 := (va_D_nd.mp hQ.2).2 (q27, .inr (2, [.int 0, .null, .null, .null, .null])) (List.mem_append_right _ (List.mem_singleton.mpr rfl))
  have hsz := hS.1
  refine va_callv (va_runIN (g := F0 m 31 ls [.ref q27, .ref q27, .ref b]) (As := []) (rest := [.ref q27, .ref b]) C0.1 (mtX2_init l g q27 H.size) ⟨va_cnB 0 C0.hts gX4_init_X2_init_n25 rfl rfl rfl (va_N1 C0.2.2.1 (q := (RX4, 25, yX2_init)) (by decide +kernel)) (C0.hts (.initialized RX2) (by decide +kernel)) (by decide +kernel) ⟨Nat.le_of_ble_eq_true rfl, Nat.le_of_ble_eq_true rfl⟩, rfl, C0.hts (.instanceMethod yX2_init) (by decide +kernel)⟩ ⟨xFBn, fun U hU hW => ⟨rfl, by rw [hU], by rw [hU]; exact hPc, va_K.moved hW.alike C0.hK, xN.warm hW C0.2.2.1, va_AOA.moved hW.alike hO⟩⟩ rfl rfl hl.1 rfl (lv_room (Nat.le_of_ble_eq_true rfl)) dX4_init_31 ⟨Nat.le_trans (Nat.le_of_ble_eq_true rfl) hRc, Nat.le_trans (Nat.le_of_ble_eq_true rfl) hRs⟩) hS (fun z _ h => h.elim (fun h => h ▸ hAq) (fun h => C0.2.2.2.2.2 z (Nat.le_trans hsz h))) (fun z h => h.elim (fun h => h ▸ hAq) (fun h => C0.2.2.2.2.2 z (Nat.le_trans hsz h))) (fun u27 t H1 locs1 ht hvm _ hB hz hk hS => ?_)
  rw [ht] at hB
  have hQ := xQ_join hQ hB hk C0.2.2.2.2.2 hsz
  clear hB ht hvm t hz hk hPc hAq hsz
  have hQ : xQ g A ((b, .inr (4, [.ref q5, .ref q16, .null, .null, .null, .int 0])) :: (((([] : va_W) ++ wdX0 g q5 u5) ++ wdX3 g q16 u16) ++ wdX2 g q27 u27)) H1 := hQ
  refine x_putR C0 hin2 hQ hS rfl tyX4 tyX4_ok nmX4 2 (by decide) i_own (by decide +kernel) rfl rfl (ty := tyX4 2) rfl rfl rfl (Nat.le_of_ble_eq_true rfl) dX4_init_34 (fun H locs hQ hS => ?_)
  have hQ : xQ g A ((b, .inr (4, [.ref q5, .ref q16, .ref q27, .null, .null, .int 0])) :: (((([] : va_W) ++ wdX0 g q5 u5) ++ wdX3 g q16 u16) ++ wdX2 g q27 u27)) H := hQ
  refine lv_aload_n C0.hx C0.hb dX4_init_37 rfl (lv_at hl 0 rfl) ?_
  refine x_new C0 hQ hS (by decide +kernel) tyX1 tyX1_ok (by decide +kernel) (by decide +kernel) (by decide +kernel) (ci := 1) (N := 4) rfl (fs := [.null, .null, .null, .null]) (by decide) (Nat.le_trans (Nat.le_of_ble_eq_true rfl) hRc) (Nat.le_trans (Nat.le_of_ble_eq_true rfl) hRs) dX4_init_38 (fun q38 H hQ hS => ?_)
  refine lv_dup C0.hx C0.hb dX4_init_41 rfl ?_
  have hPc : va_P g.1 vwCl [(q38, .inr (1, [.null, .null, .null, .null]))] H := va_P_mem.mpr (fun x hx => va_P_mem.mp hQ.1 x (List.mem_append_right _ hx))
  have hAq : A q38 := (va_D_nd.mp hQ.2).2 (q38, .inr (1, [.null, .null, .null, .null])) (List.mem_append_right _ (List.mem_singleton.mpr rfl))
  have hsz := hS.1
  refine va_callv (va_runIN (g := F0 m 42 ls [.ref q38, .ref q38, .ref b]) (As := []) (rest := [.ref q38, .ref b]) C0.1 (mtX1_init l g q38 H.size) ⟨va_cnB 0 C0.hts gX4_init_X1_init_n32 rfl rfl rfl (va_N1 C0.2.2.1 (q := (RX4, 32, yX1_init)) (by decide +kernel)) (C0.hts (.initialized RX1) (by decide +kernel)) (by decide +kernel) ⟨Nat.le_of_ble_eq_true rfl, Nat.le_of_ble_eq_true rfl⟩, rfl, C0.hts (.instanceMethod yX1_init) (by decide +kernel)⟩ ⟨xFBn, fun U hU hW => ⟨rfl, by rw [hU], by rw [hU]; exact hPc, va_K.moved hW.alike C0.hK, xN.warm hW C0.2.2.1, va_AOA.moved hW.alike hO⟩⟩ rfl rfl hl.1 rfl (lv_room (Nat.le_of_ble_eq_true rfl)) dX4_init_42 ⟨Nat.le_trans (Nat.le_of_ble_eq_true rfl) hRc, Nat.le_trans (Nat.le_of_ble_eq_true rfl) hRs⟩) hS (fun z _ h => h.elim (fun h => h ▸ hAq) (fun h => C0.2.2.2.2.2 z (Nat.le_trans hsz h))) (fun z h => h.elim (fun h => h ▸ hAq) (fun h => C0.2.2.2.2.2 z (Nat.le_trans hsz h))) (fun u38 t H1 locs1 ht hvm _ hB hz hk hS => ?_)
  rw [ht] at hB
  have hQ := xQ_join hQ hB hk C0.2.2.2.2.2 hsz
  clear hB ht hvm t hz hk hPc hAq hsz
  have hQ : xQ g A ((b, .inr (4, [.ref q5, .ref q16, .ref q27, .null, .null, .int 0])) :: ((((([] : va_W) ++ wdX0 g q5 u5) ++ wdX3 g q16 u16) ++ wdX2 g q27 u27) ++ wdX1 g q38 u38)) H1 := hQ
  refine x_putR C0 hin2 hQ hS rfl tyX4 tyX4_ok nmX4 3 (by decide) i_own (by decide +kernel) rfl rfl (ty := tyX4 3) rfl rfl rfl (Nat.le_of_ble_eq_true rfl) dX4_init_45 (fun H locs hQ hS => ?_)
  have hQ : xQ g A ((b, .inr (4, [.ref q5, .ref q16, .ref q27, .ref q38, .null, .int 0])) :: ((((([] : va_W) ++ wdX0 g q5 u5) ++ wdX3 g q16 u16) ++ wdX2 g q27 u27) ++ wdX1 g q38 u38)) H := hQ
  refine lv_aload_n C0.hx C0.hb dX4_init_48 rfl (lv_at hl 0 rfl) ?_
  refine lv_iconst (v := nI 4) C0.hx C0.hb dX4_init_49 (by decide) ?_
  refine x_newi C0 hQ hS (by decide +kernel) 4 (by decide) (Nat.le_trans (Nat.le_of_ble_eq_true rfl) hRc) (Nat.le_trans (Nat.le_of_ble_eq_true rfl) hRs) dX4_init_50 (fun q50 H hQ hS => ?_)
  have hQ : xQ g A ((b, .inr (4, [.ref q5, .ref q16, .ref q27, .ref q38, .null, .int 0])) :: (((((([] : va_W) ++ wdX0 g q5 u5) ++ wdX3 g q16 u16) ++ wdX2 g q27 u27) ++ wdX1 g q38 u38) ++ [(q50, xIa g 4 (fun _ => 0))])) H := hQ
  refine x_putR C0 hin2 hQ hS rfl tyX4 tyX4_ok nmX4 4 (by decide) i_own (by decide +kernel) rfl rfl (ty := .array .int) rfl rfl rfl (Nat.le_of_ble_eq_true rfl) dX4_init_52 (fun H locs hQ hS => ?_)
  have hQ : xQ g A ((b, .inr (4, [.ref q5, .ref q16, .ref q27, .ref q38, .ref q50, .int 0])) :: (((((([] : va_W) ++ wdX0 g q5 u5) ++ wdX3 g q16 u16) ++ wdX2 g q27 u27) ++ wdX1 g q38 u38) ++ [(q50, xIa g 4 (fun _ => 0))])) H := hQ
  refine lv_aload_n C0.hx C0.hb dX4_init_55 rfl (lv_at hl 0 rfl) ?_
  refine lv_bipush (v := nI 100) C0.hx C0.hb dX4_init_56 (by decide) ?_
  refine x_putI C0 hQ hS rfl tyX4 tyX4_ok nmX4 5 (by decide) i_own (by decide +kernel) rfl rfl rfl (Nat.le_of_ble_eq_true rfl) dX4_init_58 (fun H locs hQ hS => ?_)
  have hQ : xQ g A ((b, .inr (4, [.ref q5, .ref q16, .ref q27, .ref q38, .ref q50, .int (nI 100)])) :: (((((([] : va_W) ++ wdX0 g q5 u5) ++ wdX3 g q16 u16) ++ wdX2 g q27 u27) ++ wdX1 g q38 u38) ++ [(q50, xIa g 4 (fun _ => 0))])) H := hQ
  exact W.vret C0.hx C0.hb hr (fun t ht hW => ⟨⟨⟨q5, u5, q16, u16, q27, u27, q38, u38, q50⟩, rfl, trivial, by show xQ g A _ t.heap; rw [ht]; exact hQ⟩, hS.F ht⟩) hS.2.2 dX4_init_61

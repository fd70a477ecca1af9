/-! ===== rules of the law's world: the class's and the ten arrays ===== -/
def NLA : xNL := NLX ++ NLM
theorem NLA_X : ∀ n ∈ NLX, n ∈ NLA := fun _ h => List.mem_append_left _ h
theorem NLA_M : ∀ n ∈ NLM, n ∈ NLA := fun _ h => List.mem_append_right _ h
theorem NLX_lt : ∀ n ∈ NLX, ¬ 30 ≤ n.1 := by
  intro n hn e
  unfold NLX at hn
  simp only [List.mem_append, List.mem_map, List.mem_range] at hn
  rcases hn with ⟨i, hi, rfl⟩ | ⟨i, hi, rfl⟩ | ⟨i, hi, rfl⟩ | ⟨i, hi, rfl⟩ | ⟨i, hi, rfl⟩ | ⟨i, hi, rfl⟩ | ⟨i, hi, rfl⟩ <;> first | (dsimp only at e; omega) | (exact absurd e (by decide))
theorem NLM_ge : ∀ n ∈ NLM, 30 ≤ n.1 := by
  intro n hn
  unfold NLM at hn
  simp only [List.mem_map, List.mem_range] at hn
  obtain ⟨i, hi, rfl⟩ := hn
  show 30 ≤ 30 + i
  omega
theorem oM_X {g : xG} {a : xAd} {σ τ : xS} : xw NLX g a (oM σ τ) = xw NLX g a τ := xwf_congr (fun n hn => by unfold oM; rw [if_neg (NLX_lt n hn)])
theorem oM_M {g : xG} {a : xAd} {σ τ : xS} : xw NLM g a (oM σ τ) = xw NLM g a σ := xwf_congr (fun n hn => by unfold oM; rw [if_pos (NLM_ge n hn)])
theorem xwA {g : xG} {a : xAd} {σ : xS} : xw NLA g a σ = xw NLX g a σ ++ xw NLM g a σ := by
  unfold NLA xw xwf
  rw [List.map_append]
theorem xDj_A {a : xAd} (h : xDj NLA a) : xDj NLX a ∧ xDj NLM a ∧ ∀ n ∈ NLX, ∀ n' ∈ NLM, a n.1 n.2 ≠ a n'.1 n'.2 := by
  rw [xDj_nd] at h
  unfold NLA at h
  rw [List.map_append, List.nodup_append] at h
  refine ⟨xDj_nd.mpr h.1, xDj_nd.mpr h.2.1, fun n hn n' hn' e => ?_⟩
  first
    | exact h.2.2 _ (List.mem_map.mpr ⟨n, hn, rfl⟩) _ (List.mem_map.mpr ⟨n', hn', rfl⟩) e
    | exact h.2.2 (List.mem_map.mpr ⟨n, hn, rfl⟩) (by rw [e]; exact List.mem_map.mpr ⟨n', hn', rfl⟩)
theorem xA_join {g : xG} {a : xAd} {σ τ : xS} {H H1 : Heap} (hj : xDj NLA a) (hP : va_P g.1 vwCl (xw NLA g a σ) H) (hB : va_P g.1 vwCl (xw NLX g a τ) H1) (hk : ∀ q : Nat, q < H.size → ¬ xA NLX a H.size q → H1[q]? = H[q]?) : va_P g.1 vwCl (xw NLA g a (oM σ τ)) H1 := by
  rw [xwA, oM_X, oM_M]
  exact hB.app (xwf_kept (NL' := NLX) (xwf_sub hP NLA_M) hk (fun n hn n' hn' e => (xDj_A hj).2.2 n' hn' n hn e.symm))
/-- answers a number, in a state; it throws nothing -/
def xMl (l : Launch) (y : MethodName) (ws : List Cond) (rm : Room) (mc ms : Nat) (g : xG) (a : xAd) (σ : xS) (As : List Value) (r : Int32) (τ : xS) : Prop :=
  ∀ sz : Nat, Met l y ws rm (va_Pc As (xPrz NLA g a σ sz)) (va_Qi (fun (q : Int32) (u : xS) => q = r ∧ u = τ) (fun u t => va_P g.1 vwCl (xw NLA g a u) t.heap) (xA NLA a sz)) mc ms (xA NLA a sz)
theorem x_ofWH {l : Launch} {y : MethodName} {ws ws' : List Cond} {rm : Room} {Pc : Array Value → State → Prop} {Qc : Array Value → State → Outcome → State → Prop} {mc ms : Nat} {free : Addr → Prop} {cc : ByteArray} {maxL : Nat} {ret : Option FieldType} {hh : List (Nat × Nat × Nat × Nat)}
    (hy : plainName y.cls = true) (hw : ws = Cond.codeWith y cc maxL ret hh :: ws')
    (body : ∀ p e s m args below meth c s₁, BodyLoose p l y (headSpec ws rm) cc maxL ret e s m args below meth c s₁ → c.maxLocals = maxL → Pc args s →
      W p l e (headSpec ws rm).room s m args below meth c s.heap [] 0 0 (MQ below Qc args s mc ms free) (entryFrame m args maxL)) : Met l y ws rm Pc Qc mc ms free := by
  refine MetFree.of_bodyS (code := cc) (maxLocals := maxL) (ret := ret) hy ?_ ?_
  · intro args s m h hn
    obtain ⟨m9, meth, c, hn9, h1, h2, h3, h4, -, h5, h6, -⟩ := Cond.codeWith_spec (atoms_spec (ws := ws) h _ (by rw [hw]; exact List.mem_cons_self))
    cases hn.symm.trans hn9
    exact ⟨meth, c, h1, h2, h3, h4, h5, h6⟩
  · intro p e s m args below meth c s₁ B hml hP _
    have hh0 : s₁.heap = s.heap := by rw [B.state]; rfl
    obtain ⟨t, a1, o, b1, b2, b3⟩ := body p e s m args below meth c s₁ B hml hP s₁ hh0 (Stand.of_body B)
    exact ⟨t, o, a1, b1, b2, ⟨b3.1, b3.2⟩⟩
section XLRULES
variable {p : Program} {l : Launch} {e : Env} {R : Room} {s : State} {m : MethodId} {args : Array Value} {below : List Frame} {meth : Method} {c : Code} {H : Heap} {locs : List Loc} {cells slots : Nat} {Q : State → Prop}
variable {cc : ByteArray} {pc nL : Nat} {ls : Array Slot} {rest st : List Value} {Ts : List Cond} {own : String} {g : xG} {a : xAd} {σ : xS}
variable {mc ms n index maxL : Nat} {y : MethodName} {bytes : ByteArray} {ret : Option FieldType} {ws : List Cond} {rm : Room} {C : String} {b : Nat} {As : List Value} {st0 : List Value} {τ : xS} {r : Int32} {okp : Prop} {ex : String → Prop} {A : Nat → Prop} {hh : List (Nat × Nat × Nat × Nat)}
/-- a loop that writes, and makes cells -/
theorem x_loopC {α : Type} (μ : α → Nat) (ce sl : α → Nat) (I : α → Heap → List Loc → Array Slot → Prop) (hs : ∀ (x : α) (H : Heap) (locs : List Loc) (ls : Array Slot), I x H locs ls → (∀ (y : α) (H : Heap) (locs : List Loc) (ls : Array Slot), I y H locs ls → μ y < μ x → W p l e R s m args below meth c H locs (ce y) (sl y) Q (F0 m pc ls st)) → W p l e R s m args below meth c H locs (ce x) (sl x) Q (F0 m pc ls st)) (x0 : α) (h0 : I x0 H locs ls) : W p l e R s m args below meth c H locs (ce x0) (sl x0) Q (F0 m pc ls st) := by
  have key : ∀ (n : Nat) (x : α) (H : Heap) (locs : List Loc) (ls : Array Slot), μ x < n → I x H locs ls → W p l e R s m args below meth c H locs (ce x) (sl x) Q (F0 m pc ls st) := by
    intro n
    induction n with
    | zero => intro x H locs ls h; exact absurd h (Nat.not_lt_zero _)
    | succ n ih => intro x H locs ls h hi; exact hs x H locs ls hi (fun y H locs ls hy hlt => ih y H locs ls (by omega) hy)
  exact key (μ x0 + 1) x0 H locs ls (Nat.lt_succ_self _) h0
/-- a call of the class's that may throw, with what it throws -/
theorem x_VXA (C0 : xC p s m args c cc nL Ts own NLA g a A) (hM : xMxi l y ws rm mc ms NLX g a σ (.ref b :: As) okp r τ ex) (hP : va_P g.1 vwCl (xw NLA g a σ) H) (hS : va_S A s.heap H locs) (hT : xZt s) (hZ : xZh A s s.heap) (cw : CallW R s args own C index y bytes maxL ret ws rm mc ms n) (hrecv : ∃ cell : Cell, H[b]? = some cell ∧ cell.vm.isStatics = false ∧ s.vm.findClass C = some cell.cls) (hn : As.length = n) {lv : List (Nat × Value)} (hl : lv_has ls nL lv) (hst : st0 = As.reverse ++ .ref b :: rest) (hW : (rest.map fun v => v.category).sum ≤ 8) (hc1 : cells + mc ≤ R.cells) (hs1 : slots + ms ≤ R.slots) (hdg : decode cc pc = .ok (.invokevirtual index, 3))
    (kx : xKX p l e R s m args below meth c (cells + mc) (slots + ms) Q NLA g a A σ ex (F0 m pc ls rest))
    (kk : ∀ (H1 : Heap) (locs1 : List Loc), okp → va_P g.1 vwCl (xw NLA g a (oM σ τ)) H1 → va_S A s.heap H1 locs1 → W p l e R s m args below meth c H1 locs1 (cells + mc) (slots + ms) Q (F0 m (pc + 3) ls (.int r :: rest))) : W p l e R s m args below meth c H locs cells slots Q (F0 m pc ls st0) := by
  have h2 := xA_sub (NL' := NLX) C0 hS NLA_X
  have hj := C0.2.2.2.1
  have hPX : va_P g.1 vwCl (xw NLX g a σ) H := xwf_sub hP NLA_X
  refine vx_calli (vx_runV (g := F0 m pc ls st0) (As := As) (rest := rest) C0.1 (hM H.size) cw ⟨xFBz, hrecv, x_prez C0 hPX (xDj_A hj).1 hS NLA_X hT hZ⟩ rfl hn hl.1 hst (lv_room hW) hdg ⟨hc1, hs1⟩) hS (fun q _ h => h2 q h) h2 (fun q _ h => h2 q h) (fun E ce q u t H1 locs1 ht hvm hu hB hz hk hS1 hq hv hcl => ?_) (fun q u t H1 locs1 ht hvm hw hB hz hk hS1 => ?_)
  · have hB2 := hB.2
    rw [ht] at hB2
    have h9 := xA_join hj hP hB2 hk
    rw [oM_self] at h9
    exact kx E ce q H1 locs1 hB.1 h9 hS1 hq hv hcl
  · obtain ⟨⟨h9, rfl⟩, rfl⟩ := hw
    rw [ht] at hB
    exact kk H1 locs1 h9 (xA_join hj hP hB hk) hS1
/-- .. that throws nothing here -/
theorem x_VXN (C0 : xC p s m args c cc nL Ts own NLA g a A) (hM : xMxi l y ws rm mc ms NLX g a σ (.ref b :: As) okp r τ ex) (hno : ∀ E, ¬ ex E) (hP : va_P g.1 vwCl (xw NLA g a σ) H) (hS : va_S A s.heap H locs) (hT : xZt s) (hZ : xZh A s s.heap) (cw : CallW R s args own C index y bytes maxL ret ws rm mc ms n) (hrecv : ∃ cell : Cell, H[b]? = some cell ∧ cell.vm.isStatics = false ∧ s.vm.findClass C = some cell.cls) (hn : As.length = n) {lv : List (Nat × Value)} (hl : lv_has ls nL lv) (hst : st0 = As.reverse ++ .ref b :: rest) (hW : (rest.map fun v => v.category).sum ≤ 8) (hc1 : cells + mc ≤ R.cells) (hs1 : slots + ms ≤ R.slots) (hdg : decode cc pc = .ok (.invokevirtual index, 3))
    (kk : ∀ (H1 : Heap) (locs1 : List Loc), va_P g.1 vwCl (xw NLA g a (oM σ τ)) H1 → va_S A s.heap H1 locs1 → W p l e R s m args below meth c H1 locs1 (cells + mc) (slots + ms) Q (F0 m (pc + 3) ls (.int r :: rest))) : W p l e R s m args below meth c H locs cells slots Q (F0 m pc ls st0) :=
  x_VXA C0 hM hP hS hT hZ cw hrecv hn hl hst hW hc1 hs1 hdg (fun E _ _ _ _ h => absurd h (hno E)) (fun H1 locs1 _ h1 h2 => kk H1 locs1 h1 h2)
/-- .. and changes nothing -/
theorem x_VXR (C0 : xC p s m args c cc nL Ts own NLA g a A) (hM : xMxi l y ws rm mc ms NLX g a σ (.ref b :: As) okp r σ ex) (hno : ∀ E, ¬ ex E) (hP : va_P g.1 vwCl (xw NLA g a σ) H) (hS : va_S A s.heap H locs) (hT : xZt s) (hZ : xZh A s s.heap) (cw : CallW R s args own C index y bytes maxL ret ws rm mc ms n) (hrecv : ∃ cell : Cell, H[b]? = some cell ∧ cell.vm.isStatics = false ∧ s.vm.findClass C = some cell.cls) (hn : As.length = n) {lv : List (Nat × Value)} (hl : lv_has ls nL lv) (hst : st0 = As.reverse ++ .ref b :: rest) (hW : (rest.map fun v => v.category).sum ≤ 8) (hc1 : cells + mc ≤ R.cells) (hs1 : slots + ms ≤ R.slots) (hdg : decode cc pc = .ok (.invokevirtual index, 3))
    (kk : ∀ (H1 : Heap) (locs1 : List Loc), va_P g.1 vwCl (xw NLA g a σ) H1 → va_S A s.heap H1 locs1 → W p l e R s m args below meth c H1 locs1 (cells + mc) (slots + ms) Q (F0 m (pc + 3) ls (.int r :: rest))) : W p l e R s m args below meth c H locs cells slots Q (F0 m pc ls st0) :=
  x_VXN C0 hM hno hP hS hT hZ cw hrecv hn hl hst hW hc1 hs1 hdg (fun H1 locs1 h1 h2 => kk H1 locs1 (by rw [oM_self] at h1; exact h1) h2)
/-- the law's own methods -/
theorem x_LS (C0 : xC p s m args c cc nL Ts own NLA g a A) (hM : xMl l y ws rm mc ms g a σ As r τ) (hP : va_P g.1 vwCl (xw NLA g a σ) H) (hS : va_S A s.heap H locs) (hT : xZt s) (hZ : xZh A s s.heap) (cw : CallB R s args own index y bytes maxL ret ws rm mc ms n ∧ (Cond.static y).before args s = true) (hn : As.length = n) {lv : List (Nat × Value)} (hl : lv_has ls nL lv) (hst : st0 = As.reverse ++ rest) (hW : (rest.map fun v => v.category).sum ≤ 8) (hc1 : cells + mc ≤ R.cells) (hs1 : slots + ms ≤ R.slots) (hdg : decode cc pc = .ok (.invokestatic index, 3))
    (kk : ∀ (H1 : Heap) (locs1 : List Loc), va_P g.1 vwCl (xw NLA g a τ) H1 → va_S A s.heap H1 locs1 → W p l e R s m args below meth c H1 locs1 (cells + mc) (slots + ms) Q (F0 m (pc + 3) ls (.int r :: rest))) : W p l e R s m args below meth c H locs cells slots Q (F0 m pc ls st0) := by
  have h2 := xA_sub (NL' := NLA) C0 hS (fun n h => h)
  refine va_calli (va_runS (g := F0 m pc ls st0) (As := As) (rest := rest) C0.1 (hM H.size) cw ⟨xFBz, x_prez C0 hP C0.2.2.2.1 hS (fun n h => h) hT hZ⟩ rfl hn hl.1 hst (lv_room hW) hdg ⟨hc1, hs1⟩) hS (fun q _ h => h2 q h) (fun q h => h2 q h) (fun q u t H1 locs1 ht hvm hw hB hz hk hS1 => ?_)
  obtain ⟨rfl, rfl⟩ := hw
  rw [ht] at hB
  exact kk H1 locs1 hB hS1
theorem x_LSW (C0 : xC p s m args c cc nL Ts own NLA g a A) (hM : xMl l y ws rm mc ms g a σ As r τ) (hP : va_P g.1 vwCl (xw NLA g a σ) H) (hS : va_S A s.heap H locs) (hT : xZt s) (hZ : xZh A s s.heap) (cw : vx_CSW R s args own index y bytes maxL ret hh ws rm mc ms n) (hn : As.length = n) {lv : List (Nat × Value)} (hl : lv_has ls nL lv) (hst : st0 = As.reverse ++ rest) (hW : (rest.map fun v => v.category).sum ≤ 8) (hc1 : cells + mc ≤ R.cells) (hs1 : slots + ms ≤ R.slots) (hdg : decode cc pc = .ok (.invokestatic index, 3))
    (kk : ∀ (H1 : Heap) (locs1 : List Loc), va_P g.1 vwCl (xw NLA g a τ) H1 → va_S A s.heap H1 locs1 → W p l e R s m args below meth c H1 locs1 (cells + mc) (slots + ms) Q (F0 m (pc + 3) ls (.int r :: rest))) : W p l e R s m args below meth c H locs cells slots Q (F0 m pc ls st0) := by
  have h2 := xA_sub (NL' := NLA) C0 hS (fun n h => h)
  refine va_calli (vx_runSW (g := F0 m pc ls st0) (As := As) (rest := rest) C0.1 (hM H.size) cw ⟨xFBz, x_prez C0 hP C0.2.2.2.1 hS (fun n h => h) hT hZ⟩ rfl hn hl.1 hst (lv_room hW) hdg ⟨hc1, hs1⟩) hS (fun q _ h => h2 q h) (fun q h => h2 q h) (fun q u t H1 locs1 ht hvm hw hB hz hk hS1 => ?_)
  obtain ⟨rfl, rfl⟩ := hw
  rw [ht] at hB
  exact kk H1 locs1 hB hS1
theorem x_Sv (C0 : xC p s m args c cc nL Ts own NLA g a A) (hM : xMv l y ws rm NLA g a σ As τ) (hP : va_P g.1 vwCl (xw NLA g a σ) H) (hS : va_S A s.heap H locs) (cw : CallB R s args own index y bytes maxL ret ws rm 0 0 n ∧ (Cond.static y).before args s = true) (hn : As.length = n) {lv : List (Nat × Value)} (hl : lv_has ls nL lv) (hst : st0 = As.reverse ++ rest) (hW : (rest.map fun v => v.category).sum ≤ 8) (hc1 : cells ≤ R.cells) (hs1 : slots ≤ R.slots) (hdg : decode cc pc = .ok (.invokestatic index, 3))
    (kk : ∀ (H1 : Heap) (locs1 : List Loc), va_P g.1 vwCl (xw NLA g a τ) H1 → va_S A s.heap H1 locs1 → W p l e R s m args below meth c H1 locs1 cells slots Q (F0 m (pc + 3) ls rest)) : W p l e R s m args below meth c H locs cells slots Q (F0 m pc ls st0) := by
  obtain ⟨h1, h2⟩ := x_AA C0 hS
  refine va_callv (va_runS (g := F0 m pc ls st0) (As := As) (rest := rest) C0.1 (hM H.size) cw ⟨xFBs, x_pres C0 hP C0.2.2.2.1⟩ rfl hn hl.1 hst (lv_room hW) hdg ⟨hc1, hs1⟩) hS h1 h2 (fun u t H1 locs1 ht hvm hw hB hz hk hS1 => ?_)
  subst hw
  rw [ht] at hB
  exact kk H1 locs1 hB hS1
/-- caught by the table's row -/
theorem x_catch (C0 : xC p s m args c cc nL Ts own NLA g a A) (hT : xZt s) {E name : String} {ce : Cell} {q : Addr} (pre : List ExceptionTableEntry) (x : ExceptionTableEntry) (suf : List ExceptionTableEntry) (hsplit : c.exceptionTable.toList = pre ++ x :: suf)
    (hpass : ∀ z ∈ pre, covers z pc = false ∨ (z.catchType ≠ 0 ∧ ∃ nm : String, (Cond.classLink own z.catchType nm).before args s = true ∧ va_Nc E nm s)) (hx : covers x pc = true) (h0 : x.catchType ≠ 0) {ct : Nat} (hct : x.catchType = ct)
    (hlink : Cond.classLink own ct name ∈ Ts) (hEn : E = name) (hcast : Cond.castable name name ∈ xTw) (hcell : H[q]? = some ce) (hv : ce.vm = .none) (hcl : s.vm.findClass E = some ce.cls)
    (kk : W p l e R s m args below meth c H locs cells slots Q (F0 m x.handlerPc ls [.ref q])) : vx_W p l e R s m args below meth c H locs cells slots Q (F0 m pc ls rest) q := by
  subst hct
  subst hEn
  exact vx_catch C0.1.2.2.2.1 pre x suf hsplit hpass hx h0 (C0.hts _ hlink) (va_Nw.use rfl (hT.1 _ hcast)) hcell hv hcl kk
end XLRULES

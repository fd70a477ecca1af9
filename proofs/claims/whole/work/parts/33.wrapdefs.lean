/-! ===== the law's own static methods: the class's answers as a number and a long ===== -/
def NLL : xNL := NLX ++ [(50, 0)]
def oM (σ τ : xS) : xS := fun t i => if t = 50 then σ t i else τ t i
def chB (L : List (Bool × String)) : Bool := L.all (fun q => q.1)
def cdX (f : String → Int32) : List (Bool × String) → Int32
  | [] => 0
  | (c, e) :: L => if c = true then cdX f L else f e
theorem chOk_B : ∀ {L : List (Bool × String)}, chOk L → chB L = true
  | [], _ => rfl
  | (c, e) :: L, h => by
    have h2 : c = true ∧ chOk L := h
    have h3 := chOk_B h2.2
    unfold chB at h3 ⊢
    rw [List.all_cons, h3, h2.1]
    rfl
theorem chB_ok : ∀ {L : List (Bool × String)}, chB L = true → chOk L
  | [], _ => trivial
  | (c, e) :: L, h => by
    unfold chB at h
    rw [List.all_cons, Bool.and_eq_true] at h
    exact ⟨h.1, chB_ok h.2⟩
theorem chOk_cd {f : String → Int32} : ∀ {L : List (Bool × String)}, chOk L → cdX f L = 0
  | [], _ => rfl
  | (c, e) :: L, h => by
    have h2 : c = true ∧ chOk L := h
    unfold cdX
    rw [if_pos h2.1]
    exact chOk_cd h2.2
theorem chEx_B {f : String → Int32} : ∀ {L : List (Bool × String)} {E : String}, chEx L E → chB L = false ∧ cdX f L = f E
  | [], _, h => h.elim
  | (c, e) :: L, E, h => by
    have h2 : (c = false ∧ E = e) ∨ (c = true ∧ chEx L E) := h
    rcases h2 with ⟨rfl, rfl⟩ | ⟨rfl, h3⟩
    · exact ⟨rfl, rfl⟩
    · have := chEx_B (f := f) h3
      exact ⟨by unfold chB at this ⊢; rw [List.all_cons, this.1]; rfl, by unfold cdX; rw [if_pos rfl]; exact this.2⟩
theorem chEx_mem : ∀ {L : List (Bool × String)} {E : String}, chEx L E → E ∈ L.map Prod.snd
  | [], _, h => h.elim
  | (c, e) :: L, E, h => by
    have h2 : (c = false ∧ E = e) ∨ (c = true ∧ chEx L E) := h
    rcases h2 with ⟨-, rfl⟩ | ⟨-, h3⟩
    · exact List.mem_cons_self
    · exact List.mem_cons_of_mem _ (chEx_mem h3)
def cd1 (e1 : String) : String → Int32 := fun E => if E = e1 then nI 1 else nI 2
def wS (L : List (Bool × String)) (σ τ : xS) (r : Int32) : xS := if chB L = true then up3 (oM σ τ) 50 0 0 r else σ
/-- pairs that are not castable -/
def xZw (U : State) : Prop := va_Nc eIS eIA U ∧ va_Nc eIA eIO U ∧ va_Nc eIS eIO U
theorem xZw.moved {u U : State} (hvm : u.vm.Alike U.vm) (h : xZw u) : xZw U := ⟨va_Nc.moved hvm h.1, va_Nc.moved hvm h.2.1, va_Nc.moved hvm h.2.2⟩
def xPrw (g : xG) (a : xAd) (σ : xS) (sz : Nat) (U : State) : Prop := U.heap.size = sz ∧ xPre NLL g a σ U ∧ xZt U ∧ xZh (xA NLL a sz) U U.heap ∧ xZw U
theorem xFBw {As : List Value} {g : xG} {a : xAd} {σ : xS} {sz : Nat} : FrameBlind (va_Pc As (xPrw g a σ sz)) := fun v U g' mk q => by
  obtain ⟨q0, q9, ⟨q1, q2, q3, q4⟩, q5, q6, q7⟩ := q
  exact ⟨q0, q9, ⟨q1, va_K.moved (u := U) (U := U.calling g' mk v) (Vm.Alike.refl U.vm) q2, xN.same (s := U) (U := U.calling g' mk v) rfl q3, q4⟩, xZt.same (s := U) (U := U.calling g' mk v) rfl q5, xZh.moved (u := U) (U := U.calling g' mk v) (Vm.Alike.refl U.vm) q6, xZw.moved (u := U) (U := U.calling g' mk v) (Vm.Alike.refl U.vm) q7⟩
/-- answers a number, in a state; it throws nothing -/
def xMl (l : Launch) (y : MethodName) (ws : List Cond) (rm : Room) (mc ms : Nat) (g : xG) (a : xAd) (σ : xS) (As : List Value) (r : Int32) (τ : xS) : Prop :=
  ∀ sz : Nat, Met l y ws rm (va_Pc As (xPrw g a σ sz)) (va_Qi (fun (q : Int32) (u : xS) => q = r ∧ u = τ) (fun u t => va_P g.1 vwCl (xw NLL g a u) t.heap) (xA NLL a sz)) mc ms (xA NLL a sz)
theorem x_ofWH {l : Launch} {y : MethodName} {ws ws' : List Cond} {rm : Room} {Pc : Array Value → State → Prop} {Qc : Array Value → State → Outcome → State → Prop} {mc ms : Nat} {free : Addr → Prop} {cc : ByteArray} {maxL : Nat} {ret : Option FieldType} {hh : List (Nat × Nat × Nat × Nat)}
    (hy : plainName y.cls = true) (hw : ws = Cond.codeWith y cc maxL ret hh :: ws')
    (body : ∀ p e s m args below meth c s₁, BodyLoose p l y (headSpec ws rm) cc maxL ret e s m args below meth c s₁ → c.maxLocals = maxL → Pc args s →
      W p l e (headSpec ws rm).room s m args below meth c s.heap [] 0 0 (MQ below Qc args s mc ms free) (entryFrame m args maxL)) : Met l y ws rm Pc Qc mc ms free := by
  refine MetFree.of_bodyS (code := cc) (maxLocals := maxL) (ret := ret) hy ?_ ?_
  · intro args s m h hn
    obtain ⟨m9, meth, c, hn9, h1, h2, h3, h4, -, h5, h6, -⟩ := Cond.codeWith_spec (atoms_spec (ws := ws) h _ (by rw [hw]; exact List.mem_cons_self))
    cases hn.symm.trans hn9
    exact ⟨meth, c, h1, h2, h3, h4, h5, h6⟩
  · intro p e s m args below meth c s₁ B hml hP _
    have hh0 : s₁.heap = s.heap := by rw [B.state]; rfl
    obtain ⟨t, a1, o, b1, b2, b3⟩ := body p e s m args below meth c s₁ B hml hP s₁ hh0 (Stand.of_body B)
    exact ⟨t, o, a1, b1, b2, ⟨b3.1, b3.2⟩⟩
theorem NLX_50 : ∀ n ∈ NLX, n.1 ≠ 50 := by
  intro n hn e
  unfold NLX at hn
  simp only [List.mem_append, List.mem_map, List.mem_range] at hn
  rcases hn with ⟨i, hi, rfl⟩ | ⟨i, hi, rfl⟩ | ⟨i, hi, rfl⟩ | ⟨i, hi, rfl⟩ | ⟨i, hi, rfl⟩ | ⟨i, hi, rfl⟩ | ⟨i, hi, rfl⟩ <;> first | (dsimp only at e; omega) | (exact absurd e (by decide))
theorem NLX_L : ∀ n ∈ NLX, n ∈ NLL := fun _ h => List.mem_append_left _ h
theorem NLL_50 : (50, 0) ∈ NLL := List.mem_append_right _ (List.mem_singleton.mpr rfl)
theorem oM_w {g : xG} {a : xAd} {σ τ : xS} : xw NLX g a (oM σ τ) = xw NLX g a τ := xwf_congr (fun n hn => by unfold oM; rw [if_neg (NLX_50 n hn)])
theorem xwL {g : xG} {a : xAd} {σ : xS} : xw NLL g a σ = xw NLX g a σ ++ [(a 50 0, xLa g 1 (σ 50 0))] := by
  unfold NLL xw xwf
  rw [List.map_append]
  rfl
theorem xDj_L {a : xAd} (h : xDj NLL a) : xDj NLX a ∧ ∀ n ∈ NLX, a n.1 n.2 ≠ a 50 0 := by
  rw [xDj_nd] at h
  unfold NLL at h
  rw [List.map_append, List.nodup_append] at h
  refine ⟨xDj_nd.mpr h.1, fun n hn e => ?_⟩
  first
    | exact h.2.2 _ (List.mem_map.mpr ⟨n, hn, rfl⟩) _ (List.mem_singleton.mpr rfl) e
    | exact h.2.2 (List.mem_map.mpr ⟨n, hn, rfl⟩) (by rw [e]; exact List.mem_singleton.mpr rfl)
/-- the class's part has changed, the long array has not -/
theorem xL_join {g : xG} {a : xAd} {σ τ : xS} {H H1 : Heap} (hj : xDj NLL a) (hP : va_P g.1 vwCl (xw NLL g a σ) H) (hB : va_P g.1 vwCl (xw NLX g a τ) H1) (hk : ∀ q : Nat, q < H.size → ¬ xA NLX a H.size q → H1[q]? = H[q]?) : va_P g.1 vwCl (xw NLL g a (oM σ τ)) H1 := by
  rw [xwL, oM_w]
  refine hB.app ?_
  rw [va_P_mem]
  intro q hq
  rw [List.mem_singleton] at hq
  subst hq
  have h0 : va_at g.1 vwCl (a 50 0, xLa g 1 (σ 50 0)) H := (va_P_mem.mp hP) _ (by rw [xwL]; exact List.mem_append_right _ (List.mem_singleton.mpr rfl))
  refine (show va_at g.1 vwCl (a 50 0, xLa g 1 (σ 50 0)) H1 from h0.kept (hk _ h0.lt (fun z => ?_)))
  rcases z with ⟨n, hn, e⟩ | z
  · exact (xDj_L hj).2 n hn e
  · exact absurd h0.lt (Nat.not_lt.mpr z)
theorem oM_self {σ : xS} : oM σ σ = σ := by
  funext t i
  unfold oM
  split <;> rfl
section XWRAP
variable {p : Program} {l : Launch} {e : Env} {R : Room} {s : State} {m : MethodId} {args : Array Value} {below : List Frame} {meth : Method} {c : Code} {H : Heap} {locs : List Loc} {cells slots : Nat} {Q : State → Prop}
variable {cc : ByteArray} {pc nL : Nat} {ls : Array Slot} {rest : List Value} {Ts : List Cond} {own : String} {g : xG} {a : xAd} {σ : xS}
variable {mc ms n index maxL : Nat} {y : MethodName} {bytes : ByteArray} {ret : Option FieldType} {ws : List Cond} {rm : Room} {C : String} {b : Nat} {As : List Value} {st0 : List Value} {τ : xS} {r : Int32} {okp : Prop} {ex : String → Prop} {A : Nat → Prop}
theorem x_VXL (C0 : xC p s m args c cc nL Ts own NLL g a A) (hM : xMxi l y ws rm mc ms NLX g a σ (.ref b :: As) okp r τ ex) (hP : va_P g.1 vwCl (xw NLL g a σ) H) (hS : va_S A s.heap H locs) (hT : xZt s) (hZ : xZh A s s.heap) (cw : CallW R s args own C index y bytes maxL ret ws rm mc ms n) (hrecv : ∃ cell : Cell, H[b]? = some cell ∧ cell.vm.isStatics = false ∧ s.vm.findClass C = some cell.cls) (hn : As.length = n) {lv : List (Nat × Value)} (hl : lv_has ls nL lv) (hst : st0 = As.reverse ++ .ref b :: rest) (hW : (rest.map fun v => v.category).sum ≤ 8) (hc1 : cells + mc ≤ R.cells) (hs1 : slots + ms ≤ R.slots) (hdg : decode cc pc = .ok (.invokevirtual index, 3))
    (kx : xKX p l e R s m args below meth c (cells + mc) (slots + ms) Q NLL g a A σ ex (F0 m pc ls rest))
    (kk : ∀ (H1 : Heap) (locs1 : List Loc), okp → va_P g.1 vwCl (xw NLL g a (oM σ τ)) H1 → va_S A s.heap H1 locs1 → W p l e R s m args below meth c H1 locs1 (cells + mc) (slots + ms) Q (F0 m (pc + 3) ls (.int r :: rest))) : W p l e R s m args below meth c H locs cells slots Q (F0 m pc ls st0) := by
  have h2 := xA_sub (NL' := NLX) C0 hS NLX_L
  have hj := C0.2.2.2.1
  have hPX : va_P g.1 vwCl (xw NLX g a σ) H := xwf_sub hP NLX_L
  refine vx_calli (vx_runV (g := F0 m pc ls st0) (As := As) (rest := rest) C0.1 (hM H.size) cw ⟨xFBz, hrecv, x_prez C0 hPX (xDj_L hj).1 hS NLX_L hT hZ⟩ rfl hn hl.1 hst (lv_room hW) hdg ⟨hc1, hs1⟩) hS (fun q _ h => h2 q h) h2 (fun q _ h => h2 q h) (fun E ce q u t H1 locs1 ht hvm hu hB hz hk hS1 hq hv hcl => ?_) (fun q u t H1 locs1 ht hvm hw hB hz hk hS1 => ?_)
  · have hB2 := hB.2
    rw [ht] at hB2
    have h9 := xL_join hj hP hB2 hk
    rw [oM_self] at h9
    exact kx E ce q H1 locs1 hB.1 h9 hS1 hq hv hcl
  · obtain ⟨⟨h9, rfl⟩, rfl⟩ := hw
    rw [ht] at hB
    exact kk H1 locs1 h9 (xL_join hj hP hB hk) hS1
/-- the long is stored -/
theorem x_last (C0 : xC p s m args c cc nL Ts own NLL g a A) (hP : va_P g.1 vwCl (xw NLL g a σ) H) (hS : va_S A s.heap H locs) {x : Int64} (hx : x = r.toInt64) (hdg : decode cc pc = .ok (.lastore, 1))
    (kk : ∀ (H1 : Heap) (locs1 : List Loc), va_P g.1 vwCl (xw NLL g a (up3 σ 50 0 0 r)) H1 → va_S A s.heap H1 locs1 → W p l e R s m args below meth c H1 locs1 cells slots Q (F0 m (pc + 1) ls rest)) : W p l e R s m args below meth c H locs cells slots Q (F0 m pc ls (.long x :: .int (nI 0) :: .ref (a 50 0) :: rest)) := by
  subst hx
  obtain ⟨q0, h1, h2⟩ := xwf_get (xB g a) a σ NLL_50
  have he : xB g a 50 (σ 50 0) = xLa g 1 (σ 50 0) := rfl
  rw [he] at h2
  refine va_last C0.hx C0.hb C0.hK hP (C0.hD σ) hS q0 3 h2 rfl (x_vpin (j := 0) (by decide) (by decide)) hdg (fun H1 locs1 q1 q2 q3 => ?_)
  have e9 : (Sum.inl (g.2.2.2.2, 1, Sum.inr (Sum.inl (vp_updL (fun j => (σ 50 0 j).toInt64) (nI 0).toNatClampNeg r.toInt64))) : va_E) = xB g a 50 (upd (σ 50 0) 0 r) := by
    have e8 : vp_updL (fun j => (σ 50 0 j).toInt64) (nI 0).toNatClampNeg r.toInt64 = fun j => (upd (σ 50 0) 0 r j).toInt64 := by
      funext j
      have e7 : (nI 0).toNatClampNeg = 0 := rfl
      rw [e7]
      unfold vp_updL upd
      by_cases h : j = 0 <;> simp [h]
    rw [e8]
    rfl
  rw [e9, xwf_set C0.2.2.2.1 h1] at q1
  exact kk H1 locs1 q1 q3
/-- caught by the table's row -/
theorem x_catch (C0 : xC p s m args c cc nL Ts own NLL g a A) (hT : xZt s) {E name : String} {ce : Cell} {q : Addr} (pre : List ExceptionTableEntry) (x : ExceptionTableEntry) (suf : List ExceptionTableEntry) (hsplit : c.exceptionTable.toList = pre ++ x :: suf)
    (hpass : ∀ z ∈ pre, covers z pc = false ∨ (z.catchType ≠ 0 ∧ ∃ nm : String, (Cond.classLink own z.catchType nm).before args s = true ∧ va_Nc E nm s)) (hx : covers x pc = true) (h0 : x.catchType ≠ 0) {ct : Nat} (hct : x.catchType = ct)
    (hlink : Cond.classLink own ct name ∈ Ts) (hEn : E = name) (hcast : Cond.castable name name ∈ xTw) (hcell : H[q]? = some ce) (hv : ce.vm = .none) (hcl : s.vm.findClass E = some ce.cls)
    (kk : W p l e R s m args below meth c H locs cells slots Q (F0 m x.handlerPc ls [.ref q])) : vx_W p l e R s m args below meth c H locs cells slots Q (F0 m pc ls rest) q := by
  subst hct
  subst hEn
  exact vx_catch C0.1.2.2.2.1 pre x suf hsplit hpass hx h0 (C0.hts _ hlink) (va_Nw.use rfl (hT.1 _ hcast)) hcell hv hcl kk
end XWRAP

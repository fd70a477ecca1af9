/-! ===== methods that may throw ===== -/
def eIA : String := "java/lang/IllegalArgumentException"
def eIS : String := "java/lang/IllegalStateException"
def eIO : String := "java/lang/IndexOutOfBoundsException"
def xNm : List String := ["java/lang/RuntimeException", "java/lang/Exception"]
/-- the words of a throw that no list of words holds: they stand as premises -/
def xTw : List Cond := [.castable eIA eIA, .castable eIS eIS, .castable eIO eIO, .declares (Bundle.initS "java/lang/RuntimeException"), .declares (Bundle.initS "java/lang/Exception"), .declares (Bundle.initS Bundle.tN)]
def xTx : List (Nat × String) := [(159, "an argument is out of range"), (59, "the map has 30 ranges"), (68, "the range overlaps with one of the map"), (92, "the other function comes to stand for this one"), (106, "there are 60 reports"), (164, "there is no such report"), (152, "the report has no fix")]
def xZt (U : State) : Prop := (∀ w ∈ xTw, va_Nw w U) ∧ ∀ q ∈ xTx, ∃ sa, vk_R RX4 q.1 q.2 sa U
def xZh (A : Nat → Prop) (U : State) (H : Heap) : Prop := vx_Zq Bundle.tN "UNASSIGNED_STACK" Bundle.steD A U H ∧ vx_Zq Bundle.tN "SUPPRESSED_SENTINEL" Bundle.listD A U H
theorem xZt.warm {s U : State} (hW : s.WarmedH U.vm) (h : xZt s) : xZt U := by
  refine ⟨?_, fun q hq => ?_⟩
  · have h1 := h.1
    unfold xTw at h1 ⊢
    simp only [List.forall_mem_cons] at h1 ⊢
    obtain ⟨a1, a2, a3, a4, a5, a6, -⟩ := h1
    exact ⟨va_Nw.warmC hW a1, va_Nw.warmC hW a2, va_Nw.warmC hW a3, va_Nw.warmD hW a4, va_Nw.warmD hW a5, va_Nw.warmD hW a6, fun _ h => nomatch h⟩
  · obtain ⟨sa, hsa⟩ := h.2 q hq
    exact ⟨sa, vk_R.warm hW hsa⟩
theorem xZt.same {s U : State} (hv : s.vm = U.vm) (h : xZt s) : xZt U := by
  refine ⟨?_, fun q hq => ?_⟩
  · have h1 := h.1
    unfold xTw at h1 ⊢
    simp only [List.forall_mem_cons] at h1 ⊢
    obtain ⟨a1, a2, a3, a4, a5, a6, -⟩ := h1
    exact ⟨va_Nw.same rfl hv a1, va_Nw.same rfl hv a2, va_Nw.same rfl hv a3, va_Nw.same rfl hv a4, va_Nw.same rfl hv a5, va_Nw.same rfl hv a6, fun _ h => nomatch h⟩
  · obtain ⟨sa, hsa⟩ := h.2 q hq
    exact ⟨sa, vk_R.same hv.symm hsa⟩
theorem xZh.moved {A : Nat → Prop} {u U : State} {H : Heap} (hvm : u.vm.Alike U.vm) (h : xZh A u H) : xZh A U H := ⟨vx_Zq.moved hvm h.1, vx_Zq.moved hvm h.2⟩
theorem xZh.kept {A : Nat → Prop} {U : State} {H H1 : Heap} (h : xZh A U H) (hq : ∀ a : Nat, a < H.size → ¬ A a → H1[a]? = H[a]?) : xZh A U H1 := ⟨vx_Zq.kept h.1 hq, vx_Zq.kept h.2 hq⟩
theorem xZh.narrow {A B : Nat → Prop} {U : State} {H : Heap} (h : xZh A U H) (hAB : ∀ q, B q → A q) : xZh B U H := ⟨vx_Zq.narrow h.1 hAB, vx_Zq.narrow h.2 hAB⟩
def xPrz (NL : xNL) (g : xG) (a : xAd) (σ : xS) (sz : Nat) (U : State) : Prop := U.heap.size = sz ∧ xPre NL g a σ U ∧ xZt U ∧ xZh (xA NL a sz) U U.heap
def xBX (NL : xNL) (g : xG) (a : xAd) (σ : xS) (ex : String → Prop) : String → Unit → State → Prop := fun E _ t => ex E ∧ va_P g.1 vwCl (xw NL g a σ) t.heap
/-- returns nothing, in the state τ, if okp; else throws one of ex, the state as it was -/
def xMxv (l : Launch) (y : MethodName) (ws : List Cond) (rm : Room) (mc ms : Nat) (NL : xNL) (g : xG) (a : xAd) (σ : xS) (As : List Value) (okp : Prop) (τ : xS) (ex : String → Prop) : Prop :=
  ∀ sz : Nat, vx_Met l y ws rm (va_Pc As (xPrz NL g a σ sz)) (va_Qv (fun u : xS => okp ∧ u = τ) (fun u t => va_P g.1 vwCl (xw NL g a u) t.heap) (xA NL a sz)) (vx_X (fun _ : Unit => True) (xBX NL g a σ ex) (xA NL a sz)) mc ms (xA NL a sz)
def xMxi (l : Launch) (y : MethodName) (ws : List Cond) (rm : Room) (mc ms : Nat) (NL : xNL) (g : xG) (a : xAd) (σ : xS) (As : List Value) (okp : Prop) (r : Int32) (τ : xS) (ex : String → Prop) : Prop :=
  ∀ sz : Nat, vx_Met l y ws rm (va_Pc As (xPrz NL g a σ sz)) (va_Qi (fun (q : Int32) (u : xS) => (okp ∧ q = r) ∧ u = τ) (fun u t => va_P g.1 vwCl (xw NL g a u) t.heap) (xA NL a sz)) (vx_X (fun _ : Unit => True) (xBX NL g a σ ex) (xA NL a sz)) mc ms (xA NL a sz)
theorem xFBz {As : List Value} {NL : xNL} {g : xG} {a : xAd} {σ : xS} {sz : Nat} : FrameBlind (va_Pc As (xPrz NL g a σ sz)) := fun v U g' mk q => by
  obtain ⟨q0, q9, ⟨q1, q2, q3, q4⟩, q5, q6⟩ := q
  exact ⟨q0, q9, ⟨q1, va_K.moved (u := U) (U := U.calling g' mk v) (Vm.Alike.refl U.vm) q2, xN.same (s := U) (U := U.calling g' mk v) rfl q3, q4⟩, xZt.same (s := U) (U := U.calling g' mk v) rfl q5, xZh.moved (u := U) (U := U.calling g' mk v) (Vm.Alike.refl U.vm) q6⟩
section XEXC
variable {p : Program} {l : Launch} {e : Env} {R : Room} {s : State} {m : MethodId} {args : Array Value} {below : List Frame} {meth : Method} {c : Code} {H : Heap} {locs : List Loc} {cells slots : Nat} {Q : State → Prop}
variable {cc : ByteArray} {pc nL : Nat} {ls : Array Slot} {rest : List Value} {Ts : List Cond} {own : String} {NL : xNL} {g : xG} {a : xAd} {σ : xS}
variable {mc ms n index maxL : Nat} {y : MethodName} {bytes : ByteArray} {ret : Option FieldType} {ws : List Cond} {rm : Room} {C : String} {b : Nat} {As : List Value} {st0 : List Value} {σ' τ : xS} {r : Int32} {okp : Prop} {ex : String → Prop}
theorem xA_sub {A : Nat → Prop} {NL' : xNL} (C0 : xC p s m args c cc nL Ts own NL g a A) (hS : va_S A s.heap H locs) (hsub : ∀ n ∈ NL', n ∈ NL) : ∀ q, xA NL' a H.size q → A q := by
  intro q h
  rcases h with ⟨n, h1, rfl⟩ | h
  · exact C0.2.2.2.2.1 n (hsub n h1)
  · exact C0.2.2.2.2.2 q (Nat.le_trans hS.1 h)
theorem xZh_now {A : Nat → Prop} {NL' : xNL} (C0 : xC p s m args c cc nL Ts own NL g a A) (hS : va_S A s.heap H locs) (hsub : ∀ n ∈ NL', n ∈ NL) (hZ : xZh A s s.heap) {U : State} (hU : U.heap = H) (hW : s.WarmedH U.vm) : xZh (xA NL' a H.size) U U.heap := by
  rw [hU]
  exact ((hZ.kept hS.2.1).narrow (xA_sub C0 hS hsub)).moved hW.alike
theorem x_prez {A : Nat → Prop} {NL' : xNL} (C0 : xC p s m args c cc nL Ts own NL g a A) (hP : va_P g.1 vwCl (xw NL' g a σ') H) (hj : xDj NL' a) (hS : va_S A s.heap H locs) (hsub : ∀ n ∈ NL', n ∈ NL) (hT : xZt s) (hZ : xZh A s s.heap) : ∀ U : State, U.heap = H → s.WarmedH U.vm → va_Pc As (xPrz NL' g a σ' H.size) As.toArray U := fun U hU hW => ⟨rfl, by rw [hU], ⟨by rw [hU]; exact hP, va_K.moved hW.alike C0.hK, xN.warm hW C0.2.2.1, hj⟩, xZt.warm hW hT, xZh_now C0 hS hsub hZ hU hW⟩
abbrev xKX (p : Program) (l : Launch) (e : Env) (R : Room) (s : State) (m : MethodId) (args : Array Value) (below : List Frame) (meth : Method) (c : Code) (cells slots : Nat) (Q : State → Prop) (NL : xNL) (g : xG) (a : xAd) (A : Nat → Prop) (σ : xS) (ex : String → Prop) (f : JFrame) : Prop :=
  ∀ (E : String) (ce : Cell) (q : Addr) (H1 : Heap) (locs1 : List Loc), ex E → va_P g.1 vwCl (xw NL g a σ) H1 → va_S A s.heap H1 locs1 → H1[q]? = some ce → ce.vm = .none → s.vm.findClass E = some ce.cls → vx_W p l e R s m args below meth c H1 locs1 cells slots Q f q
theorem xnil_kept {A : Nat → Prop} {H1 : Heap} (hP : va_P g.1 vwCl (xw NL g a σ) H) (hk : ∀ q : Nat, q < H.size → ¬ xA [] a H.size q → H1[q]? = H[q]?) : va_P g.1 vwCl (xw NL g a σ) H1 := xwf_kept (NL' := []) hP hk (fun n _ n' h => nomatch h)
/-- a static method without a world of its own, that may throw -/
theorem x_SX0 {A : Nat → Prop} (C0 : xC p s m args c cc nL Ts own NL g a A) (hM : xMxv l y ws rm mc ms [] g a σ As okp σ ex) (hP : va_P g.1 vwCl (xw NL g a σ) H) (hS : va_S A s.heap H locs) (hT : xZt s) (hZ : xZh A s s.heap) (cw : CallB R s args own index y bytes maxL ret ws rm mc ms n ∧ (Cond.static y).before args s = true) (hn : As.length = n) {lv : List (Nat × Value)} (hl : lv_has ls nL lv) (hst : st0 = As.reverse ++ rest) (hW : (rest.map fun v => v.category).sum ≤ 8) (hc1 : cells + mc ≤ R.cells) (hs1 : slots + ms ≤ R.slots) (hdg : decode cc pc = .ok (.invokestatic index, 3))
    (kx : xKX p l e R s m args below meth c (cells + mc) (slots + ms) Q NL g a A σ ex (F0 m pc ls rest))
    (kk : ∀ (H1 : Heap) (locs1 : List Loc), okp → va_P g.1 vwCl (xw NL g a σ) H1 → va_S A s.heap H1 locs1 → W p l e R s m args below meth c H1 locs1 (cells + mc) (slots + ms) Q (F0 m (pc + 3) ls rest)) : W p l e R s m args below meth c H locs cells slots Q (F0 m pc ls st0) := by
  have h2 := xA_sub (NL' := []) C0 hS (fun n h => nomatch h)
  refine vx_callv (vx_runS (g := F0 m pc ls st0) (As := As) (rest := rest) C0.1 (hM H.size) cw ⟨xFBz, x_prez C0 (xP0 σ) xDj0 hS (fun n h => nomatch h) hT hZ⟩ rfl hn hl.1 hst (lv_room hW) hdg ⟨hc1, hs1⟩) hS (fun q _ h => h2 q h) h2 (fun q _ h => h2 q h) (fun E ce q u t H1 locs1 ht hvm hu hB hz hk hS1 hq hv hcl => ?_) (fun u t H1 locs1 ht hvm hw hB hz hk hS1 => ?_)
  · exact kx E ce q H1 locs1 hB.1 (xnil_kept (A := A) hP hk) hS1 hq hv hcl
  · exact kk H1 locs1 hw.1 (xnil_kept (A := A) hP hk) hS1
/-- a method of the class's own world that may throw -/
theorem x_VXv {A : Nat → Prop} (C0 : xC p s m args c cc nL Ts own NL g a A) (hM : xMxv l y ws rm mc ms NL g a σ (.ref b :: As) okp τ ex) (hP : va_P g.1 vwCl (xw NL g a σ) H) (hS : va_S A s.heap H locs) (hT : xZt s) (hZ : xZh A s s.heap) (cw : CallW R s args own C index y bytes maxL ret ws rm mc ms n) (hrecv : ∃ cell : Cell, H[b]? = some cell ∧ cell.vm.isStatics = false ∧ s.vm.findClass C = some cell.cls) (hn : As.length = n) {lv : List (Nat × Value)} (hl : lv_has ls nL lv) (hst : st0 = As.reverse ++ .ref b :: rest) (hW : (rest.map fun v => v.category).sum ≤ 8) (hc1 : cells + mc ≤ R.cells) (hs1 : slots + ms ≤ R.slots) (hdg : decode cc pc = .ok (.invokevirtual index, 3))
    (kx : xKX p l e R s m args below meth c (cells + mc) (slots + ms) Q NL g a A σ ex (F0 m pc ls rest))
    (kk : ∀ (H1 : Heap) (locs1 : List Loc), okp → va_P g.1 vwCl (xw NL g a τ) H1 → va_S A s.heap H1 locs1 → W p l e R s m args below meth c H1 locs1 (cells + mc) (slots + ms) Q (F0 m (pc + 3) ls rest)) : W p l e R s m args below meth c H locs cells slots Q (F0 m pc ls st0) := by
  have h2 := xA_sub (NL' := NL) C0 hS (fun n h => h)
  refine vx_callv (vx_runV (g := F0 m pc ls st0) (As := As) (rest := rest) C0.1 (hM H.size) cw ⟨xFBz, hrecv, x_prez C0 hP C0.2.2.2.1 hS (fun n h => h) hT hZ⟩ rfl hn hl.1 hst (lv_room hW) hdg ⟨hc1, hs1⟩) hS (fun q _ h => h2 q h) h2 (fun q _ h => h2 q h) (fun E ce q u t H1 locs1 ht hvm hu hB hz hk hS1 hq hv hcl => ?_) (fun u t H1 locs1 ht hvm hw hB hz hk hS1 => ?_)
  · have hB2 := hB.2
    rw [ht] at hB2
    exact kx E ce q H1 locs1 hB.1 hB2 hS1 hq hv hcl
  · obtain ⟨h9, rfl⟩ := hw
    rw [ht] at hB
    exact kk H1 locs1 h9 hB hS1
theorem x_VXi {A : Nat → Prop} (C0 : xC p s m args c cc nL Ts own NL g a A) (hM : xMxi l y ws rm mc ms NL g a σ (.ref b :: As) okp r τ ex) (hP : va_P g.1 vwCl (xw NL g a σ) H) (hS : va_S A s.heap H locs) (hT : xZt s) (hZ : xZh A s s.heap) (cw : CallW R s args own C index y bytes maxL ret ws rm mc ms n) (hrecv : ∃ cell : Cell, H[b]? = some cell ∧ cell.vm.isStatics = false ∧ s.vm.findClass C = some cell.cls) (hn : As.length = n) {lv : List (Nat × Value)} (hl : lv_has ls nL lv) (hst : st0 = As.reverse ++ .ref b :: rest) (hW : (rest.map fun v => v.category).sum ≤ 8) (hc1 : cells + mc ≤ R.cells) (hs1 : slots + ms ≤ R.slots) (hdg : decode cc pc = .ok (.invokevirtual index, 3))
    (kx : xKX p l e R s m args below meth c (cells + mc) (slots + ms) Q NL g a A σ ex (F0 m pc ls rest))
    (kk : ∀ (H1 : Heap) (locs1 : List Loc), okp → va_P g.1 vwCl (xw NL g a τ) H1 → va_S A s.heap H1 locs1 → W p l e R s m args below meth c H1 locs1 (cells + mc) (slots + ms) Q (F0 m (pc + 3) ls (.int r :: rest))) : W p l e R s m args below meth c H locs cells slots Q (F0 m pc ls st0) := by
  have h2 := xA_sub (NL' := NL) C0 hS (fun n h => h)
  refine vx_calli (vx_runV (g := F0 m pc ls st0) (As := As) (rest := rest) C0.1 (hM H.size) cw ⟨xFBz, hrecv, x_prez C0 hP C0.2.2.2.1 hS (fun n h => h) hT hZ⟩ rfl hn hl.1 hst (lv_room hW) hdg ⟨hc1, hs1⟩) hS (fun q _ h => h2 q h) h2 (fun q _ h => h2 q h) (fun E ce q u t H1 locs1 ht hvm hu hB hz hk hS1 hq hv hcl => ?_) (fun q u t H1 locs1 ht hvm hw hB hz hk hS1 => ?_)
  · have hB2 := hB.2
    rw [ht] at hB2
    exact kx E ce q H1 locs1 hB.1 hB2 hS1 hq hv hcl
  · obtain ⟨⟨h9, rfl⟩, rfl⟩ := hw
    rw [ht] at hB
    exact kk H1 locs1 h9 hB hS1
/-- it goes on to the caller -/
theorem x_out {A : Nat → Prop} {Qc : Array Value → State → Outcome → State → Prop} {E : String} {ce : Cell} {q : Addr} (hex : ∀ x ∈ c.exceptionTable.toList, False) (hlocks : meth.locks = false) (hP : va_P g.1 vwCl (xw NL g a σ) H) (hS : va_S A s.heap H locs) (hcell : H[q]? = some ce) (hv : ce.vm = .none) (hcl : s.vm.findClass E = some ce.cls) (he : ex E) (hc : cells ≤ mc) (hs : slots ≤ ms) : vx_W p l e R s m args below meth c H locs cells slots (vx_MQ below Qc (vx_X (fun _ : Unit => True) (xBX NL g a σ ex) A) args s mc ms A) (F0 m pc ls rest) q :=
  vx_out (fun x hx => (hex x hx).elim) hlocks hcell hv hcl (fun t ht hvm => ⟨(), trivial, ⟨he, x_end ht hP⟩, hS.F ht⟩) hS.2.2 hc hs
/-- throw new E("text") -/
theorem x_throw {A : Nat → Prop} {Qc : Array Value → State → Outcome → State → Prop} (C0 : xC p s m args c cc nL Ts RX4 NL g a A) (hl9 : l.stackTraces = false) (hex : ∀ x ∈ c.exceptionTable.toList, False) (hlocks : meth.locks = false) (hP : va_P g.1 vwCl (xw NL g a σ) H) (hS : va_S A s.heap H locs) (hT : xZt s) (hZ : xZh A s s.heap) {lv : List (Nat × Value)} (hl : lv_has ls nL lv) {cls : String} {ik is ic : Nat} {text : String} (hcls : Bundle.fit cls = true)
    (hk : Cond.classLink RX4 ik cls ∈ Ts) (hini : Cond.initialized cls ∈ Ts) (htx : (is, text) ∈ xTx) (h1 : ∀ w ∈ (vx_atS RX4 ic cls xNm).filter goodWord, w ∈ Ts) (h2 : ∀ w ∈ (vx_atS RX4 ic cls xNm).filter (fun w => !goodWord w), w ∈ xTw) (hgood : ∀ w ∈ Cond.classLink RX4 ik cls :: Cond.initialized cls :: vx_atS RX4 ic cls xNm, vx_ot w = true)
    (d0 : decode cc pc = .ok (.new ik, 3)) (d3 : decode cc (pc + 3) = .ok (.dup, 1)) (d4 : decode cc (pc + 4) = .ok (.ldc is, 2)) (d6 : decode cc (pc + 6) = .ok (.invokespecial ic, 3)) (d9 : decode cc (pc + 9) = .ok (.athrow, 1))
    (hRframes : 5 < R.frames) (hRlocals : (rest.map fun v => v.category).sum + 82 ≤ R.locals) (hRcells : cells + 1 ≤ R.cells) (hRslots : slots + 6 ≤ R.slots) (he : ex cls) (hc : cells + 1 ≤ mc) (hs : slots + 6 ≤ ms) :
    W p l e R s m args below meth c H locs cells slots (vx_MQ below Qc (vx_X (fun _ : Unit => True) (xBX NL g a σ ex) A) args s mc ms A) (F0 m pc ls rest) := by
  obtain ⟨sa, hsa⟩ := hT.2 _ htx
  refine vx_throwS (names := xNm) (text := text) (sa := sa) (A := A) C0.hx C0.hb hl9 C0.1.2.2.2.1 hcls (by decide +kernel) (C0.hts _ hk) (C0.hts _ hini) hsa (vx_hat (B := xTw) (fun w hw => C0.hts w (h1 w hw)) h2 (fun w hw => va_Nw.use ?_ (hT.1 w hw))) hgood hZ.1 hZ.2 hS (by rw [C0.1.2.2.1]; exact hl.1) d0 d3 d4 d6 d9 (fun x hx => (hex x hx).elim) hRframes hRlocals hRcells hRslots hlocks (fun t hvm hz hk9 => ?_) hS.2.2 hc hs
  · unfold xTw at hw
    simp only [List.mem_cons, List.not_mem_nil, or_false] at hw
    rcases hw with rfl | rfl | rfl | rfl | rfl | rfl <;> rfl
  · refine ⟨(), trivial, ⟨he, hP.kept (fun k q hq => hk9 q.1 ((hP k q hq).lt))⟩, ⟨Nat.le_trans hS.1 hz, fun q h1 h2 => ?_⟩⟩
    rw [hk9 q (Nat.lt_of_lt_of_le h1 hS.1)]
    exact hS.2.1 q h1 h2
end XEXC

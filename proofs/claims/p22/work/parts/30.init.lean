theorem va_AOA.moved {ty : FieldType} {s U : State} (h : s.vm.Alike U.vm) (hz : va_AOA ty s) : va_AOA ty U :=
  (show (Cond.arrayOver (.array ty)).before #[] U = (Cond.arrayOver (.array ty)).before #[] (s.setVm U.vm) from rfl).trans ((Cond.arrayOver_setVmC (args := #[]) h (.array ty)).trans hz)
/-- a world by its list -/
def xQ (g : xG) (A : Nat → Prop) (Wd : va_W) (H : Heap) : Prop := va_P g.1 vwCl Wd H ∧ va_D A Wd
def xRows (g : xG) (n k : Nat) (r : Nat → Nat) : va_W := (List.range n).map (fun i => (r i, xIa g k (fun _ => 0)))
theorem va_P_mem {D : va_G} {cl : List vw_C} {ws : va_W} {H : Heap} : va_P D cl ws H ↔ ∀ q ∈ ws, va_at D cl q H := by
  constructor
  · intro h q hq
    obtain ⟨k, hk⟩ := List.getElem?_of_mem hq
    exact h k q hk
  · intro h k q hk
    exact h q (List.mem_of_getElem? hk)
theorem va_D_nd {A : Nat → Prop} {ws : va_W} : va_D A ws ↔ (ws.map Prod.fst).Nodup ∧ ∀ q ∈ ws, A q.1 := by
  constructor
  · rintro ⟨h1, h2⟩
    refine ⟨?_, fun q hq => ?_⟩
    · unfold List.Nodup
      rw [List.pairwise_iff_getElem]
      intro i j hi hj hij e
      rw [List.length_map] at hi hj
      rw [List.getElem_map, List.getElem_map] at e
      have := h1 i j _ _ (List.getElem?_eq_getElem hi) (List.getElem?_eq_getElem hj) e
      omega
    · obtain ⟨k, hk⟩ := List.getElem?_of_mem hq
      exact h2 k q hk
  · rintro ⟨h1, h2⟩
    refine ⟨fun i j p q hi hj e => ?_, fun k q hk => h2 q (List.mem_of_getElem? hk)⟩
    unfold List.Nodup at h1
    rw [List.pairwise_iff_getElem] at h1
    obtain ⟨hi1, hi2⟩ := List.getElem?_eq_some_iff.mp hi
    obtain ⟨hj1, hj2⟩ := List.getElem?_eq_some_iff.mp hj
    rcases Nat.lt_trichotomy i j with h | h | h
    · exact absurd (by rw [List.getElem_map, List.getElem_map, hi2, hj2]; exact e) (h1 i j (by rw [List.length_map]; exact hi1) (by rw [List.length_map]; exact hj1) h)
    · exact h
    · exact absurd (by rw [List.getElem_map, List.getElem_map, hi2, hj2]; exact e.symm) (h1 j i (by rw [List.length_map]; exact hj1) (by rw [List.length_map]; exact hi1) h)
theorem arrV_congr {c : ClassId} {N : Nat} {f f' : Nat → Value} (h : ∀ j, j < N → f j = f' j) : arrV c N f = arrV c N f' := by
  have e : (Array.ofFn (n := N) fun j => f j.val) = Array.ofFn (n := N) fun j => f' j.val := by
    congr 1
    funext j
    exact h j.val j.isLt
  show ({ cls := c, slots := Array.ofFn (n := N) fun j => f j.val, vm := .none } : Cell) = _
  rw [e]
  rfl
theorem xDj_nd {NL : xNL} {a : xAd} : xDj NL a ↔ (NL.map (fun n => a n.1 n.2)).Nodup := by
  constructor
  · intro h
    unfold List.Nodup
    rw [List.pairwise_iff_getElem]
    intro i j hi hj hij e
    rw [List.length_map] at hi hj
    rw [List.getElem_map, List.getElem_map] at e
    have := h i j _ _ (List.getElem?_eq_getElem hi) (List.getElem?_eq_getElem hj) e
    omega
  · intro h1 i j p q hi hj e
    unfold List.Nodup at h1
    rw [List.pairwise_iff_getElem] at h1
    obtain ⟨hi1, hi2⟩ := List.getElem?_eq_some_iff.mp hi
    obtain ⟨hj1, hj2⟩ := List.getElem?_eq_some_iff.mp hj
    rcases Nat.lt_trichotomy i j with h | h | h
    · exact absurd (by rw [List.getElem_map, List.getElem_map, hi2, hj2]; exact e) (h1 i j (by rw [List.length_map]; exact hi1) (by rw [List.length_map]; exact hj1) h)
    · exact h
    · exact absurd (by rw [List.getElem_map, List.getElem_map, hi2, hj2]; exact e.symm) (h1 j i (by rw [List.length_map]; exact hj1) (by rw [List.length_map]; exact hi1) h)
theorem xDj.perm {NL NL' : xNL} {a : xAd} (h : xDj NL a) (hp : NL.isPerm NL' = true) : xDj NL' a := by
  rw [xDj_nd] at h ⊢
  exact ((List.isPerm_iff.mp hp).map _).nodup_iff.mp h
theorem xw_perm {NL NL' : xNL} {f : Nat → (Nat → Int32) → va_E} {a : xAd} {σ : xS} {cl : List vw_C} {D : va_G} {H : Heap} (h : va_P D cl (xwf f NL a σ) H) (hp : NL.isPerm NL' = true) : va_P D cl (xwf f NL' a σ) H :=
  xwf_sub h (fun _ hn => (List.isPerm_iff.mp hp).mem_iff.mpr hn)
theorem xQ_dj {g : xG} {A : Nat → Prop} {NL : xNL} {a : xAd} {σ : xS} {H : Heap} (h : xQ g A (xw NL g a σ) H) : xDj NL a := fun i j p q hi hj e => h.2.1 i j _ _ (xwf_at hi) (xwf_at hj) e
section XINIT
variable {p : Program} {l : Launch} {e : Env} {R : Room} {s : State} {m : MethodId} {args : Array Value} {below : List Frame} {meth : Method} {c : Code} {H : Heap} {locs : List Loc} {cells slots : Nat} {Q : State → Prop}
variable {cc : ByteArray} {pc nL : Nat} {ls : Array Slot} {rest : List Value} {Ts : List Cond} {own : String} {g : xG} {a : xAd} {A : Nat → Prop} {σ : xS} {Wd : va_W}
theorem x_newi (C0 : xC p s m args c cc nL Ts own [] g a A) (hQ : xQ g A Wd H) (hS : va_S A s.heap H locs) (hw : Cond.arrayClass .int ∈ Ts) (n : Nat) (hn : n ≤ 1000) (hcells : cells + 1 ≤ R.cells) (hslots : slots + n ≤ R.slots) (hdg : decode cc pc = .ok (.newarray .int, 2))
    (kk : ∀ (q : Nat) (H1 : Heap), xQ g A (Wd ++ [(q, xIa g n (fun _ => 0))]) H1 → va_S A s.heap H1 locs → W p l e R s m args below meth c H1 locs (cells + 1) (slots + n) Q (F0 m (pc + 2) ls (.ref q :: rest))) : W p l e R s m args below meth c H locs cells slots Q (F0 m pc ls (.int (nI n) :: rest)) := by
  refine va_newa (atype := .int) (ty := .int) C0.hx C0.hb (C0.hts _ hw) rfl C0.hK hQ.1 hQ.2 hS C0.2.2.2.2.2 (a0 := (n, .inl (fun _ => 0))) (fun cA => rfl) (fun h => (x_vpin (j := n) (n := n + 1) (by omega) (by omega)) (Or.inl h)) (nI_clamp (by omega)) (by simp only [componentBytes]; omega) hcells hslots hdg (fun q cA H1 hK1 hP1 hD1 hS1 => ?_)
  have e1 : s.vm.findClass ("[" ++ FieldType.int.toString) = some cA := (hK1.2 3 (cA, .int) rfl).2
  have e2 : s.vm.findClass ("[" ++ FieldType.int.toString) = some g.2.1 := (C0.hK.2 0 (g.2.1, .int) rfl).2
  have e3 : cA = g.2.1 := Option.some.inj (e1.symm.trans e2)
  subst e3
  exact kk q H1 ⟨hP1, hD1⟩ hS1
theorem x_newz (C0 : xC p s m args c cc nL Ts own [] g a A) (hQ : xQ g A Wd H) (hS : va_S A s.heap H locs) (hw : Cond.arrayClass .boolean ∈ Ts) (n : Nat) (hn : n ≤ 1000) (hcells : cells + 1 ≤ R.cells) (hslots : slots + n ≤ R.slots) (hdg : decode cc pc = .ok (.newarray .boolean, 2))
    (kk : ∀ (q : Nat) (H1 : Heap), xQ g A (Wd ++ [(q, xZa g n (fun _ => 0))]) H1 → va_S A s.heap H1 locs → W p l e R s m args below meth c H1 locs (cells + 1) (slots + n) Q (F0 m (pc + 2) ls (.ref q :: rest))) : W p l e R s m args below meth c H locs cells slots Q (F0 m pc ls (.int (nI n) :: rest)) := by
  refine va_newa (atype := .boolean) (ty := .boolean) C0.hx C0.hb (C0.hts _ hw) rfl C0.hK hQ.1 hQ.2 hS C0.2.2.2.2.2 (a0 := (n, .inl (fun _ => 0))) (fun cA => rfl) (fun h => (x_vpin (j := n) (n := n + 1) (by omega) (by omega)) (Or.inl h)) (nI_clamp (by omega)) (by simp only [componentBytes]; omega) hcells hslots hdg (fun q cA H1 hK1 hP1 hD1 hS1 => ?_)
  have e1 : s.vm.findClass ("[" ++ FieldType.boolean.toString) = some cA := (hK1.2 3 (cA, .boolean) rfl).2
  have e2 : s.vm.findClass ("[" ++ FieldType.boolean.toString) = some g.2.2.1 := (C0.hK.2 1 (g.2.2.1, .boolean) rfl).2
  have e3 : cA = g.2.2.1 := Option.some.inj (e1.symm.trans e2)
  subst e3
  exact kk q H1 ⟨hP1, hD1⟩ hS1
theorem x_mna (C0 : xC p s m args c cc nL Ts own [] g a A) (hO : va_AOA .int s) (hQ : xQ g A Wd H) (hS : va_S A s.heap H locs) {index : Nat} (hcl : Cond.classLink own index "[[I" ∈ Ts) (hw : Cond.arrayClass .int ∈ Ts) (n k : Nat) (hn : n ≤ 1000) (hk : k ≤ 1000) (hcells : cells + (1 + n) ≤ R.cells) (hslots : slots + (n + n * k) ≤ R.slots) (hdg : decode cc pc = .ok (.multianewarray index 2, 4))
    (kk : ∀ (q : Nat) (r : Nat → Nat) (H1 : Heap), xQ g A ((Wd ++ [(q, xRa g n r)]) ++ xRows g n k r) H1 → va_S A s.heap H1 locs → W p l e R s m args below meth c H1 locs (cells + 1 + n) (slots + n + n * k) Q (F0 m (pc + 4) ls (.ref q :: rest))) : W p l e R s m args below meth c H locs cells slots Q (F0 m pc ls (.int (nI k) :: .int (nI n) :: rest)) := by
  have e2 : s.vm.findClass (FieldType.array .int).toString = some g.2.1 := (C0.hK.2 0 (g.2.1, .int) rfl).2
  have hP0 : va_P g.1 vwCl (Wd ++ va_pl [] (fun _ => xIa g k (fun _ => 0))) H := by
    show va_P g.1 vwCl (Wd ++ []) H
    rw [List.append_nil]; exact hQ.1
  have hD0 : va_D A (Wd ++ va_pl [] (fun _ => xIa g k (fun _ => 0))) := by
    show va_D A (Wd ++ [])
    rw [List.append_nil]; exact hQ.2
  refine va_mna (ty := .int) (z := (k, .inl (fun _ => 0))) C0.hx C0.hb C0.1.2.2.2.1 (C0.hts _ hcl) hO (C0.hts _ hw) e2 C0.hK hP0 hD0 hS C0.2.2.2.2.2 (fun h => (x_vpin (j := n) (n := n + 1) (by omega) (by omega)) (Or.inl h)) (fun h => (x_vpin (j := k) (n := k + 1) (by omega) (by omega)) (Or.inl h)) (nI_clamp (by omega)) (nI_clamp (by omega)) (by omega) (by simp only [componentBytes]; omega) (by omega) rfl rfl hcells hslots (fun cA => (arrV_new _ _ _)) hdg (fun q r cA H1 hr1 hr2 hK1 hP1 hD1 hS1 => ?_)
  have e1 : s.vm.findClass ("[" ++ (FieldType.array .int).toString) = some cA := (hK1.2 3 (cA, .array .int) rfl).2
  have e4 : s.vm.findClass ("[" ++ (FieldType.array .int).toString) = some g.2.2.2.1 := (C0.hK.2 2 (g.2.2.2.1, .array .int) rfl).2
  have e3 : cA = g.2.2.2.1 := Option.some.inj (e1.symm.trans e4)
  subst e3
  have hL : va_pl ([] ++ (List.range n).map r) (vr_up (fun _ => xIa g k (fun _ => 0)) ((List.range n).map r) (.inl (g.2.1, (k, .inl (fun _ => 0))))) = xRows g n k r := by
    unfold va_pl xRows
    rw [List.nil_append, List.map_map]
    apply List.map_congr_left
    intro i hi
    show (r i, vr_up _ _ _ (r i)) = _
    rw [vr_up_in (List.mem_map.mpr ⟨i, hi, rfl⟩)]
    rfl
  rw [hL] at hP1 hD1
  refine kk q r H1 ⟨?_, ?_⟩ hS1
  · rw [va_P_mem] at hP1 ⊢
    intro x hx
    rcases List.mem_append.mp hx with h | h
    · rcases List.mem_append.mp h with h | h
      · exact hP1 x (List.mem_append_left _ (List.mem_append_left _ h))
      · rw [List.mem_singleton] at h
        subst h
        have h9 := hP1 _ (List.mem_append_left _ (List.mem_append_right _ (List.mem_singleton.mpr rfl)))
        show H1[q]? = some (vp_cell _ _)
        have h9 : H1[q]? = some (vp_cell g.2.2.2.1 (n, .inr (.inr (.inr (.inr (fun i => if i < n then some (r i) else none)))))) := h9
        rw [h9]
        congr 1
        rw [vp_cell_q, vp_cell_q]
        exact arrV_congr (fun i hi => by simp [hi])
    · exact hP1 x (List.mem_append_right _ h)
  · rw [va_D_nd] at hD1 ⊢
    refine ⟨?_, fun x hx => ?_⟩
    · have := hD1.1
      rw [List.map_append, List.map_append] at this ⊢
      exact this
    · rcases List.mem_append.mp hx with h | h
      · rcases List.mem_append.mp h with h | h
        · exact hD1.2 x (List.mem_append_left _ (List.mem_append_left _ h))
        · rw [List.mem_singleton] at h
          subst h
          exact hD1.2 (q, .inl (g.2.2.2.1, (n, .inr (.inr (.inr (.inr (fun i => if i < n then some (r i) else none))))))) (List.mem_append_left _ (List.mem_append_right _ (List.mem_singleton.mpr rfl)))
      · exact hD1.2 x (List.mem_append_right _ h)
/-- a final field of the object that is being made -/
theorem x_putR (C0 : xC p s m args c cc nL Ts own [] g a A) (hin2 : meth.name = "<init>") {b ci N : Nat} {T : u_T} {fs : List Value} {Td : va_W} (hQ : xQ g A ((b, .inr (ci, fs)) :: Td) H) (hS : va_S A s.heap H locs) (hc : vwCl[ci]? = some (own, T, N)) (ty0 : Nat → FieldType) (hty : ∀ k, k < N → parseFieldDescriptor (T k).2.2.1 = some (ty0 k)) (hnm : ∀ a, a < N → ∀ b, b < N → a ≠ b → (T a).2.1 ≠ (T b).2.1) (k : Nat) (hk : k < N) (hin : ∀ w ∈ u_ws own T N, w ∈ Ts) {index : Nat} (hlink : Cond.fieldLink own index own (T k).2.1 (T k).2.2.1 ∈ Ts) (hdecl : (T k).1 = own) (hfin : (T k).2.2.2 = true) {q : Nat} {ty : FieldType} (hd : parseFieldDescriptor (T k).2.2.1 = some ty) (hn : narrow ty (.ref q) = .ref q) (hfit : fits ty (.ref q) = true) (hl : k < fs.length) (hdg : decode cc pc = .ok (.putfield index, 3))
    (kk : ∀ (H1 : Heap) (locs1 : List Loc), xQ g A ((b, .inr (ci, fs.set k (.ref q))) :: Td) H1 → va_S A s.heap H1 locs1 → W p l e R s m args below meth c H1 locs1 cells slots Q (F0 m (pc + 3) ls rest)) : W p l e R s m args below meth c H locs cells slots Q (F0 m pc ls (.ref q :: .ref b :: rest)) :=
  va_putF C0.hx C0.hb C0.hts hin ty0 hty hnm C0.1.2.2.2.1 C0.hK hQ.1 hQ.2 hS 0 rfl hc k hk (C0.hts _ hlink) (fun x h => by rw [hdecl] at h; exact h) hfin hin2 hdecl hd hn hfit hl hdg (fun H1 locs1 q1 q2 q3 => kk H1 locs1 ⟨q1, q2⟩ q3)
theorem x_putI (C0 : xC p s m args c cc nL Ts own [] g a A) {b ci N : Nat} {T : u_T} {fs : List Value} {Td : va_W} (hQ : xQ g A ((b, .inr (ci, fs)) :: Td) H) (hS : va_S A s.heap H locs) (hc : vwCl[ci]? = some (own, T, N)) (ty0 : Nat → FieldType) (hty : ∀ k, k < N → parseFieldDescriptor (T k).2.2.1 = some (ty0 k)) (hnm : ∀ a, a < N → ∀ b, b < N → a ≠ b → (T a).2.1 ≠ (T b).2.1) (k : Nat) (hk : k < N) (hin : ∀ w ∈ u_ws own T N, w ∈ Ts) {index : Nat} (hlink : Cond.fieldLink own index own (T k).2.1 (T k).2.2.1 ∈ Ts) (hdecl : (T k).1 = own) (hfin : (T k).2.2.2 = false) {v : Int32} (hd : parseFieldDescriptor (T k).2.2.1 = some .int) (hl : k < fs.length) (hdg : decode cc pc = .ok (.putfield index, 3))
    (kk : ∀ (H1 : Heap) (locs1 : List Loc), xQ g A ((b, .inr (ci, fs.set k (.int v))) :: Td) H1 → va_S A s.heap H1 locs1 → W p l e R s m args below meth c H1 locs1 cells slots Q (F0 m (pc + 3) ls rest)) : W p l e R s m args below meth c H locs cells slots Q (F0 m pc ls (.int v :: .ref b :: rest)) :=
  va_put C0.hx C0.hb C0.hts hin ty0 hty hnm C0.1.2.2.2.1 C0.hK hQ.1 hQ.2 hS 0 rfl hc k hk (C0.hts _ hlink) (fun x h => by rw [hdecl] at h; exact h) hfin hd rfl rfl hl hdg (fun H1 locs1 q1 q2 q3 => kk H1 locs1 ⟨q1, q2⟩ q3)
theorem x_getI (C0 : xC p s m args c cc nL Ts own [] g a A) {b ci N : Nat} {T : u_T} {fs : List Value} {Td : va_W} (hQ : xQ g A ((b, .inr (ci, fs)) :: Td) H) (hc : vwCl[ci]? = some (own, T, N)) (k : Nat) (hk : k < N) (hin : ∀ w ∈ u_ws own T N, w ∈ Ts) {index : Nat} (hlink : Cond.fieldLink own index own (T k).2.1 (T k).2.2.1 ∈ Ts) (hdecl : (T k).1 = own) {v : Value} (hv : fs[k]? = some v) (hdg : decode cc pc = .ok (.getfield index, 3))
    (kk : W p l e R s m args below meth c H locs cells slots Q (F0 m (pc + 3) ls (v :: rest))) : W p l e R s m args below meth c H locs cells slots Q (F0 m pc ls (.ref b :: rest)) :=
  va_get C0.hx C0.hb C0.hts hin C0.1.2.2.2.1 C0.hK hQ.1 0 rfl hc k hk (C0.hts _ hlink) (fun x h => by rw [hdecl] at h; exact h) hv hdg kk
/-- a place of an int array of a world by its list -/
theorem x_iastQ (C0 : xC p s m args c cc nL Ts own [] g a A) (hQ : xQ g A Wd H) (hS : va_S A s.heap H locs) (q0 : Nat) {b n : Nat} {r : Nat → Int32} (he : Wd[q0]? = some (b, xIa g n r)) {j : Nat} (hj : j < n) (hn : n < 2 ^ 31) {v : Int32} (hdg : decode cc pc = .ok (.iastore, 1))
    (kk : ∀ (H1 : Heap) (locs1 : List Loc), xQ g A (Wd.set q0 (b, xIa g n (upd r j v))) H1 → va_S A s.heap H1 locs1 → W p l e R s m args below meth c H1 locs1 cells slots Q (F0 m (pc + 1) ls rest)) : W p l e R s m args below meth c H locs cells slots Q (F0 m pc ls (.int v :: .int (nI j) :: .ref b :: rest)) := by
  refine va_iast C0.hx C0.hb C0.hK hQ.1 hQ.2 hS q0 0 he rfl (x_vpin hj hn) hdg (fun H1 locs1 q1 q2 q3 => ?_)
  rw [nI_clamp (Nat.lt_trans hj hn)] at q1 q2
  exact kk H1 locs1 ⟨q1, q2⟩ q3
end XINIT
/-- 0, 1, .. up to t, then zeros -/
def idR (t : Nat) : Nat → Int32 := fun j => if j < t then nI j else 0
theorem idR_up (t : Nat) : upd (idR t) t (nI t) = idR (t + 1) := by
  funext j
  unfold upd idR
  by_cases h : j = t
  · subst h; simp
  · by_cases h2 : j < t
    · simp [h, h2, Nat.lt_succ_of_lt h2]
    · simp [h, h2, show ¬ j < t + 1 by omega]
theorem idR_0 : idR 0 = fun _ => 0 := rfl
/-- a constructor that takes nothing -/
def xIn (l : Launch) (y : MethodName) (ws : List Cond) (rm : Room) (g : xG) (b ci : Nat) (fs0 : List Value) (S : Type) (Wd : S → va_W) (mc ms : Nat) : Prop :=
  ∀ sz : Nat, Met l y ws rm (va_Pc [.ref b] (fun U => U.heap.size = sz ∧ va_P g.1 vwCl [(b, .inr (ci, fs0))] U.heap ∧ va_K g.1 vwCl (xT g) U ∧ xN U ∧ va_AOA .int U)) (va_Qv (fun _ : S => True) (fun u t => xQ g (fun q => q = b ∨ sz ≤ q) (Wd u) t.heap) (fun q => q = b ∨ sz ≤ q)) mc ms (fun q => q = b ∨ sz ≤ q)
theorem xFBn {As : List Value} {g : xG} {sz b ci : Nat} {fs0 : List Value} : FrameBlind (va_Pc As (fun U => U.heap.size = sz ∧ va_P g.1 vwCl [(b, .inr (ci, fs0))] U.heap ∧ va_K g.1 vwCl (xT g) U ∧ xN U ∧ va_AOA .int U)) := fun v U g' mk q => by
  obtain ⟨q0, q9, q1, q2, q3, q4⟩ := q
  exact ⟨q0, q9, q1, va_K.moved (u := U) (U := U.calling g' mk v) (Vm.Alike.refl U.vm) q2, xN.same (s := U) (U := U.calling g' mk v) rfl q3, va_AOA.moved (s := U) (U := U.calling g' mk v) (Vm.Alike.refl U.vm) q4⟩
abbrev SX0 : Type := Nat × Nat × (Nat → Nat) × Nat × (Nat → Nat) × Nat × (Nat → Nat)
def wdX0 (g : xG) (b : Nat) (u : SX0) : va_W := (b, .inr (0, [.ref u.1, .ref u.2.1, .ref u.2.2.2.1, .ref u.2.2.2.2.2.1])) :: (((((((([] : va_W) ++ [(u.1, xIa g 4 (fun _ => 0))]) ++ [(u.2.1, xRa g 4 u.2.2.1)]) ++ xRows g 4 30 u.2.2.1) ++ [(u.2.2.2.1, xRa g 4 u.2.2.2.2.1)]) ++ xRows g 4 30 u.2.2.2.2.1) ++ [(u.2.2.2.2.2.1, xRa g 4 u.2.2.2.2.2.2)]) ++ xRows g 4 30 u.2.2.2.2.2.2)
set_option maxHeartbeats 4000000 in
set_option maxRecDepth 100000 in
theorem mtX0_init (l : Launch) (g : xG) (b : Nat) : xIn l yX0_init wsX0_init ({ frames := 1, cells := 16, slots := 376, locals := 12 }) g b 0 [.null, .null, .null, .null] SX0 (wdX0 g b) 16 376 := by
  intro sz
  refine Met.ofW (cc := cX0_init) (maxL := 1) (ret := none) (by decide) rfl ?_
  intro p e s m args below meth c s₁ B hml hv
  obtain ⟨rfl, hsz, hP, hK, hN, hO⟩ := hv
  have hr := B.returns
  have hlocks := B.notSynchronized
  subst hsz
  have hin2 : meth.name = "<init>" := (name_of_methodNamed B.named B.method).1
  generalize hAe : (fun q : Nat => q = b ∨ s.heap.size ≤ q) = A
  have hAb : A b := by rw [← hAe]; exact Or.inl rfl
  have hAf : ∀ q : Nat, s.heap.size ≤ q → A q := fun q h => by rw [← hAe]; exact Or.inr h
  have C0 : xC p s m _ c cX0_init 1 wsX0_init RX0 [] g (fun _ _ => 0) A := ⟨⟨B.exec, B.bytes, hml, findClass_of_methodNamed B.named, atoms_spec (ws := wsX0_init) B.pre⟩, hK, hN, (fun i j p q h => nomatch h), (fun n h => nomatch h), hAf⟩
  have hS : va_S A s.heap s.heap [] := va_S.rf
  have hQ : xQ g A ((b, .inr (0, [.null, .null, .null, .null])) :: ([] : va_W)) s.heap := ⟨hP, va_D_nd.mpr ⟨by simp, fun q hq => by rw [List.mem_singleton] at hq; rw [hq]; exact hAb⟩⟩
  have hl := lv_entry ([.ref b]) (n := 1) (Nat.le_of_ble_eq_true rfl)
  rw [lg_entry_eq]
  generalize (lg_sl ([.ref b]) ++ List.replicate (1 - (lg_sl ([.ref b])).length) Slot.unset).toArray = ls at hl ⊢
  have hl : lv_has ls 1 [(0, .ref b)] := hl
  have i_own : ∀ w ∈ u_ws RX0 TX0 4, w ∈ wsX0_init := by decide +kernel
  have hRc : 16 ≤ ({ frames := 1, cells := 16, slots := 376, locals := 12 } : Room).cells := Nat.le_refl _
  have hRs : 376 ≤ ({ frames := 1, cells := 16, slots := 376, locals := 12 } : Room).slots := Nat.le_refl _
  refine lv_aload_n C0.hx C0.hb dX0_init_0 rfl (lv_at hl 0 rfl) ?_
  refine W.objInit C0.hx C0.hb C0.1.2.2.2.1 (C0.hts (.methodLink RX0 3 objectInit) (by decide +kernel)) (C0.hts (.instanceMethod objectInit) (by decide +kernel)) (C0.hts (.code objectInit ⟨#[0xb1]⟩ 1 none) (List.mem_cons_of_mem _ ((List.mem_of_getElem? (i := 2) rfl)))) rfl (by rw [hml]; exact hl.1) rfl dX0_init_1 (Nat.le_of_ble_eq_true rfl) (Nat.le_of_ble_eq_true rfl) ?_
  refine W.eq (g2 := F0 m 4 ls []) rfl ?_
  refine lv_aload_n C0.hx C0.hb dX0_init_4 rfl (lv_at hl 0 rfl) ?_
  refine lv_iconst (v := nI 4) C0.hx C0.hb dX0_init_5 (by decide) ?_
  refine x_newi C0 hQ hS (by decide +kernel) 4 (by decide) (Nat.le_trans (Nat.le_of_ble_eq_true rfl) hRc) (Nat.le_trans (Nat.le_of_ble_eq_true rfl) hRs) dX0_init_6 (fun q6 H hQ hS => ?_)
  have hQ : xQ g A ((b, .inr (0, [.null, .null, .null, .null])) :: (([] : va_W) ++ [(q6, xIa g 4 (fun _ => 0))])) H := hQ
  refine x_putR C0 hin2 hQ hS rfl tyX0 tyX0_ok nmX0 0 (by decide) i_own (by decide +kernel) rfl rfl (ty := .array .int) rfl rfl rfl (Nat.le_of_ble_eq_true rfl) dX0_init_8 (fun H locs hQ hS => ?_)
  have hQ : xQ g A ((b, .inr (0, [.ref q6, .null, .null, .null])) :: (([] : va_W) ++ [(q6, xIa g 4 (fun _ => 0))])) H := hQ
  refine lv_aload_n C0.hx C0.hb dX0_init_11 rfl (lv_at hl 0 rfl) ?_
  refine lv_iconst (v := nI 4) C0.hx C0.hb dX0_init_12 (by decide) ?_
  refine lv_bipush (v := nI 30) C0.hx C0.hb dX0_init_13 (by decide) ?_
  refine x_mna C0 hO hQ hS (by decide +kernel) (by decide +kernel) 4 30 (by decide) (by decide) (Nat.le_trans (Nat.le_of_ble_eq_true rfl) hRc) (Nat.le_trans (Nat.le_of_ble_eq_true rfl) hRs) dX0_init_15 (fun q15 r15 H hQ hS => ?_)
  have hQ : xQ g A ((b, .inr (0, [.ref q6, .null, .null, .null])) :: (((([] : va_W) ++ [(q6, xIa g 4 (fun _ => 0))]) ++ [(q15, xRa g 4 r15)]) ++ xRows g 4 30 r15)) H := hQ
  refine x_putR C0 hin2 hQ hS rfl tyX0 tyX0_ok nmX0 1 (by decide) i_own (by decide +kernel) rfl rfl (ty := .array (.array .int)) rfl rfl rfl (Nat.le_of_ble_eq_true rfl) dX0_init_19 (fun H locs hQ hS => ?_)
  have hQ : xQ g A ((b, .inr (0, [.ref q6, .ref q15, .null, .null])) :: (((([] : va_W) ++ [(q6, xIa g 4 (fun _ => 0))]) ++ [(q15, xRa g 4 r15)]) ++ xRows g 4 30 r15)) H := hQ
  refine lv_aload_n C0.hx C0.hb dX0_init_22 rfl (lv_at hl 0 rfl) ?_
  refine lv_iconst (v := nI 4) C0.hx C0.hb dX0_init_23 (by decide) ?_
  refine lv_bipush (v := nI 30) C0.hx C0.hb dX0_init_24 (by decide) ?_
  refine x_mna C0 hO hQ hS (by decide +kernel) (by decide +kernel) 4 30 (by decide) (by decide) (Nat.le_trans (Nat.le_of_ble_eq_true rfl) hRc) (Nat.le_trans (Nat.le_of_ble_eq_true rfl) hRs) dX0_init_26 (fun q26 r26 H hQ hS => ?_)
  have hQ : xQ g A ((b, .inr (0, [.ref q6, .ref q15, .null, .null])) :: (((((([] : va_W) ++ [(q6, xIa g 4 (fun _ => 0))]) ++ [(q15, xRa g 4 r15)]) ++ xRows g 4 30 r15) ++ [(q26, xRa g 4 r26)]) ++ xRows g 4 30 r26)) H := hQ
  refine x_putR C0 hin2 hQ hS rfl tyX0 tyX0_ok nmX0 2 (by decide) i_own (by decide +kernel) rfl rfl (ty := .array (.array .int)) rfl rfl rfl (Nat.le_of_ble_eq_true rfl) dX0_init_30 (fun H locs hQ hS => ?_)
  have hQ : xQ g A ((b, .inr (0, [.ref q6, .ref q15, .ref q26, .null])) :: (((((([] : va_W) ++ [(q6, xIa g 4 (fun _ => 0))]) ++ [(q15, xRa g 4 r15)]) ++ xRows g 4 30 r15) ++ [(q26, xRa g 4 r26)]) ++ xRows g 4 30 r26)) H := hQ
  refine lv_aload_n C0.hx C0.hb dX0_init_33 rfl (lv_at hl 0 rfl) ?_
  refine lv_iconst (v := nI 4) C0.hx C0.hb dX0_init_34 (by decide) ?_
  refine lv_bipush (v := nI 30) C0.hx C0.hb dX0_init_35 (by decide) ?_
  refine x_mna C0 hO hQ hS (by decide +kernel) (by decide +kernel) 4 30 (by decide) (by decide) (Nat.le_trans (Nat.le_of_ble_eq_true rfl) hRc) (Nat.le_trans (Nat.le_of_ble_eq_true rfl) hRs) dX0_init_37 (fun q37 r37 H hQ hS => ?_)
  have hQ : xQ g A ((b, .inr (0, [.ref q6, .ref q15, .ref q26, .null])) :: (((((((([] : va_W) ++ [(q6, xIa g 4 (fun _ => 0))]) ++ [(q15, xRa g 4 r15)]) ++ xRows g 4 30 r15) ++ [(q26, xRa g 4 r26)]) ++ xRows g 4 30 r26) ++ [(q37, xRa g 4 r37)]) ++ xRows g 4 30 r37)) H := hQ
  refine x_putR C0 hin2 hQ hS rfl tyX0 tyX0_ok nmX0 3 (by decide) i_own (by decide +kernel) rfl rfl (ty := .array (.array .int)) rfl rfl rfl (Nat.le_of_ble_eq_true rfl) dX0_init_41 (fun H locs hQ hS => ?_)
  have hQ : xQ g A ((b, .inr (0, [.ref q6, .ref q15, .ref q26, .ref q37])) :: (((((((([] : va_W) ++ [(q6, xIa g 4 (fun _ => 0))]) ++ [(q15, xRa g 4 r15)]) ++ xRows g 4 30 r15) ++ [(q26, xRa g 4 r26)]) ++ xRows g 4 30 r26) ++ [(q37, xRa g 4 r37)]) ++ xRows g 4 30 r37)) H := hQ
  exact W.vret C0.hx C0.hb hr (fun t ht hW => ⟨⟨⟨q6, q15, r15, q26, r26, q37, r37⟩, rfl, trivial, by show xQ g A _ t.heap; rw [ht]; exact hQ⟩, hS.F ht⟩) hS.2.2 dX0_init_44
abbrev SX1 : Type := Nat × (Nat → Nat) × Nat × (Nat → Nat) × Nat × Nat
def wdX1 (g : xG) (b : Nat) (u : SX1) : va_W := (b, .inr (1, [.ref u.1, .ref u.2.2.1, .ref u.2.2.2.2.1, .ref u.2.2.2.2.2])) :: ((((((([] : va_W) ++ [(u.1, xRa g 60 u.2.1)]) ++ xRows g 60 4 u.2.1) ++ [(u.2.2.1, xRa g 60 u.2.2.2.1)]) ++ xRows g 60 4 u.2.2.2.1) ++ [(u.2.2.2.2.1, xIa g 60 (fun _ => 0))]) ++ [(u.2.2.2.2.2, xIa g 60 (fun _ => 0))])
set_option maxHeartbeats 4000000 in
set_option maxRecDepth 100000 in
theorem mtX1_init (l : Launch) (g : xG) (b : Nat) : xIn l yX1_init wsX1_init ({ frames := 1, cells := 124, slots := 720, locals := 12 }) g b 1 [.null, .null, .null, .null] SX1 (wdX1 g b) 124 720 := by
  intro sz
  refine Met.ofW (cc := cX1_init) (maxL := 1) (ret := none) (by decide) rfl ?_
  intro p e s m args below meth c s₁ B hml hv
  obtain ⟨rfl, hsz, hP, hK, hN, hO⟩ := hv
  have hr := B.returns
  have hlocks := B.notSynchronized
  subst hsz
  have hin2 : meth.name = "<init>" := (name_of_methodNamed B.named B.method).1
  generalize hAe : (fun q : Nat => q = b ∨ s.heap.size ≤ q) = A
  have hAb : A b := by rw [← hAe]; exact Or.inl rfl
  have hAf : ∀ q : Nat, s.heap.size ≤ q → A q := fun q h => by rw [← hAe]; exact Or.inr h
  have C0 : xC p s m _ c cX1_init 1 wsX1_init RX1 [] g (fun _ _ => 0) A := ⟨⟨B.exec, B.bytes, hml, findClass_of_methodNamed B.named, atoms_spec (ws := wsX1_init) B.pre⟩, hK, hN, (fun i j p q h => nomatch h), (fun n h => nomatch h), hAf⟩
  have hS : va_S A s.heap s.heap [] := va_S.rf
  have hQ : xQ g A ((b, .inr (1, [.null, .null, .null, .null])) :: ([] : va_W)) s.heap := ⟨hP, va_D_nd.mpr ⟨by simp, fun q hq => by rw [List.mem_singleton] at hq; rw [hq]; exact hAb⟩⟩
  have hl := lv_entry ([.ref b]) (n := 1) (Nat.le_of_ble_eq_true rfl)
  rw [lg_entry_eq]
  generalize (lg_sl ([.ref b]) ++ List.replicate (1 - (lg_sl ([.ref b])).length) Slot.unset).toArray = ls at hl ⊢
  have hl : lv_has ls 1 [(0, .ref b)] := hl
  have i_own : ∀ w ∈ u_ws RX1 TX1 4, w ∈ wsX1_init := by decide +kernel
  have hRc : 124 ≤ ({ frames := 1, cells := 124, slots := 720, locals := 12 } : Room).cells := Nat.le_refl _
  have hRs : 720 ≤ ({ frames := 1, cells := 124, slots := 720, locals := 12 } : Room).slots := Nat.le_refl _
  refine lv_aload_n C0.hx C0.hb dX1_init_0 rfl (lv_at hl 0 rfl) ?_
  refine W.objInit C0.hx C0.hb C0.1.2.2.2.1 (C0.hts (.methodLink RX1 3 objectInit) (by decide +kernel)) (C0.hts (.instanceMethod objectInit) (by decide +kernel)) (C0.hts (.code objectInit ⟨#[0xb1]⟩ 1 none) (List.mem_cons_of_mem _ ((List.mem_of_getElem? (i := 2) rfl)))) rfl (by rw [hml]; exact hl.1) rfl dX1_init_1 (Nat.le_of_ble_eq_true rfl) (Nat.le_of_ble_eq_true rfl) ?_
  refine W.eq (g2 := F0 m 4 ls []) rfl ?_
  refine lv_aload_n C0.hx C0.hb dX1_init_4 rfl (lv_at hl 0 rfl) ?_
  refine lv_bipush (v := nI 60) C0.hx C0.hb dX1_init_5 (by decide) ?_
  refine lv_iconst (v := nI 4) C0.hx C0.hb dX1_init_7 (by decide) ?_
  refine x_mna C0 hO hQ hS (by decide +kernel) (by decide +kernel) 60 4 (by decide) (by decide) (Nat.le_trans (Nat.le_of_ble_eq_true rfl) hRc) (Nat.le_trans (Nat.le_of_ble_eq_true rfl) hRs) dX1_init_8 (fun q8 r8 H hQ hS => ?_)
  have hQ : xQ g A ((b, .inr (1, [.null, .null, .null, .null])) :: ((([] : va_W) ++ [(q8, xRa g 60 r8)]) ++ xRows g 60 4 r8)) H := hQ
  refine x_putR C0 hin2 hQ hS rfl tyX1 tyX1_ok nmX1 0 (by decide) i_own (by decide +kernel) rfl rfl (ty := .array (.array .int)) rfl rfl rfl (Nat.le_of_ble_eq_true rfl) dX1_init_12 (fun H locs hQ hS => ?_)
  have hQ : xQ g A ((b, .inr (1, [.ref q8, .null, .null, .null])) :: ((([] : va_W) ++ [(q8, xRa g 60 r8)]) ++ xRows g 60 4 r8)) H := hQ
  refine lv_aload_n C0.hx C0.hb dX1_init_15 rfl (lv_at hl 0 rfl) ?_
  refine lv_bipush (v := nI 60) C0.hx C0.hb dX1_init_16 (by decide) ?_
  refine lv_iconst (v := nI 4) C0.hx C0.hb dX1_init_18 (by decide) ?_
  refine x_mna C0 hO hQ hS (by decide +kernel) (by decide +kernel) 60 4 (by decide) (by decide) (Nat.le_trans (Nat.le_of_ble_eq_true rfl) hRc) (Nat.le_trans (Nat.le_of_ble_eq_true rfl) hRs) dX1_init_19 (fun q19 r19 H hQ hS => ?_)
  have hQ : xQ g A ((b, .inr (1, [.ref q8, .null, .null, .null])) :: ((((([] : va_W) ++ [(q8, xRa g 60 r8)]) ++ xRows g 60 4 r8) ++ [(q19, xRa g 60 r19)]) ++ xRows g 60 4 r19)) H := hQ
  refine x_putR C0 hin2 hQ hS rfl tyX1 tyX1_ok nmX1 1 (by decide) i_own (by decide +kernel) rfl rfl (ty := .array (.array .int)) rfl rfl rfl (Nat.le_of_ble_eq_true rfl) dX1_init_23 (fun H locs hQ hS => ?_)
  have hQ : xQ g A ((b, .inr (1, [.ref q8, .ref q19, .null, .null])) :: ((((([] : va_W) ++ [(q8, xRa g 60 r8)]) ++ xRows g 60 4 r8) ++ [(q19, xRa g 60 r19)]) ++ xRows g 60 4 r19)) H := hQ
  refine lv_aload_n C0.hx C0.hb dX1_init_26 rfl (lv_at hl 0 rfl) ?_
  refine lv_bipush (v := nI 60) C0.hx C0.hb dX1_init_27 (by decide) ?_
  refine x_newi C0 hQ hS (by decide +kernel) 60 (by decide) (Nat.le_trans (Nat.le_of_ble_eq_true rfl) hRc) (Nat.le_trans (Nat.le_of_ble_eq_true rfl) hRs) dX1_init_29 (fun q29 H hQ hS => ?_)
  have hQ : xQ g A ((b, .inr (1, [.ref q8, .ref q19, .null, .null])) :: (((((([] : va_W) ++ [(q8, xRa g 60 r8)]) ++ xRows g 60 4 r8) ++ [(q19, xRa g 60 r19)]) ++ xRows g 60 4 r19) ++ [(q29, xIa g 60 (fun _ => 0))])) H := hQ
  refine x_putR C0 hin2 hQ hS rfl tyX1 tyX1_ok nmX1 2 (by decide) i_own (by decide +kernel) rfl rfl (ty := .array .int) rfl rfl rfl (Nat.le_of_ble_eq_true rfl) dX1_init_31 (fun H locs hQ hS => ?_)
  have hQ : xQ g A ((b, .inr (1, [.ref q8, .ref q19, .ref q29, .null])) :: (((((([] : va_W) ++ [(q8, xRa g 60 r8)]) ++ xRows g 60 4 r8) ++ [(q19, xRa g 60 r19)]) ++ xRows g 60 4 r19) ++ [(q29, xIa g 60 (fun _ => 0))])) H := hQ
  refine lv_aload_n C0.hx C0.hb dX1_init_34 rfl (lv_at hl 0 rfl) ?_
  refine lv_bipush (v := nI 60) C0.hx C0.hb dX1_init_35 (by decide) ?_
  refine x_newi C0 hQ hS (by decide +kernel) 60 (by decide) (Nat.le_trans (Nat.le_of_ble_eq_true rfl) hRc) (Nat.le_trans (Nat.le_of_ble_eq_true rfl) hRs) dX1_init_37 (fun q37 H hQ hS => ?_)
  have hQ : xQ g A ((b, .inr (1, [.ref q8, .ref q19, .ref q29, .null])) :: ((((((([] : va_W) ++ [(q8, xRa g 60 r8)]) ++ xRows g 60 4 r8) ++ [(q19, xRa g 60 r19)]) ++ xRows g 60 4 r19) ++ [(q29, xIa g 60 (fun _ => 0))]) ++ [(q37, xIa g 60 (fun _ => 0))])) H := hQ
  refine x_putR C0 hin2 hQ hS rfl tyX1 tyX1_ok nmX1 3 (by decide) i_own (by decide +kernel) rfl rfl (ty := .array .int) rfl rfl rfl (Nat.le_of_ble_eq_true rfl) dX1_init_39 (fun H locs hQ hS => ?_)
  have hQ : xQ g A ((b, .inr (1, [.ref q8, .ref q19, .ref q29, .ref q37])) :: ((((((([] : va_W) ++ [(q8, xRa g 60 r8)]) ++ xRows g 60 4 r8) ++ [(q19, xRa g 60 r19)]) ++ xRows g 60 4 r19) ++ [(q29, xIa g 60 (fun _ => 0))]) ++ [(q37, xIa g 60 (fun _ => 0))])) H := hQ
  exact W.vret C0.hx C0.hb hr (fun t ht hW => ⟨⟨⟨q8, r8, q19, r19, q29, q37⟩, rfl, trivial, by show xQ g A _ t.heap; rw [ht]; exact hQ⟩, hS.F ht⟩) hS.2.2 dX1_init_42
abbrev SX2 : Type := Nat × Nat × Nat × (Nat → Nat) × Nat
def wdX2 (g : xG) (b : Nat) (u : SX2) : va_W := (b, .inr (2, [.int (nI 0), .ref u.1, .ref u.2.1, .ref u.2.2.1, .ref u.2.2.2.2])) :: (((((([] : va_W) ++ [(u.1, xIa g 60 (fun _ => 0))]) ++ [(u.2.1, xIa g 60 (fun _ => 0))]) ++ [(u.2.2.1, xRa g 60 u.2.2.2.1)]) ++ xRows g 60 4 u.2.2.2.1) ++ [(u.2.2.2.2, xIa g 60 (fun _ => 0))])
set_option maxHeartbeats 4000000 in
set_option maxRecDepth 100000 in
theorem mtX2_init (l : Launch) (g : xG) (b : Nat) : xIn l yX2_init wsX2_init ({ frames := 1, cells := 64, slots := 480, locals := 12 }) g b 2 [.int 0, .null, .null, .null, .null] SX2 (wdX2 g b) 64 480 := by
  intro sz
  refine Met.ofW (cc := cX2_init) (maxL := 1) (ret := none) (by decide) rfl ?_
  intro p e s m args below meth c s₁ B hml hv
  obtain ⟨rfl, hsz, hP, hK, hN, hO⟩ := hv
  have hr := B.returns
  have hlocks := B.notSynchronized
  subst hsz
  have hin2 : meth.name = "<init>" := (name_of_methodNamed B.named B.method).1
  generalize hAe : (fun q : Nat => q = b ∨ s.heap.size ≤ q) = A
  have hAb : A b := by rw [← hAe]; exact Or.inl rfl
  have hAf : ∀ q : Nat, s.heap.size ≤ q → A q := fun q h => by rw [← hAe]; exact Or.inr h
  have C0 : xC p s m _ c cX2_init 1 wsX2_init RX2 [] g (fun _ _ => 0) A := ⟨⟨B.exec, B.bytes, hml, findClass_of_methodNamed B.named, atoms_spec (ws := wsX2_init) B.pre⟩, hK, hN, (fun i j p q h => nomatch h), (fun n h => nomatch h), hAf⟩
  have hS : va_S A s.heap s.heap [] := va_S.rf
  have hQ : xQ g A ((b, .inr (2, [.int 0, .null, .null, .null, .null])) :: ([] : va_W)) s.heap := ⟨hP, va_D_nd.mpr ⟨by simp, fun q hq => by rw [List.mem_singleton] at hq; rw [hq]; exact hAb⟩⟩
  have hl := lv_entry ([.ref b]) (n := 1) (Nat.le_of_ble_eq_true rfl)
  rw [lg_entry_eq]
  generalize (lg_sl ([.ref b]) ++ List.replicate (1 - (lg_sl ([.ref b])).length) Slot.unset).toArray = ls at hl ⊢
  have hl : lv_has ls 1 [(0, .ref b)] := hl
  have i_own : ∀ w ∈ u_ws RX2 TX2 5, w ∈ wsX2_init := by decide +kernel
  have hRc : 64 ≤ ({ frames := 1, cells := 64, slots := 480, locals := 12 } : Room).cells := Nat.le_refl _
  have hRs : 480 ≤ ({ frames := 1, cells := 64, slots := 480, locals := 12 } : Room).slots := Nat.le_refl _
  refine lv_aload_n C0.hx C0.hb dX2_init_0 rfl (lv_at hl 0 rfl) ?_
  refine W.objInit C0.hx C0.hb C0.1.2.2.2.1 (C0.hts (.methodLink RX2 3 objectInit) (by decide +kernel)) (C0.hts (.instanceMethod objectInit) (by decide +kernel)) (C0.hts (.code objectInit ⟨#[0xb1]⟩ 1 none) (List.mem_cons_of_mem _ ((List.mem_of_getElem? (i := 2) rfl)))) rfl (by rw [hml]; exact hl.1) rfl dX2_init_1 (Nat.le_of_ble_eq_true rfl) (Nat.le_of_ble_eq_true rfl) ?_
  refine W.eq (g2 := F0 m 4 ls []) rfl ?_
  refine lv_aload_n C0.hx C0.hb dX2_init_4 rfl (lv_at hl 0 rfl) ?_
  refine lv_iconst (v := nI 0) C0.hx C0.hb dX2_init_5 (by decide) ?_
  refine x_putI C0 hQ hS rfl tyX2 tyX2_ok nmX2 0 (by decide) i_own (by decide +kernel) rfl rfl rfl (Nat.le_of_ble_eq_true rfl) dX2_init_6 (fun H locs hQ hS => ?_)
  have hQ : xQ g A ((b, .inr (2, [.int (nI 0), .null, .null, .null, .null])) :: ([] : va_W)) H := hQ
  refine lv_aload_n C0.hx C0.hb dX2_init_9 rfl (lv_at hl 0 rfl) ?_
  refine lv_bipush (v := nI 60) C0.hx C0.hb dX2_init_10 (by decide) ?_
  refine x_newi C0 hQ hS (by decide +kernel) 60 (by decide) (Nat.le_trans (Nat.le_of_ble_eq_true rfl) hRc) (Nat.le_trans (Nat.le_of_ble_eq_true rfl) hRs) dX2_init_12 (fun q12 H hQ hS => ?_)
  have hQ : xQ g A ((b, .inr (2, [.int (nI 0), .null, .null, .null, .null])) :: (([] : va_W) ++ [(q12, xIa g 60 (fun _ => 0))])) H := hQ
  refine x_putR C0 hin2 hQ hS rfl tyX2 tyX2_ok nmX2 1 (by decide) i_own (by decide +kernel) rfl rfl (ty := .array .int) rfl rfl rfl (Nat.le_of_ble_eq_true rfl) dX2_init_14 (fun H locs hQ hS => ?_)
  have hQ : xQ g A ((b, .inr (2, [.int (nI 0), .ref q12, .null, .null, .null])) :: (([] : va_W) ++ [(q12, xIa g 60 (fun _ => 0))])) H := hQ
  refine lv_aload_n C0.hx C0.hb dX2_init_17 rfl (lv_at hl 0 rfl) ?_
  refine lv_bipush (v := nI 60) C0.hx C0.hb dX2_init_18 (by decide) ?_
  refine x_newi C0 hQ hS (by decide +kernel) 60 (by decide) (Nat.le_trans (Nat.le_of_ble_eq_true rfl) hRc) (Nat.le_trans (Nat.le_of_ble_eq_true rfl) hRs) dX2_init_20 (fun q20 H hQ hS => ?_)
  have hQ : xQ g A ((b, .inr (2, [.int (nI 0), .ref q12, .null, .null, .null])) :: ((([] : va_W) ++ [(q12, xIa g 60 (fun _ => 0))]) ++ [(q20, xIa g 60 (fun _ => 0))])) H := hQ
  refine x_putR C0 hin2 hQ hS rfl tyX2 tyX2_ok nmX2 2 (by decide) i_own (by decide +kernel) rfl rfl (ty := .array .int) rfl rfl rfl (Nat.le_of_ble_eq_true rfl) dX2_init_22 (fun H locs hQ hS => ?_)
  have hQ : xQ g A ((b, .inr (2, [.int (nI 0), .ref q12, .ref q20, .null, .null])) :: ((([] : va_W) ++ [(q12, xIa g 60 (fun _ => 0))]) ++ [(q20, xIa g 60 (fun _ => 0))])) H := hQ
  refine lv_aload_n C0.hx C0.hb dX2_init_25 rfl (lv_at hl 0 rfl) ?_
  refine lv_bipush (v := nI 60) C0.hx C0.hb dX2_init_26 (by decide) ?_
  refine lv_iconst (v := nI 4) C0.hx C0.hb dX2_init_28 (by decide) ?_
  refine x_mna C0 hO hQ hS (by decide +kernel) (by decide +kernel) 60 4 (by decide) (by decide) (Nat.le_trans (Nat.le_of_ble_eq_true rfl) hRc) (Nat.le_trans (Nat.le_of_ble_eq_true rfl) hRs) dX2_init_29 (fun q29 r29 H hQ hS => ?_)
  have hQ : xQ g A ((b, .inr (2, [.int (nI 0), .ref q12, .ref q20, .null, .null])) :: ((((([] : va_W) ++ [(q12, xIa g 60 (fun _ => 0))]) ++ [(q20, xIa g 60 (fun _ => 0))]) ++ [(q29, xRa g 60 r29)]) ++ xRows g 60 4 r29)) H := hQ
  refine x_putR C0 hin2 hQ hS rfl tyX2 tyX2_ok nmX2 3 (by decide) i_own (by decide +kernel) rfl rfl (ty := .array (.array .int)) rfl rfl rfl (Nat.le_of_ble_eq_true rfl) dX2_init_33 (fun H locs hQ hS => ?_)
  have hQ : xQ g A ((b, .inr (2, [.int (nI 0), .ref q12, .ref q20, .ref q29, .null])) :: ((((([] : va_W) ++ [(q12, xIa g 60 (fun _ => 0))]) ++ [(q20, xIa g 60 (fun _ => 0))]) ++ [(q29, xRa g 60 r29)]) ++ xRows g 60 4 r29)) H := hQ
  refine lv_aload_n C0.hx C0.hb dX2_init_36 rfl (lv_at hl 0 rfl) ?_
  refine lv_bipush (v := nI 60) C0.hx C0.hb dX2_init_37 (by decide) ?_
  refine x_newi C0 hQ hS (by decide +kernel) 60 (by decide) (Nat.le_trans (Nat.le_of_ble_eq_true rfl) hRc) (Nat.le_trans (Nat.le_of_ble_eq_true rfl) hRs) dX2_init_39 (fun q39 H hQ hS => ?_)
  have hQ : xQ g A ((b, .inr (2, [.int (nI 0), .ref q12, .ref q20, .ref q29, .null])) :: (((((([] : va_W) ++ [(q12, xIa g 60 (fun _ => 0))]) ++ [(q20, xIa g 60 (fun _ => 0))]) ++ [(q29, xRa g 60 r29)]) ++ xRows g 60 4 r29) ++ [(q39, xIa g 60 (fun _ => 0))])) H := hQ
  refine x_putR C0 hin2 hQ hS rfl tyX2 tyX2_ok nmX2 4 (by decide) i_own (by decide +kernel) rfl rfl (ty := .array .int) rfl rfl rfl (Nat.le_of_ble_eq_true rfl) dX2_init_41 (fun H locs hQ hS => ?_)
  have hQ : xQ g A ((b, .inr (2, [.int (nI 0), .ref q12, .ref q20, .ref q29, .ref q39])) :: (((((([] : va_W) ++ [(q12, xIa g 60 (fun _ => 0))]) ++ [(q20, xIa g 60 (fun _ => 0))]) ++ [(q29, xRa g 60 r29)]) ++ xRows g 60 4 r29) ++ [(q39, xIa g 60 (fun _ => 0))])) H := hQ
  exact W.vret C0.hx C0.hb hr (fun t ht hW => ⟨⟨⟨q12, q20, q29, r29, q39⟩, rfl, trivial, by show xQ g A _ t.heap; rw [ht]; exact hQ⟩, hS.F ht⟩) hS.2.2 dX2_init_44
abbrev SX3 : Type := Nat × Nat
def wdX3 (g : xG) (b : Nat) (u : SX3) : va_W := (b, .inr (3, [.ref u.1, .ref u.2, .int (nI 2)])) :: [(u.1, xZa g 30 (fun _ => 0)), (u.2, xIa g 30 (idR 30))]
set_option maxHeartbeats 4000000 in
set_option maxRecDepth 100000 in
theorem mtX3_init (l : Launch) (g : xG) (b : Nat) : xIn l yX3_init wsX3_init ({ frames := 1, cells := 2, slots := 60, locals := 12 }) g b 3 [.null, .null, .int 0] SX3 (wdX3 g b) 2 60 := by
  intro sz
  refine Met.ofW (cc := cX3_init) (maxL := 2) (ret := none) (by decide) rfl ?_
  intro p e s m args below meth c s₁ B hml hv
  obtain ⟨rfl, hsz, hP, hK, hN, hO⟩ := hv
  have hr := B.returns
  have hlocks := B.notSynchronized
  subst hsz
  have hin2 : meth.name = "<init>" := (name_of_methodNamed B.named B.method).1
  generalize hAe : (fun q : Nat => q = b ∨ s.heap.size ≤ q) = A
  have hAb : A b := by rw [← hAe]; exact Or.inl rfl
  have hAf : ∀ q : Nat, s.heap.size ≤ q → A q := fun q h => by rw [← hAe]; exact Or.inr h
  have C0 : xC p s m _ c cX3_init 2 wsX3_init RX3 [] g (fun _ _ => 0) A := ⟨⟨B.exec, B.bytes, hml, findClass_of_methodNamed B.named, atoms_spec (ws := wsX3_init) B.pre⟩, hK, hN, (fun i j p q h => nomatch h), (fun n h => nomatch h), hAf⟩
  have hS : va_S A s.heap s.heap [] := va_S.rf
  have hQ : xQ g A ((b, .inr (3, [.null, .null, .int 0])) :: ([] : va_W)) s.heap := ⟨hP, va_D_nd.mpr ⟨by simp, fun q hq => by rw [List.mem_singleton] at hq; rw [hq]; exact hAb⟩⟩
  have hl := lv_entry ([.ref b]) (n := 2) (Nat.le_of_ble_eq_true rfl)
  rw [lg_entry_eq]
  generalize (lg_sl ([.ref b]) ++ List.replicate (2 - (lg_sl ([.ref b])).length) Slot.unset).toArray = ls at hl ⊢
  have hl : lv_has ls 2 [(0, .ref b)] := hl
  have i_own : ∀ w ∈ u_ws RX3 TX3 3, w ∈ wsX3_init := by decide +kernel
  have hRc : 2 ≤ ({ frames := 1, cells := 2, slots := 60, locals := 12 } : Room).cells := Nat.le_refl _
  have hRs : 60 ≤ ({ frames := 1, cells := 2, slots := 60, locals := 12 } : Room).slots := Nat.le_refl _
  refine lv_aload_n C0.hx C0.hb dX3_init_0 rfl (lv_at hl 0 rfl) ?_
  refine W.objInit C0.hx C0.hb C0.1.2.2.2.1 (C0.hts (.methodLink RX3 3 objectInit) (by decide +kernel)) (C0.hts (.instanceMethod objectInit) (by decide +kernel)) (C0.hts (.code objectInit ⟨#[0xb1]⟩ 1 none) (List.mem_cons_of_mem _ ((List.mem_of_getElem? (i := 2) rfl)))) rfl (by rw [hml]; exact hl.1) rfl dX3_init_1 (Nat.le_of_ble_eq_true rfl) (Nat.le_of_ble_eq_true rfl) ?_
  refine W.eq (g2 := F0 m 4 ls []) rfl ?_
  refine lv_aload_n C0.hx C0.hb dX3_init_4 rfl (lv_at hl 0 rfl) ?_
  refine lv_bipush (v := nI 30) C0.hx C0.hb dX3_init_5 (by decide) ?_
  refine x_newz C0 hQ hS (by decide +kernel) 30 (by decide) (Nat.le_trans (Nat.le_of_ble_eq_true rfl) hRc) (Nat.le_trans (Nat.le_of_ble_eq_true rfl) hRs) dX3_init_7 (fun q7 H hQ hS => ?_)
  have hQ : xQ g A ((b, .inr (3, [.null, .null, .int 0])) :: [(q7, xZa g 30 (fun _ => 0))]) H := hQ
  refine x_putR C0 hin2 hQ hS rfl tyX3 tyX3_ok nmX3 0 (by decide) i_own (by decide +kernel) rfl rfl (ty := .array .boolean) rfl rfl rfl (Nat.le_of_ble_eq_true rfl) dX3_init_9 (fun H locs hQ hS => ?_)
  have hQ : xQ g A ((b, .inr (3, [.ref q7, .null, .int 0])) :: [(q7, xZa g 30 (fun _ => 0))]) H := hQ
  refine lv_aload_n C0.hx C0.hb dX3_init_12 rfl (lv_at hl 0 rfl) ?_
  refine lv_bipush (v := nI 30) C0.hx C0.hb dX3_init_13 (by decide) ?_
  refine x_newi C0 hQ hS (by decide +kernel) 30 (by decide) (Nat.le_trans (Nat.le_of_ble_eq_true rfl) hRc) (Nat.le_trans (Nat.le_of_ble_eq_true rfl) hRs) dX3_init_15 (fun q15 H hQ hS => ?_)
  have hQ : xQ g A ((b, .inr (3, [.ref q7, .null, .int 0])) :: [(q7, xZa g 30 (fun _ => 0)), (q15, xIa g 30 (fun _ => 0))]) H := hQ
  refine x_putR C0 hin2 hQ hS rfl tyX3 tyX3_ok nmX3 1 (by decide) i_own (by decide +kernel) rfl rfl (ty := .array .int) rfl rfl rfl (Nat.le_of_ble_eq_true rfl) dX3_init_17 (fun H locs hQ hS => ?_)
  have hQ : xQ g A ((b, .inr (3, [.ref q7, .ref q15, .int 0])) :: [(q7, xZa g 30 (fun _ => 0)), (q15, xIa g 30 (fun _ => 0))]) H := hQ
  refine lv_aload_n C0.hx C0.hb dX3_init_20 rfl (lv_at hl 0 rfl) ?_
  refine lv_iconst (v := nI 2) C0.hx C0.hb dX3_init_21 (by decide) ?_
  refine x_putI C0 hQ hS rfl tyX3 tyX3_ok nmX3 2 (by decide) i_own (by decide +kernel) rfl rfl rfl (Nat.le_of_ble_eq_true rfl) dX3_init_22 (fun H locs hQ hS => ?_)
  have hQ : xQ g A ((b, .inr (3, [.ref q7, .ref q15, .int (nI 2)])) :: [(q7, xZa g 30 (fun _ => 0)), (q15, xIa g 30 (fun _ => 0))]) H := hQ
  refine lv_iconst (v := nI 0) C0.hx C0.hb dX3_init_25 (by decide) ?_
  refine lv_istore_n (lv' := [(1, .int (nI 0)), (0, .ref b)]) C0.hx C0.hb dX3_init_26 rfl hl (by decide) rfl (fun ls hl => ?_)
  have hQ : xQ g A ((b, .inr (3, [.ref q7, .ref q15, .int (nI 2)])) :: [(q7, xZa g 30 (fun _ => 0)), (q15, xIa g 30 (idR 0))]) H := hQ
  refine x_loopW (α := Nat) (fun t => 30 - t) (fun t H locs ls => xQ g A ((b, .inr (3, [.ref q7, .ref q15, .int (nI 2)])) :: [(q7, xZa g 30 (fun _ => 0)), (q15, xIa g 30 (idR t))]) H ∧ va_S A s.heap H locs ∧ t ≤ 30 ∧ lv_has ls 2 [(1, .int (nI t)), (0, .ref b)]) ?_ 0 ⟨hQ, hS, (by omega), hl⟩
  rintro t H locs ls ⟨hQ, hS, ht, hl⟩ ih
  refine lv_iload_n C0.hx C0.hb dX3_init_27 rfl (lv_at hl 0 rfl) ?_
  refine lv_bipush (v := nI 30) C0.hx C0.hb dX3_init_28 (by decide) ?_
  refine x_icmp_ge (tgt := 46) C0.hx C0.hb (by omega) (by omega) dX3_init_30 (by decide) (fun ct => ?_) (fun ct => ?_)
  · have e : t = 30 := by omega
    subst e
    exact W.vret C0.hx C0.hb hr (fun t ht hW => ⟨⟨⟨q7, q15⟩, rfl, trivial, by show xQ g A _ t.heap; rw [ht]; exact hQ⟩, hS.F ht⟩) hS.2.2 dX3_init_46
  · refine lv_aload_n C0.hx C0.hb dX3_init_33 rfl (lv_at hl 1 rfl) ?_
    refine x_getI C0 hQ rfl 1 (by decide) i_own (by decide +kernel) rfl rfl dX3_init_34 ?_
    refine lv_iload_n C0.hx C0.hb dX3_init_37 rfl (lv_at hl 0 rfl) ?_
    refine lv_iload_n C0.hx C0.hb dX3_init_38 rfl (lv_at hl 0 rfl) ?_
    refine x_iastQ C0 hQ hS 2 (r := idR t) rfl (by omega) (by omega) dX3_init_39 (fun H locs hQ hS => ?_)
    rw [idR_up] at hQ
    refine lv_iinc (v := nI (t + 1)) (lv' := [(1, .int (nI (t + 1))), (0, .ref b)]) C0.hx C0.hb dX3_init_40 hl (k := 0) rfl (nI_1 t) (by decide) rfl (fun ls hl => ?_)
    refine lv_goto (tgt := 27) C0.hx C0.hb dX3_init_43 (by decide) ?_
    exact ih (t + 1) H locs ls ⟨hQ, hS, by omega, hl⟩ (by omega)

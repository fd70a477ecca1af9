/-! ===== the heap in my words: a value tau tag row place : Int32 for every int field and array; tags 0 to 25 the class, 30 to 39 the law's ten arrays q m f t o v u a y k ===== -/
abbrev xG : Type := va_G × ClassId × ClassId × ClassId × ClassId
abbrev xS : Type := Nat → Nat → Nat → Int32
abbrev xAd : Type := Nat → Nat → Nat
abbrev xNL : Type := List (Nat × Nat)
def xT (g : xG) : List (ClassId × FieldType) := [(g.2.1, .int), (g.2.2.1, .boolean), (g.2.2.2.1, .array .int)]
def xIa (g : xG) (n : Nat) (r : Nat → Int32) : va_E := .inl (g.2.1, n, .inl r)
def xZa (g : xG) (n : Nat) (r : Nat → Int32) : va_E := .inl (g.2.2.1, n, .inl r)
def xRa (g : xG) (n : Nat) (f : Nat → Nat) : va_E := .inl (g.2.2.2.1, n, .inr (.inr (.inr (.inr (fun j => some (f j))))))
def xB (g : xG) (a : xAd) (t : Nat) (r : Nat → Int32) : va_E := match t with
  | 0 => .inr (4, [.ref (a 1 0), .ref (a 2 0), .ref (a 3 0), .ref (a 4 0), .ref (a 5 0), .int (r 0)])
  | 1 => .inr (0, [.ref (a 6 0), .ref (a 7 0), .ref (a 8 0), .ref (a 9 0)])
  | 2 => .inr (3, [.ref (a 10 0), .ref (a 11 0), .int (r 0)])
  | 3 => .inr (2, [.int (r 0), .ref (a 12 0), .ref (a 13 0), .ref (a 14 0), .ref (a 15 0)])
  | 4 => .inr (1, [.ref (a 16 0), .ref (a 17 0), .ref (a 18 0), .ref (a 19 0)])
  | 5 => xIa g 4 r
  | 6 => xIa g 4 r
  | 7 => xRa g 4 (a 20)
  | 8 => xRa g 4 (a 21)
  | 9 => xRa g 4 (a 22)
  | 10 => xZa g 30 r
  | 11 => xIa g 30 r
  | 12 => xIa g 60 r
  | 13 => xIa g 60 r
  | 14 => xRa g 60 (a 23)
  | 15 => xIa g 60 r
  | 16 => xRa g 60 (a 24)
  | 17 => xRa g 60 (a 25)
  | 18 => xIa g 60 r
  | 19 => xIa g 60 r
  | 20 => xIa g 30 r
  | 21 => xIa g 30 r
  | 22 => xIa g 30 r
  | 23 => xIa g 4 r
  | 24 => xIa g 4 r
  | 25 => xIa g 4 r
  | 30 => xIa g 3 r
  | 31 => xIa g 20 r
  | 32 => xIa g 24 r
  | 33 => xIa g 24 r
  | 34 => xIa g 24 r
  | 35 => xIa g 12 r
  | 36 => xIa g 12 r
  | 37 => xIa g 48 r
  | 38 => xIa g 12 r
  | 39 => xIa g 24 r
  | _ => xIa g 24 r
def xwf (f : Nat → (Nat → Int32) → va_E) (NL : xNL) (a : xAd) (σ : xS) : va_W := NL.map (fun n => (a n.1 n.2, f n.1 (σ n.1 n.2)))
abbrev xw (NL : xNL) (g : xG) (a : xAd) (σ : xS) : va_W := xwf (xB g a) NL a σ
def upR (σ : xS) (t i : Nat) (r : Nat → Int32) : xS := fun t' i' => if t' = t ∧ i' = i then r else σ t' i'
def up3 (σ : xS) (t i j : Nat) (v : Int32) : xS := upR σ t i (upd (σ t i) j v)
theorem upR_self {σ : xS} {t i : Nat} {r : Nat → Int32} : upR σ t i r t i = r := by simp [upR]
theorem upR_ne {σ : xS} {t i t' i' : Nat} {r : Nat → Int32} (h : ¬ (t' = t ∧ i' = i)) : upR σ t i r t' i' = σ t' i' := by simp [upR, h]
theorem up3_self {σ : xS} {t i j : Nat} {v : Int32} : up3 σ t i j v t i j = v := by simp [up3, upR, upd]
theorem up3_ne {σ : xS} {t i j t' i' j' : Nat} {v : Int32} (h : ¬ (t' = t ∧ i' = i ∧ j' = j)) : up3 σ t i j v t' i' j' = σ t' i' j' := by
  unfold up3 upR
  by_cases h1 : t' = t ∧ i' = i
  · have h2 : j' ≠ j := fun e => h ⟨h1.1, h1.2, e⟩
    obtain ⟨rfl, rfl⟩ := h1
    simp [upd, h2]
  · simp [h1]
theorem up3_at (σ : xS) (t i j : Nat) (v : Int32) (t' i' j' : Nat) : up3 σ t i j v t' i' j' = if t' = t ∧ i' = i ∧ j' = j then v else σ t' i' j' := by
  by_cases h : t' = t ∧ i' = i ∧ j' = j
  · obtain ⟨rfl, rfl, rfl⟩ := h
    simp [up3_self]
  · rw [up3_ne h, if_neg h]
/-- the addresses are apart -/
def xDj (NL : xNL) (a : xAd) : Prop := ∀ (i j : Nat) (p q : Nat × Nat), NL[i]? = some p → NL[j]? = some q → a p.1 p.2 = a q.1 q.2 → i = j
def xA (NL : xNL) (a : xAd) (sz : Nat) : Nat → Prop := fun q => (∃ n ∈ NL, a n.1 n.2 = q) ∨ sz ≤ q
section XWF
variable {f : Nat → (Nat → Int32) → va_E} {NL NL' : xNL} {a : xAd} {σ τ : xS} {cl : List vw_C} {D : va_G} {H H1 : Heap}
theorem xwf_at {k : Nat} {n : Nat × Nat} (h : NL[k]? = some n) : (xwf f NL a σ)[k]? = some (a n.1 n.2, f n.1 (σ n.1 n.2)) := by
  unfold xwf
  rw [List.getElem?_map, h]
  rfl
theorem xwf_of {k : Nat} {q : Nat × va_E} (h : (xwf f NL a σ)[k]? = some q) : ∃ n, NL[k]? = some n ∧ q = (a n.1 n.2, f n.1 (σ n.1 n.2)) := by
  unfold xwf at h
  rw [List.getElem?_map] at h
  cases hn : NL[k]? with
  | none => rw [hn] at h; cases h
  | some n => rw [hn] at h; cases h; exact ⟨n, rfl, rfl⟩
theorem xwf_get {t i : Nat} (f : Nat → (Nat → Int32) → va_E) (a : xAd) (σ : xS) (h : (t, i) ∈ NL) : ∃ k : Nat, NL[k]? = some (t, i) ∧ (xwf f NL a σ)[k]? = some (a t i, f t (σ t i)) := by
  obtain ⟨k, hk⟩ := List.getElem?_of_mem h
  exact ⟨k, hk, xwf_at hk⟩
theorem xwf_D {A : Nat → Prop} (hj : xDj NL a) (hA : ∀ n ∈ NL, A (a n.1 n.2)) : va_D A (xwf f NL a σ) := by
  refine ⟨fun i j p q hp hq e => ?_, fun k q hk => ?_⟩
  · obtain ⟨n, h1, rfl⟩ := xwf_of hp
    obtain ⟨n', h2, rfl⟩ := xwf_of hq
    exact hj i j n n' h1 h2 e
  · obtain ⟨n, h1, rfl⟩ := xwf_of hk
    exact hA n (List.mem_of_getElem? h1)
theorem xwf_set {k t i : Nat} {r : Nat → Int32} (hj : xDj NL a) (hk : NL[k]? = some (t, i)) : (xwf f NL a σ).set k (a t i, f t r) = xwf f NL a (upR σ t i r) := by
  apply List.ext_getElem?
  intro k'
  by_cases hkk : k' = k
  · subst hkk
    have h1 : (xwf f NL a σ)[k']? = some (a t i, f t (σ t i)) := xwf_at hk
    have hl : k' < (xwf f NL a σ).length := (List.getElem?_eq_some_iff.mp h1).1
    have h2 : (xwf f NL a (upR σ t i r))[k']? = some (a t i, f t (upR σ t i r t i)) := xwf_at hk
    rw [List.getElem?_set_self hl, h2, upR_self]
  · rw [List.getElem?_set_ne (Ne.symm hkk)]
    cases hn : NL[k']? with
    | none =>
      unfold xwf
      rw [List.getElem?_map, List.getElem?_map, hn]
      rfl
    | some n =>
      rw [xwf_at hn, xwf_at hn]
      have hne : ¬ (n.1 = t ∧ n.2 = i) := fun e => hkk (by
        obtain ⟨e1, e2⟩ := e
        exact hj k' k n (t, i) hn hk (by rw [e1, e2]))
      rw [upR_ne hne]
theorem xwf_sub (hP : va_P D cl (xwf f NL a σ) H) (h : ∀ n ∈ NL', n ∈ NL) : va_P D cl (xwf f NL' a σ) H := by
  intro k q hk
  obtain ⟨n, h1, rfl⟩ := xwf_of hk
  obtain ⟨k', -, h3⟩ := xwf_get (t := n.1) (i := n.2) f a σ (h n (List.mem_of_getElem? h1))
  exact hP k' _ h3
theorem xwf_congr (h : ∀ n ∈ NL, σ n.1 n.2 = τ n.1 n.2) : xwf f NL a σ = xwf f NL a τ := by
  unfold xwf
  apply List.map_congr_left
  intro n hn
  rw [h n hn]
theorem xwf_kept (hP : va_P D cl (xwf f NL a σ) H) (hk : ∀ q : Nat, q < H.size → ¬ xA NL' a H.size q → H1[q]? = H[q]?) (hd : ∀ n ∈ NL, ∀ n' ∈ NL', a n.1 n.2 ≠ a n'.1 n'.2) : va_P D cl (xwf f NL a σ) H1 := by
  refine hP.kept (fun k q hq => ?_)
  have hl := (hP k q hq).lt
  obtain ⟨n, h1, rfl⟩ := xwf_of hq
  refine hk _ hl (fun h => ?_)
  rcases h with ⟨n', h2, e⟩ | h
  · exact hd n (List.mem_of_getElem? h1) n' h2 e.symm
  · have : a n.1 n.2 < H.size := hl
    omega
end XWF
/-- the words of nest mates' fields and methods: premises of every contract -/
def xNs : List Cond := [.fieldLinkNest RX4 82 RX0 "counts" "[I" RX4, .fieldLinkNest RX4 85 RX3 "ignored" "[Z" RX4, .fieldLinkNest RX1 65 RX3 "ignored" "[Z" RX4, .fieldLinkNest RX4 94 RX3 "standsFor" "[I" RX4, .fieldLinkNest RX4 97 RX3 "depth" "I" RX4, .fieldLinkNest RX1 60 RX3 "depth" "I" RX4, .fieldLinkNest RX1 26 RX2 "count" "I" RX4, .fieldLinkNest RX4 103 RX2 "count" "I" RX4, .fieldLinkNest RX1 32 RX2 "versions" "[I" RX4, .fieldLinkNest RX4 167 RX2 "versions" "[I" RX4, .fieldLinkNest RX4 173 RX2 "reporters" "[I" RX4, .fieldLinkNest RX1 39 RX2 "stacks" "[[I" RX4, .fieldLinkNest RX4 149 RX2 "fixedFrom" "[I" RX4, .fieldLinkNest RX4 126 RX1 "frames" "[[I" RX4, .fieldLinkNest RX4 130 RX1 "mattering" "[[I" RX4, .fieldLinkNest RX4 133 RX1 "names" "[I" RX4]
def xMs : List (String × Nat × MethodName) := [(RX4, 136, yX1_isName), (RX4, 53, yX0_isFull), (RX4, 64, yX0_overlaps), (RX4, 70, yX0_add), (RX4, 74, yX1_readStacksOf), (RX1, 42, yX0_functionAt), (RX4, 78, yX1_sortAll), (RX1, 69, yX3_inTheEnd), (RX4, 89, yX3_leadsTo), (RX4, 108, yX2_add), (RX4, 111, yX2_setStack), (RX4, 115, yX1_readStack), (RX4, 118, yX1_sort), (RX4, 9, yX0_init), (RX4, 18, yX3_init), (RX4, 25, yX2_init), (RX4, 32, yX1_init)]
def xN (U : State) : Prop := (∀ w ∈ xNs, va_Nw w U) ∧ ∀ q ∈ xMs, va_Nw (.methodLinkNest q.1 q.2.1 q.2.2 RX4) U
theorem xN.warm {s U : State} (hW : s.WarmedH U.vm) (h : xN s) : xN U := by
  refine ⟨?_, fun q hq => va_Nw.warmM hW (h.2 q hq)⟩
  unfold xNs
  simp only [List.forall_mem_cons]
  have h1 := h.1
  unfold xNs at h1
  simp only [List.forall_mem_cons] at h1
  obtain ⟨a1, a2, a3, a4, a5, a6, a7, a8, a9, b1, b2, b3, b4, b5, b6, b7, -⟩ := h1
  exact ⟨va_Nw.warmF hW a1, va_Nw.warmF hW a2, va_Nw.warmF hW a3, va_Nw.warmF hW a4, va_Nw.warmF hW a5, va_Nw.warmF hW a6, va_Nw.warmF hW a7, va_Nw.warmF hW a8, va_Nw.warmF hW a9, va_Nw.warmF hW b1, va_Nw.warmF hW b2, va_Nw.warmF hW b3, va_Nw.warmF hW b4, va_Nw.warmF hW b5, va_Nw.warmF hW b6, va_Nw.warmF hW b7, fun _ h => nomatch h⟩
theorem xN.same {s U : State} (hv : s.vm = U.vm) (h : xN s) : xN U := by
  refine ⟨?_, fun q hq => va_Nw.same rfl hv (h.2 q hq)⟩
  unfold xNs
  simp only [List.forall_mem_cons]
  have h1 := h.1
  unfold xNs at h1
  simp only [List.forall_mem_cons] at h1
  obtain ⟨a1, a2, a3, a4, a5, a6, a7, a8, a9, b1, b2, b3, b4, b5, b6, b7, -⟩ := h1
  exact ⟨va_Nw.same rfl hv a1, va_Nw.same rfl hv a2, va_Nw.same rfl hv a3, va_Nw.same rfl hv a4, va_Nw.same rfl hv a5, va_Nw.same rfl hv a6, va_Nw.same rfl hv a7, va_Nw.same rfl hv a8, va_Nw.same rfl hv a9, va_Nw.same rfl hv b1, va_Nw.same rfl hv b2, va_Nw.same rfl hv b3, va_Nw.same rfl hv b4, va_Nw.same rfl hv b5, va_Nw.same rfl hv b6, va_Nw.same rfl hv b7, fun _ h => nomatch h⟩
/-- what a method is called in -/
def xPre (NL : xNL) (g : xG) (a : xAd) (σ : xS) (U : State) : Prop := va_P g.1 vwCl (xw NL g a σ) U.heap ∧ va_K g.1 vwCl (xT g) U ∧ xN U ∧ xDj NL a
/-- what stands through a method's body -/
def xC (p : Program) (s : State) (m : MethodId) (args : Array Value) (c : Code) (cc : ByteArray) (nL : Nat) (Ts : List Cond) (own : String) (NL : xNL) (g : xG) (a : xAd) (A : Nat → Prop) : Prop :=
  CallFix p m c cc nL s args Ts own ∧ va_K g.1 vwCl (xT g) s ∧ xN s ∧ xDj NL a ∧ (∀ n ∈ NL, A (a n.1 n.2)) ∧ ∀ q, s.heap.size ≤ q → A q
theorem xFB {As : List Value} {NL : xNL} {g : xG} {a : xAd} {σ : xS} : FrameBlind (va_Pc As (xPre NL g a σ)) := fun v U g' mk q => by
  obtain ⟨q0, q1, q2, q3, q4⟩ := q
  exact ⟨q0, q1, va_K.moved (u := U) (U := U.calling g' mk v) (Vm.Alike.refl U.vm) q2, xN.same (s := U) (U := U.calling g' mk v) rfl q3, q4⟩
theorem xFBs {As : List Value} {NL : xNL} {g : xG} {a : xAd} {σ : xS} {sz : Nat} : FrameBlind (va_Pc As (fun U => U.heap.size = sz ∧ xPre NL g a σ U)) := fun v U g' mk q => by
  obtain ⟨q0, q9, q1, q2, q3, q4⟩ := q
  exact ⟨q0, q9, q1, va_K.moved (u := U) (U := U.calling g' mk v) (Vm.Alike.refl U.vm) q2, xN.same (s := U) (U := U.calling g' mk v) rfl q3, q4⟩

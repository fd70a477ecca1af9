/-! ===== the class's face in my words ===== -/
def chOk : List (Bool × String) → Prop
  | [] => True
  | (c, _) :: l => c = true ∧ chOk l
def chEx : List (Bool × String) → String → Prop
  | [], _ => False
  | (c, e) :: l, E => (c = false ∧ E = e) ∨ (c = true ∧ chEx l E)
theorem ibX_nat {x : Int32} {n : Nat} (hn : n < 2 ^ 31) (h : ibX x (nI n) = true) : ∃ j : Nat, j < n ∧ x = nI j := by
  simp only [ibX, Bool.and_eq_true, decide_eq_true_eq] at h
  obtain ⟨j, hj, rfl⟩ := nI_of h.1
  refine ⟨j, ?_, rfl⟩
  have := h.2
  rw [nI_leI hn hj] at this
  omega
def crX (σ : xS) (r : Int32) : Bool := ibX r (nI (nv (σ 3 0 0)))
theorem crX_nat {σ : xS} (o : okX σ) {r : Int32} (h : crX σ r = true) : ∃ j : Nat, (j < nv (σ 3 0 0) ∧ nv (σ 3 0 0) ≤ 60) ∧ r = nI j := by
  have hn := o.n.2
  obtain ⟨j, h1, h2⟩ := ibX_nat (by omega) h
  exact ⟨j, ⟨h1, by omega⟩, h2⟩
theorem fnA_rng {σ : xS} {v : Nat} {x : Int32} (o : okX σ) (hv : v < 4) : ∀ (n k : Nat), k + n ≤ 30 → fnA σ v x n k = -1 ∨ inR (fnA σ v x n k) 30
  | 0, _, _ => Or.inl rfl
  | n + 1, k, h => by
    unfold fnA
    split
    · exact Or.inr (o.fn hv (by omega))
    · exact fnA_rng o hv n (k + 1) (by omega)
theorem fnX_rng {σ : xS} {v : Nat} {x : Int32} (o : okX σ) (hv : v < 4) : fnX σ v x = -1 ∨ inR (fnX σ v x) 30 := fnA_rng o hv _ _ (by have := (o.cnt hv).2; omega)
theorem rdL_okF {σ : xS} {r : Nat} (o : okX σ) (f : okF σ) (hr : r < 60) : ∀ p, okF (rdL σ r p)
  | 0 => f
  | p + 1 => by
    intro r' hr' p' hp'
    have h1 := rdL_okF o f hr p
    have h2 : okX (rdL σ r p) := rdL_ok o
    show up3 (rdL σ r p) 24 r p _ 24 r' p' = -1 ∨ inR (up3 (rdL σ r p) 24 r p _ 24 r' p') 30
    rw [up3_at]
    split
    · exact fnX_rng h2 ((h2.ver hr).2)
    · exact h1 r' hr' p' hp'
theorem rsL_okF {σ : xS} {v : Nat} (o : okX σ) (f : okF σ) : ∀ k, k ≤ 60 → okF (rsL σ v k)
  | 0, _ => f
  | k + 1, h => by
    have h1 := rsL_okF o f (v := v) k (by omega)
    unfold rsL
    split
    · exact rdL_okF (rsL_ok o) h1 (by omega) 4
    · exact h1
theorem rsS_okF {σ : xS} {v : Nat} (o : okX σ) (f : okF σ) : okF (rsS σ v) := rsL_okF o f _ (by have := o.n.2; omega)
theorem rsS_ok {σ : xS} {v : Nat} (o : okX σ) : okX (rsS σ v) := rsL_ok o
theorem addS_ok {σ : xS} {v : Nat} {x y : Int32} {f : Nat} (o : okX σ) (hv : v < 4) (hc : nv (σ 6 0 v) < 30) (hf : f < 30) : okX (addS σ v (nv (σ 6 0 v)) x y (nI f)) := by
  obtain ⟨o1, o2, o3, o4, o5, o6, o7, o8, o9, o10⟩ := o
  refine ⟨o1, fun u hu => ?_, o3, o4, o5, o6, o7, fun u hu k hk => ?_, o9, o10⟩
  · unfold addS
    rw [up3_at]
    split
    · exact inR_nI (by omega) (by decide)
    · exact o2 u hu
  · show inR (up3 (up3 (up3 (up3 σ 20 v (nv (σ 6 0 v)) x) 21 v (nv (σ 6 0 v)) y) 22 v (nv (σ 6 0 v)) (nI f)) 6 0 v (nI (nv (σ 6 0 v) + 1)) 22 u k) 30
    rw [up3_ne (fun z => absurd z.1 (by decide)), up3_at]
    split
    · exact inR_nI hf (by decide)
    · exact o8 u hu k hk
theorem addS_okF {σ : xS} {v c : Nat} {x y z : Int32} (f : okF σ) : okF (addS σ v c x y z) := f
/-- addRange -/
def arC (σ : xS) (v x y f : Int32) : List (Bool × String) := [(ibX v (nI 4) && ibX f (nI 30), eIA), (ibX x (nI 10000) && (ibX y (nI 10000) && decide (¬ y < x)), eIA), (!decide (30 ≤ nv (σ 6 0 (nv v))), eIS), (!ovlA σ (nv v) x y (nv (σ 6 0 (nv v))) 0, eIS)]
def arS (σ : xS) (v x y f : Int32) : xS := saS (rsS (addS σ (nv v) (nv (σ 6 0 (nv v))) x y f) (nv v))
/-- ignore -/
def igC (f : Int32) : List (Bool × String) := [(ibX f (nI 30), eIA)]
def igS (σ : xS) (f : Int32) (b : Bool) : xS := saS (up3 σ 10 0 (nv f) (bI b))
theorem igU_ok {σ : xS} {f : Nat} {b : Bool} (o : okX σ) : okX (up3 σ 10 0 f (bI b)) := by
  obtain ⟨o1, o2, o3, o4, o5, o6, o7, o8, o9, o10⟩ := o
  refine ⟨o1, o2, o3, o4, o5, o6, o7, o8, o9, fun u hu => ?_⟩
  rw [up3_at]
  split
  · exact bI_01 b
  · exact o10 u hu
/-- standFor -/
def sfC (σ : xS) (f o : Int32) : List (Bool × String) := [(ibX f (nI 30) && ibX o (nI 30), eIA), (!(decide (nv f ≠ nv o) && decide (ldA σ (nv f) 30 (nv o) = nv f)), eIS)]
def sfS (σ : xS) (f o : Int32) : xS := saS (up3 σ 11 0 (nv f) o)
theorem sfU_ok {σ : xS} {f g : Nat} (o : okX σ) (hg : g < 30) : okX (up3 σ 11 0 f (nI g)) := by
  obtain ⟨o1, o2, o3, o4, o5, o6, o7, o8, o9, o10⟩ := o
  refine ⟨o1, o2, o3, fun u hu => ?_, o5, o6, o7, o8, o9, o10⟩
  rw [up3_at]
  split
  · exact inR_nI hg (by decide)
  · exact o4 u hu
/-- setDepth -/
def sdC (d : Int32) : List (Bool × String) := [(decide (¬ d < nI 1) && decide (¬ nI 4 < d), eIA)]
def sdS (σ : xS) (d : Int32) : xS := saS (up3 σ 2 0 0 d)
theorem sd_nat {d : Int32} (h : (decide (¬ d < nI 1) && decide (¬ nI 4 < d)) = true) : ∃ j : Nat, (1 ≤ j ∧ j ≤ 4) ∧ d = nI j := by
  simp only [Bool.and_eq_true, decide_eq_true_eq] at h
  have h0 : ¬ d < 0 := fun z => h.1 (by
    rw [Int32.lt_iff_toInt_lt] at z ⊢
    have e0 : (0 : Int32).toInt = 0 := rfl
    have e1 : (nI 1).toInt = 1 := rfl
    omega)
  obtain ⟨j, hj, rfl⟩ := nI_of h0
  have h1 := h.1
  have h2 := h.2
  rw [nI_ltI hj (by decide)] at h1
  rw [nI_ltI (by decide) hj] at h2
  exact ⟨j, by omega, rfl⟩
theorem sdU_ok {σ : xS} {d : Nat} (o : okX σ) (hd : d ≤ 4) : okX (up3 σ 2 0 0 (nI d)) := by
  obtain ⟨o1, o2, o3, o4, o5, o6, o7, o8, o9, o10⟩ := o
  exact ⟨o1, o2, o3, o4, o5, inR_nI (by omega) (by decide), o7, o8, o9, o10⟩
/-- report -/
def rpC (σ : xS) (v u x y z w : Int32) : List (Bool × String) := [(ibX v (nI 4) && ibX u (nI 20), eIA), (ibX x (nI 10000) && (mfX x y && (mfX y z && mfX z w)), eIA), (decide (nv (σ 3 0 0) < 60), eIS)]
def rpS (σ : xS) (v u x y z w : Int32) : xS := soS (rdS (stkS (radS σ (nv (σ 3 0 0)) (nv v) (nv u)) (nv (σ 3 0 0)) x y z w) (nv (σ 3 0 0))) (nv (σ 3 0 0))
theorem radS_ok {σ : xS} {n v u : Nat} (o : okX σ) (hn : n < 60) (hv : v < 4) (hu : u < 20) : okX (radS σ n v u) := by
  obtain ⟨o1, o2, o3, o4, o5, o6, o7, o8, o9, o10⟩ := o
  refine ⟨inR_nI (by omega) (by decide), o2, fun r hr => ?_, o4, o5, o6, fun r hr => ?_, o8, fun r hr => ?_, o10⟩
  · show inR (up3 (up3 (up3 (up3 σ 12 0 n (nI v)) 13 0 n (nI u)) 15 0 n (-1)) 3 0 0 (nI (n + 1)) 12 0 r) 4
    rw [up3_ne (fun z => absurd z.1 (by decide)), up3_ne (fun z => absurd z.1 (by decide)), up3_ne (fun z => absurd z.1 (by decide)), up3_at]
    split
    · exact inR_nI hv (by decide)
    · exact o3 r hr
  · show up3 (up3 (up3 (up3 σ 12 0 n (nI v)) 13 0 n (nI u)) 15 0 n (-1)) 3 0 0 (nI (n + 1)) 15 0 r = -1 ∨ inR (up3 (up3 (up3 (up3 σ 12 0 n (nI v)) 13 0 n (nI u)) 15 0 n (-1)) 3 0 0 (nI (n + 1)) 15 0 r) 4
    rw [up3_ne (fun z => absurd z.1 (by decide)), up3_at]
    split
    · exact Or.inl rfl
    · exact o7 r hr
  · show inR (up3 (up3 (up3 (up3 σ 12 0 n (nI v)) 13 0 n (nI u)) 15 0 n (-1)) 3 0 0 (nI (n + 1)) 13 0 r) 20
    rw [up3_ne (fun z => absurd z.1 (by decide)), up3_ne (fun z => absurd z.1 (by decide)), up3_at]
    split
    · exact inR_nI hu (by decide)
    · exact o9 r hr
theorem stkS_ok {σ : xS} {n : Nat} {x y z w : Int32} (o : okX σ) : okX (stkS σ n x y z w) := o
theorem rad_okF {σ : xS} {n v u m : Nat} {x y z w : Int32} (f : okF σ) : okF (stkS (radS σ n v u) m x y z w) := f
/-- buckets, size -/
def buL (σ : xS) : Nat → Nat
  | 0 => 0
  | k + 1 => buL σ k + (if σ 19 0 k = nI k then 1 else 0)
theorem buL_le {σ : xS} : ∀ k, buL σ k ≤ k
  | 0 => Nat.le_refl _
  | k + 1 => by
    unfold buL
    have := buL_le (σ := σ) k
    split <;> omega
def siL (σ : xS) (nm : Int32) : Nat → Nat
  | 0 => 0
  | k + 1 => siL σ nm k + coX σ nm k
theorem siL_le {σ : xS} {nm : Int32} (o : okX σ) : ∀ k, siL σ nm k ≤ 60 * k
  | 0 => Nat.le_refl _
  | k + 1 => by
    unfold siL
    have := siL_le (nm := nm) o k
    have := coX_le (nm := nm) (v := k) o
    omega
/-- setSessions, setLimit -/
def ssC (v n : Int32) : List (Bool × String) := [(ibX v (nI 4) && (decide (¬ n < 0) && decide (¬ 1000000 < n)), eIA)]
def ssS (σ : xS) (v n : Int32) : xS := up3 σ 5 0 (nv v) n
def slC (n : Int32) : List (Bool × String) := [(decide (¬ n < nI 1) && decide (¬ nI 10000 < n), eIA)]
def slS (σ : xS) (n : Int32) : xS := up3 σ 0 0 0 n
/-- gate, worst -/
def gaL (σ : xS) (v : Nat) : Nat → Nat → Bool → Int32
  | 0, _, b => if b = true then nI 1 else nI 0
  | n + 1, k, b => if σ 19 0 k = nI k then (if 50 ≤ nv (σ 5 0 v) ∧ ¬ nI (rtX σ (nI k) v) < σ 0 0 0 ∧ ¬ ucX σ (nI k) v < nI 2 then nI 2 else gaL σ v n (k + 1) (b || decide (¬ nI (2 * rtX σ (nI k) v) < σ 0 0 0))) else gaL σ v n (k + 1) b
def gaX (σ : xS) (v : Nat) : Int32 := gaL σ v (nv (σ 3 0 0)) 0 (!decide (50 ≤ nv (σ 5 0 v)))
def woL (σ : xS) (v : Nat) : Nat → Nat → Int32 → Nat → Int32
  | 0, _, w, _ => w
  | n + 1, k, w, t => if σ 19 0 k = nI k ∧ t < rtX σ (nI k) v then woL σ v n (k + 1) (nI k) (rtX σ (nI k) v) else woL σ v n (k + 1) w t
def woX (σ : xS) (v : Nat) : Int32 := woL σ v (nv (σ 3 0 0)) 0 (-1) 0
/-- fix, holds -/
def fxC (σ : xS) (r v : Int32) : List (Bool × String) := [(crX σ r, eIO), (decide (¬ v < nI 1) && ibX v (nI 4), eIA)]
def fxS (σ : xS) (r v : Int32) : xS := up3 σ 15 0 (nv r) v
def hoC (σ : xS) (r : Int32) : List (Bool × String) := [(crX σ r, eIO), (!decide (σ 15 0 (nv r) = -1), eIS)]
def hoL (σ : xS) (nm : Int32) (t : Nat) : Nat → Nat → Bool
  | 0, _ => true
  | n + 1, v => if ¬ nv (σ 5 0 v) = 0 ∧ ¬ 2 * rtX σ nm v ≤ t then false else hoL σ nm t n (v + 1)
def hoX (σ : xS) (r : Nat) : Bool := hoL σ (σ 19 0 r) (grX σ (σ 19 0 r) (nv (σ 15 0 r))) (4 - nv (σ 15 0 r)) (nv (σ 15 0 r))
def frC (σ : xS) (r q : Int32) : List (Bool × String) := [(crX σ r, eIO), (ibX q (nI 4), eIA)]
def r1C (σ : xS) (r : Int32) : List (Bool × String) := [(crX σ r, eIO)]
def v1C (v : Int32) : List (Bool × String) := [(ibX v (nI 4), eIA)]
/-- the words of the three throws, decided once -/
theorem tw_eIA : (∀ w ∈ (vx_atS RX4 161 eIA xNm).filter (fun w => !goodWord w), w ∈ xTw) ∧ ∀ w ∈ Cond.classLink RX4 157 eIA :: Cond.initialized eIA :: vx_atS RX4 161 eIA xNm, vx_ot w = true := ⟨by decide +kernel, by decide +kernel⟩
theorem tw_eIS : (∀ w ∈ (vx_atS RX4 61 eIS xNm).filter (fun w => !goodWord w), w ∈ xTw) ∧ ∀ w ∈ Cond.classLink RX4 57 eIS :: Cond.initialized eIS :: vx_atS RX4 61 eIS xNm, vx_ot w = true := ⟨by decide +kernel, by decide +kernel⟩
theorem tw_eIO : (∀ w ∈ (vx_atS RX4 166 eIO xNm).filter (fun w => !goodWord w), w ∈ xTw) ∧ ∀ w ∈ Cond.classLink RX4 162 eIO :: Cond.initialized eIO :: vx_atS RX4 166 eIO xNm, vx_ot w = true := ⟨by decide +kernel, by decide +kernel⟩

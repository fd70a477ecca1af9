/-! ===== the reference in my words, loop by loop as it runs ===== -/
def okM (τ : xS) : Prop := inR (τ 30 0 2) 61 ∧ (∀ v, v < 4 → inR (τ 31 0 v) 31) ∧ (∀ k, k < 120 → inR (τ 34 0 k) 30) ∧ (∀ f, f < 30 → τ 35 0 f = 0 ∨ τ 35 0 f = 1) ∧ (∀ f, f < 30 → inR (τ 36 0 f) 30) ∧ (∀ r, r < 60 → inR (τ 37 0 r) 4) ∧ (∀ r, r < 60 → inR (τ 38 0 r) 20) ∧ (∀ v, v < 4 → inR (τ 41 0 v) 1000001) ∧ inR (τ 30 0 1) 5
def mB (t j : Nat) : Bool := t == 31 || t == 34 || t == 35 || t == 36 || t == 37 || t == 38 || t == 41 || (t == 30 && j != 0)
theorem okM.ne {σ τ : xS} (o : okM σ) (h : ∀ t i j, mB t j = true → τ t i j = σ t i j) : okM τ := by
  obtain ⟨o1, o2, o3, o4, o5, o6, o7, o8, o9⟩ := o
  refine ⟨?_, fun v hv => ?_, fun r hr => ?_, fun f hf => ?_, fun v hv => ?_, fun r hr => ?_, fun r hr => ?_, fun v hv => ?_, ?_⟩
  · rw [h 30 0 2 rfl]; exact o1
  · rw [h 31 0 v rfl]; exact o2 v hv
  · rw [h 34 0 r rfl]; exact o3 r hr
  · rw [h 35 0 f rfl]; exact o4 f hf
  · rw [h 36 0 v rfl]; exact o5 v hv
  · rw [h 37 0 r rfl]; exact o6 r hr
  · rw [h 38 0 r rfl]; exact o7 r hr
  · rw [h 41 0 v rfl]; exact o8 v hv
  · rw [h 30 0 1 rfl]; exact o9
theorem okM.n {τ : xS} (o : okM τ) : inR (τ 30 0 2) 61 := o.1
theorem okM.cnt {τ : xS} (o : okM τ) {v : Nat} (h : v < 4) : inR (τ 31 0 v) 31 := o.2.1 v h
theorem okM.fn {τ : xS} (o : okM τ) {k : Nat} (h : k < 120) : inR (τ 34 0 k) 30 := o.2.2.1 k h
theorem okM.ign {τ : xS} (o : okM τ) {f : Nat} (h : f < 30) : τ 35 0 f = 0 ∨ τ 35 0 f = 1 := o.2.2.2.1 f h
theorem okM.std {τ : xS} (o : okM τ) {f : Nat} (h : f < 30) : inR (τ 36 0 f) 30 := o.2.2.2.2.1 f h
theorem okM.ver {τ : xS} (o : okM τ) {r : Nat} (h : r < 60) : inR (τ 37 0 r) 4 := o.2.2.2.2.2.1 r h
theorem okM.usr {τ : xS} (o : okM τ) {r : Nat} (h : r < 60) : inR (τ 38 0 r) 20 := o.2.2.2.2.2.2.1 r h
theorem okM.ses {τ : xS} (o : okM τ) {v : Nat} (h : v < 4) : inR (τ 41 0 v) 1000001 := o.2.2.2.2.2.2.2.1 v h
theorem okM.dep {τ : xS} (o : okM τ) : inR (τ 30 0 1) 5 := o.2.2.2.2.2.2.2.2
theorem okM.th {τ : xS} (o : okM τ) (k : Int32) : okM (up3 τ 30 0 0 k) := o.ne (fun t i j h => up3_ne (fun z => by obtain ⟨rfl, -, rfl⟩ := z; exact absurd h (by decide)))
def inX (v a b : Int32) : Bool := decide (¬ v < a) && decide (¬ b < v)
def verM (v : Int32) : Bool := inX v (nI 0) (nI 3)
def funM (v : Int32) : Bool := inX v (nI 0) (nI 29)
def adrM (v : Int32) : Bool := inX v (nI 0) (nI 9999)
def irM (τ : xS) (r : Int32) : Bool := inX r (nI 0) (nI (nv (τ 30 0 2)) - nI 1)
def nxM (x y : Int32) : Bool := decide (x = -1) || (adrM x && decide (¬ y = -1))
theorem inX_nat {x : Int32} {n : Nat} (hn : n < 2 ^ 31) (h : inX x (nI 0) (nI n) = true) : ∃ j : Nat, j < n + 1 ∧ x = nI j := by
  simp only [inX, Bool.and_eq_true, decide_eq_true_eq] at h
  obtain ⟨j, hj, rfl⟩ := nI_of h.1
  refine ⟨j, ?_, rfl⟩
  have := h.2
  rw [nI_ltI hn hj] at this
  omega
theorem nI_m1 (n : Nat) : nI n + Int32.ofInt (-1) = nI n - nI 1 := by
  rw [Int32.sub_eq_add_neg]
  rfl
theorem nIs_lt0 {n : Nat} (hn : n < 2 ^ 31) : nI n - nI 1 < 0 ↔ n = 0 := by
  constructor
  · intro h
    rcases Nat.eq_zero_or_pos n with e | e
    · exact e
    · obtain ⟨j, rfl⟩ : ∃ z, n = z + 1 := ⟨n - 1, by omega⟩
      have e2 : nI (j + 1) - nI 1 = nI j := nI_pred j
      rw [e2] at h
      exact absurd h (nI_pos (by omega))
  · rintro rfl
    decide
theorem irM_nat {τ : xS} (o : okM τ) {r : Int32} (h : irM τ r = true) : ∃ j : Nat, (j < nv (τ 30 0 2) ∧ nv (τ 30 0 2) ≤ 60) ∧ r = nI j := by
  have hn := o.n.2
  generalize hN : nv (τ 30 0 2) = n at hn h
  unfold irM at h
  rw [hN] at h
  rcases Nat.eq_zero_or_pos n with e | e
  · subst e
    simp only [inX, Bool.and_eq_true, decide_eq_true_eq] at h
    obtain ⟨j, hj, rfl⟩ := nI_of h.1
    have h2 := h.2
    have e3 : nI 0 - nI 1 < nI j := by
      rw [Int32.lt_iff_toInt_lt, nI_toInt hj]
      have : (nI 0 - nI 1).toInt = -1 := by decide
      omega
    exact absurd e3 h2
  · obtain ⟨j, rfl⟩ : ∃ z, n = z + 1 := ⟨n - 1, by omega⟩
    have e2 : nI (j + 1) - nI 1 = nI j := nI_pred j
    rw [e2] at h
    obtain ⟨i, h1, h2⟩ := inX_nat (by omega) h
    exact ⟨i, ⟨h1, by omega⟩, h2⟩
/-- a call begins: nothing thrown -/
def m0 (τ : xS) : xS := up3 τ 30 0 0 (nI 0)
def mF (τ : xS) (k : Nat) : xS := up3 (m0 τ) 30 0 0 (nI k)
theorem m0_ok {τ : xS} (o : okM τ) : okM (m0 τ) := o.th _
/-- addRange -/
def ovM (τ : xS) (v : Nat) (x y : Int32) (b : Bool) : Nat → Bool
  | 0 => b
  | j + 1 => ovM τ v x y b j || (decide (¬ τ 33 0 (30 * v + j) < x) && decide (¬ y < τ 32 0 (30 * v + j)))
def ovT (τ : xS) (v : Nat) (x y : Int32) : Bool := ovM τ v x y (decide (nv (τ 31 0 v) = 30)) (nv (τ 31 0 v))
def arA (v x y f : Int32) : Bool := verM v && (adrM x && (inX y x (nI 9999) && funM f))
def arP (τ : xS) (v : Nat) (x y f : Int32) : xS := up3 (up3 (up3 (up3 τ 32 0 (30 * v + nv (τ 31 0 v)) x) 33 0 (30 * v + nv (τ 31 0 v)) y) 34 0 (30 * v + nv (τ 31 0 v)) f) 31 0 v (nI (nv (τ 31 0 v) + 1))
def arMS (τ : xS) (v x y f : Int32) : xS := if arA v x y f = true then (if ovT (m0 τ) (nv v) x y = true then mF τ 2 else arP (m0 τ) (nv v) x y f) else mF τ 1
def arMV (τ : xS) (v x y f : Int32) : Int32 := if arA v x y f = true then (if ovT (m0 τ) (nv v) x y = true then nI 0 else nI (nv (τ 31 0 (nv v)) + 1)) else nI 0
/-- ignore -/
def igMS (τ : xS) (f : Int32) (b : Bool) : xS := if funM f = true then up3 (up3 τ 30 0 0 (nI 0)) 35 0 (nv f) (bI b) else up3 τ 30 0 0 (nI 1)
def igMV (τ : xS) (f : Int32) : Int32 := if funM f = true then τ 35 0 (nv f) else nI 0
/-- standFor -/
def ldM (τ : xS) (o : Nat) : Nat → Nat → Bool
  | 0, t => decide (t = o)
  | n + 1, t => if t = o then true else ldM τ o n (nv (τ 36 0 t))
def ieM (τ : xS) : Nat → Nat → Nat
  | 0, t => t
  | n + 1, t => if nv (τ 36 0 t) = t then t else ieM τ n (nv (τ 36 0 t))
/-- going on comes to an end -/
def acM (τ : xS) : Prop := ∀ f, f < 30 → nv (τ 36 0 (ieM τ 30 f)) = ieM τ 30 f
theorem ieM_ne {σ τ : xS} (h : ∀ j, τ 36 0 j = σ 36 0 j) : ∀ n f, ieM τ n f = ieM σ n f
  | 0, _ => rfl
  | n + 1, f => by
    unfold ieM
    rw [h f, ieM_ne h n]
theorem acM.ne {σ τ : xS} (a : acM σ) (h : ∀ j, τ 36 0 j = σ 36 0 j) : acM τ := fun f hf => by rw [ieM_ne h, h]; exact a f hf
def sfMS (τ : xS) (f o : Int32) : xS := if (funM f && funM o) = true then (if (decide (nv f ≠ nv o) && ldM (m0 τ) (nv f) 30 (nv o)) = true then mF τ 2 else up3 (m0 τ) 36 0 (nv f) o) else mF τ 1
def sfMV (τ : xS) (f o : Int32) : Int32 := if (funM f && funM o) = true then (if (decide (nv f ≠ nv o) && ldM (m0 τ) (nv f) 30 (nv o)) = true then nI 0 else τ 36 0 (nv f)) else nI 0
def sdMS (τ : xS) (d : Int32) : xS := if inX d (nI 1) (nI 4) = true then up3 (m0 τ) 30 0 1 d else mF τ 1
def sdMV (τ : xS) (d : Int32) : Int32 := if inX d (nI 1) (nI 4) = true then τ 30 0 1 else nI 0
/-- report -/
def rpA (v u x y z w : Int32) : Bool := verM v && (inX u (nI 0) (nI 19) && (adrM x && (nxM y x && (nxM z y && nxM w z))))
def rpP (τ : xS) (n : Nat) (v u x y z w : Int32) : xS := up3 (up3 (up3 (up3 (up3 (up3 (up3 (up3 τ 37 0 n v) 38 0 n u) 39 0 (4 * n) x) 39 0 (4 * n + 1) y) 39 0 (4 * n + 2) z) 39 0 (4 * n + 3) w) 40 0 n (-1)) 30 0 2 (nI (n + 1))
def rpMS (τ : xS) (v u x y z w : Int32) : xS := if rpA v u x y z w = true then (if nv (τ 30 0 2) = 60 then mF τ 2 else rpP (m0 τ) (nv (τ 30 0 2)) v u x y z w) else mF τ 1
def rpMV (τ : xS) (v u x y z w : Int32) : Int32 := if rpA v u x y z w = true then (if nv (τ 30 0 2) = 60 then nI 0 else nI (nv (τ 30 0 2))) else nI 0
/-- frames, keys -/
def frL (τ : xS) (x : Int32) (v : Nat) : Nat → Int32
  | 0 => -1
  | j + 1 => if ¬ x = -1 ∧ ¬ x < τ 32 0 (30 * v + j) ∧ ¬ τ 33 0 (30 * v + j) < x then τ 34 0 (30 * v + j) else frL τ x v j
def frM (τ : xS) (r p : Nat) : Int32 := frL τ (τ 39 0 (4 * r + p)) (nv (τ 37 0 r)) (nv (τ 31 0 (nv (τ 37 0 r))))
theorem frL_rng {τ : xS} {x : Int32} {v : Nat} (o : okM τ) (hv : v < 4) : ∀ j, j ≤ 30 → frL τ x v j = -1 ∨ inR (frL τ x v j) 30
  | 0, _ => Or.inl rfl
  | j + 1, h => by
    unfold frL
    split
    · exact Or.inr (o.fn (by omega))
    · exact frL_rng o hv j (by omega)
theorem frM_rng {τ : xS} {r p : Nat} (o : okM τ) (hr : r < 60) : frM τ r p = -1 ∨ inR (frM τ r p) 30 := frL_rng o (o.ver hr).2 _ (by have := (o.cnt (o.ver hr).2).2; omega)
def kiL (τ : xS) (r : Nat) : Nat → xS
  | 0 => τ
  | p + 1 => up3 (kiL τ r p) 43 0 (4 * r + p) (-1)
def kpL (r : Nat) : Nat → Nat → Nat → xS → Nat × xS
  | 0, _, q, τ => (q, τ)
  | n + 1, p, q, τ => if frM τ r p = -1 then kpL r n (p + 1) q τ else if τ 35 0 (nv (frM τ r p)) ≠ 0 then kpL r n (p + 1) q τ else if nv (τ 30 0 1) ≤ q then kpL r n (p + 1) q τ else kpL r n (p + 1) (q + 1) (up3 τ 43 0 (4 * r + q) (nI (ieM τ 30 (nv (frM τ r p)))))
def kyS (τ : xS) (r : Nat) : xS := (kpL r 4 0 0 (kiL τ r 4)).2
theorem kiL_ne {τ : xS} {r : Nat} : ∀ (p t i j : Nat), t ≠ 43 → kiL τ r p t i j = τ t i j
  | 0, _, _, _, _ => rfl
  | p + 1, t, i, j, h => by
    unfold kiL
    rw [up3_ne (fun z => h z.1), kiL_ne p t i j h]
theorem kpL_ne {r : Nat} : ∀ (n p q : Nat) (τ : xS) (t i j : Nat), t ≠ 43 → (kpL r n p q τ).2 t i j = τ t i j
  | 0, _, _, _, _, _, _, _ => rfl
  | n + 1, p, q, τ, t, i, j, h => by
    unfold kpL
    split
    · exact kpL_ne n _ _ _ t i j h
    · split
      · exact kpL_ne n _ _ _ t i j h
      · split
        · exact kpL_ne n _ _ _ t i j h
        · rw [kpL_ne n _ _ _ t i j h, up3_ne (fun z => h z.1)]
theorem kyS_ne {τ : xS} {r t i j : Nat} (h : t ≠ 43) : kyS τ r t i j = τ t i j := by
  unfold kyS
  rw [kpL_ne _ _ _ _ t i j h, kiL_ne 4 t i j h]
theorem mB_ne {t u j : Nat} (h : mB t j = true) (hu : ∀ j, mB u j = false) : t ≠ u := fun e => by rw [e, hu] at h; cases h
theorem kyS_ok {τ : xS} {r : Nat} (o : okM τ) : okM (kyS τ r) := o.ne (fun t i j h => kyS_ne (mB_ne h (fun _ => rfl)))
theorem kiL_ok {τ : xS} {r p : Nat} (o : okM τ) : okM (kiL τ r p) := o.ne (fun t i j h => kiL_ne p t i j (mB_ne h (fun _ => rfl)))
theorem kiL_ac {τ : xS} {r p : Nat} (o : acM τ) : acM (kiL τ r p) := o.ne (fun j => kiL_ne p 36 0 j (by decide))
theorem kyS_ac {τ : xS} {r : Nat} (o : acM τ) : acM (kyS τ r) := o.ne (fun j => kyS_ne (by decide))
theorem up43_ok {τ : xS} {k : Nat} {x : Int32} (o : okM τ) : okM (up3 τ 43 0 k x) := o.ne (fun t i j h => up3_ne (fun z => mB_ne h (u := 43) (fun _ => rfl) z.1))
theorem up43_ac {τ : xS} {k : Nat} {x : Int32} (o : acM τ) : acM (up3 τ 43 0 k x) := o.ne (fun j => up3_ne (fun z => absurd z.1 (by decide)))
theorem up42_ok {τ : xS} {k : Nat} {x : Int32} (o : okM τ) : okM (up3 τ 42 0 k x) := o.ne (fun t i j h => up3_ne (fun z => mB_ne h (u := 42) (fun _ => rfl) z.1))
theorem up42_ac {τ : xS} {k : Nat} {x : Int32} (o : acM τ) : acM (up3 τ 42 0 k x) := o.ne (fun j => up3_ne (fun z => absurd z.1 (by decide)))
def isL (τ : xS) (r o : Nat) : Nat → Bool
  | 0 => true
  | p + 1 => isL τ r o p && decide (τ 43 0 (4 * r + p) = τ 43 0 (4 * o + p))
def isM (τ : xS) (r o : Nat) : Bool := isL τ r o 4 && (!decide (τ 43 0 (4 * r) = -1) || (decide (τ 39 0 (4 * r) = τ 39 0 (4 * o)) && decide (nv (τ 37 0 r) = nv (τ 37 0 o))))
def ndL (r : Nat) : Nat → xS → xS
  | 0, τ => τ
  | j + 1, τ => ndL r j (up3 τ 42 0 r (if isM τ r j = true then nI j else τ 42 0 r))
def naL (τ : xS) : Nat → xS
  | 0 => τ
  | r + 1 => ndL r r (up3 (kyS (naL τ r) r) 42 0 r (nI r))
def naS (τ : xS) : xS := naL τ (nv (τ 30 0 2))
theorem ndL_ne {r : Nat} : ∀ (j : Nat) (τ : xS) (t i k : Nat), t ≠ 42 → ndL r j τ t i k = τ t i k
  | 0, _, _, _, _, _ => rfl
  | j + 1, τ, t, i, k, h => by
    unfold ndL
    rw [ndL_ne j _ t i k h, up3_ne (fun z => h z.1)]
theorem naL_ne {τ : xS} : ∀ (r t i k : Nat), t ≠ 42 → t ≠ 43 → naL τ r t i k = τ t i k
  | 0, _, _, _, _, _ => rfl
  | r + 1, t, i, k, h, h2 => by
    unfold naL
    rw [ndL_ne _ _ t i k h, up3_ne (fun z => h z.1), kyS_ne h2, naL_ne r t i k h h2]
theorem naL_ok {τ : xS} {r : Nat} (o : okM τ) : okM (naL τ r) := o.ne (fun t i j h => naL_ne r t i j (mB_ne h (fun _ => rfl)) (mB_ne h (fun _ => rfl)))
theorem naL_ac {τ : xS} {r : Nat} (o : acM τ) : acM (naL τ r) := o.ne (fun j => naL_ne r 36 0 j (by decide) (by decide))
theorem naS_ok {τ : xS} (o : okM τ) : okM (naS τ) := naL_ok o
/-- counts, rates, users -/
def cmL (τ : xS) (nm : Int32) (v : Nat) : Nat → Nat
  | 0 => 0
  | k + 1 => cmL τ nm v k + (if τ 42 0 k = nm ∧ nv (τ 37 0 k) = v then 1 else 0)
theorem cmL_le {τ : xS} {nm : Int32} {v : Nat} : ∀ k, cmL τ nm v k ≤ k
  | 0 => Nat.le_refl _
  | k + 1 => by
    unfold cmL
    have := cmL_le (τ := τ) (nm := nm) (v := v) k
    split <;> omega
def rtM (τ : xS) (nm : Int32) (v : Nat) : Nat := 10000 * cmL τ nm v (nv (τ 30 0 2)) / nv (τ 41 0 v)
theorem rtM_le {τ : xS} {nm : Int32} {v : Nat} (o : okM τ) : rtM τ nm v ≤ 600000 := by
  have h1 := cmL_le (τ := τ) (nm := nm) (v := v) (nv (τ 30 0 2))
  have h2 := o.n.2
  unfold rtM
  exact Nat.le_trans (Nat.div_le_self _ _) (by omega)
def szL (τ : xS) (nm : Int32) : Nat → Nat
  | 0 => 0
  | k + 1 => szL τ nm k + (if τ 42 0 k = nm then 1 else 0)
theorem szL_le {τ : xS} {nm : Int32} : ∀ k, szL τ nm k ≤ k
  | 0 => Nat.le_refl _
  | k + 1 => by
    unfold szL
    have := szL_le (τ := τ) (nm := nm) k
    split <;> omega
def bkL (τ : xS) : Nat → Nat
  | 0 => 0
  | k + 1 => bkL τ k + (if τ 42 0 k = nI k then 1 else 0)
theorem bkL_le {τ : xS} : ∀ k, bkL τ k ≤ k
  | 0 => Nat.le_refl _
  | k + 1 => by
    unfold bkL
    have := bkL_le (τ := τ) k
    split <;> omega
def s0L (τ : xS) : Nat → xS
  | 0 => τ
  | u + 1 => up3 (s0L τ u) 44 0 u (nI 0)
def itM (τ : xS) (nm : Int32) (v k : Nat) : Bool := decide (τ 42 0 k = nm) && decide (nv (τ 37 0 k) = v)
/-- one report: found, seen -/
def u1M (nm : Int32) (v k : Nat) (q : Nat × xS) : Nat × xS := (q.1 + (if itM q.2 nm v k = true ∧ q.2 44 0 (nv (q.2 38 0 k)) = 0 then 1 else 0), up3 q.2 44 0 (nv (q.2 38 0 k)) (bI (!decide (q.2 44 0 (nv (q.2 38 0 k)) = 0) || itM q.2 nm v k)))
def umL (nm : Int32) (v : Nat) : Nat → Nat × xS → Nat × xS
  | 0, q => q
  | k + 1, q => u1M nm v k (umL nm v k q)
def umX (τ : xS) (nm : Int32) (v : Nat) : Nat × xS := umL nm v (nv (τ 30 0 2)) (0, s0L τ 20)
theorem s0L_ne {τ : xS} : ∀ (u t i j : Nat), t ≠ 44 → s0L τ u t i j = τ t i j
  | 0, _, _, _, _ => rfl
  | u + 1, t, i, j, h => by
    unfold s0L
    rw [up3_ne (fun z => h z.1), s0L_ne u t i j h]
theorem umL_ne {nm : Int32} {v : Nat} : ∀ (k : Nat) (q : Nat × xS) (t i j : Nat), t ≠ 44 → (umL nm v k q).2 t i j = q.2 t i j
  | 0, _, _, _, _, _ => rfl
  | k + 1, q, t, i, j, h => by
    unfold umL u1M
    exact (up3_ne (fun z => h z.1)).trans (umL_ne k q t i j h)
theorem umX_ne {τ : xS} {nm : Int32} {v t i j : Nat} (h : t ≠ 44) : (umX τ nm v).2 t i j = τ t i j := by
  unfold umX
  exact (umL_ne _ _ t i j h).trans (s0L_ne 20 t i j h)
theorem umX_ok {τ : xS} {nm : Int32} {v : Nat} (o : okM τ) : okM (umX τ nm v).2 := o.ne (fun t i j h => umX_ne (mB_ne h (fun _ => rfl)))
theorem s0L_ok {τ : xS} {u : Nat} (o : okM τ) : okM (s0L τ u) := o.ne (fun t i j h => s0L_ne u t i j (mB_ne h (fun _ => rfl)))
theorem umL_ok {nm : Int32} {v k : Nat} {q : Nat × xS} (o : okM q.2) : okM (umL nm v k q).2 := o.ne (fun t i j h => umL_ne k q t i j (mB_ne h (fun _ => rfl)))
theorem umL_le {nm : Int32} {v : Nat} : ∀ (k : Nat) (q : Nat × xS), (umL nm v k q).1 ≤ q.1 + k
  | 0, _ => Nat.le_refl _
  | k + 1, q => by
    unfold umL u1M
    have := umL_le (nm := nm) (v := v) k q
    show _ + (if _ then 1 else 0) ≤ _
    split <;> omega
/-- gate, worst, holds, over a state whose names are laid -/
def gmL (v : Nat) : Nat → Nat → Bool → Bool → xS → (Bool × Bool) × xS
  | 0, _, h, b, τ => ((h, b), τ)
  | n + 1, k, h, b, τ => if τ 42 0 k = nI k then
      (if h = true then gmL v n (k + 1) true (b || decide (¬ nI (2 * rtM τ (nI k) v) < τ 30 0 3)) τ
       else if 50 ≤ nv (τ 41 0 v) ∧ ¬ nI (rtM τ (nI k) v) < τ 30 0 3 then gmL v n (k + 1) (decide (1 < (umX τ (nI k) v).1)) (b || decide (¬ nI (2 * rtM τ (nI k) v) < τ 30 0 3)) (umX τ (nI k) v).2
       else gmL v n (k + 1) false (b || decide (¬ nI (2 * rtM τ (nI k) v) < τ 30 0 3)) τ)
    else gmL v n (k + 1) h b τ
def gmX (τ : xS) (v : Nat) : (Bool × Bool) × xS := gmL v (nv (τ 30 0 2)) 0 false (decide (nv (τ 41 0 v) < 50)) τ
def gmV (q : (Bool × Bool) × xS) : Int32 := if q.1.1 = true then nI 2 else if q.1.2 = true then nI 1 else nI 0
def wmL (τ : xS) (v : Nat) : Nat → Nat → Int32 → Nat → Int32
  | 0, _, w, _ => w
  | n + 1, k, w, t => if τ 42 0 k = nI k ∧ t < rtM τ (nI k) v then wmL τ v n (k + 1) (nI k) (rtM τ (nI k) v) else wmL τ v n (k + 1) w t
def wmX (τ : xS) (v : Nat) : Int32 := wmL τ v (nv (τ 30 0 2)) 0 (-1) 0
def hmL (τ : xS) (r : Nat) : Nat → Nat → Nat → Bool → Bool
  | 0, _, _, b => b
  | n + 1, v, t, b => hmL τ r n (v + 1) (if nI v < τ 40 0 r ∧ t < rtM τ (τ 42 0 r) v then rtM τ (τ 42 0 r) v else t) (b && (decide (nI v < τ 40 0 r) || (decide (nv (τ 41 0 v) = 0) || decide (2 * rtM τ (τ 42 0 r) v ≤ (if nI v < τ 40 0 r ∧ t < rtM τ (τ 42 0 r) v then rtM τ (τ 42 0 r) v else t)))))
def hmX (τ : xS) (r : Nat) : Bool := hmL τ r 4 0 0 true

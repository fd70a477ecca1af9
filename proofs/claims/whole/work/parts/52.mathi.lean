/-! ===== what the class's state and the reference's have to do with each other ===== -/
def LkB (σ τ : xS) : Prop := σ 3 0 0 = τ 30 0 2 ∧ (∀ v, σ 6 0 v = τ 31 0 v) ∧ (∀ v k, k < 30 → σ 20 v k = τ 32 0 (30 * v + k) ∧ σ 21 v k = τ 33 0 (30 * v + k) ∧ σ 22 v k = τ 34 0 (30 * v + k)) ∧ (∀ f, σ 10 0 f = τ 35 0 f) ∧ (∀ f, σ 11 0 f = τ 36 0 f) ∧ (∀ r, σ 12 0 r = τ 37 0 r) ∧ (∀ r, σ 13 0 r = τ 38 0 r) ∧ (∀ r, σ 15 0 r = τ 40 0 r) ∧ (∀ r p, p < 4 → σ 23 r p = τ 39 0 (4 * r + p)) ∧ (∀ v, σ 5 0 v = τ 41 0 v) ∧ σ 0 0 0 = τ 30 0 3 ∧ σ 2 0 0 = τ 30 0 1
def Wf (σ : xS) : Prop := (∀ v, v < 4 → ∀ k, k < nv (σ 6 0 v) → ¬ σ 20 v k < 0 ∧ ¬ σ 21 v k < σ 20 v k) ∧ (∀ v, v < 4 → ∀ j k, j < nv (σ 6 0 v) → k < nv (σ 6 0 v) → j ≠ k → ¬ (¬ σ 21 v k < σ 20 v j ∧ ¬ σ 21 v j < σ 20 v k)) ∧ ∀ r, r < nv (σ 3 0 0) → ∃ b : Nat, b < 10000 ∧ σ 23 r 0 = nI b
def Dv (σ : xS) : Prop := ∀ r, r < nv (σ 3 0 0) → (∀ p, p < 4 → σ 24 r p = fnX σ (nv (σ 12 0 r)) (σ 23 r p)) ∧ Kd σ r
def Inv (σ τ : xS) : Prop := (okX σ ∧ okF σ) ∧ LkB σ τ ∧ acM τ ∧ Wf σ ∧ Dv σ
theorem okM_of {σ τ : xS} (o : okX σ) (h : LkB σ τ) : okM τ := by
  obtain ⟨l1, l2, l3, l4, l5, l6, l7, l8, l9, l10, l11, l12⟩ := h
  refine ⟨?_, fun v hv => ?_, fun k hk => ?_, fun f hf => ?_, fun f hf => ?_, fun r hr => ?_, fun r hr => ?_, fun v hv => ?_, ?_⟩
  · rw [← l1]; exact o.n
  · rw [← l2]; exact o.cnt hv
  · have h1 := (l3 (k / 30) (k % 30) (Nat.mod_lt _ (by decide))).2.2
    rw [Nat.div_add_mod] at h1
    rw [← h1]
    exact o.fn (by omega) (Nat.mod_lt _ (by decide))
  · rw [← l4]; exact o.ign hf
  · rw [← l5]; exact o.std hf
  · rw [← l6]; exact o.ver hr
  · rw [← l7]; exact o.usr hr
  · rw [← l10]; exact o.ses hv
  · rw [← l12]; exact o.dep
theorem LkB.mS {σ τ τ' : xS} (h : LkB σ τ) (m : mS τ' τ) : LkB σ τ' := by
  obtain ⟨l1, l2, l3, l4, l5, l6, l7, l8, l9, l10, l11, l12⟩ := h
  have m30 : ∀ j, j ≠ 0 → τ' 30 0 j = τ 30 0 j := fun j hj => m 30 0 j (by decide) (by decide) (by decide) (fun z => hj z.2)
  refine ⟨?_, fun v => ?_, fun v k hk => ?_, fun f => ?_, fun f => ?_, fun r => ?_, fun r => ?_, fun r => ?_, fun r p hp => ?_, fun v => ?_, ?_, ?_⟩
  · rw [m30 2 (by decide)]; exact l1
  · rw [m.on 31 rfl]; exact l2 v
  · rw [m.on 32 rfl, m.on 33 rfl, m.on 34 rfl]; exact l3 v k hk
  · rw [m.on 35 rfl]; exact l4 f
  · rw [m.on 36 rfl]; exact l5 f
  · rw [m.on 37 rfl]; exact l6 r
  · rw [m.on 38 rfl]; exact l7 r
  · rw [m.on 40 rfl]; exact l8 r
  · rw [m.on 39 rfl]; exact l9 r p hp
  · rw [m.on 41 rfl]; exact l10 v
  · rw [m30 3 (by decide)]; exact l11
  · rw [m30 1 (by decide)]; exact l12
theorem Inv.mS {σ τ τ' : xS} (h : Inv σ τ) (m : mS τ' τ) : Inv σ τ' := ⟨h.1, h.2.1.mS m, h.2.2.1.ne (fun j => m.on 36 rfl 0 j), h.2.2.2⟩
/-! the function at an address -/
def Mt (σ : xS) (v : Nat) (x : Int32) (k : Nat) : Prop := ¬ x < σ 20 v k ∧ ¬ σ 21 v k < x
theorem fnA_spec {σ : xS} {v : Nat} {x : Int32} : ∀ n k, (∃ j, (k ≤ j ∧ j < k + n) ∧ Mt σ v x j ∧ fnA σ v x n k = σ 22 v j) ∨ (fnA σ v x n k = -1 ∧ ∀ j, k ≤ j → j < k + n → ¬ Mt σ v x j)
  | 0, k => Or.inr ⟨rfl, fun j h1 h2 => by omega⟩
  | n + 1, k => by
    unfold fnA
    by_cases h : ¬ x < σ 20 v k ∧ ¬ σ 21 v k < x
    · rw [if_pos h]
      exact Or.inl ⟨k, ⟨Nat.le_refl _, by omega⟩, h, rfl⟩
    · rw [if_neg h]
      rcases fnA_spec n (k + 1) with ⟨j, h1, h2, h3⟩ | ⟨h1, h2⟩
      · exact Or.inl ⟨j, ⟨by omega, by omega⟩, h2, h3⟩
      · refine Or.inr ⟨h1, fun j h3 h4 => ?_⟩
        by_cases e : j = k
        · subst e; exact h
        · exact h2 j (by omega) (by omega)
theorem frL_spec {σ τ : xS} {v : Nat} {x : Int32} (l : LkB σ τ) (hx : x ≠ -1) : ∀ n, n ≤ 30 → (∃ j, j < n ∧ Mt σ v x j ∧ frL τ x v n = σ 22 v j) ∨ (frL τ x v n = -1 ∧ ∀ j, j < n → ¬ Mt σ v x j)
  | 0, _ => Or.inr ⟨rfl, fun j h => by omega⟩
  | n + 1, hn => by
    obtain ⟨a, b, c⟩ := l.2.2.1 v n (by omega)
    unfold frL
    rw [← a, ← b, ← c]
    by_cases h : ¬ x < σ 20 v n ∧ ¬ σ 21 v n < x
    · rw [if_pos ⟨hx, h⟩]
      exact Or.inl ⟨n, Nat.lt_succ_self _, h, rfl⟩
    · rw [if_neg (fun z => h z.2)]
      rcases frL_spec l hx n (by omega) with ⟨j, h1, h2, h3⟩ | ⟨h1, h2⟩
      · exact Or.inl ⟨j, by omega, h2, h3⟩
      · refine Or.inr ⟨h1, fun j h3 => ?_⟩
        by_cases e : j = n
        · subst e; exact h
        · exact h2 j (by omega)
theorem frL_m1 {τ : xS} {v : Nat} : ∀ n, frL τ (-1) v n = -1
  | 0 => rfl
  | n + 1 => by
    unfold frL
    rw [if_neg (fun z => z.1 rfl)]
    exact frL_m1 n
theorem fn_eq {σ τ : xS} {v : Nat} (o : okX σ) (l : LkB σ τ) (w : Wf σ) (hv : v < 4) (x : Int32) : fnX σ v x = frL τ x v (nv (τ 31 0 v)) := by
  have hc := (o.cnt hv).2
  rw [← l.2.1 v]
  unfold fnX
  rcases fnA_spec (σ := σ) (v := v) (x := x) (nv (σ 6 0 v)) 0 with ⟨j, h1, h2, h3⟩ | ⟨h1, h2⟩
  · have hx : x ≠ -1 := by
      rintro rfl
      have h4 := (w.1 v hv j (by omega)).1
      have h5 := h2.1
      rw [Int32.lt_iff_toInt_lt] at h4 h5
      have e0 : (0 : Int32).toInt = 0 := rfl
      have e1 : (-1 : Int32).toInt = -1 := by decide
      omega
    rcases frL_spec (v := v) l hx (nv (σ 6 0 v)) (by omega) with ⟨i, h4, h5, h6⟩ | ⟨h4, h5⟩
    · rw [h3, h6]
      by_cases e : i = j
      · rw [e]
      · exfalso
        refine w.2.1 v hv i j h4 (by omega) e ⟨?_, ?_⟩
        · obtain ⟨a1, a2⟩ := h2
          obtain ⟨b1, b2⟩ := h5
          rw [Int32.lt_iff_toInt_lt] at a1 a2 b1 b2 ⊢
          omega
        · obtain ⟨a1, a2⟩ := h2
          obtain ⟨b1, b2⟩ := h5
          rw [Int32.lt_iff_toInt_lt] at a1 a2 b1 b2 ⊢
          omega
    · exact absurd h2 (h5 j (by omega))
  · rw [h1]
    by_cases hx : x = -1
    · subst hx; rw [frL_m1]
    · rcases frL_spec (v := v) l hx (nv (σ 6 0 v)) (by omega) with ⟨i, h4, h5, h6⟩ | ⟨h4, h5⟩
      · exact absurd h5 (h2 i (Nat.zero_le _) (by omega))
      · exact h4.symm
theorem Inv.n60 {σ τ : xS} (h : Inv σ τ) : nv (σ 3 0 0) ≤ 60 := by
  have := h.1.1.n.2
  omega
theorem Inv.fr {σ τ : xS} (h : Inv σ τ) {r p : Nat} (hr : r < nv (σ 3 0 0)) (hp : p < 4) : frM τ r p = σ 24 r p := by
  obtain ⟨⟨o, of⟩, l, ac, w, d⟩ := h
  have hn := o.n.2
  unfold frM
  rw [← l.2.2.2.2.2.2.2.2.1 r p hp, ← l.2.2.2.2.2.1 r, (d r hr).1 p hp]
  exact (fn_eq o l w (o.ver (by omega)).2 _).symm
theorem Inv.ky {σ τ : xS} (h : Inv σ τ) {r j : Nat} (hr : r < nv (σ 3 0 0)) (hj : j < 4) : kM τ r j = σ 25 r j := by
  rw [(h.2.2.2.2 r hr).2.1 j hj]
  have l := h.2.1
  unfold kM kX
  rw [show τ 35 0 = σ 10 0 from funext fun f => (l.2.2.2.1 f).symm, show τ 36 0 = σ 11 0 from funext fun f => (l.2.2.2.2.1 f).symm, ← l.2.2.2.2.2.2.2.2.2.2.2]
  exact kV_congr (fun p hp => h.fr hr hp)
theorem Inv.kr {σ τ : xS} (h : Inv σ τ) {r : Nat} (hr : r < nv (σ 3 0 0)) : (∀ j, j < 4 → σ 25 r j = -1 ∨ ∃ i : Nat, i < 30 ∧ σ 25 r j = nI i) ∧ (σ 25 r 0 = -1 → ∀ j, j < 4 → σ 25 r j = -1) := by
  have hn := h.n60
  have hk := kV_rng (ig := σ 10 0) (d := nv (σ 2 0 0)) (fun p hp => h.1.2 r (by omega) p hp) (fun f hf => (h.1.1.std hf).2)
  have e := (h.2.2.2.2 r hr).2.1
  refine ⟨fun j hj => by rw [e j hj]; exact hk.1 j, fun h0 j hj => ?_⟩
  rw [e j hj]
  rw [e 0 (by decide)] at h0
  exact hk.2 h0 j
/-! signatures -/
theorem nI_mul (x y : Nat) : nI x * nI y = nI (x * y) := (Int32.ofNat_mul x y).symm
theorem sgL_val {σ : xS} {r : Nat} {d : Nat → Nat} (h : ∀ p, p < 4 → σ 25 r p + 1 = nI (d p)) : sgL σ r 4 = nI (((d 0 * 31 + d 1) * 31 + d 2) * 31 + d 3) := by
  show ((((0 : Int32) * 31 + σ 25 r 0 + 1) * 31 + σ 25 r 1 + 1) * 31 + σ 25 r 2 + 1) * 31 + σ 25 r 3 + 1 = _
  rw [Int32.add_assoc _ (σ 25 r 3) 1, Int32.add_assoc _ (σ 25 r 2) 1, Int32.add_assoc _ (σ 25 r 1) 1, Int32.add_assoc _ (σ 25 r 0) 1, h 0 (by decide), h 1 (by decide), h 2 (by decide), h 3 (by decide), show (31 : Int32) = nI 31 from rfl, show (0 : Int32) = nI 0 from rfl]
  simp only [nI_mul, nI_add]
  congr 1
  omega
theorem dg_of {k : Int32} (h : k = -1 ∨ ∃ i : Nat, i < 30 ∧ k = nI i) : ∃ d : Nat, d ≤ 30 ∧ k + 1 = nI d ∧ (d = 0 ↔ k = -1) := by
  rcases h with rfl | ⟨i, hi, rfl⟩
  · exact ⟨0, by omega, by decide, by simp⟩
  · exact ⟨i + 1, by omega, nI_1 i, ⟨fun z => by omega, fun z => absurd z (nI_nm1 (by omega))⟩⟩
theorem dg_inj {k k' : Int32} {d d' : Nat} (hd : d ≤ 30) (hd' : d' ≤ 30) (h : k + 1 = nI d) (h' : k' + 1 = nI d') : d = d' ↔ k = k' := by
  constructor
  · rintro rfl
    have e := h.trans h'.symm
    have e2 : k + 1 - 1 = k' + 1 - 1 := by rw [e]
    rwa [Int32.add_sub_cancel, Int32.add_sub_cancel] at e2
  · rintro rfl
    exact (nI_eq (by omega) (by omega)).mp (h.symm.trans h')
/-- the signature of a report without a function that matters -/
theorem sgN {a b : Nat} {x : Int32} (h : x = -1 - nI a * 10000 - nI b) : x + nI (10000 * a + b) = -1 := by
  have e : nI (10000 * a + b) = nI b + nI a * 10000 := by
    rw [show (10000 : Int32) = nI 10000 from rfl, nI_mul, nI_add]
    congr 1
    omega
  rw [e, ← Int32.add_assoc, h, Int32.sub_add_cancel, Int32.sub_add_cancel]
theorem sg_iff {σ : xS} {r o : Nat} {d d' : Nat → Nat} {a a' b b' : Nat} (h : ∀ p, p < 4 → σ 25 r p + 1 = nI (d p)) (h' : ∀ p, p < 4 → σ 25 o p + 1 = nI (d' p)) (hd : ∀ p, p < 4 → d p ≤ 30) (hd' : ∀ p, p < 4 → d' p ≤ 30) (h0 : d 0 = 0 → ∀ p, p < 4 → d p = 0) (h0' : d' 0 = 0 → ∀ p, p < 4 → d' p = 0) (ha : a < 4) (ha' : a' < 4) (hb : b < 10000) (hb' : b' < 10000) (e1 : σ 12 0 r = nI a) (e2 : σ 12 0 o = nI a') (e3 : σ 23 r 0 = nI b) (e4 : σ 23 o 0 = nI b') : sgX σ r = sgX σ o ↔ (∀ p, p < 4 → d p = d' p) ∧ (d 0 ≠ 0 ∨ (b = b' ∧ a = a')) := by
  have q0 := hd 0 (by decide); have q1 := hd 1 (by decide); have q2 := hd 2 (by decide); have q3 := hd 3 (by decide)
  have q0' := hd' 0 (by decide); have q1' := hd' 1 (by decide); have q2' := hd' 2 (by decide); have q3' := hd' 3 (by decide)
  have z1 := fun z => h0 z 1 (by decide); have z2 := fun z => h0 z 2 (by decide); have z3 := fun z => h0 z 3 (by decide)
  have z1' := fun z => h0' z 1 (by decide); have z2' := fun z => h0' z 2 (by decide); have z3' := fun z => h0' z 3 (by decide)
  have hall : (∀ p, p < 4 → d p = d' p) ↔ d 0 = d' 0 ∧ d 1 = d' 1 ∧ d 2 = d' 2 ∧ d 3 = d' 3 := by
    constructor
    · intro z
      exact ⟨z 0 (by decide), z 1 (by decide), z 2 (by decide), z 3 (by decide)⟩
    · rintro ⟨y0, y1, y2, y3⟩ p hp
      rcases (show p = 0 ∨ p = 1 ∨ p = 2 ∨ p = 3 by omega) with rfl | rfl | rfl | rfl <;> assumption
  rw [hall]
  unfold sgX
  rw [sgL_val h, sgL_val h', e1, e2, e3, e4]
  generalize hN : ((d 0 * 31 + d 1) * 31 + d 2) * 31 + d 3 = N
  generalize hN' : ((d' 0 * 31 + d' 1) * 31 + d' 2) * 31 + d' 3 = N'
  have lN := nI_le0 (n := N) (by omega)
  have lN' := nI_le0 (n := N') (by omega)
  by_cases c1 : N = 0
  · rw [if_pos (lN.mpr c1)]
    by_cases c2 : N' = 0
    · rw [if_pos (lN'.mpr c2)]
      constructor
      · intro e
        refine ⟨⟨by omega, by omega, by omega, by omega⟩, Or.inr ?_⟩
        have f1 := sgN (rfl : (-1 - nI a * 10000 - nI b : Int32) = _)
        have f2 := sgN (rfl : (-1 - nI a' * 10000 - nI b' : Int32) = _)
        rw [e] at f1
        have f3 := f1.trans f2.symm
        have f4 := (Int32.add_right_inj _).mp f3
        rw [nI_eq (by omega) (by omega)] at f4
        omega
      · rintro ⟨-, z | ⟨rfl, rfl⟩⟩
        · omega
        · rfl
    · rw [if_neg (fun z => c2 (lN'.mp z))]
      constructor
      · intro e
        exfalso
        have f1 := sgN (rfl : (-1 - nI a * 10000 - nI b : Int32) = _)
        rw [e, nI_add] at f1
        exact nI_nm1 (by omega) f1
      · rintro ⟨⟨y0, y1, y2, y3⟩, -⟩
        omega
  · rw [if_neg (fun z => c1 (lN.mp z))]
    by_cases c2 : N' = 0
    · rw [if_pos (lN'.mpr c2)]
      constructor
      · intro e
        exfalso
        have f1 := sgN (rfl : (-1 - nI a' * 10000 - nI b' : Int32) = _)
        rw [← e, nI_add] at f1
        exact nI_nm1 (by omega) f1
      · rintro ⟨⟨y0, y1, y2, y3⟩, -⟩
        omega
    · rw [if_neg (fun z => c2 (lN'.mp z)), nI_eq (by omega) (by omega)]
      constructor
      · intro e
        exact ⟨⟨by omega, by omega, by omega, by omega⟩, Or.inl (by omega)⟩
      · rintro ⟨⟨y0, y1, y2, y3⟩, -⟩
        omega
theorem isL_4 {τ : xS} {r o : Nat} : isL τ r o 4 = true ↔ ∀ p, p < 4 → τ 43 0 (4 * r + p) = τ 43 0 (4 * o + p) := by
  show (((((true && decide _) && decide _) && decide _) && decide _) = true) ↔ _
  simp only [Bool.true_and, Bool.and_eq_true, decide_eq_true_eq]
  constructor
  · rintro ⟨⟨⟨h0, h1⟩, h2⟩, h3⟩ p hp
    rcases (show p = 0 ∨ p = 1 ∨ p = 2 ∨ p = 3 by omega) with rfl | rfl | rfl | rfl <;> assumption
  · intro h
    exact ⟨⟨⟨h 0 (by decide), h 1 (by decide)⟩, h 2 (by decide)⟩, h 3 (by decide)⟩
/-- two reports are the same to the reference iff their signatures are -/
theorem isM_sg {σ τ υ : xS} (h : Inv σ τ) (m : mS υ τ) {r o : Nat} (hr : r < nv (σ 3 0 0)) (ho : o < nv (σ 3 0 0)) (k1 : ∀ p, p < 4 → υ 43 0 (4 * r + p) = σ 25 r p) (k2 : ∀ p, p < 4 → υ 43 0 (4 * o + p) = σ 25 o p) : isM υ r o = decide (σ 18 0 o = σ 18 0 r) := by
  have hn := h.n60
  obtain ⟨c1, c2⟩ := h.kr hr
  obtain ⟨c1', c2'⟩ := h.kr ho
  have g1 : ∀ p, ∃ d : Nat, p < 4 → d ≤ 30 ∧ σ 25 r p + 1 = nI d ∧ (d = 0 ↔ σ 25 r p = -1) := fun p => by
    by_cases hp : p < 4
    · obtain ⟨d, hd⟩ := dg_of (c1 p hp)
      exact ⟨d, fun _ => hd⟩
    · exact ⟨0, fun z => absurd z hp⟩
  have g2 : ∀ p, ∃ d : Nat, p < 4 → d ≤ 30 ∧ σ 25 o p + 1 = nI d ∧ (d = 0 ↔ σ 25 o p = -1) := fun p => by
    by_cases hp : p < 4
    · obtain ⟨d, hd⟩ := dg_of (c1' p hp)
      exact ⟨d, fun _ => hd⟩
    · exact ⟨0, fun z => absurd z hp⟩
  obtain ⟨d, hd⟩ := Classical.axiomOfChoice g1
  obtain ⟨d', hd'⟩ := Classical.axiomOfChoice g2
  obtain ⟨b, hb, e3⟩ := h.2.2.2.1.2.2 r hr
  obtain ⟨b', hb', e4⟩ := h.2.2.2.1.2.2 o ho
  have v1 := h.1.1.ver (show r < 60 by omega)
  have v2 := h.1.1.ver (show o < 60 by omega)
  have key := sg_iff (σ := σ) (r := r) (o := o) (fun p hp => (hd p hp).2.1) (fun p hp => (hd' p hp).2.1) (fun p hp => (hd p hp).1) (fun p hp => (hd' p hp).1) (fun z p hp => (hd p hp).2.2.mpr (c2 ((hd 0 (by decide)).2.2.mp z) p hp)) (fun z p hp => (hd' p hp).2.2.mpr (c2' ((hd' 0 (by decide)).2.2.mp z) p hp)) v1.2 v2.2 hb hb' v1.1 v2.1 e3 e4
  have s1 := (h.2.2.2.2 r hr).2.2.1
  have s2 := (h.2.2.2.2 o ho).2.2.1
  have hkey : (∀ p, p < 4 → d p = d' p) ↔ ∀ p, p < 4 → σ 25 r p = σ 25 o p := by
    constructor
    · intro z p hp
      exact (dg_inj (hd p hp).1 (hd' p hp).1 (hd p hp).2.1 (hd' p hp).2.1).mp (z p hp)
    · intro z p hp
      exact (dg_inj (hd p hp).1 (hd' p hp).1 (hd p hp).2.1 (hd' p hp).2.1).mpr (z p hp)
  have l := h.2.1.mS m
  rw [Bool.eq_iff_iff, decide_eq_true_eq, s1, s2]
  constructor
  · intro z
    refine (key.mpr ?_).symm
    unfold isM at z
    rw [Bool.and_eq_true, isL_4] at z
    refine ⟨hkey.mpr (fun p hp => by rw [← k1 p hp, ← k2 p hp]; exact z.1 p hp), ?_⟩
    have z2 := z.2
    rw [Bool.or_eq_true, Bool.not_eq_true', decide_eq_false_iff_not, Bool.and_eq_true, decide_eq_true_eq, decide_eq_true_eq] at z2
    rcases z2 with z2 | ⟨z2, z3⟩
    · refine Or.inl (fun z4 => z2 ?_)
      have := k1 0 (by decide)
      rw [Nat.add_zero] at this
      rw [this]
      exact (hd 0 (by decide)).2.2.mp z4
    · have l9 := l.2.2.2.2.2.2.2.2.1
      have l6 := l.2.2.2.2.2.1
      have y1 := l9 r 0 (by decide)
      have y2 := l9 o 0 (by decide)
      rw [Nat.add_zero] at y1 y2
      rw [← y1, ← y2, e3, e4, nI_eq (by omega) (by omega)] at z2
      rw [← l6 r, ← l6 o] at z3
      exact Or.inr ⟨z2, z3⟩
  · intro z
    obtain ⟨y1, y2⟩ := key.mp z.symm
    unfold isM
    rw [Bool.and_eq_true, isL_4]
    refine ⟨fun p hp => by rw [k1 p hp, k2 p hp]; exact hkey.mp y1 p hp, ?_⟩
    rw [Bool.or_eq_true, Bool.not_eq_true', decide_eq_false_iff_not, Bool.and_eq_true, decide_eq_true_eq, decide_eq_true_eq]
    rcases y2 with y2 | ⟨y2, y3⟩
    · refine Or.inl (fun z4 => y2 ?_)
      have := k1 0 (by decide)
      rw [Nat.add_zero] at this
      rw [this] at z4
      exact (hd 0 (by decide)).2.2.mpr z4
    · have l9 := l.2.2.2.2.2.2.2.2.1
      have l6 := l.2.2.2.2.2.1
      have x1 := l9 r 0 (by decide)
      have x2 := l9 o 0 (by decide)
      rw [Nat.add_zero] at x1 x2
      refine Or.inr ⟨?_, ?_⟩
      · rw [← x1, ← x2, e3, e4, y2]
      · rw [← l6 r, ← l6 o]
        exact y3
/-- the reference's names are the class's -/
theorem na_eq {σ τ : xS} (h : Inv σ τ) : ∀ R, R ≤ nv (σ 3 0 0) → ∀ r, r < R → (∀ p, p < 4 → naL τ R 43 0 (4 * r + p) = σ 25 r p) ∧ naL τ R 42 0 r = σ 19 0 r
  | R + 1, hR, r, hr => by
    have ih := na_eq h R (by omega)
    have ek : ∀ k p, k ≤ R → p < 4 → kyS (naL τ R) R 43 0 (4 * k + p) = σ 25 k p := fun k p hk hp => by
      by_cases e : k = R
      · subst e
        rw [kyS_row hp, kM_mS mS_na]
        exact h.ky (by omega) hp
      · rw [kyS_rne (by omega)]
        exact (ih k (by omega)).1 p hp
    unfold naL
    generalize hυ : up3 (kyS (naL τ R) R) 42 0 R (nI R) = υ
    have mυ : mS υ τ := by
      rw [← hυ]
      exact (mS_42.tr mS_ky).tr mS_na
    have e43 : ∀ k p, k ≤ R → p < 4 → υ 43 0 (4 * k + p) = σ 25 k p := fun k p hk hp => by
      rw [← hυ, up3_ne (fun z => absurd z.1 (by decide))]
      exact ek k p hk hp
    refine ⟨fun p hp => ?_, ?_⟩
    · rw [ndL_rne R υ 43 0 _ (fun z => absurd z.1 (by decide))]
      exact e43 r p (by omega) hp
    · by_cases e : r = R
      · subst e
        have hP : nmF (isM υ r) r 0 = nmA σ r r 0 := by
          rw [nmA_F]
          exact nmF_congr r 0 (fun j _ hj => isM_sg h mυ (by omega) (by omega) (fun p hp => e43 r p (Nat.le_refl _) hp) (fun p hp => e43 j p (by omega) hp))
        rw [ndL_row, hP, (h.2.2.2.2 r (by omega)).2.2.2]
        have hl := nmF_le (P := fun k => decide (σ 18 0 k = σ 18 0 r)) r 0
        rw [← nmA_F] at hl
        by_cases c : nmA σ r r 0 < r
        · rw [if_pos c]
        · rw [if_neg c, ← hυ, up3_self, show nmA σ r r 0 = r by omega]
      · rw [ndL_rne R υ 42 0 r (fun z => e z.2), ← hυ, up3_ne (fun z => e z.2.2), kyS_ne (by decide)]
        exact (ih r (by omega)).2

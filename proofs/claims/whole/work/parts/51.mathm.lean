/-! ===== mathematics: the reference's keys ===== -/
/-- the same base -/
def mS (τ' τ : xS) : Prop := ∀ t i j, t ≠ 42 → t ≠ 43 → t ≠ 44 → ¬ (t = 30 ∧ j = 0) → τ' t i j = τ t i j
theorem mS.on {τ' τ : xS} (h : mS τ' τ) (t : Nat) (ht : (t == 30 || t == 42 || t == 43 || t == 44) = false) (i j : Nat) : τ' t i j = τ t i j := by
  simp only [Bool.or_eq_false_iff, beq_eq_false_iff_ne] at ht
  exact h t i j ht.1.1.2 ht.1.2 ht.2 (fun z => ht.1.1.1 z.1)
theorem mS.rf {τ : xS} : mS τ τ := fun _ _ _ _ _ _ _ => rfl
theorem mS.tr {a b c : xS} (h : mS a b) (h2 : mS b c) : mS a c := fun t i j h42 h43 h44 h30 => (h t i j h42 h43 h44 h30).trans (h2 t i j h42 h43 h44 h30)
theorem mS_th {τ : xS} (k : Int32) : mS (up3 τ 30 0 0 k) τ := fun t i j _ _ _ h => up3_ne (fun z => h ⟨z.1, z.2.2⟩)
theorem mS_m0 {τ : xS} : mS (m0 τ) τ := mS_th _
theorem mS_mF {τ : xS} {k : Nat} : mS (mF τ k) τ := (mS_th _).tr mS_m0
theorem mS_na {τ : xS} {r : Nat} : mS (naL τ r) τ := fun t i j h1 h2 _ _ => naL_ne r t i j h1 h2
theorem mS_um {τ : xS} {nm : Int32} {v : Nat} : mS (umX τ nm v).2 τ := fun t i j _ _ h _ => umX_ne h
theorem mS_ky {τ : xS} {r : Nat} : mS (kyS τ r) τ := fun t i j _ h _ _ => kyS_ne h
theorem mS_43 {τ : xS} {k : Nat} {x : Int32} : mS (up3 τ 43 0 k x) τ := fun t i j _ h _ _ => up3_ne (fun z => h z.1)
theorem mS_42 {τ : xS} {k : Nat} {x : Int32} : mS (up3 τ 42 0 k x) τ := fun t i j h _ _ _ => up3_ne (fun z => h z.1)
theorem mS_gm {v : Nat} : ∀ (n k : Nat) (h b : Bool) (τ : xS), mS (gmL v n k h b τ).2 τ
  | 0, _, _, _, _ => mS.rf
  | n + 1, k, h, b, τ => by
    unfold gmL
    split
    · split
      · exact mS_gm n _ _ _ _
      · split
        · exact (mS_gm n _ _ _ _).tr mS_um
        · exact mS_gm n _ _ _ _
    · exact mS_gm n _ _ _ _
theorem frL_mS {τ' τ : xS} (h : mS τ' τ) {x : Int32} {v : Nat} : ∀ j, frL τ' x v j = frL τ x v j
  | 0 => rfl
  | j + 1 => by
    unfold frL
    rw [h.on 32 rfl 0 _, h.on 33 rfl 0 _, h.on 34 rfl 0 _, frL_mS h j]
theorem frM_mS {τ' τ : xS} (h : mS τ' τ) {r p : Nat} : frM τ' r p = frM τ r p := by
  unfold frM
  rw [h.on 39 rfl 0 _, h.on 37 rfl 0 _, h.on 31 rfl 0 _, frL_mS h]
def kM (τ : xS) (r j : Nat) : Int32 := kV (fun p => frM τ r p) (τ 35 0) (τ 36 0) (nv (τ 30 0 1)) j
theorem mS.f35 {τ' τ : xS} (h : mS τ' τ) : τ' 35 0 = τ 35 0 := funext fun j => h.on 35 rfl 0 j
theorem mS.f36 {τ' τ : xS} (h : mS τ' τ) : τ' 36 0 = τ 36 0 := funext fun j => h.on 36 rfl 0 j
theorem mS.dep {τ' τ : xS} (h : mS τ' τ) : τ' 30 0 1 = τ 30 0 1 := h 30 0 1 (by decide) (by decide) (by decide) (by decide)
theorem kM_mS {τ' τ : xS} (h : mS τ' τ) {r j : Nat} : kM τ' r j = kM τ r j := by
  unfold kM
  rw [h.f35, h.f36, h.dep]
  congr 1
  funext p
  exact frM_mS h
theorem kpL_full {r : Nat} : ∀ (n p q : Nat) (τ : xS), nv (τ 30 0 1) ≤ q → (kpL r n p q τ).2 = τ
  | 0, _, _, _, _ => rfl
  | n + 1, p, q, τ, h => by
    unfold kpL
    split
    · exact kpL_full n _ _ _ h
    · split
      · exact kpL_full n _ _ _ h
      · first
          | exact kpL_full n _ _ _ h
          | (rw [if_pos h]; exact kpL_full n _ _ _ h)
theorem kpL_row {r : Nat} : ∀ (n p q : Nat) (τ : xS), (∀ j, j < q → (kpL r n p q τ).2 43 0 (4 * r + j) = τ 43 0 (4 * r + j)) ∧ (∀ j, j < (kS (fun p => frM τ r p) (τ 35 0) (τ 36 0) (nv (τ 30 0 1)) n p q).length → (kpL r n p q τ).2 43 0 (4 * r + (q + j)) = (kS (fun p => frM τ r p) (τ 35 0) (τ 36 0) (nv (τ 30 0 1)) n p q).getD j (-1)) ∧ ∀ j, (kS (fun p => frM τ r p) (τ 35 0) (τ 36 0) (nv (τ 30 0 1)) n p q).length ≤ j → (kpL r n p q τ).2 43 0 (4 * r + (q + j)) = τ 43 0 (4 * r + (q + j))
  | 0, _, _, _ => ⟨fun _ _ => rfl, fun j h => absurd h (Nat.not_lt_zero _), fun _ _ => rfl⟩
  | n + 1, p, q, τ => by
    by_cases hd : nv (τ 30 0 1) ≤ q
    · rw [kpL_full (n + 1) p q τ hd]
      have e : kS (fun p => frM τ r p) (τ 35 0) (τ 36 0) (nv (τ 30 0 1)) (n + 1) p q = [] := by
        unfold kS
        rw [if_pos hd]
      rw [e]
      exact ⟨fun _ _ => rfl, fun j h => absurd h (Nat.not_lt_zero _), fun _ _ => rfl⟩
    · unfold kpL kS
      rw [if_neg hd, if_neg hd]
      split
      · exact kpL_row n (p + 1) q τ
      · split
        · exact kpL_row n (p + 1) q τ
        · have ih := kpL_row (r := r) n (p + 1) (q + 1) (up3 τ 43 0 (4 * r + q) (nI (ieM τ 30 (nv (frM τ r p)))))
          have hf : (fun p => frM (up3 τ 43 0 (4 * r + q) (nI (ieM τ 30 (nv (frM τ r p))))) r p) = fun p => frM τ r p := funext fun p => frM_mS mS_43
          rw [mS_43.f35, mS_43.f36, mS_43.dep] at ih
          have ih2 := ih
          clear ih
          have hf2 : ∀ x : Int32, (fun p => frM (up3 τ 43 0 (4 * r + q) x) r p) = fun p => frM τ r p := fun x => funext fun p => frM_mS mS_43
          rw [hf2] at ih2
          obtain ⟨h1, h2, h3⟩ := ih2
          refine ⟨fun j hj => ?_, fun j hj => ?_, fun j hj => ?_⟩
          · rw [h1 j (by omega), up3_ne (fun z => by omega)]
          · cases j with
            | zero =>
              exact (h1 q (by omega)).trans (by rw [up3_self, ieM_F]; rfl)
            | succ j =>
              rw [List.length_cons] at hj
              rw [show q + (j + 1) = q + 1 + j by omega, h2 j (by omega)]
              rfl
          · rw [List.length_cons] at hj
            obtain ⟨i, rfl⟩ : ∃ z, j = z + 1 := ⟨j - 1, by omega⟩
            rw [show q + (i + 1) = q + 1 + i by omega, h3 i (by omega), up3_ne (fun z => by omega)]
theorem kiL_row {τ : xS} {r : Nat} : ∀ p j, j < p → kiL τ r p 43 0 (4 * r + j) = -1
  | p + 1, j, h => by
    unfold kiL
    by_cases e : j = p
    · subst e; rw [up3_self]
    · rw [up3_ne (fun z => by omega)]
      exact kiL_row p j (by omega)
theorem mS_ki {τ : xS} {r p : Nat} : mS (kiL τ r p) τ := fun t i j _ h _ _ => kiL_ne p t i j h
theorem kyS_row {τ : xS} {r j : Nat} (hj : j < 4) : kyS τ r 43 0 (4 * r + j) = kM τ r j := by
  obtain ⟨-, h2, h3⟩ := kpL_row (r := r) 4 0 0 (kiL τ r 4)
  rw [← kM_mS (mS_ki (τ := τ) (r := r) (p := 4))]
  unfold kyS kM kV
  by_cases h : j < (kS (fun p => frM (kiL τ r 4) r p) (kiL τ r 4 35 0) (kiL τ r 4 36 0) (nv (kiL τ r 4 30 0 1)) 4 0 0).length
  · have := h2 j h
    rwa [Nat.zero_add] at this
  · have := h3 j (by omega)
    rw [Nat.zero_add] at this
    rw [this, kiL_row 4 j hj, List.getD_eq_getElem?_getD, List.getElem?_eq_none (by omega)]
    rfl
theorem kiL_rne {τ : xS} {r : Nat} : ∀ p k, p ≤ 4 → (k < 4 * r ∨ 4 * r + 4 ≤ k) → kiL τ r p 43 0 k = τ 43 0 k
  | 0, _, _, _ => rfl
  | p + 1, k, hp, h => by
    unfold kiL
    rw [up3_ne (fun z => by omega), kiL_rne p k (by omega) h]
theorem kpL_rne {r : Nat} : ∀ (n p q : Nat) (τ : xS) (k : Nat), q + n ≤ 4 → (k < 4 * r ∨ 4 * r + 4 ≤ k) → (kpL r n p q τ).2 43 0 k = τ 43 0 k
  | 0, _, _, _, _, _, _ => rfl
  | n + 1, p, q, τ, k, hn, h => by
    unfold kpL
    split
    · exact kpL_rne n _ _ _ k (by omega) h
    · split
      · exact kpL_rne n _ _ _ k (by omega) h
      · split
        · exact kpL_rne n _ _ _ k (by omega) h
        · rw [kpL_rne n _ _ _ k (by omega) h, up3_ne (fun z => by omega)]
theorem kyS_rne {τ : xS} {r k : Nat} (h : k < 4 * r ∨ 4 * r + 4 ≤ k) : kyS τ r 43 0 k = τ 43 0 k := by
  unfold kyS
  rw [kpL_rne 4 0 0 _ k (by omega) h, kiL_rne 4 k (by omega) h]
/-! ===== naming ===== -/
def nmF (P : Nat → Bool) : Nat → Nat → Nat
  | 0, k => k
  | n + 1, k => if P k = true then k else nmF P n (k + 1)
theorem nmF_le {P : Nat → Bool} : ∀ n k, nmF P n k ≤ k + n
  | 0, _ => Nat.le_refl _
  | n + 1, k => by
    unfold nmF
    have := nmF_le (P := P) n (k + 1)
    split <;> omega
theorem nmF_succ {P : Nat → Bool} : ∀ n k, nmF P (n + 1) k = if nmF P n k < k + n then nmF P n k else if P (k + n) = true then k + n else k + n + 1
  | 0, k => by
    show (if P k = true then k else k + 1) = if k < k + 0 then k else if P (k + 0) = true then k + 0 else k + 0 + 1
    exact (if_neg (Nat.lt_irrefl k)).symm ▸ rfl
  | n + 1, k => by
    have ih := nmF_succ (P := P) n (k + 1)
    show (if P k = true then k else nmF P (n + 1) (k + 1)) = if (if P k = true then k else nmF P n (k + 1)) < k + (n + 1) then (if P k = true then k else nmF P n (k + 1)) else _
    by_cases h : P k = true
    · simp only [if_pos h]
      rw [if_pos (by omega)]
    · simp only [if_neg h]
      rw [ih, show k + 1 + n = k + (n + 1) by omega]
theorem nmF_congr {P P' : Nat → Bool} : ∀ n k, (∀ j, k ≤ j → j < k + n → P j = P' j) → nmF P n k = nmF P' n k
  | 0, _, _ => rfl
  | n + 1, k, h => by
    unfold nmF
    rw [h k (by omega) (by omega), nmF_congr n (k + 1) (fun j h1 h2 => h j (by omega) (by omega))]
theorem nmA_F {σ : xS} {r : Nat} : ∀ n k, nmA σ r n k = nmF (fun k => decide (σ 18 0 k = σ 18 0 r)) n k
  | 0, _ => rfl
  | n + 1, k => by
    unfold nmA nmF
    rw [nmA_F n (k + 1)]
    simp only [decide_eq_true_eq]
theorem isL_congr {τ τ' : xS} (h : ∀ j, τ' 43 0 j = τ 43 0 j) {r o : Nat} : ∀ n, isL τ' r o n = isL τ r o n
  | 0 => rfl
  | n + 1 => by
    unfold isL
    rw [isL_congr h n, h, h]
theorem isM_42 {τ : xS} {k r o : Nat} {x : Int32} : isM (up3 τ 42 0 k x) r o = isM τ r o := by
  unfold isM
  rw [isL_congr (fun j => up3_ne (fun z => absurd z.1 (by decide))) 4, up3_ne (fun z => absurd z.1 (by decide)), up3_ne (fun z => absurd z.1 (by decide)), up3_ne (fun z => absurd z.1 (by decide)), up3_ne (fun z => absurd z.1 (by decide)), up3_ne (fun z => absurd z.1 (by decide))]
theorem ndL_row {r : Nat} : ∀ (j : Nat) (τ : xS), ndL r j τ 42 0 r = if nmF (isM τ r) j 0 < j then nI (nmF (isM τ r) j 0) else τ 42 0 r
  | 0, τ => by rw [if_neg (by omega)]; rfl
  | j + 1, τ => by
    unfold ndL
    rw [ndL_row j]
    have e : isM (up3 τ 42 0 r (if isM τ r j = true then nI j else τ 42 0 r)) r = isM τ r := funext fun o => isM_42
    rw [e, up3_self, nmF_succ, Nat.zero_add]
    have hl := nmF_le (P := isM τ r) j 0
    by_cases h : nmF (isM τ r) j 0 < j
    · rw [if_pos h, if_pos h, if_pos (by omega)]
    · rw [if_neg h, if_neg h]
      by_cases h2 : isM τ r j = true
      · rw [if_pos h2, if_pos h2, if_pos (by omega)]
      · rw [if_neg h2, if_neg h2, if_neg (by omega)]
theorem ndL_rne {r : Nat} : ∀ (j : Nat) (τ : xS) (t i k : Nat), ¬ (t = 42 ∧ k = r) → ndL r j τ t i k = τ t i k
  | 0, _, _, _, _, _ => rfl
  | j + 1, τ, t, i, k, h => by
    unfold ndL
    rw [ndL_rne j _ t i k h, up3_ne (fun z => h ⟨z.1, z.2.2⟩)]

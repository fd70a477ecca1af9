/-! ===== mathematics: keys, signatures, names ===== -/
theorem up3_row {σ : xS} {t i j : Nat} {v : Int32} {t' i' : Nat} (h : ¬ (t' = t ∧ i' = i)) : up3 σ t i j v t' i' = σ t' i' := upR_ne h
theorem up3_tag {σ : xS} {t i j : Nat} {v : Int32} {t' : Nat} (h : t' ≠ t) : up3 σ t i j v t' = σ t' := by
  funext i'
  exact upR_ne (fun z => h z.1)
def ieF (st : Nat → Int32) : Nat → Nat → Nat
  | 0, t => t
  | n + 1, t => if nv (st t) = t then t else ieF st n (nv (st t))
theorem ieA_F {σ : xS} : ∀ n t, ieA σ n t = ieF (σ 11 0) n t
  | 0, _ => rfl
  | n + 1, t => by
    unfold ieA ieF
    rw [ieA_F n]
theorem ieF_lt {st : Nat → Int32} (h : ∀ f, f < 30 → nv (st f) < 30) : ∀ n t, t < 30 → ieF st n t < 30
  | 0, _, ht => ht
  | n + 1, t, ht => by
    unfold ieF
    split
    · exact ht
    · exact ieF_lt h n _ (h t ht)
def kS (fr ig st : Nat → Int32) (d : Nat) : Nat → Nat → Nat → List Int32
  | 0, _, _ => []
  | n + 1, p, q => if d ≤ q then [] else if fr p = -1 then kS fr ig st d n (p + 1) q else if ig (nv (fr p)) ≠ 0 then kS fr ig st d n (p + 1) q else nI (ieF st 30 (nv (fr p))) :: kS fr ig st d n (p + 1) (q + 1)
def kV (fr ig st : Nat → Int32) (d j : Nat) : Int32 := (kS fr ig st d 4 0 0).getD j (-1)
theorem kS_len {fr ig st : Nat → Int32} {d : Nat} : ∀ n p q, (kS fr ig st d n p q).length ≤ n
  | 0, _, _ => Nat.le_refl _
  | n + 1, p, q => by
    unfold kS
    have h1 := kS_len (fr := fr) (ig := ig) (st := st) (d := d) n (p + 1) q
    have h2 := kS_len (fr := fr) (ig := ig) (st := st) (d := d) n (p + 1) (q + 1)
    split
    · exact Nat.zero_le _
    · split
      · omega
      · split
        · omega
        · rw [List.length_cons]; omega
theorem kS_congr {fr fr' ig st : Nat → Int32} {d : Nat} : ∀ n p q, (∀ p', p' < p + n → fr p' = fr' p') → kS fr ig st d n p q = kS fr' ig st d n p q
  | 0, _, _, _ => rfl
  | n + 1, p, q, h => by
    unfold kS
    rw [h p (by omega), kS_congr n (p + 1) q (fun p' hp => h p' (by omega)), kS_congr n (p + 1) (q + 1) (fun p' hp => h p' (by omega))]
theorem kV_congr {fr fr' ig st : Nat → Int32} {d j : Nat} (h : ∀ p, p < 4 → fr p = fr' p) : kV fr ig st d j = kV fr' ig st d j := by
  unfold kV
  rw [kS_congr 4 0 0 (fun p hp => h p (by omega))]
theorem kS_mem {fr ig st : Nat → Int32} {d : Nat} (hf : ∀ p, p < 4 → fr p = -1 ∨ inR (fr p) 30) (hs : ∀ f, f < 30 → nv (st f) < 30) : ∀ n p q, p + n ≤ 4 → ∀ x ∈ kS fr ig st d n p q, ∃ j : Nat, j < 30 ∧ x = nI j
  | 0, _, _, _, _, h => absurd h List.not_mem_nil
  | n + 1, p, q, hp, x, h => by
    unfold kS at h
    split at h
    · exact absurd h List.not_mem_nil
    · split at h
      · exact kS_mem hf hs n _ _ (by omega) x h
      · next hm =>
        split at h
        · exact kS_mem hf hs n _ _ (by omega) x h
        · rcases List.mem_cons.mp h with h | h
          · refine ⟨_, ieF_lt hs 30 _ ?_, h⟩
            rcases hf p (by omega) with h9 | h9
            · exact absurd h9 hm
            · exact h9.2
          · exact kS_mem hf hs n _ _ (by omega) x h
theorem nI_nm1 {j : Nat} (h : j < 2 ^ 31) : nI j ≠ -1 := by
  intro e
  have := congrArg Int32.toInt e
  rw [nI_toInt h] at this
  have e2 : (-1 : Int32).toInt = -1 := by decide
  omega
/-- a key: none, or a function; where the first is none, all are -/
theorem kV_rng {fr ig st : Nat → Int32} {d : Nat} (hf : ∀ p, p < 4 → fr p = -1 ∨ inR (fr p) 30) (hs : ∀ f, f < 30 → nv (st f) < 30) : (∀ j, kV fr ig st d j = -1 ∨ ∃ i : Nat, i < 30 ∧ kV fr ig st d j = nI i) ∧ (kV fr ig st d 0 = -1 → ∀ j, kV fr ig st d j = -1) := by
  have hm := kS_mem (ig := ig) (d := d) hf hs 4 0 0 (by omega)
  unfold kV
  generalize kS fr ig st d 4 0 0 = l at hm
  refine ⟨fun j => ?_, fun h j => ?_⟩
  · by_cases hj : j < l.length
    · rw [List.getD_eq_getElem?_getD, List.getElem?_eq_getElem hj]
      exact Or.inr (hm _ (List.getElem_mem hj))
    · rw [List.getD_eq_getElem?_getD, List.getElem?_eq_none (by omega)]
      exact Or.inl rfl
  · cases l with
    | nil => rfl
    | cons x l =>
      exfalso
      obtain ⟨i, hi, e⟩ := hm x List.mem_cons_self
      have h2 : x = -1 := h
      rw [e] at h2
      exact nI_nm1 (by omega) h2
def kX (σ : xS) (r j : Nat) : Int32 := kV (σ 24 r) (σ 10 0) (σ 11 0) (nv (σ 2 0 0)) j
theorem pkL_row {r : Nat} : ∀ (n p q : Nat) (τ : xS), (pkL r n p q τ).1 = q + (kS (τ 24 r) (τ 10 0) (τ 11 0) (nv (τ 2 0 0)) n p q).length ∧ (∀ j, j < q → (pkL r n p q τ).2 25 r j = τ 25 r j) ∧ ∀ j, j < (kS (τ 24 r) (τ 10 0) (τ 11 0) (nv (τ 2 0 0)) n p q).length → (pkL r n p q τ).2 25 r (q + j) = (kS (τ 24 r) (τ 10 0) (τ 11 0) (nv (τ 2 0 0)) n p q).getD j (-1)
  | 0, _, _, _ => ⟨rfl, fun _ _ => rfl, fun j h => absurd h (Nat.not_lt_zero _)⟩
  | n + 1, p, q, τ => by
    unfold pkL kS
    split
    · exact ⟨rfl, fun _ _ => rfl, fun j h => absurd h (Nat.not_lt_zero _)⟩
    · split
      · exact pkL_row n (p + 1) q τ
      · split
        · exact pkL_row n (p + 1) q τ
        · have ih := pkL_row (r := r) n (p + 1) (q + 1) (up3 τ 25 r q (nI (ieA τ 30 (nv (τ 24 r p)))))
          rw [up3_tag (t' := 24) (by decide), up3_tag (t' := 10) (by decide), up3_tag (t' := 11) (by decide), up3_tag (t' := 2) (by decide)] at ih
          obtain ⟨h1, h2, h3⟩ := ih
          refine ⟨by rw [h1, List.length_cons]; omega, fun j hj => ?_, fun j hj => ?_⟩
          · rw [h2 j (by omega), up3_ne (fun z => by omega)]
          · cases j with
            | zero =>
              exact (h2 q (by omega)).trans (by rw [up3_self, ieA_F]; rfl)
            | succ j =>
              rw [List.length_cons] at hj
              rw [show q + (j + 1) = q + 1 + j by omega, h3 j (by omega)]
              rfl
theorem flL_row {r : Nat} : ∀ (n k : Nat) (τ : xS) (j : Nat), flL r n k τ 25 r j = if k ≤ j ∧ j < k + n then -1 else τ 25 r j
  | 0, k, τ, j => by
    rw [if_neg (by omega)]
    rfl
  | n + 1, k, τ, j => by
    unfold flL
    rw [flL_row n (k + 1)]
    by_cases h : j = k
    · subst h
      rw [if_neg (by omega), if_pos (by omega), up3_self]
    · rw [up3_ne (fun z => h z.2.2)]
      by_cases h2 : k + 1 ≤ j ∧ j < k + 1 + n
      · rw [if_pos h2, if_pos (by omega)]
      · rw [if_neg h2, if_neg (by omega)]
theorem pkS_row {τ : xS} {r j : Nat} (hj : j < 4) : pkS τ r 25 r j = kX τ r j := by
  obtain ⟨h1, h2, h3⟩ := pkL_row (r := r) 4 0 0 τ
  have hl := kS_len (fr := τ 24 r) (ig := τ 10 0) (st := τ 11 0) (d := nv (τ 2 0 0)) 4 0 0
  unfold pkS kX kV
  rw [flL_row, h1]
  by_cases h : j < (kS (τ 24 r) (τ 10 0) (τ 11 0) (nv (τ 2 0 0)) 4 0 0).length
  · rw [if_neg (by omega)]
    have := h3 j h
    rwa [Nat.zero_add] at this
  · rw [if_pos (by omega), List.getD_eq_getElem?_getD, List.getElem?_eq_none (by omega)]
    rfl
theorem pkL_rne {r : Nat} : ∀ (n p q : Nat) (τ : xS) (i : Nat), i ≠ r → (pkL r n p q τ).2 25 i = τ 25 i
  | 0, _, _, _, _, _ => rfl
  | n + 1, p, q, τ, i, h => by
    unfold pkL
    split
    · rfl
    · split
      · exact pkL_rne n _ _ _ i h
      · split
        · exact pkL_rne n _ _ _ i h
        · rw [pkL_rne n _ _ _ i h, up3_row (fun z => h z.2)]
theorem flL_rne {r : Nat} : ∀ (n k : Nat) (τ : xS) (i : Nat), i ≠ r → flL r n k τ 25 i = τ 25 i
  | 0, _, _, _, _ => rfl
  | n + 1, k, τ, i, h => by
    unfold flL
    rw [flL_rne n _ _ i h, up3_row (fun z => h z.2)]
theorem pkS_rne {τ : xS} {r i : Nat} (h : i ≠ r) : pkS τ r 25 i = τ 25 i := by
  unfold pkS
  rw [flL_rne _ _ _ i h, pkL_rne _ _ _ _ i h]
/-- what a signature is made of -/
theorem sgL_congr {σ τ : xS} {r : Nat} (h : ∀ p, p < 4 → τ 25 r p = σ 25 r p) : ∀ n, n ≤ 4 → sgL τ r n = sgL σ r n
  | 0, _ => rfl
  | n + 1, hn => by
    unfold sgL
    rw [sgL_congr h n (by omega), h n (by omega)]
theorem sgX_congr {σ τ : xS} {r : Nat} (h : ∀ p, p < 4 → τ 25 r p = σ 25 r p) (h2 : τ 12 0 r = σ 12 0 r) (h3 : τ 23 r 0 = σ 23 r 0) : sgX τ r = sgX σ r := by
  unfold sgX
  rw [sgL_congr h 4 (by omega), h2, h3]
theorem nmA_congr {σ τ : xS} {r : Nat} : ∀ n k, (∀ j, j < k + n → τ 18 0 j = σ 18 0 j) → τ 18 0 r = σ 18 0 r → nmA τ r n k = nmA σ r n k
  | 0, _, _, _ => rfl
  | n + 1, k, h, hr => by
    unfold nmA
    rw [nmA_congr n (k + 1) (fun j hj => h j (by omega)) hr, h k (by omega), hr]
/-- a report's derived rows are right -/
def Kd (σ : xS) (r : Nat) : Prop := (∀ p, p < 4 → σ 25 r p = kX σ r p) ∧ σ 18 0 r = sgX σ r ∧ σ 19 0 r = nI (nmA σ r r 0)
theorem kX_congr {σ τ : xS} {r : Nat} (h1 : ∀ p, p < 4 → τ 24 r p = σ 24 r p) (h2 : τ 10 0 = σ 10 0) (h3 : τ 11 0 = σ 11 0) (h4 : τ 2 0 0 = σ 2 0 0) (j : Nat) : kX τ r j = kX σ r j := by
  unfold kX
  rw [h2, h3, h4]
  exact kV_congr h1
theorem Kd.congr {σ τ : xS} {r : Nat} (h : Kd σ r) (h1 : ∀ p, p < 4 → τ 24 r p = σ 24 r p) (h2 : τ 10 0 = σ 10 0) (h3 : τ 11 0 = σ 11 0) (h4 : τ 2 0 0 = σ 2 0 0) (h5 : ∀ p, p < 4 → τ 25 r p = σ 25 r p) (h6 : τ 12 0 r = σ 12 0 r) (h7 : τ 23 r 0 = σ 23 r 0) (h8 : ∀ j, j ≤ r → τ 18 0 j = σ 18 0 j) (h9 : τ 19 0 r = σ 19 0 r) : Kd τ r := by
  obtain ⟨a, b, c⟩ := h
  refine ⟨fun p hp => ?_, ?_, ?_⟩
  · rw [h5 p hp, kX_congr h1 h2 h3 h4, a p hp]
  · rw [h8 r (Nat.le_refl _), sgX_congr h5 h6 h7, b]
  · rw [h9, nmA_congr r 0 (fun j hj => h8 j (by omega)) (h8 r (Nat.le_refl _)), c]
theorem soS_Kd {σ : xS} {r : Nat} : Kd (soS σ r) r := by
  have e25 : ∀ p, soS σ r 25 r p = pkS σ r 25 r p := fun p => by
    unfold soS
    rw [up3_ne (fun z => absurd z.1 (by decide)), up3_ne (fun z => absurd z.1 (by decide))]
  have e18 : ∀ j, soS σ r 18 0 j = up3 (pkS σ r) 18 0 r (sgX (pkS σ r) r) 18 0 j := fun j => by
    unfold soS
    rw [up3_ne (fun z => absurd z.1 (by decide))]
  refine ⟨fun p hp => ?_, ?_, ?_⟩
  · rw [e25, pkS_row hp]
    exact (kX_congr (fun p _ => soS_ne 24 r p rfl) (funext fun j => soS_ne 10 0 j rfl) (funext fun j => soS_ne 11 0 j rfl) (soS_ne 2 0 0 rfl) p).symm
  · rw [e18, up3_self]
    exact (sgX_congr (fun p _ => e25 p) ((soS_ne 12 0 r rfl).trans (pkS_ne 12 0 r (by decide)).symm) ((soS_ne 23 r 0 rfl).trans (pkS_ne 23 r 0 (by decide)).symm)).symm
  · rw [nmA_congr r 0 (fun j _ => e18 j) (e18 r)]
    show up3 _ 19 0 r _ 19 0 r = _
    rw [up3_self]
theorem soS_Ke {σ : xS} {r k : Nat} (hk : k < r) (h : Kd σ k) : Kd (soS σ r) k := by
  refine h.congr (fun p _ => soS_ne 24 k p rfl) (funext fun j => soS_ne 10 0 j rfl) (funext fun j => soS_ne 11 0 j rfl) (soS_ne 2 0 0 rfl) (fun p _ => ?_) (soS_ne 12 0 k rfl) (soS_ne 23 k 0 rfl) (fun j hj => ?_) ?_
  · unfold soS
    rw [up3_ne (fun z => absurd z.1 (by decide)), up3_ne (fun z => absurd z.1 (by decide)), pkS_rne (by omega)]
  · unfold soS
    rw [up3_ne (fun z => absurd z.1 (by decide)), up3_ne (fun z => by omega), pkS_ne 18 0 j (by decide)]
  · unfold soS
    rw [up3_ne (fun z => by omega), up3_ne (fun z => absurd z.1 (by decide)), pkS_ne 19 0 k (by decide)]
theorem saL_Kd {σ : xS} : ∀ k r, r < k → Kd (saL σ k) r
  | k + 1, r, h => by
    show Kd (soS (saL σ k) k) r
    by_cases e : r = k
    · subst e; exact soS_Kd
    · exact soS_Ke (by omega) (saL_Kd k r (by omega))

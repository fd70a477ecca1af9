/-! ===== standFor ===== -/
theorem it_succ {st : Nat → Int32} {t : Nat} (k : Nat) : itF st (k + 1) t = nv (st (itF st k t)) := it_add k 1 t
theorem atP_it {σ : xS} {o : Nat} : ∀ n, atP σ o n = itF (st6 σ) n o
  | 0 => rfl
  | n + 1 => by
    rw [it_succ]
    unfold atP
    rw [atP_it n]
    rfl
theorem rd_iff {σ : xS} {f o : Nat} : ∀ n, rdP σ f o n = true ↔ o ≠ f ∧ ∃ j, j ≤ n ∧ itF (st6 σ) j o = f
  | 0 => by
    unfold rdP
    rw [Bool.and_eq_true, decide_eq_true_eq, decide_eq_true_eq]
    constructor
    · rintro ⟨h1, h2⟩
      exact ⟨h1, 0, Nat.le_refl _, h2⟩
    · rintro ⟨h1, j, hj, h2⟩
      have : j = 0 := by omega
      subst this
      exact ⟨h1, h2⟩
  | n + 1 => by
    unfold rdP
    rw [Bool.or_eq_true, rd_iff n, Bool.and_eq_true, decide_eq_true_eq, decide_eq_true_eq, atP_it]
    constructor
    · rintro (⟨h1, j, hj, h2⟩ | ⟨h1, h2⟩)
      · exact ⟨h1, j, by omega, h2⟩
      · exact ⟨h1, n + 1, Nat.le_refl _, h2⟩
    · rintro ⟨h1, j, hj, h2⟩
      by_cases e : j = n + 1
      · subst e
        exact Or.inr ⟨h1, h2⟩
      · exact Or.inl ⟨h1, j, by omega, h2⟩
theorem ld_iff {σ : xS} {f : Nat} : ∀ n t, ldA σ f n t = f ↔ ∃ j, j ≤ n ∧ itF (σ 11 0) j t = f
  | 0, t => by
    constructor
    · intro h
      exact ⟨0, Nat.le_refl _, h⟩
    · rintro ⟨j, hj, h⟩
      have : j = 0 := by omega
      subst this
      exact h
  | n + 1, t => by
    unfold ldA
    by_cases e : t = f
    · rw [if_pos e]
      exact ⟨fun _ => ⟨0, Nat.zero_le _, e⟩, fun _ => e⟩
    · rw [if_neg e, ld_iff n]
      constructor
      · rintro ⟨j, hj, h⟩
        exact ⟨j + 1, by omega, h⟩
      · rintro ⟨j, hj, h⟩
        cases j with
        | zero => exact absurd h e
        | succ j => exact ⟨j, by omega, h⟩
theorem it_cg {st st' : Nat → Int32} (h : ∀ f, f < 6 → st' f = st f) (hs : ∀ f, f < 6 → nv (st f) < 6) : ∀ n t, t < 6 → itF st' n t = itF st n t
  | 0, _, _ => rfl
  | n + 1, t, ht => by
    show itF st' n (nv (st' t)) = itF st n (nv (st t))
    rw [h t ht]
    exact it_cg h hs n _ (hs t ht)
theorem up_own {σ : xS} {t i j : Nat} {v : Int32} (h : v = σ t i j) : up3 σ t i j v = σ := by
  funext t' i' j'
  rw [up3_at]
  split
  · next c => rw [c.1, c.2.1, c.2.2, h]
  · rfl
theorem rd_ld {σ : xS} (h : Jv σ) {f o : Nat} (hf : f < 6) (ho : o < 6) : rdP σ f o 6 = (decide (f ≠ o) && decide (ldA σ f 30 o = f)) := by
  have hs := st6_lt h.okp
  rw [Bool.eq_iff_iff, rd_iff, Bool.and_eq_true, decide_eq_true_eq, decide_eq_true_eq, ld_iff]
  have hcg : ∀ j, itF (σ 11 0) j o = itF (st6 σ) j o := fun j => it_cg (fun g hg => (h.2.2.2.2.1 g hg).2) hs j o ho
  constructor
  · rintro ⟨h1, j, hj, h2⟩
    exact ⟨fun e => h1 e.symm, j, by omega, by rw [hcg]; exact h2⟩
  · rintro ⟨h1, j, hj, h2⟩
    rw [hcg] at h2
    refine ⟨fun e => h1 e.symm, ?_⟩
    by_cases h6 : j ≤ 6
    · exact ⟨j, h6, h2⟩
    · obtain ⟨k0, hk0⟩ := h.2.1.2.1 o ho
      obtain ⟨k, hk, hfx⟩ := it_6 hs ho k0 hk0
      exact ⟨k, hk, by rw [← h2]; exact (it_end hfx (by omega)).symm⟩
theorem ac_up {σ : xS} (h : Jv σ) {f o : Nat} (hf : f < 6) (ho : o < 6) (hn : rdP σ f o 6 = false) : Ac (up3 σ 31 0 (14 + f) (nI o)) := by
  have hs := st6_lt h.okp
  have e1 : st6 (up3 σ 31 0 (14 + f) (nI o)) f = nI o := up3_self
  have e2 : ∀ g, g ≠ f → st6 (up3 σ 31 0 (14 + f) (nI o)) g = st6 σ g := fun g hg => up3_ne (fun y => hg (by omega))
  unfold Ac
  generalize st6 (up3 σ 31 0 (14 + f) (nI o)) = st' at e1 e2
  have en : nv (st' f) = o := by rw [e1]; exact nv_nI (by omega)
  have hfx : ∃ k, fxF st' (itF st' k f) := by
    by_cases e : o = f
    · exact ⟨0, by show nv (st' f) = f; rw [en, e]⟩
    · obtain ⟨k0, hk0⟩ := h.2.1.2.1 o ho
      obtain ⟨K, hK, hk⟩ := it_6 hs ho k0 hk0
      have hne : ∀ i, i ≤ 6 → itF (st6 σ) i o ≠ f := fun i hi q => by
        have := (rd_iff 6).mpr ⟨e, i, hi, q⟩
        rw [hn] at this
        cases this
      refine ⟨K + 1, ?_⟩
      show fxF st' (itF st' K (nv (st' f)))
      rw [en, it_same e2 K o (fun i hi => hne i (by omega))]
      show nv (st' _) = _
      rw [e2 _ (hne K hK)]
      exact hk
  intro g hg
  obtain ⟨k, hk⟩ := h.2.1.2.1 g hg
  exact it_new e2 hfx k g hk
section SF
variable {σ : xS}
theorem st_r1 (h : Jv σ) (z : Int32) : (okX (r1S σ z) ∧ okF (r1S σ z) ∧ (∀ E, chEx (r1L σ z) E → E = eIS) ∧ (rdP σ (ruF z) (ruO z) 6 = true → caV (r1L σ z) (r1S σ z 11 0 (nv (nI (ruF z)))) = -3) ∧ (rdP σ (ruF z) (ruO z) 6 = false → caV (r1L σ z) (r1S σ z 11 0 (nv (nI (ruF z)))) = nI (nv (σ 31 0 (14 + ruF z))))) ∧ Jv (r1E σ z) := by
  have hF : ruF z < 6 := lo_lt _ (by decide) (by decide)
  have hO : ruO z < 6 := lo_lt _ (by decide) (by decide)
  have enF : nv (nI (ruF z)) = ruF z := nv_nI (by omega)
  have enO : nv (nI (ruO z)) = ruO z := nv_nI (by omega)
  have ox : okX (r1S σ z) := okX_30 (by decide) h.okx
  have of : okF (r1S σ z) := okF_30 (by decide) h.okf
  have e11 : r1S σ z 11 0 = σ 11 0 := up3_row (fun y => absurd y.1 (by decide))
  have eld : (ldA (r1S σ z) (ruF z) 30 (ruO z) = ruF z) ↔ (ldA σ (ruF z) 30 (ruO z) = ruF z) := by rw [ld_iff, ld_iff, e11]
  have eR : rdP σ (ruF z) (ruO z) 6 = (decide (ruF z ≠ ruO z) && decide (ldA (r1S σ z) (ruF z) 30 (ruO z) = ruF z)) := by
    rw [rd_ld h hF hO]
    rw [decide_eq_decide.mpr eld]
  have hB : chB (r1L σ z) = !rdP σ (ruF z) (ruO z) 6 := by
    unfold r1L sfC chB
    rw [ibX_ok (show ruF z < 30 by omega) (by decide), ibX_ok (show ruO z < 30 by omega) (by decide), enF, enO, ← eR]
    cases rdP σ (ruF z) (ruO z) 6 <;> rfl
  have hI := h.okp.std hF
  refine ⟨⟨ox, of, fun E hE => ?_, fun hr => ?_, fun hr => ?_⟩, ?_⟩
  · have h2 : ((ibX (nI (ruF z)) (nI 30) && ibX (nI (ruO z)) (nI 30)) = false ∧ E = eIA) ∨ ((ibX (nI (ruF z)) (nI 30) && ibX (nI (ruO z)) (nI 30)) = true ∧ chEx [(!(decide (nv (nI (ruF z)) ≠ nv (nI (ruO z))) && decide (ldA (r1S σ z) (nv (nI (ruF z))) 30 (nv (nI (ruO z))) = nv (nI (ruF z)))), eIS)] E) := hE
    rcases h2 with ⟨h3, -⟩ | ⟨-, h3⟩
    · rw [ibX_ok (show ruF z < 30 by omega) (by decide), ibX_ok (show ruO z < 30 by omega) (by decide)] at h3
      cases h3
    · rcases h3 with ⟨-, h5⟩ | ⟨-, h5⟩
      · exact h5
      · exact h5.elim
  · unfold caV
    rw [hB, hr, if_neg (by decide)]
  · unfold caV
    rw [hB, hr, if_pos (by rfl), enF, e11, (h.2.2.2.2.1 _ hF).2]
    exact hI.1
  · unfold r1E caS
    rw [hB]
    cases hr : rdP σ (ruF z) (ruO z) 6
    · rw [if_pos (by rfl)]
      have eρ : r1S σ z = up3 σ 31 0 (14 + ruF z) (nI (ruO z)) := by
        unfold r1S
        rw [hr]
        rfl
      have e9 : sfS (r1S σ z) (nI (ruF z)) (nI (ruO z)) = saS (up3 (r1S σ z) 11 0 (ruF z) (nI (ruO z))) := by
        unfold sfS
        rw [enF]
      rw [e9]
      refine Jv_rule (sfU_ok ox (by omega)) (of.ne (fun i j => up3_ne (fun y => absurd y.1 (by decide)))) h (fun t i j ht => ?_) ⟨?_, ?_, ?_, ?_⟩ ?_
      · rw [up3_ne (fun y => by rw [y.1] at ht; exact absurd ht (by decide))]
        exact up3_ne (fun y => by have := fT_30 ht; omega)
      · rw [eρ]
        exact okP_31 h.okp (by rw [if_neg (by omega), if_neg (by omega), if_neg (by omega)]; exact hO)
      · rw [eρ]
        exact ac_up h hF hO hr
      · rw [eρ, up_tn (by decide)]; exact h.2.1.2.2.1
      · rw [eρ, up_tn (by decide)]; exact h.2.1.2.2.2
      · rw [eρ]
        generalize ruF z = F at hF
        generalize ruO z = x
        obtain ⟨⟨a1, a2, a3⟩, b, c, d, e, f⟩ := h.2.2
        refine ⟨⟨?_, ?_, ?_⟩, fun u hu => ⟨?_, ?_⟩, fun u hu => ⟨?_, ?_⟩, fun u k hu hk => ⟨?_, ?_, ?_⟩, fun r hr => ⟨?_, ?_, ?_⟩, fun r p hr hp => ?_⟩
        · simp only [up3_at]
          simp [a1]
        · simp only [up3_at]
          simp [a2]
        · simp only [up3_at]
          simp [a3]
        · simp only [up3_at]
          simp [(b u hu).1, show ¬ u = 14 + F by omega]
        · simp only [up3_at]
          simp [(b u hu).2, show ¬ 4 + u = 14 + F by omega]
        · simp only [up3_at]
          simp [(c u hu).1, show ¬ 8 + u = 14 + F by omega]
        · simp only [up3_at]
          simp [(c u hu).2]
        · simp only [up3_at]
          simp [(d u k hu hk).1]
        · simp only [up3_at]
          simp [(d u k hu hk).2.1]
        · simp only [up3_at]
          simp [(d u k hu hk).2.2]
        · simp only [up3_at]
          simp [(e r hr).1]
        · simp only [up3_at]
          simp [(e r hr).2.1]
        · simp only [up3_at]
          simp [(e r hr).2.2]
        · simp only [up3_at]
          simp [f r p hr hp]
    · rw [if_neg (by decide)]
      have eρ : r1S σ z = σ := by
        unfold r1S
        rw [hr, if_pos rfl]
        exact up_own hI.1.symm
      rw [eρ]
      exact h
theorem st_ru (h : Jv σ) (z : Int32) : RuH σ z ∧ Jv (ruE σ z) := by
  refine ⟨⟨fun _ => (st_r0 h z).1, fun _ => (st_r1 h z).1, fun _ => (st_r2 h z).1, fun _ _ _ => (st_r3 h z).1⟩, ?_⟩
  unfold ruE
  split
  · exact (st_r0 h z).2
  · split
    · exact (st_r1 h z).2
    · split
      · exact (st_r2 h z).2
      · exact (st_r3 h z).2
end SF

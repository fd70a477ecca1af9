theorem fb_holes : ∀ (m n : Nat) (f : Nat → Nat), (∀ i, i < n → f i < m) → (∀ i j, i < j → j < n → f i ≠ f j) → n ≤ m := by
  intro m
  induction m with
  | zero =>
    intro n f h1 _
    rcases Nat.eq_zero_or_pos n with h | h
    · omega
    · exact absurd (h1 0 h) (Nat.not_lt_zero _)
  | succ m ih =>
    intro n f h1 h2
    by_cases hx : ∃ i, i < n ∧ f i = m
    · obtain ⟨a, ha, hfa⟩ := hx
      have hg := ih (n - 1) (fun i => if i < a then f i else f (i + 1)) (by
        intro i hi
        by_cases q : i < a
        · simp only [if_pos q]
          have b1 := h1 i (by omega)
          have b2 := h2 i a q ha
          omega
        · simp only [if_neg q]
          have b1 := h1 (i + 1) (by omega)
          have b2 := h2 a (i + 1) (by omega) (by omega)
          omega) (by
        intro i j hij hj
        by_cases q : i < a
        · by_cases r : j < a
          · simp only [if_pos q, if_pos r]
            exact h2 i j hij (by omega)
          · simp only [if_pos q, if_neg r]
            exact h2 i (j + 1) (by omega) (by omega)
        · have r : ¬ j < a := by omega
          simp only [if_neg q, if_neg r]
          exact h2 (i + 1) (j + 1) (by omega) (by omega))
      omega
    · have hg := ih n f (fun i hi => by
        have b1 := h1 i hi
        have b2 : f i ≠ m := fun e => hx ⟨i, hi, e⟩
        omega) h2
      omega
/-- two of them in one place -/
theorem fb_twice {m n : Nat} {f : Nat → Nat} (h : ∀ i, i < n → f i < m) (hm : m < n) : ∃ i j, i < j ∧ j < n ∧ f i = f j := by
  refine Classical.byContradiction fun hx => ?_
  have := fb_holes m n f h (fun i j hij hj e => hx ⟨i, j, hij, hj, e⟩)
  omega
/-! ===== standFor: going on still comes to an end ===== -/
def itF (st : Nat → Int32) : Nat → Nat → Nat
  | 0, t => t
  | k + 1, t => itF st k (nv (st t))
def fxF (st : Nat → Int32) (t : Nat) : Prop := nv (st t) = t
theorem ie_it {st : Nat → Int32} : ∀ n t, fxF st (ieF st n t) → ∃ k, k ≤ n ∧ fxF st (itF st k t)
  | 0, t, h => ⟨0, Nat.le_refl _, h⟩
  | n + 1, t, h => by
    unfold ieF at h
    split at h
    · exact ⟨0, Nat.zero_le _, h⟩
    · obtain ⟨k, h1, h2⟩ := ie_it n _ h
      exact ⟨k + 1, by omega, h2⟩
theorem it_ie {st : Nat → Int32} : ∀ n t k, k ≤ n → fxF st (itF st k t) → fxF st (ieF st n t)
  | 0, t, k, hk, h => by
    have : k = 0 := by omega
    subst this
    exact h
  | n + 1, t, k, hk, h => by
    unfold ieF
    split
    · next hf => exact hf
    · next hf =>
      cases k with
      | zero => exact absurd h hf
      | succ k => exact it_ie n _ k (by omega) h
theorem it_add {st : Nat → Int32} : ∀ a b t, itF st (a + b) t = itF st b (itF st a t)
  | 0, b, t => by rw [Nat.zero_add]; rfl
  | a + 1, b, t => by
    rw [show a + 1 + b = (a + b) + 1 by omega]
    exact it_add a b _
theorem it_fx {st : Nat → Int32} {t : Nat} (h : fxF st t) : ∀ k, itF st k t = t
  | 0 => rfl
  | k + 1 => by
    show itF st k (nv (st t)) = t
    rw [show nv (st t) = t from h]
    exact it_fx h k
theorem it_lt {st : Nat → Int32} (hs : ∀ f, f < 30 → nv (st f) < 30) : ∀ k t, t < 30 → itF st k t < 30
  | 0, _, h => h
  | k + 1, t, h => it_lt hs k _ (hs t h)
/-- where it comes to an end at all, it does within 30 steps -/
theorem it_30 {st : Nat → Int32} (hs : ∀ f, f < 30 → nv (st f) < 30) {t : Nat} (ht : t < 30) : ∀ k, fxF st (itF st k t) → ∃ k', k' ≤ 30 ∧ fxF st (itF st k' t) := by
  intro k
  induction k using Nat.strongRecOn with
  | ind k ih =>
    intro hk
    by_cases hle : k ≤ 30
    · exact ⟨k, hle, hk⟩
    · obtain ⟨i, j, h1, h2, h3⟩ := fb_twice (m := 30) (n := 31) (f := fun i => itF st i t) (fun i _ => it_lt hs i t ht) (by decide)
      have h3 : itF st i t = itF st j t := h3
      refine ih (i + (k - j)) (by omega) ?_
      rw [it_add, h3, ← it_add, show j + (k - j) = k by omega]
      exact hk
theorem ld_it {τ : xS} {o : Nat} : ∀ n t, ldM τ o n t = false → ∀ k, k ≤ n → itF (τ 36 0) k t ≠ o
  | 0, t, h, k, hk => by
    have : k = 0 := by omega
    subst this
    exact of_decide_eq_false h
  | n + 1, t, h, k, hk => by
    unfold ldM at h
    by_cases e : t = o
    · rw [if_pos e] at h; cases h
    · rw [if_neg e] at h
      cases k with
      | zero => exact e
      | succ k => exact ld_it n _ h k (by omega)
theorem ld_eq {σ τ : xS} (h : ∀ f, σ 11 0 f = τ 36 0 f) {o : Nat} : ∀ n t, ldM τ o n t = decide (ldA σ o n t = o)
  | 0, _ => rfl
  | n + 1, t => by
    unfold ldM ldA
    by_cases e : t = o
    · rw [if_pos e, if_pos e, decide_eq_true e]
    · rw [if_neg e, if_neg e, h t]
      exact ld_eq h n _
/-- the end is reached by the new map too -/
theorem it_new {st st' : Nat → Int32} {f : Nat} (hs : ∀ g, g ≠ f → st' g = st g) (hf : ∃ k, fxF st' (itF st' k f)) : ∀ K g, fxF st (itF st K g) → ∃ k, fxF st' (itF st' k g)
  | 0, g, h => by
    by_cases e : g = f
    · subst e; exact hf
    · refine ⟨0, ?_⟩
      show nv (st' g) = g
      rw [hs g e]
      exact h
  | K + 1, g, h => by
    by_cases e : g = f
    · subst e; exact hf
    · obtain ⟨k, hk⟩ := it_new hs hf K (nv (st g)) h
      refine ⟨k + 1, ?_⟩
      show fxF st' (itF st' k (nv (st' g)))
      rw [hs g e]
      exact hk
theorem it_same {st st' : Nat → Int32} {f : Nat} (hs : ∀ g, g ≠ f → st' g = st g) : ∀ k t, (∀ i, i < k → itF st i t ≠ f) → itF st' k t = itF st k t
  | 0, _, _ => rfl
  | k + 1, t, h => by
    show itF st' k (nv (st' t)) = itF st k (nv (st t))
    rw [hs t (h 0 (by omega))]
    exact it_same hs k _ (fun i hi => h (i + 1) (by omega))
theorem ac_new {τ τ' : xS} {f o : Nat} (om : okM τ) (om' : okM τ') (a : acM τ) (ho : o < 30) (hs : ∀ g, g ≠ f → τ' 36 0 g = τ 36 0 g) (hf : nv (τ' 36 0 f) = o) (hn : f = o ∨ ldM τ f 30 o = false) : acM τ' := by
  have a2 : ∀ g, g < 30 → ∃ k, k ≤ 30 ∧ fxF (τ 36 0) (itF (τ 36 0) k g) := fun g hg => ie_it 30 g (by
    have := a g hg
    rw [ieM_F] at this
    exact this)
  have hfx : ∃ k, fxF (τ' 36 0) (itF (τ' 36 0) k f) := by
    rcases hn with e | hn
    · exact ⟨0, by show nv (τ' 36 0 f) = f; rw [hf, e]⟩
    · obtain ⟨K, hK, hk⟩ := a2 o ho
      have hne := ld_it 30 o hn
      refine ⟨K + 1, ?_⟩
      show fxF (τ' 36 0) (itF (τ' 36 0) K (nv (τ' 36 0 f)))
      rw [hf, it_same hs K o (fun i hi => hne i (by omega))]
      show nv (τ' 36 0 _) = _
      rw [hs _ (hne K hK)]
      exact hk
  intro g hg
  rw [ieM_F]
  obtain ⟨K, -, hK⟩ := a2 g hg
  obtain ⟨k, hk⟩ := it_new hs hfx K g hK
  obtain ⟨k', h1, h2⟩ := it_30 (fun f hf => (om'.std hf).2) hg k hk
  exact it_ie 30 g k' h1 h2
theorem st_standFor {σ τ : xS} (h : Inv σ τ) (z1 z2 : Int32) : SF Inv (cd1 eIA) (sfC σ z1 z2) σ (sfS σ z1 z2) (σ 11 0 (nv z1)) (sfMS τ z1 z2) (sfMV τ z1 z2) := by
  obtain ⟨⟨o, of⟩, l, ac, w, d⟩ := id h
  have eL : ldM (m0 τ) (nv z1) 30 (nv z2) = decide (ldA σ (nv z1) 30 (nv z2) = nv z1) := ld_eq (fun f => l.2.2.2.2.1 f) 30 _
  unfold sfMS sfMV
  rw [fun_ib, fun_ib, eL]
  by_cases c : (ibX z1 (nI 30) && ibX z2 (nI 30)) = true
  · rw [if_pos c, if_pos c]
    by_cases c2 : (decide (nv z1 ≠ nv z2) && decide (ldA σ (nv z1) 30 (nv z2) = nv z1)) = true
    · rw [if_pos c2, if_pos c2]
      exact SF_no (by unfold sfC chB; rw [c, c2]; rfl) (by unfold sfC cdX cdX; rw [c, c2, th_mF]; rfl) (h.mS mS_mF)
    · have c3 : (decide (nv z1 ≠ nv z2) && decide (ldA σ (nv z1) 30 (nv z2) = nv z1)) = false := by simpa using c2
      rw [if_neg c2, if_neg c2]
      refine SF_yes (by unfold sfC chB; rw [c, c3]; rfl) (by simp [up3_at, m0]; rfl) (l.2.2.2.2.1 _) ?_
      have h4 := c
      rw [Bool.and_eq_true] at h4
      obtain ⟨h5, h6⟩ := ib_lt (by decide) h4.1
      obtain ⟨h7, h8⟩ := ib_lt (by decide) h4.2
      have om := okM_of o l
      have o2 : okX (up3 σ 11 0 (nv z1) z2) := by
        rw [h8]
        have := sfU_ok (f := nv z1) o h7
        exact this
      obtain ⟨l1, l2, l3, l4, l5, l6, l7, l8, l9, l10, l11, l12⟩ := l
      have l' : LkB (up3 σ 11 0 (nv z1) z2) (up3 (m0 τ) 36 0 (nv z1) z2) := ⟨l1, l2, l3, l4, fun f => by
        unfold m0
        simp only [up3_at]
        simp [l5 f], l6, l7, l8, l9, l10, l11, l12⟩
      unfold sfS
      refine Inv_sa o2 (of.ne (fun i j => up3_ne (fun z => absurd z.1 (by decide)))) l' ?_ (wf_ne (fw_ne rfl) w) (fr_ne (fw_ne rfl) h.frs)
      refine ac_new (f := nv z1) (o := nv z2) om (okM_of o2 l') ac h7 (fun g hg => ?_) ?_ ?_
      · exact (up3_ne (fun z => hg z.2.2)).trans (up3_ne (fun z => absurd z.1 (by decide)))
      · rw [up3_self]
      · by_cases e : nv z1 = nv z2
        · exact Or.inl e
        · refine Or.inr ?_
          rw [decide_eq_true e, Bool.true_and, ← eL] at c3
          exact c3
  · have c3 : (ibX z1 (nI 30) && ibX z2 (nI 30)) = false := by simpa using c
    rw [if_neg c, if_neg c]
    exact SF_no (by unfold sfC chB; rw [c3]; rfl) (by unfold sfC cdX; rw [c3, th_mF]; rfl) (h.mS mS_mF)

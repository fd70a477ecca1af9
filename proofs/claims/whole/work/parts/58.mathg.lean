/-! ===== addRange, report ===== -/
def lT (t : Nat) : Bool := t == 0 || t == 2 || t == 3 || t == 5 || t == 6 || t == 10 || t == 11 || t == 12 || t == 13 || t == 15 || t == 20 || t == 21 || t == 22 || t == 23
theorem LkB.on {σ σ2 τ : xS} (hs : ∀ t i j, lT t = true → σ2 t i j = σ t i j) (h : LkB σ τ) : LkB σ2 τ := by
  obtain ⟨l1, l2, l3, l4, l5, l6, l7, l8, l9, l10, l11, l12⟩ := h
  refine ⟨?_, fun v => ?_, fun v k hk => ?_, fun f => ?_, fun f => ?_, fun r => ?_, fun r => ?_, fun r => ?_, fun r p hp => ?_, fun v => ?_, ?_, ?_⟩
  · rw [hs 3 0 0 rfl]; exact l1
  · rw [hs 6 0 v rfl]; exact l2 v
  · rw [hs 20 v k rfl, hs 21 v k rfl, hs 22 v k rfl]; exact l3 v k hk
  · rw [hs 10 0 f rfl]; exact l4 f
  · rw [hs 11 0 f rfl]; exact l5 f
  · rw [hs 12 0 r rfl]; exact l6 r
  · rw [hs 13 0 r rfl]; exact l7 r
  · rw [hs 15 0 r rfl]; exact l8 r
  · rw [hs 23 r p rfl]; exact l9 r p hp
  · rw [hs 5 0 v rfl]; exact l10 v
  · rw [hs 0 0 0 rfl]; exact l11
  · rw [hs 2 0 0 rfl]; exact l12
theorem Wf.on {σ σ2 : xS} (hs : ∀ t i j, lT t = true → σ2 t i j = σ t i j) (w : Wf σ) : Wf σ2 := by
  refine ⟨fun v hv k hk => ?_, fun v hv j k hj hk hjk => ?_, fun r hr => ?_⟩
  · rw [hs 6 0 v rfl] at hk
    rw [hs 20 v k rfl, hs 21 v k rfl]
    exact w.1 v hv k hk
  · rw [hs 6 0 v rfl] at hj hk
    rw [hs 20 v k rfl, hs 21 v k rfl, hs 20 v j rfl, hs 21 v j rfl]
    exact w.2.1 v hv j k hj hk hjk
  · rw [hs 3 0 0 rfl] at hr
    rw [hs 23 r 0 rfl]
    exact w.2.2 r hr
theorem lT_24 {t : Nat} (h : lT t = true) : t ≠ 24 := fun e => by rw [e] at h; exact absurd h (by decide)
theorem rdL_row {σ : xS} {r : Nat} : ∀ p q, q < p → rdL σ r p 24 r q = fnX σ (nv (σ 12 0 r)) (σ 23 r q)
  | p + 1, q, h => by
    show up3 (rdL σ r p) 24 r p (fnX (rdL σ r p) (nv (rdL σ r p 12 0 r)) (rdL σ r p 23 r p)) 24 r q = _
    by_cases e : q = p
    · subst e
      rw [up3_self, rdL_ne q 12 0 r (by decide), rdL_ne q 23 r q (by decide)]
      exact fnX_congr (rdL_ne q 6 0 _ (by decide)) (fun k => ⟨rdL_ne q 20 _ k (by decide), rdL_ne q 21 _ k (by decide), rdL_ne q 22 _ k (by decide)⟩)
    · rw [up3_ne (fun z => e z.2.2)]
      exact rdL_row p q (by omega)
theorem rdL_rne {σ : xS} {r i : Nat} (hi : i ≠ r) : ∀ p q, rdL σ r p 24 i q = σ 24 i q
  | 0, _ => rfl
  | p + 1, q => by
    show up3 (rdL σ r p) 24 r p _ 24 i q = _
    rw [up3_ne (fun z => hi z.2.1)]
    exact rdL_rne hi p q
theorem rsL_row {σ : xS} {v : Nat} {p : Nat} (hp : p < 4) : ∀ k r, (nv (σ 12 0 r) = v → r < k → rsL σ v k 24 r p = fnX σ v (σ 23 r p)) ∧ ((nv (σ 12 0 r) ≠ v ∨ k ≤ r) → rsL σ v k 24 r p = σ 24 r p)
  | 0, r => ⟨fun _ h => by omega, fun _ => rfl⟩
  | k + 1, r => by
    obtain ⟨h1, h2⟩ := rsL_row (σ := σ) (v := v) hp k r
    have e12 : ∀ j, rsL σ v k 12 0 j = σ 12 0 j := fun j => rsL_ne k 12 0 j (by decide)
    unfold rsL
    rw [e12 k]
    by_cases c : nv (σ 12 0 k) = v
    · rw [if_pos c]
      by_cases e : r = k
      · subst e
        refine ⟨fun _ _ => ?_, fun z => z.elim (fun z => absurd c z) (fun z => by omega)⟩
        unfold rdS
        rw [rdL_row 4 p hp, e12 r, c, rsL_ne r 23 r p (by decide)]
        exact fnX_congr (rsL_ne r 6 0 _ (by decide)) (fun j => ⟨rsL_ne r 20 _ j (by decide), rsL_ne r 21 _ j (by decide), rsL_ne r 22 _ j (by decide)⟩)
      · unfold rdS
        rw [rdL_rne e 4 p]
        exact ⟨fun z1 z2 => h1 z1 (by omega), fun z => h2 (z.imp id (fun z => by omega))⟩
    · rw [if_neg c]
      refine ⟨fun z1 z2 => h1 z1 ?_, fun z => h2 (z.imp id (fun z => by omega))⟩
      by_cases e : r = k
      · subst e; exact absurd z1 c
      · omega
theorem ovA_iff {σ : xS} {v : Nat} {x y : Int32} : ∀ n k, ovlA σ v x y n k = true ↔ ∃ j, (k ≤ j ∧ j < k + n) ∧ (¬ y < σ 20 v j ∧ ¬ σ 21 v j < x)
  | 0, k => ⟨(fun h => by cases h), (fun ⟨j, h, _⟩ => by omega)⟩
  | n + 1, k => by
    unfold ovlA
    by_cases c : ¬ y < σ 20 v k ∧ ¬ σ 21 v k < x
    · rw [if_pos c]
      exact ⟨fun _ => ⟨k, ⟨Nat.le_refl _, by omega⟩, c⟩, fun _ => rfl⟩
    · rw [if_neg c, ovA_iff n (k + 1)]
      constructor
      · rintro ⟨j, h1, h2⟩
        exact ⟨j, ⟨by omega, by omega⟩, h2⟩
      · rintro ⟨j, h1, h2⟩
        by_cases e : j = k
        · subst e; exact absurd h2 c
        · exact ⟨j, ⟨by omega, by omega⟩, h2⟩
theorem ovM_iff {σ τ : xS} (l : LkB σ τ) {v : Nat} {x y : Int32} {b : Bool} : ∀ n, n ≤ 30 → (ovM τ v x y b n = true ↔ b = true ∨ ∃ j, j < n ∧ (¬ y < σ 20 v j ∧ ¬ σ 21 v j < x))
  | 0, _ => ⟨fun h => Or.inl h, fun h => h.elim id (fun ⟨j, h, _⟩ => by omega)⟩
  | n + 1, hn => by
    obtain ⟨a, b', -⟩ := l.2.2.1 v n (by omega)
    unfold ovM
    rw [Bool.or_eq_true, ovM_iff l n (by omega), Bool.and_eq_true, decide_eq_true_eq, decide_eq_true_eq, ← a, ← b']
    constructor
    · rintro ((h | ⟨j, h1, h2⟩) | h)
      · exact Or.inl h
      · exact Or.inr ⟨j, by omega, h2⟩
      · exact Or.inr ⟨n, Nat.lt_succ_self _, h.2, h.1⟩
    · rintro (h | ⟨j, h1, h2⟩)
      · exact Or.inl (Or.inl h)
      · by_cases e : j = n
        · subst e; exact Or.inr ⟨h2.2, h2.1⟩
        · exact Or.inl (Or.inr ⟨j, by omega, h2⟩)
theorem ar_A {v x y f : Int32} : arA v x y f = ((ibX v (nI 4) && ibX f (nI 30)) && (ibX x (nI 10000) && (ibX y (nI 10000) && decide (¬ y < x)))) := by
  unfold arA
  rw [ver_ib, adr_ib, fun_ib]
  have e : (ibX x (nI 10000) && inX y x (nI 9999)) = (ibX x (nI 10000) && (ibX y (nI 10000) && decide (¬ y < x))) := by
    rw [Bool.eq_iff_iff]
    unfold ibX inX
    simp only [Bool.and_eq_true, decide_eq_true_eq, Int32.le_iff_toInt_le, Int32.lt_iff_toInt_lt]
    have e0 : (0 : Int32).toInt = 0 := rfl
    have e1 : (nI 10000).toInt = 10000 := rfl
    have e2 : (nI 9999).toInt = 9999 := rfl
    omega
  rw [← e]
  cases ibX v (nI 4) <;> cases ibX x (nI 10000) <;> cases inX y x (nI 9999) <;> cases ibX f (nI 30) <;> rfl
theorem add_at {σ : xS} {v c : Nat} {x y z : Int32} (t i j : Nat) : addS σ v c x y z t i j = if t = 6 ∧ i = 0 ∧ j = v then nI (c + 1) else if t = 22 ∧ i = v ∧ j = c then z else if t = 21 ∧ i = v ∧ j = c then y else if t = 20 ∧ i = v ∧ j = c then x else σ t i j := by
  unfold addS
  rw [up3_at, up3_at, up3_at, up3_at]
theorem st_addRange {σ τ : xS} (h : Inv σ τ) (z1 z2 z3 z4 : Int32) : SF Inv (cd1 eIA) (arC σ z1 z2 z3 z4) σ (arS σ z1 z2 z3 z4) (arS σ z1 z2 z3 z4 6 0 (nv z1)) (arMS τ z1 z2 z3 z4) (arMV τ z1 z2 z3 z4) := by
  obtain ⟨⟨o, of⟩, l, ac, w, d⟩ := id h
  have hn := h.n60
  unfold arMS arMV
  rw [ar_A]
  by_cases ca : (ibX z1 (nI 4) && ibX z4 (nI 30)) = true
  · by_cases cb : (ibX z2 (nI 10000) && (ibX z3 (nI 10000) && decide (¬ z3 < z2))) = true
    · rw [ca, cb, if_pos (show (true && true) = true from rfl), if_pos (show (true && true) = true from rfl)]
      have h4 := ca
      rw [Bool.and_eq_true] at h4
      obtain ⟨h5, h6⟩ := ib_lt (by decide) h4.1
      obtain ⟨h7, h8⟩ := ib_lt (by decide) h4.2
      have hc := (o.cnt h5).2
      have hc2 := (o.cnt h5).1
      have e31 : nv (m0 τ 31 0 (nv z1)) = nv (σ 6 0 (nv z1)) := by rw [l.2.1]; rfl
      have e31b : nv (τ 31 0 (nv z1)) = nv (σ 6 0 (nv z1)) := by rw [l.2.1]
      have hov : ovT (m0 τ) (nv z1) z2 z3 = true ↔ (30 ≤ nv (σ 6 0 (nv z1)) ∨ ovlA σ (nv z1) z2 z3 (nv (σ 6 0 (nv z1))) 0 = true) := by
        unfold ovT
        rw [e31, ovM_iff (l.mS mS_m0) _ (by omega), ovA_iff, decide_eq_true_eq]
        constructor
        · rintro (q | ⟨j, q1, q2⟩)
          · exact Or.inl (by omega)
          · exact Or.inr ⟨j, ⟨Nat.zero_le _, by omega⟩, q2⟩
        · rintro (q | ⟨j, q1, q2⟩)
          · exact Or.inl (by omega)
          · exact Or.inr ⟨j, by omega, q2⟩
      by_cases c3 : 30 ≤ nv (σ 6 0 (nv z1))
      · rw [if_pos (hov.mpr (Or.inl c3)), if_pos (hov.mpr (Or.inl c3))]
        exact SF_no (by unfold arC chB; rw [ca, cb, decide_eq_true c3]; rfl) (by unfold arC cdX cdX cdX; rw [ca, cb, decide_eq_true c3, th_mF]; rfl) (h.mS mS_mF)
      · by_cases c4 : ovlA σ (nv z1) z2 z3 (nv (σ 6 0 (nv z1))) 0 = true
        · rw [if_pos (hov.mpr (Or.inr c4)), if_pos (hov.mpr (Or.inr c4))]
          exact SF_no (by unfold arC chB; rw [ca, cb, decide_eq_false c3, c4]; rfl) (by unfold arC cdX cdX cdX cdX; rw [ca, cb, decide_eq_false c3, c4, th_mF]; rfl) (h.mS mS_mF)
        · have c5 : ovlA σ (nv z1) z2 z3 (nv (σ 6 0 (nv z1))) 0 = false := by simpa using c4
          have hno : ¬ ovT (m0 τ) (nv z1) z2 z3 = true := fun q => (hov.mp q).elim c3 c4
          rw [if_neg hno, if_neg hno, e31b]
          have h9 := cb
          rw [Bool.and_eq_true, Bool.and_eq_true, decide_eq_true_eq] at h9
          obtain ⟨g1, -, g3⟩ : (¬ z2 < 0) ∧ True ∧ (¬ z3 < z2) := by
            refine ⟨?_, trivial, h9.2.2⟩
            have := h9.1
            unfold ibX at this
            rw [Bool.and_eq_true, decide_eq_true_eq] at this
            exact this.1
          have hnov : ∀ j, j < nv (σ 6 0 (nv z1)) → ¬ (¬ z3 < σ 20 (nv z1) j ∧ ¬ σ 21 (nv z1) j < z2) := fun j hj q => c4 ((ovA_iff _ _).mpr ⟨j, ⟨Nat.zero_le _, by omega⟩, q⟩)
          have ez4 : z4 = nI (nv z4) := h8
          have o1 : okX (addS σ (nv z1) (nv (σ 6 0 (nv z1))) z2 z3 z4) := by
            rw [ez4]
            exact addS_ok o h5 (by omega) h7
          have of1 : okF (addS σ (nv z1) (nv (σ 6 0 (nv z1))) z2 z3 z4) := addS_okF of
          generalize hv : nv z1 = v at *
          generalize hcc : nv (σ 6 0 v) = c at *
          have ecl : nv (nI (c + 1)) = c + 1 := nI_clamp (by omega)
          have e6 : ∀ u, nv (addS σ v c z2 z3 z4 6 0 u) = if u = v then c + 1 else nv (σ 6 0 u) := fun u => by
            rw [add_at]
            by_cases q : u = v
            · rw [if_pos ⟨rfl, rfl, q⟩, if_pos q, ecl]
            · rw [if_neg (fun z => q z.2.2), if_neg (fun z => absurd z.1 (by decide)), if_neg (fun z => absurd z.1 (by decide)), if_neg (fun z => absurd z.1 (by decide)), if_neg q]
          have e20 : ∀ u k, addS σ v c z2 z3 z4 20 u k = if u = v ∧ k = c then z2 else σ 20 u k := fun u k => by rw [add_at]; simp
          have e21 : ∀ u k, addS σ v c z2 z3 z4 21 u k = if u = v ∧ k = c then z3 else σ 21 u k := fun u k => by rw [add_at]; simp
          have e22 : ∀ u k, addS σ v c z2 z3 z4 22 u k = if u = v ∧ k = c then z4 else σ 22 u k := fun u k => by rw [add_at]; simp
          have eo : ∀ t i j, t ≠ 6 → t ≠ 20 → t ≠ 21 → t ≠ 22 → addS σ v c z2 z3 z4 t i j = σ t i j := fun t i j q1 q2 q3 q4 => by rw [add_at]; simp [q1, q2, q3, q4]
          refine SF_yes (by unfold arC chB; rw [hv, hcc, ca, cb, decide_eq_false c3, c5]; rfl) ?_ ?_ ?_
          · unfold arP
            rw [up3_ne (fun z => absurd z.1 (by decide)), up3_ne (fun z => absurd z.1 (by decide)), up3_ne (fun z => absurd z.1 (by decide)), up3_ne (fun z => absurd z.1 (by decide))]
            exact th_m0
          · unfold arS saS rsS
            rw [hv, hcc, saL_ne _ 6 0 v rfl, rsL_ne _ 6 0 v (by decide), add_at, if_pos ⟨rfl, rfl, rfl⟩]
          · have l1' : LkB (addS σ v c z2 z3 z4) (arP (m0 τ) v z2 z3 z4) := by
              have lm := l.mS (mS_m0 (τ := τ))
              obtain ⟨l1, l2, l3, l4, l5, l6, l7, l8, l9, l10, l11, l12⟩ := lm
              unfold arP
              rw [e31]
              refine ⟨?_, fun u => ?_, fun u k hk => ?_, fun f => ?_, fun f => ?_, fun r => ?_, fun r => ?_, fun r => ?_, fun r p hp => ?_, fun u => ?_, ?_, ?_⟩
              · rw [eo _ _ _ (by decide) (by decide) (by decide) (by decide)]; simp only [up3_at]; simp [l1]
              · rw [add_at]; simp only [up3_at]; simp [l2 u]
              · obtain ⟨a1, a2, a3⟩ := l3 u k hk
                have ei : (30 * u + k = 30 * v + c) ↔ (u = v ∧ k = c) := by omega
                rw [e20, e21, e22]
                simp only [up3_at]
                simp [a1, a2, a3, ei]
              · rw [eo _ _ _ (by decide) (by decide) (by decide) (by decide)]; simp only [up3_at]; simp [l4 f]
              · rw [eo _ _ _ (by decide) (by decide) (by decide) (by decide)]; simp only [up3_at]; simp [l5 f]
              · rw [eo _ _ _ (by decide) (by decide) (by decide) (by decide)]; simp only [up3_at]; simp [l6 r]
              · rw [eo _ _ _ (by decide) (by decide) (by decide) (by decide)]; simp only [up3_at]; simp [l7 r]
              · rw [eo _ _ _ (by decide) (by decide) (by decide) (by decide)]; simp only [up3_at]; simp [l8 r]
              · rw [eo _ _ _ (by decide) (by decide) (by decide) (by decide)]; simp only [up3_at]; simp [l9 r p hp]
              · rw [eo _ _ _ (by decide) (by decide) (by decide) (by decide)]; simp only [up3_at]; simp [l10 u]
              · rw [eo _ _ _ (by decide) (by decide) (by decide) (by decide)]; simp only [up3_at]; simp [l11]
              · rw [eo _ _ _ (by decide) (by decide) (by decide) (by decide)]; simp only [up3_at]; simp [l12]
            have w1 : Wf (addS σ v c z2 z3 z4) := by
              refine ⟨fun u hu k hk => ?_, fun u hu j k hj hk hjk => ?_, fun r hr => ?_⟩
              · rw [e20, e21]
                rw [e6] at hk
                by_cases q : u = v ∧ k = c
                · rw [if_pos q, if_pos q]; exact ⟨g1, g3⟩
                · rw [if_neg q, if_neg q]
                  refine w.1 u hu k ?_
                  by_cases q2 : u = v
                  · rw [if_pos q2] at hk
                    subst q2
                    have : k ≠ c := fun z => q ⟨rfl, z⟩
                    omega
                  · rwa [if_neg q2] at hk
              · rw [e20 u j, e20 u k, e21 u j, e21 u k]
                rw [e6] at hj hk
                by_cases q2 : u = v
                · subst q2
                  rw [if_pos rfl] at hj hk
                  by_cases qj : j = c
                  · have qk : k ≠ c := fun z => hjk (qj.trans z.symm)
                    rw [if_pos (show u = u ∧ j = c from ⟨rfl, qj⟩), if_pos (show u = u ∧ j = c from ⟨rfl, qj⟩), if_neg (show ¬ (u = u ∧ k = c) from fun z => qk z.2), if_neg (show ¬ (u = u ∧ k = c) from fun z => qk z.2)]
                    exact fun z => hnov k (by omega) (by first | exact ⟨z.2, z.1⟩ | exact ⟨z.1, z.2⟩)
                  · by_cases qk : k = c
                    · rw [if_pos (show u = u ∧ k = c from ⟨rfl, qk⟩), if_pos (show u = u ∧ k = c from ⟨rfl, qk⟩), if_neg (show ¬ (u = u ∧ j = c) from fun z => qj z.2), if_neg (show ¬ (u = u ∧ j = c) from fun z => qj z.2)]
                      exact fun z => hnov j (by omega) (by first | exact ⟨z.1, z.2⟩ | exact ⟨z.2, z.1⟩)
                    · rw [if_neg (show ¬ (u = u ∧ k = c) from fun z => qk z.2), if_neg (show ¬ (u = u ∧ k = c) from fun z => qk z.2), if_neg (show ¬ (u = u ∧ j = c) from fun z => qj z.2), if_neg (show ¬ (u = u ∧ j = c) from fun z => qj z.2)]
                      exact w.2.1 u hu j k (by omega) (by omega) hjk
                · rw [if_neg q2] at hj hk
                  rw [if_neg (fun z => q2 z.1), if_neg (fun z => q2 z.1), if_neg (fun z => q2 z.1), if_neg (fun z => q2 z.1)]
                  exact w.2.1 u hu j k hj hk hjk
              · rw [eo _ _ _ (by decide) (by decide) (by decide) (by decide)] at hr
                rw [eo _ _ _ (by decide) (by decide) (by decide) (by decide)]
                exact w.2.2 r hr
            unfold arS
            rw [hv, hcc]
            have hne : ∀ t i j, lT t = true → rsS (addS σ v c z2 z3 z4) v t i j = addS σ v c z2 z3 z4 t i j := fun t i j q => rsL_ne _ t i j (lT_24 q)
            refine Inv_sa (rsS_ok o1) (rsS_okF o1 of1) (l1'.on hne) ?_ (w1.on hne) (fun r hr p hp => ?_)
            · exact ac.ne (fun j => by unfold arP m0; simp only [up3_at]; simp)
            · rw [hne 3 0 0 rfl] at hr
              have er : addS σ v c z2 z3 z4 3 0 0 = σ 3 0 0 := eo _ _ _ (by decide) (by decide) (by decide) (by decide)
              have hr2 : r < nv (σ 3 0 0) := by rwa [er] at hr
              rw [hne 12 0 r rfl, hne 23 r p rfl]
              have hfx : ∀ u x, fnX (rsS (addS σ v c z2 z3 z4) v) u x = fnX (addS σ v c z2 z3 z4) u x := fun u x => fnX_congr (hne 6 0 u rfl) (fun k => ⟨hne 20 u k rfl, hne 21 u k rfl, hne 22 u k rfl⟩)
              rw [hfx]
              obtain ⟨q1, q2⟩ := rsL_row (σ := addS σ v c z2 z3 z4) (v := v) hp (nv (addS σ v c z2 z3 z4 3 0 0)) r
              by_cases qv : nv (addS σ v c z2 z3 z4 12 0 r) = v
              · rw [qv]
                exact q1 qv hr
              · refine (q2 (Or.inl qv)).trans ?_
                rw [eo 24 r p (by decide) (by decide) (by decide) (by decide), (d r hr2).1 p hp]
                have e12 : addS σ v c z2 z3 z4 12 0 r = σ 12 0 r := eo _ _ _ (by decide) (by decide) (by decide) (by decide)
                rw [e12] at qv ⊢
                rw [eo 23 r p (by decide) (by decide) (by decide) (by decide)]
                refine (fnX_congr ?_ (fun k => ⟨?_, ?_, ?_⟩)).symm
                · rw [add_at, if_neg (fun z => qv z.2.2), if_neg (fun z => absurd z.1 (by decide)), if_neg (fun z => absurd z.1 (by decide)), if_neg (fun z => absurd z.1 (by decide))]
                · rw [e20, if_neg (fun z => qv z.1)]
                · rw [e21, if_neg (fun z => qv z.1)]
                · rw [e22, if_neg (fun z => qv z.1)]
    · have cb2 : (ibX z2 (nI 10000) && (ibX z3 (nI 10000) && decide (¬ z3 < z2))) = false := by simpa using cb
      rw [ca, cb2, if_neg (by decide), if_neg (by decide)]
      exact SF_no (by unfold arC chB; rw [ca, cb2]; rfl) (by unfold arC cdX cdX; rw [ca, cb2, th_mF]; rfl) (h.mS mS_mF)
  · have ca2 : (ibX z1 (nI 4) && ibX z4 (nI 30)) = false := by simpa using ca
    rw [ca2, Bool.false_and, if_neg (by decide), if_neg (by decide)]
    exact SF_no (by unfold arC chB; rw [ca2]; rfl) (by unfold arC cdX; rw [ca2, th_mF]; rfl) (h.mS mS_mF)

/-! ===== report ===== -/
section RPT
variable {σ : xS}
theorem rpX_0 (z : Int32) : ∃ b : Nat, b < 10000 ∧ rpX z 0 = nI b := by
  refine ⟨_, ?_, by unfold rpX; rw [if_pos (by omega)]⟩
  split
  · exact lo_lt _ (by decide) (by decide)
  · have := lo_lt (shr z (5 + 0)) (n := 130) (by decide) (by decide)
    omega
theorem rpX_mf (z : Int32) (p : Nat) : mfX (rpX z p) (rpX z (p + 1)) = true := by
  unfold mfX
  rw [Bool.or_eq_true, Bool.and_eq_true, decide_eq_true_eq, decide_eq_true_eq]
  by_cases c : p + 1 < 1 + loN z 4
  · refine Or.inr ⟨?_, ?_⟩
    · unfold rpX
      rw [if_pos (show p < 1 + loN z 4 by omega)]
      refine nI_nm1 ?_
      split
      · have := lo_lt (shr z (5 + p)) (n := 10000) (by decide) (by decide)
        omega
      · have := lo_lt (shr z (5 + p)) (n := 130) (by decide) (by decide)
        omega
    · unfold rpX
      rw [if_pos c]
      refine ibX_ok ?_ (by decide)
      split
      · exact lo_lt _ (by decide) (by decide)
      · have := lo_lt (shr z (5 + (p + 1))) (n := 130) (by decide) (by decide)
        omega
  · refine Or.inl ?_
    unfold rpX
    rw [if_neg c]
theorem st_rp (h : Jv σ) (z : Int32) (n : Nat) (hnq : n = nv (σ 30 0 0)) (hn12 : n < 12) : (okX (rpQ σ z n) ∧ okF (rpQ σ z n) ∧ chOk (rpA (rpQ σ z n) n) ∧ nv (rpQ σ z n 3 0 0) = n) ∧ Jv (rpE σ z n) := by
  have hn := h.n
  have hv : loN (shr z 2) 4 < 4 := lo_lt _ (by decide) (by decide)
  have hu : loN (shr z 4) 20 < 20 := lo_lt _ (by decide) (by decide)
  have eρ : ∀ t i j, rpQ σ z n t i j = if t = 30 ∧ i = 0 ∧ j = 0 then nI (n + 1) else if t = 38 ∧ i = 0 ∧ j = n then -1 else if t = 37 ∧ i = 0 ∧ j = 4 * n + 3 then rpX z 3 else if t = 37 ∧ i = 0 ∧ j = 4 * n + 2 then rpX z 2 else if t = 37 ∧ i = 0 ∧ j = 4 * n + 1 then rpX z 1 else if t = 37 ∧ i = 0 ∧ j = 4 * n + 0 then rpX z 0 else if t = 36 ∧ i = 0 ∧ j = n then nI (loN (shr z 4) 20) else if t = 35 ∧ i = 0 ∧ j = n then nI (loN (shr z 2) 4) else σ t i j := fun t i j => by
    show up3 (up3 (up3 (up3 (up3 (up3 (up3 (up3 σ 35 0 n (nI (loN (shr z 2) 4))) 36 0 n (nI (loN (shr z 4) 20))) 37 0 (4 * n + 0) (rpX z 0)) 37 0 (4 * n + 1) (rpX z 1)) 37 0 (4 * n + 2) (rpX z 2)) 37 0 (4 * n + 3) (rpX z 3)) 38 0 n (-1)) 30 0 0 (nI (n + 1)) t i j = _
    rw [up3_at, up3_at, up3_at, up3_at, up3_at, up3_at, up3_at, up3_at]
  have hne : ∀ t, t < 30 → rpQ σ z n t = σ t := fun t ht => by
    funext i j
    rw [eρ]
    simp [show t ≠ 30 by omega, show t ≠ 38 by omega, show t ≠ 37 by omega, show t ≠ 36 by omega, show t ≠ 35 by omega]
  have e35 : rpQ σ z n 35 0 n = nI (loN (shr z 2) 4) := by rw [eρ]; simp
  have e36 : rpQ σ z n 36 0 n = nI (loN (shr z 4) 20) := by rw [eρ]; simp
  have e0 : rpQ σ z n 37 0 (4 * n) = rpX z 0 := by rw [eρ]; simp
  have e1 : rpQ σ z n 37 0 (4 * n + 1) = rpX z 1 := by rw [eρ]; simp
  have e2 : rpQ σ z n 37 0 (4 * n + 2) = rpX z 2 := by rw [eρ]; simp
  have e3 : rpQ σ z n 37 0 (4 * n + 3) = rpX z 3 := by rw [eρ]; simp
  obtain ⟨b, hb, eb⟩ := rpX_0 z
  have ox : okX (rpQ σ z n) := h.okx.ne (fun t i j ht => by rw [hne t (bT_30 ht)])
  have of : okF (rpQ σ z n) := h.okf.ne (fun i j => by rw [hne 24 (by decide)])
  have e30 : nv (rpQ σ z n 3 0 0) = n := by rw [hne 3 (by decide)]; omega
  refine ⟨⟨ox, of, ?_, e30⟩, ?_⟩
  · unfold rpA
    rw [e35, e36, e0, e1, e2, e3]
    unfold rpC
    refine ⟨?_, ?_, ?_, trivial⟩
    · rw [ibX_ok hv (by decide), ibX_ok hu (by decide)]
      rfl
    · rw [rpX_mf z 0, rpX_mf z 1, rpX_mf z 2, eb, ibX_ok hb (by decide)]
      rfl
    · rw [e30]
      exact decide_eq_true (by omega)
  · have e9 : rpE σ z n = oM (rpQ σ z n) (soS (rdS (stkS (radS (rpQ σ z n) n (loN (shr z 2) 4) (loN (shr z 4) 20)) n (rpX z 0) (rpX z 1) (rpX z 2) (rpX z 3)) n) n) := by
      unfold rpE rpN rpS
      rw [e30, e35, e36, e0, e1, e2, e3, nv_nI (by omega), nv_nI (by omega)]
    rw [e9]
    have o1 : okX (stkS (radS (rpQ σ z n) n (loN (shr z 2) 4) (loN (shr z 4) 20)) n (rpX z 0) (rpX z 1) (rpX z 2) (rpX z 3)) := stkS_ok (radS_ok ox (by omega) hv hu)
    have of1 : okF (stkS (radS (rpQ σ z n) n (loN (shr z 2) 4) (loN (shr z 4) 20)) n (rpX z 0) (rpX z 1) (rpX z 2) (rpX z 3)) := rad_okF of
    have ea : ∀ t i j, t < 30 → stkS (radS (rpQ σ z n) n (loN (shr z 2) 4) (loN (shr z 4) 20)) n (rpX z 0) (rpX z 1) (rpX z 2) (rpX z 3) t i j = if t = 23 ∧ i = n ∧ j = 3 then rpX z 3 else if t = 23 ∧ i = n ∧ j = 2 then rpX z 2 else if t = 23 ∧ i = n ∧ j = 1 then rpX z 1 else if t = 23 ∧ i = n ∧ j = 0 then rpX z 0 else if t = 3 ∧ i = 0 ∧ j = 0 then nI (n + 1) else if t = 15 ∧ i = 0 ∧ j = n then -1 else if t = 13 ∧ i = 0 ∧ j = n then nI (loN (shr z 4) 20) else if t = 12 ∧ i = 0 ∧ j = n then nI (loN (shr z 2) 4) else σ t i j := fun t i j ht => by
      unfold stkS radS
      rw [up3_at, up3_at, up3_at, up3_at, up3_at, up3_at, up3_at, up3_at, hne t ht]
    generalize stkS (radS (rpQ σ z n) n (loN (shr z 2) 4) (loN (shr z 4) 20)) n (rpX z 0) (rpX z 1) (rpX z 2) (rpX z 3) = α at o1 of1 ea
    have a3 : nv (α 3 0 0) = n + 1 := by
      rw [ea _ _ _ (by decide)]
      simp
      exact nI_clamp (by omega)
    have eo : ∀ t i j, t < 30 → t ≠ 3 → t ≠ 12 → t ≠ 13 → t ≠ 15 → t ≠ 23 → α t i j = σ t i j := fun t i j q0 q1 q2 q3 q4 q5 => by rw [ea t i j q0]; simp [q1, q2, q3, q4, q5]
    have el : ∀ r, r ≠ n → α 12 0 r = σ 12 0 r ∧ ∀ p, α 23 r p = σ 23 r p := fun r hr => ⟨by rw [ea _ _ _ (by decide)]; simp [hr], fun p => by rw [ea _ _ _ (by decide)]; simp [hr]⟩
    have hrd : ∀ t i j, t ≠ 24 → rdS α n t i j = α t i j := fun t i j q => rdL_ne 4 t i j q
    have hso : ∀ t i j, dT t = false → soS (rdS α n) n t i j = rdS α n t i j := fun t i j q => soS_ne t i j q
    have hfx : ∀ u x, fnX (rdS α n) u x = fnX α u x := fun u x => fnX_congr (hrd 6 0 u (by decide)) (fun k => ⟨hrd 20 u k (by decide), hrd 21 u k (by decide), hrd 22 u k (by decide)⟩)
    have fr1 : Fr (rdS α n) := fun r hr p hp => by
      rw [hrd 3 0 0 (by decide), a3] at hr
      rw [hrd 12 0 r (by decide), hrd 23 r p (by decide), hfx]
      by_cases e : r = n
      · subst e
        exact rdL_row 4 p hp
      · refine (rdL_rne e 4 p).trans ?_
        rw [eo 24 r p (by decide) (by decide) (by decide) (by decide) (by decide) (by decide), h.1.2.2.1 r (by omega) p hp, (el r e).1, (el r e).2]
        exact (fnX_congr (eo 6 0 _ (by decide) (by decide) (by decide) (by decide) (by decide) (by decide)) (fun k => ⟨eo 20 _ k (by decide) (by decide) (by decide) (by decide) (by decide) (by decide), eo 21 _ k (by decide) (by decide) (by decide) (by decide) (by decide) (by decide), eo 22 _ k (by decide) (by decide) (by decide) (by decide) (by decide) (by decide)⟩)).symm
    have cO : CO (soS (rdS α n) n) := by
      refine ⟨⟨soS_ok (rdL_ok o1), (rdL_okF o1 of1 (by omega) 4).ne (fun i j => hso 24 i j rfl)⟩, fun r hr => ?_, fr1.ne (fun t i j ht => hso t i j (fT_dT ht)), fun r hr => ?_⟩
      · rw [hso 3 0 0 rfl, hrd 3 0 0 (by decide), a3] at hr
        rw [hso 23 r 0 rfl, hrd 23 r 0 (by decide)]
        by_cases e : r = n
        · refine ⟨b, hb, ?_⟩
          rw [ea _ _ _ (by decide), e]
          simp
          exact eb
        · rw [(el r e).2]
          exact h.1.2.1 r (by omega)
      · rw [hso 3 0 0 rfl, hrd 3 0 0 (by decide), a3] at hr
        by_cases e : r = n
        · subst e
          exact soS_Kd
        · refine soS_Ke (by omega) ?_
          have et : ∀ t i j, t < 30 → t ≠ 24 → t ≠ 3 → t ≠ 12 → t ≠ 13 → t ≠ 15 → t ≠ 23 → rdS α n t i j = σ t i j := fun t i j q q0 q1 q2 q3 q4 q5 => (hrd t i j q0).trans (eo t i j q q1 q2 q3 q4 q5)
          exact (h.1.2.2.2 r (by omega)).congr (fun p _ => (rdL_rne e 4 p).trans (eo 24 r p (by decide) (by decide) (by decide) (by decide) (by decide) (by decide))) (funext fun j => et 10 0 j (by decide) (by decide) (by decide) (by decide) (by decide) (by decide) (by decide)) (funext fun j => et 11 0 j (by decide) (by decide) (by decide) (by decide) (by decide) (by decide) (by decide)) (et 2 0 0 (by decide) (by decide) (by decide) (by decide) (by decide) (by decide) (by decide)) (fun p _ => et 25 r p (by decide) (by decide) (by decide) (by decide) (by decide) (by decide) (by decide)) ((hrd 12 0 r (by decide)).trans (el r e).1) ((hrd 23 r 0 (by decide)).trans ((el r e).2 0)) (fun j _ => et 18 0 j (by decide) (by decide) (by decide) (by decide) (by decide) (by decide) (by decide)) (et 19 0 r (by decide) (by decide) (by decide) (by decide) (by decide) (by decide) (by decide))
    refine Jv_mk cO ⟨?_, ?_, ?_, ?_⟩ ?_
    · have q1 : okP (up3 (up3 σ 35 0 n (nI (loN (shr z 2) 4))) 36 0 n (nI (loN (shr z 4) 20))) := okP_row (okP_row h.okp (Or.inr (Or.inl ⟨rfl, hv⟩))) (Or.inr (Or.inr (Or.inl ⟨rfl, hu⟩)))
      have q2 : okP (rpK σ z n 4) := q1.ne (fun t i j ht => by
        show up3 (up3 (up3 (up3 (up3 (up3 σ 35 0 n (nI (loN (shr z 2) 4))) 36 0 n (nI (loN (shr z 4) 20))) 37 0 (4 * n + 0) (rpX z 0)) 37 0 (4 * n + 1) (rpX z 1)) 37 0 (4 * n + 2) (rpX z 2)) 37 0 (4 * n + 3) (rpX z 3) t i j = _
        have h37 : t ≠ 37 := fun e => by rw [e] at ht; cases ht
        rw [up3_ne (fun y => h37 y.1), up3_ne (fun y => h37 y.1), up3_ne (fun y => h37 y.1), up3_ne (fun y => h37 y.1)])
      exact okP_30 (okP_38m q2) (fun _ => by omega) (fun y => by omega) (fun y => by omega)
    · refine h.2.1.2.1.congr (funext fun t => ?_)
      show rpQ σ z n 31 0 (14 + t) = _
      rw [eρ]
      simp
      rfl
    · rw [eρ]; simp; exact h.2.1.2.2.1
    · rw [eρ]; simp; exact h.2.1.2.2.2
    · refine LkB.congr (χ := α) (ρ := rpQ σ z n) (fun t i j ht => (hso t i j (lT_dT ht)).trans (hrd t i j (lT_24 ht))) (fun _ _ _ => rfl) ?_
      obtain ⟨⟨a1, a2, a3⟩, bb, cc, d, e, f⟩ := h.2.2
      refine ⟨⟨?_, ?_, ?_⟩, fun u hu => ⟨?_, ?_⟩, fun u hu => ⟨?_, ?_⟩, fun u k hu hk => ⟨?_, ?_, ?_⟩, fun r hr => ⟨?_, ?_, ?_⟩, fun r p hr hp => ?_⟩
      · rw [ea _ _ _ (by decide), eρ]; simp
      · rw [ea _ _ _ (by decide), eρ]; simp [a2]
      · rw [ea _ _ _ (by decide), eρ]; simp [a3]
      · rw [ea _ _ _ (by decide), eρ]; simp [(bb u hu).1]
      · rw [ea _ _ _ (by decide), eρ]; simp [(bb u hu).2]
      · rw [ea _ _ _ (by decide), eρ]; simp [(cc u hu).1]
      · rw [ea _ _ _ (by decide), eρ]; simp [(cc u hu).2]
      · rw [ea _ _ _ (by decide), eρ]; simp [(d u k hu hk).1]
      · rw [ea _ _ _ (by decide), eρ]; simp [(d u k hu hk).2.1]
      · rw [ea _ _ _ (by decide), eρ]; simp [(d u k hu hk).2.2]
      · rw [ea _ _ _ (by decide), eρ]; simp [(e r hr).1]
      · rw [ea _ _ _ (by decide), eρ]; simp [(e r hr).2.1]
      · rw [ea _ _ _ (by decide), eρ]; simp [(e r hr).2.2]
      · rw [ea _ _ _ (by decide), eρ]
        have i3 : (4 * r + p = 4 * n + 3) ↔ (r = n ∧ p = 3) := by omega
        have i2 : (4 * r + p = 4 * n + 2) ↔ (r = n ∧ p = 2) := by omega
        have i1 : (4 * r + p = 4 * n + 1) ↔ (r = n ∧ p = 1) := by omega
        have i0 : (4 * r + p = 4 * n) ↔ (r = n ∧ p = 0) := by omega
        simp [f r p hr hp, i0, i1, i2, i3]
end RPT
/-! ===== the start ===== -/
theorem J_0 : Jv (mLP σ0 6) := by
  have i0 : ∀ n : Nat, 0 < n → inR (0 : Int32) n := fun n h => ⟨rfl, h⟩
  have eid : ∀ j, j < 30 → idR 30 j = nI j := fun j h => by unfold idR; rw [if_pos h]
  have em : ∀ t i j, mLP σ0 6 t i j = if t = 31 ∧ i = 0 ∧ j = 19 then nI 5 else if t = 31 ∧ i = 0 ∧ j = 18 then nI 4 else if t = 31 ∧ i = 0 ∧ j = 17 then nI 3 else if t = 31 ∧ i = 0 ∧ j = 16 then nI 2 else if t = 31 ∧ i = 0 ∧ j = 15 then nI 1 else if t = 31 ∧ i = 0 ∧ j = 14 then nI 0 else if t = 30 ∧ i = 0 ∧ j = 2 then nI 100 else if t = 30 ∧ i = 0 ∧ j = 1 then nI 2 else σ0 t i j := fun t i j => by
    show up3 (up3 (up3 (up3 (up3 (up3 (up3 (up3 σ0 30 0 1 (nI 2)) 30 0 2 (nI 100)) 31 0 (14 + 0) (nI 0)) 31 0 (14 + 1) (nI 1)) 31 0 (14 + 2) (nI 2)) 31 0 (14 + 3) (nI 3)) 31 0 (14 + 4) (nI 4)) 31 0 (14 + 5) (nI 5) t i j = _
    rw [up3_at, up3_at, up3_at, up3_at, up3_at, up3_at, up3_at, up3_at]
  have hlt : ∀ t, t < 30 → mLP σ0 6 t = σ0 t := fun t ht => by
    funext i j
    rw [em]
    simp [show t ≠ 31 by omega, show t ≠ 30 by omega]
  have hgt : ∀ t, 32 ≤ t → mLP σ0 6 t = σ0 t := fun t ht => by
    funext i j
    rw [em]
    simp [show t ≠ 31 by omega, show t ≠ 30 by omega]
  have s14 : ∀ f, f < 6 → mLP σ0 6 31 0 (14 + f) = nI f := fun f hf => by
    rcases (show f = 0 ∨ f = 1 ∨ f = 2 ∨ f = 3 ∨ f = 4 ∨ f = 5 by omega) with rfl | rfl | rfl | rfl | rfl | rfl <;> rfl
  have slo : ∀ k, k < 14 → mLP σ0 6 31 0 k = 0 := fun k hk => by
    rw [em]
    simp [show ¬ k = 19 by omega, show ¬ k = 18 by omega, show ¬ k = 17 by omega, show ¬ k = 16 by omega, show ¬ k = 15 by omega, show ¬ k = 14 by omega]
    rfl
  have c0 : CO σ0 := by
    refine ⟨⟨⟨i0 61 (by decide), fun v _ => i0 31 (by decide), fun r _ => i0 4 (by decide), fun f hf => ?_, fun v _ => i0 _ (by decide), inR_nI (by decide) (by decide), fun r _ => Or.inr (i0 4 (by decide)), fun v _ k _ => i0 30 (by decide), fun r _ => i0 20 (by decide), fun f _ => Or.inl rfl⟩, fun r _ p _ => Or.inr (i0 30 (by decide))⟩, fun r hr => absurd hr (Nat.not_lt_zero _), fun r hr => absurd hr (Nat.not_lt_zero _), fun r hr => absurd hr (Nat.not_lt_zero _)⟩
    show inR (idR 30 f) 30
    rw [eid f hf]
    exact inR_nI hf (by decide)
  have o0 : okP (mLP σ0 6) := by
    refine ⟨i0 13 (by decide), inR_nI (by decide) (by decide), fun v hv => ?_, fun v hv => ?_, fun f hf => ?_, fun f hf => ?_, fun k _ => ?_, fun r _ => ?_, fun r _ => ?_, fun r _ => Or.inr ?_, inR_nI (by decide) (by decide)⟩
    · rw [slo v (by omega)]; exact i0 7 (by decide)
    · rw [slo (4 + v) (by omega)]; exact i0 _ (by decide)
    · rw [slo (8 + f) (by omega)]; exact i0 2 (by decide)
    · rw [s14 f hf]; exact inR_nI hf (by decide)
    · rw [hgt 34 (by decide)]; exact i0 6 (by decide)
    · rw [hgt 35 (by decide)]; exact i0 4 (by decide)
    · rw [hgt 36 (by decide)]; exact i0 20 (by decide)
    · rw [hgt 38 (by decide)]; exact i0 4 (by decide)
  refine ⟨c0.congr hlt, ⟨o0, fun f hf => ⟨0, ?_⟩, by decide, by decide⟩, ⟨rfl, rfl, rfl⟩, fun v hv => ⟨?_, ?_⟩, fun f hf => ⟨?_, ?_⟩, fun v k hv hk => ?_, fun r hr => ?_, fun r p hr hp => ?_⟩
  · show nv (mLP σ0 6 31 0 (14 + f)) = f
    rw [s14 f hf]
    exact nv_nI (by omega)
  · rw [slo v (by omega), hlt 6 (by decide)]; rfl
  · rw [slo (4 + v) (by omega), hlt 5 (by decide)]; rfl
  · rw [slo (8 + f) (by omega), hlt 10 (by decide)]; rfl
  · rw [s14 f hf, hlt 11 (by decide)]
    exact eid f (by omega)
  · rw [hlt 20 (by decide), hlt 21 (by decide), hlt 22 (by decide), hgt 32 (by decide), hgt 33 (by decide), hgt 34 (by decide)]
    exact ⟨rfl, rfl, rfl⟩
  · rw [hlt 12 (by decide), hlt 13 (by decide), hlt 15 (by decide), hgt 35 (by decide), hgt 36 (by decide), hgt 38 (by decide)]
    exact ⟨rfl, rfl, rfl⟩
  · rw [hlt 23 (by decide), hgt 37 (by decide)]
    rfl
theorem J_law : LawH Jv := ⟨fun _ h => ⟨h.okx, h.okf, h.okp⟩, fun _ z n h h1 h2 => st_rp h z n h1 h2, fun _ z h => st_rg h z, fun _ z h => st_ru h z, fun _ z h => st_ses h z, fun _ z h hq => st_fix h z hq, fun _ h => st_so h⟩

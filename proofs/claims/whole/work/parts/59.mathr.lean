theorem mf_nx {x y : Int32} : mfX x y = nxM y x := by
  unfold mfX nxM
  rw [adr_ib, Bool.and_comm]
theorem us_ib {u : Int32} : inX u (nI 0) (nI 19) = ibX u (nI 20) := (ib_in (n := 19) (by decide)).symm
theorem rp_A {v u x y z w : Int32} : rpA v u x y z w = ((ibX v (nI 4) && ibX u (nI 20)) && (ibX x (nI 10000) && (mfX x y && (mfX y z && mfX z w)))) := by
  unfold rpA
  rw [ver_ib, us_ib, adr_ib, mf_nx, mf_nx, mf_nx, Bool.and_assoc]
theorem st_report {σ τ : xS} (h : Inv σ τ) (z1 z2 z3 z4 z5 z6 : Int32) : SF Inv (cd1 eIA) (rpC σ z1 z2 z3 z4 z5 z6) σ (rpS σ z1 z2 z3 z4 z5 z6) (nI (nv (σ 3 0 0))) (rpMS τ z1 z2 z3 z4 z5 z6) (rpMV τ z1 z2 z3 z4 z5 z6) := by
  obtain ⟨⟨o, of⟩, l, ac, w, d⟩ := id h
  have hn := h.n60
  unfold rpMS rpMV
  rw [rp_A, ← l.1]
  by_cases ca : (ibX z1 (nI 4) && ibX z2 (nI 20)) = true
  · by_cases cb : (ibX z3 (nI 10000) && (mfX z3 z4 && (mfX z4 z5 && mfX z5 z6))) = true
    · rw [ca, cb, if_pos (show (true && true) = true from rfl), if_pos (show (true && true) = true from rfl)]
      by_cases cn : nv (σ 3 0 0) = 60
      · rw [if_pos cn, if_pos cn]
        exact SF_no (by unfold rpC chB; rw [ca, cb, decide_eq_false (by omega)]; rfl) (by unfold rpC cdX cdX cdX; rw [ca, cb, decide_eq_false (by omega), th_mF]; rfl) (h.mS mS_mF)
      · rw [if_neg cn, if_neg cn]
        have h4 := ca
        rw [Bool.and_eq_true] at h4
        obtain ⟨h5, h6⟩ := ib_lt (by decide) h4.1
        obtain ⟨h7, h8⟩ := ib_lt (by decide) h4.2
        have h9 := cb
        rw [Bool.and_eq_true] at h9
        obtain ⟨h10, h11⟩ := ib_lt (by decide) h9.1
        have hN : nv (σ 3 0 0) < 60 := by omega
        have o1 : okX (stkS (radS σ (nv (σ 3 0 0)) (nv z1) (nv z2)) (nv (σ 3 0 0)) z3 z4 z5 z6) := stkS_ok (radS_ok o hN h5 h7)
        have of1 : okF (stkS (radS σ (nv (σ 3 0 0)) (nv z1) (nv z2)) (nv (σ 3 0 0)) z3 z4 z5 z6) := rad_okF of
        refine SF_yes (by unfold rpC chB; rw [ca, cb, decide_eq_true hN]; rfl) ?_ rfl ?_
        · unfold rpP
          simp only [up3_at]
          simp
          exact th_m0
        · unfold rpS
          have ez1 : nI (nv z1) = z1 := h6.symm
          have ez2 : nI (nv z2) = z2 := h8.symm
          generalize hN2 : nv (σ 3 0 0) = n at *
          generalize hσ1 : stkS (radS σ n (nv z1) (nv z2)) n z3 z4 z5 z6 = σ1 at *
          have e1 : ∀ t i j, σ1 t i j = if t = 23 ∧ i = n ∧ j = 3 then z6 else if t = 23 ∧ i = n ∧ j = 2 then z5 else if t = 23 ∧ i = n ∧ j = 1 then z4 else if t = 23 ∧ i = n ∧ j = 0 then z3 else if t = 3 ∧ i = 0 ∧ j = 0 then nI (n + 1) else if t = 15 ∧ i = 0 ∧ j = n then -1 else if t = 13 ∧ i = 0 ∧ j = n then z2 else if t = 12 ∧ i = 0 ∧ j = n then z1 else σ t i j := fun t i j => by
            rw [← hσ1]
            unfold stkS radS
            rw [up3_at, up3_at, up3_at, up3_at, up3_at, up3_at, up3_at, up3_at, ez1, ez2]
          have e3 : nv (σ1 3 0 0) = n + 1 := by
            rw [e1]
            simp
            exact nI_clamp (by omega)
          have eo : ∀ t i j, t ≠ 3 → t ≠ 12 → t ≠ 13 → t ≠ 15 → t ≠ 23 → σ1 t i j = σ t i j := fun t i j q1 q2 q3 q4 q5 => by rw [e1]; simp [q1, q2, q3, q4, q5]
          have el : ∀ r, r ≠ n → σ1 12 0 r = σ 12 0 r ∧ ∀ p, σ1 23 r p = σ 23 r p := fun r hr => ⟨by rw [e1]; simp [hr], fun p => by rw [e1]; simp [hr]⟩
          have hne : ∀ t i j, t ≠ 24 → rdS σ1 n t i j = σ1 t i j := fun t i j q => rdL_ne 4 t i j q
          have l1' : LkB σ1 (rpP (m0 τ) n z1 z2 z3 z4 z5 z6) := by
            have lm := l.mS (mS_m0 (τ := τ))
            obtain ⟨l1, l2, l3, l4, l5, l6, l7, l8, l9, l10, l11, l12⟩ := lm
            unfold rpP
            refine ⟨?_, fun v => ?_, fun v k hk => ?_, fun f => ?_, fun f => ?_, fun r => ?_, fun r => ?_, fun r => ?_, fun r p hp => ?_, fun v => ?_, ?_, ?_⟩
            · rw [e1]; simp only [up3_at]; simp
            · rw [e1]; simp only [up3_at]; simp [l2 v]
            · obtain ⟨a1, a2, a3⟩ := l3 v k hk
              rw [e1, e1, e1]; simp only [up3_at]; simp [a1, a2, a3]
            · rw [e1]; simp only [up3_at]; simp [l4 f]
            · rw [e1]; simp only [up3_at]; simp [l5 f]
            · rw [e1]; simp only [up3_at]; simp [l6 r]
            · rw [e1]; simp only [up3_at]; simp [l7 r]
            · rw [e1]; simp only [up3_at]; simp [l8 r]
            · rw [e1]; simp only [up3_at]
              have i3 : (4 * r + p = 4 * n + 3) ↔ (r = n ∧ p = 3) := by omega
              have i2 : (4 * r + p = 4 * n + 2) ↔ (r = n ∧ p = 2) := by omega
              have i1 : (4 * r + p = 4 * n + 1) ↔ (r = n ∧ p = 1) := by omega
              have i0 : (4 * r + p = 4 * n) ↔ (r = n ∧ p = 0) := by omega
              simp [l9 r p hp, i0, i1, i2, i3]
            · rw [e1]; simp only [up3_at]; simp [l10 v]
            · rw [e1]; simp only [up3_at]; simp [l11]
            · rw [e1]; simp only [up3_at]; simp [l12]
          have w1 : Wf σ1 := by
            refine ⟨fun v hv k hk => ?_, fun v hv j k hj hk hjk => ?_, fun r hr => ?_⟩
            · rw [eo 6 0 v (by decide) (by decide) (by decide) (by decide) (by decide)] at hk
              rw [eo 20 v k (by decide) (by decide) (by decide) (by decide) (by decide), eo 21 v k (by decide) (by decide) (by decide) (by decide) (by decide)]
              exact w.1 v hv k hk
            · rw [eo 6 0 v (by decide) (by decide) (by decide) (by decide) (by decide)] at hj hk
              rw [eo 20 v k (by decide) (by decide) (by decide) (by decide) (by decide), eo 21 v k (by decide) (by decide) (by decide) (by decide) (by decide), eo 20 v j (by decide) (by decide) (by decide) (by decide) (by decide), eo 21 v j (by decide) (by decide) (by decide) (by decide) (by decide)]
              exact w.2.1 v hv j k hj hk hjk
            · by_cases e : r = n
              · refine ⟨nv z3, h10, ?_⟩
                rw [e1, e]
                simp
                exact h11
              · rw [(el r e).2]
                rw [e3] at hr
                exact w.2.2 r (by omega)
          have hl2 : ∀ t i j, lT t = true → rdS σ1 n t i j = σ1 t i j := fun t i j q => hne t i j (lT_24 q)
          refine bs_Inv (σ := rdS σ1 n) (fun t i j ht => soS_ne t i j (by simp [sT] at ht; simp [dT]; omega)) (rdL_ok o1) (rdL_okF o1 of1 hN 4) (l1'.on hl2) (ac.ne (fun j => by unfold rpP m0; simp only [up3_at]; simp)) (w1.on hl2) (fun r hr p hp => ?_) (fun r hr => ?_)
          · rw [hne 3 0 0 (by decide), e3] at hr
            rw [hne 12 0 r (by decide), hne 23 r p (by decide)]
            have hfx : ∀ u x, fnX (rdS σ1 n) u x = fnX σ1 u x := fun u x => fnX_congr (hne 6 0 u (by decide)) (fun k => ⟨hne 20 u k (by decide), hne 21 u k (by decide), hne 22 u k (by decide)⟩)
            rw [hfx]
            by_cases e : r = n
            · subst e
              exact rdL_row 4 p hp
            · refine (rdL_rne e 4 p).trans ?_
              rw [eo 24 r p (by decide) (by decide) (by decide) (by decide) (by decide), (d r (by omega)).1 p hp, (el r e).1, (el r e).2]
              exact (fnX_congr (eo 6 0 _ (by decide) (by decide) (by decide) (by decide) (by decide)) (fun k => ⟨eo 20 _ k (by decide) (by decide) (by decide) (by decide) (by decide), eo 21 _ k (by decide) (by decide) (by decide) (by decide) (by decide), eo 22 _ k (by decide) (by decide) (by decide) (by decide) (by decide)⟩)).symm
          · rw [hne 3 0 0 (by decide), e3] at hr
            by_cases e : r = n
            · subst e
              exact soS_Kd
            · refine soS_Ke (by omega) ?_
              have et : ∀ t i j, t ≠ 24 → t ≠ 3 → t ≠ 12 → t ≠ 13 → t ≠ 15 → t ≠ 23 → rdS σ1 n t i j = σ t i j := fun t i j q0 q1 q2 q3 q4 q5 => (hne t i j q0).trans (eo t i j q1 q2 q3 q4 q5)
              exact (d r (by omega)).2.congr (fun p _ => (rdL_rne e 4 p).trans (eo 24 r p (by decide) (by decide) (by decide) (by decide) (by decide))) (funext fun j => et 10 0 j (by decide) (by decide) (by decide) (by decide) (by decide) (by decide)) (funext fun j => et 11 0 j (by decide) (by decide) (by decide) (by decide) (by decide) (by decide)) (et 2 0 0 (by decide) (by decide) (by decide) (by decide) (by decide) (by decide)) (fun p _ => et 25 r p (by decide) (by decide) (by decide) (by decide) (by decide) (by decide)) ((hne 12 0 r (by decide)).trans (el r e).1) ((hne 23 r 0 (by decide)).trans ((el r e).2 0)) (fun j _ => et 18 0 j (by decide) (by decide) (by decide) (by decide) (by decide) (by decide)) (et 19 0 r (by decide) (by decide) (by decide) (by decide) (by decide) (by decide))
    · have cb2 : (ibX z3 (nI 10000) && (mfX z3 z4 && (mfX z4 z5 && mfX z5 z6))) = false := by simpa using cb
      rw [ca, cb2, if_neg (by decide), if_neg (by decide)]
      exact SF_no (by unfold rpC chB; rw [ca, cb2]; rfl) (by unfold rpC cdX cdX; rw [ca, cb2, th_mF]; rfl) (h.mS mS_mF)
  · have ca2 : (ibX z1 (nI 4) && ibX z2 (nI 20)) = false := by simpa using ca
    rw [ca2, Bool.false_and, if_neg (by decide), if_neg (by decide)]
    exact SF_no (by unfold rpC chB; rw [ca2]; rfl) (by unfold rpC cdX; rw [ca2, th_mF]; rfl) (h.mS mS_mF)
/-! ===== the start ===== -/
theorem Inv_0 : Inv σ0 σ0 := by
  have e0 : nv (σ0 3 0 0) = 0 := rfl
  have i0 : ∀ n : Nat, 0 < n → inR (0 : Int32) n := fun n h => ⟨rfl, h⟩
  have eid : ∀ j, j < 30 → idR 30 j = nI j := fun j h => by unfold idR; rw [if_pos h]
  refine ⟨⟨⟨i0 61 (by decide), fun v _ => i0 31 (by decide), fun r _ => i0 4 (by decide), fun f hf => ?_, fun v _ => i0 _ (by decide), inR_nI (by decide) (by decide), fun r _ => Or.inr (i0 4 (by decide)), fun v _ k _ => i0 30 (by decide), fun r _ => i0 20 (by decide), fun f _ => Or.inl rfl⟩, fun r _ p _ => Or.inr (i0 30 (by decide))⟩, ⟨rfl, fun _ => rfl, fun _ _ _ => ⟨rfl, rfl, rfl⟩, fun _ => rfl, fun _ => rfl, fun _ => rfl, fun _ => rfl, fun _ => rfl, fun _ _ _ => rfl, fun _ => rfl, rfl, rfl⟩, fun f hf => ?_, ⟨fun v _ k hk => absurd hk (Nat.not_lt_zero _), fun v _ j k hj => absurd hj (Nat.not_lt_zero _), fun r hr => absurd hr (Nat.not_lt_zero _)⟩, fun r hr => absurd hr (Nat.not_lt_zero _)⟩
  · show inR (idR 30 f) 30
    rw [eid f hf]
    exact inR_nI hf (by decide)
  · have e1 : nv (σ0 36 0 f) = f := by
      show nv (idR 30 f) = f
      rw [eid f hf]
      exact nI_clamp (by omega)
    have e2 : ieM σ0 30 f = f := by
      unfold ieM
      rw [if_pos e1]
    rw [e2]
    exact e1

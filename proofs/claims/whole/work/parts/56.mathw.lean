/-! ===== the calls that change a number ===== -/
theorem fr_ne {σ σ2 : xS} (hs : ∀ t i j, (t == 3 || t == 6 || t == 12 || t == 20 || t == 21 || t == 22 || t == 23 || t == 24) = true → σ2 t i j = σ t i j) (f : Fr σ) : Fr σ2 := fun r hr p hp => by
  rw [hs 3 0 0 rfl] at hr
  rw [hs 24 r p rfl, hs 12 0 r rfl, hs 23 r p rfl, f r hr p hp]
  exact (fnX_congr (hs 6 0 _ rfl) (fun k => ⟨hs 20 _ k rfl, hs 21 _ k rfl, hs 22 _ k rfl⟩)).symm
theorem wf_ne {σ σ2 : xS} (hs : ∀ t i j, (t == 3 || t == 6 || t == 12 || t == 20 || t == 21 || t == 22 || t == 23 || t == 24) = true → σ2 t i j = σ t i j) (w : Wf σ) : Wf σ2 := by
  refine ⟨fun v hv k hk => ?_, fun v hv j k hj hk hjk => ?_, fun r hr => ?_⟩
  · rw [hs 6 0 v rfl] at hk
    rw [hs 20 v k rfl, hs 21 v k rfl]
    exact w.1 v hv k hk
  · rw [hs 6 0 v rfl] at hj hk
    rw [hs 20 v k rfl, hs 21 v k rfl, hs 20 v j rfl, hs 21 v j rfl]
    exact w.2.1 v hv j k hj hk hjk
  · rw [hs 3 0 0 rfl] at hr
    rw [hs 23 r 0 rfl]
    exact w.2.2 r hr
/-- a base number that no derived row is made of has changed -/
theorem Inv_up {σ σ2 τ : xS} (h : Inv σ τ) {τ2 : xS} (o : okX σ2) (l : LkB σ2 τ2) (a : acM τ2) (hs : ∀ t i j, (t == 0 || t == 5 || t == 15) = false → σ2 t i j = σ t i j) : Inv σ2 τ2 := by
  have hs2 : ∀ t i j, (t == 3 || t == 6 || t == 12 || t == 20 || t == 21 || t == 22 || t == 23 || t == 24) = true → σ2 t i j = σ t i j := fun t i j ht => hs t i j (by simp at ht ⊢; omega)
  refine ⟨⟨o, h.1.2.ne (fun i j => hs 24 i j rfl)⟩, l, a, wf_ne hs2 h.2.2.2.1, fun r hr => ?_⟩
  have hr2 : r < nv (σ 3 0 0) := by rwa [hs 3 0 0 rfl] at hr
  refine ⟨fr_ne hs2 h.frs r hr, (h.2.2.2.2 r hr2).2.congr (fun p _ => hs 24 r p rfl) (funext fun j => hs 10 0 j rfl) (funext fun j => hs 11 0 j rfl) (hs 2 0 0 rfl) (fun p _ => hs 25 r p rfl) (hs 12 0 r rfl) (hs 23 r 0 rfl) (fun j _ => hs 18 0 j rfl) (hs 19 0 r rfl)⟩
theorem in_rng {x a b : Int32} (h : inX x a b = true) : ¬ x < a ∧ ¬ b < x := by
  unfold inX at h
  rwa [Bool.and_eq_true, decide_eq_true_eq, decide_eq_true_eq] at h
theorem st_setSessions {σ τ : xS} (h : Inv σ τ) (z1 z2 : Int32) : SF Inv (cd1 eIA) (ssC z1 z2) σ (ssS σ z1 z2) (σ 5 0 (nv z1)) (ssMS τ z1 z2) (ssMV τ z1 z2) := by
  obtain ⟨⟨o, of⟩, l, ac, w, d⟩ := id h
  have e : chB (ssC z1 z2) = ssB z1 z2 := by
    unfold ssC chB ssB
    rw [ver_ib]
    show (_ && true) = _
    rw [Bool.and_true]
    rfl
  unfold ssMS ssMV
  by_cases c : ssB z1 z2 = true
  · rw [if_pos c, if_pos c]
    have hv := c
    unfold ssB at hv
    rw [Bool.and_eq_true, ver_ib] at hv
    obtain ⟨h1, h2⟩ := ib_lt (by decide) hv.1
    have h3 : ibX z2 (nI 1000001) = true := (ib_in (n := 1000000) (by decide)).trans hv.2
    obtain ⟨h4, h5⟩ := ib_lt (by decide) h3
    refine SF_yes (e.trans c) (by simp [up3_at, m0]; rfl) (l.2.2.2.2.2.2.2.2.2.1 _) ?_
    obtain ⟨l1, l2, l3, l4, l5, l6, l7, l8, l9, l10, l11, l12⟩ := l
    obtain ⟨o1, o2, o3, o4, o5, o6, o7, o8, o9, o10⟩ := o
    refine Inv_up h ⟨o1, o2, o3, o4, fun v hv => ?_, o6, o7, o8, o9, o10⟩ ⟨l1, l2, l3, l4, l5, l6, l7, l8, l9, fun v => ?_, l11, l12⟩ ac (fun t i j ht => ?_)
    · unfold ssS
      rw [up3_at]
      split
      · exact ⟨h5, h4⟩
      · exact o5 v hv
    · unfold ssS m0
      simp only [up3_at]
      simp [l10 v]
    · unfold ssS
      exact up3_ne (fun z => by rw [z.1] at ht; exact absurd ht (by decide))
  · have c2 : ssB z1 z2 = false := by simpa using c
    rw [if_neg c, if_neg c]
    refine SF_no (e.trans c2) ?_ (h.mS mS_mF)
    rw [th_mF]
    have e2 := e.trans c2
    unfold ssC chB at e2
    unfold ssC cdX
    rw [if_neg (fun z => by rw [List.all_cons, z] at e2; exact absurd e2 (by decide))]
    rfl
theorem st_setLimit {σ τ : xS} (h : Inv σ τ) (z1 : Int32) : SF Inv (cd1 eIA) (slC z1) σ (slS σ z1) (σ 0 0 0) (slMS τ z1) (slMV τ z1) := by
  obtain ⟨⟨o, of⟩, l, ac, w, d⟩ := id h
  have e : chB (slC z1) = inX z1 (nI 1) (nI 10000) := by
    unfold slC chB
    show (_ && true) = _
    rw [Bool.and_true]
    rfl
  unfold slMS slMV
  by_cases c : inX z1 (nI 1) (nI 10000) = true
  · rw [if_pos c, if_pos c]
    refine SF_yes (e.trans c) (by simp [up3_at, m0]; rfl) l.2.2.2.2.2.2.2.2.2.2.1 ?_
    obtain ⟨l1, l2, l3, l4, l5, l6, l7, l8, l9, l10, l11, l12⟩ := l
    refine Inv_up h o ⟨?_, l2, l3, l4, l5, l6, l7, l8, l9, l10, ?_, ?_⟩ ac (fun t i j ht => ?_)
    · unfold slS m0
      simp only [up3_at]
      simp [l1]
    · unfold slS m0
      simp only [up3_at]
      simp
    · unfold slS m0
      simp only [up3_at]
      simp [l12]
    · unfold slS
      exact up3_ne (fun z => by rw [z.1] at ht; exact absurd ht (by decide))
  · have c2 : inX z1 (nI 1) (nI 10000) = false := by simpa using c
    rw [if_neg c, if_neg c]
    refine SF_no (e.trans c2) ?_ (h.mS mS_mF)
    rw [th_mF]
    have e2 := e.trans c2
    unfold slC chB at e2
    unfold slC cdX
    rw [if_neg (fun z => by rw [List.all_cons, z] at e2; exact absurd e2 (by decide))]
    rfl
theorem fx_in {v : Int32} : (decide (¬ v < nI 1) && ibX v (nI 4)) = inX v (nI 1) (nI 3) := by
  unfold ibX inX
  rw [Bool.eq_iff_iff]
  simp only [Bool.and_eq_true, decide_eq_true_eq, Int32.le_iff_toInt_le, Int32.lt_iff_toInt_lt]
  have e0 : (0 : Int32).toInt = 0 := rfl
  have e1 : (nI 1).toInt = 1 := rfl
  have e3 : (nI 3).toInt = 3 := rfl
  have e4 : (nI 4).toInt = 4 := rfl
  omega
theorem st_fix {σ τ : xS} (h : Inv σ τ) (z1 z2 : Int32) : SF Inv (cd1 eIO) (fxC σ z1 z2) σ (fxS σ z1 z2) (σ 15 0 (nv z1)) (fxMS τ z1 z2) (fxMV τ z1 z2) := by
  obtain ⟨⟨o, of⟩, l, ac, w, d⟩ := id h
  unfold fxMS fxMV
  rw [ir_cr (h.mS mS_m0), ← fx_in]
  by_cases c : crX σ z1 = true
  · by_cases c2 : (decide (¬ z2 < nI 1) && ibX z2 (nI 4)) = true
    · rw [if_pos c, if_pos c, if_pos c2, if_pos c2]
      refine SF_yes (by unfold fxC chB; rw [c, c2]; rfl) (by simp [up3_at, m0]; rfl) (l.2.2.2.2.2.2.2.1 _) ?_
      have h4 := c2
      rw [Bool.and_eq_true] at h4
      obtain ⟨h5, h6⟩ := ib_lt (by decide) h4.2
      obtain ⟨l1, l2, l3, l4, l5, l6, l7, l8, l9, l10, l11, l12⟩ := l
      obtain ⟨o1, o2, o3, o4, o5, o6, o7, o8, o9, o10⟩ := o
      refine Inv_up h ⟨o1, o2, o3, o4, o5, o6, fun r hr => ?_, o8, o9, o10⟩ ⟨l1, l2, l3, l4, l5, l6, l7, fun r => ?_, l9, l10, l11, l12⟩ ac (fun t i j ht => ?_)
      · unfold fxS
        rw [up3_at]
        split
        · exact Or.inr ⟨h6, h5⟩
        · exact o7 r hr
      · unfold fxS m0
        simp only [up3_at]
        simp [l8 r]
      · unfold fxS
        exact up3_ne (fun z => by rw [z.1] at ht; exact absurd ht (by decide))
    · have c3 : (decide (¬ z2 < nI 1) && ibX z2 (nI 4)) = false := by simpa using c2
      rw [if_pos c, if_pos c, if_neg c2, if_neg c2]
      exact SF_no (by unfold fxC chB; rw [c, c3]; rfl) (by unfold fxC cdX cdX; rw [c, c3, th_mF]; rfl) (h.mS mS_mF)
  · have c3 : crX σ z1 = false := by simpa using c
    rw [if_neg c, if_neg c]
    exact SF_no (by unfold fxC chB; rw [c3]; rfl) (by unfold fxC cdX; rw [c3, th_mF]; rfl) (h.mS mS_mF)
/-! ===== the calls that sort all again ===== -/
theorem fw_ne {σ : xS} {t0 i0 j0 : Nat} {v : Int32} (ht : (t0 == 3 || t0 == 6 || t0 == 12 || t0 == 20 || t0 == 21 || t0 == 22 || t0 == 23 || t0 == 24) = false) : ∀ t i j, (t == 3 || t == 6 || t == 12 || t == 20 || t == 21 || t == 22 || t == 23 || t == 24) = true → up3 σ t0 i0 j0 v t i j = σ t i j := fun t i j h => up3_ne (fun z => by rw [z.1, ht] at h; cases h)
theorem st_ignore {σ τ : xS} (h : Inv σ τ) (z1 : Int32) (z2 : Bool) : SF Inv (cd1 eIA) (igC z1) σ (igS σ z1 z2) (σ 10 0 (nv z1)) (igMS τ z1 z2) (igMV τ z1) := by
  obtain ⟨⟨o, of⟩, l, ac, w, d⟩ := id h
  unfold igMS igMV
  rw [fun_ib]
  by_cases c : ibX z1 (nI 30) = true
  · rw [if_pos c, if_pos c]
    refine SF_yes (by unfold igC chB; rw [c]; rfl) (by simp [up3_at]; rfl) (l.2.2.2.1 _) ?_
    obtain ⟨l1, l2, l3, l4, l5, l6, l7, l8, l9, l10, l11, l12⟩ := l
    unfold igS
    refine Inv_sa (igU_ok o) (of.ne (fun i j => up3_ne (fun z => absurd z.1 (by decide)))) ⟨l1, l2, l3, fun f => ?_, l5, l6, l7, l8, l9, l10, l11, l12⟩ ac (wf_ne (fw_ne rfl) w) (fr_ne (fw_ne rfl) h.frs)
    simp only [up3_at]
    simp [l4 f]
  · have c3 : ibX z1 (nI 30) = false := by simpa using c
    rw [if_neg c, if_neg c]
    exact SF_no (by unfold igC chB; rw [c3]; rfl) (by unfold igC cdX; rw [c3, up3_self]; rfl) (h.mS (mS_th _))
theorem st_setDepth {σ τ : xS} (h : Inv σ τ) (z1 : Int32) : SF Inv (cd1 eIA) (sdC z1) σ (sdS σ z1) (σ 2 0 0) (sdMS τ z1) (sdMV τ z1) := by
  obtain ⟨⟨o, of⟩, l, ac, w, d⟩ := id h
  have e : chB (sdC z1) = inX z1 (nI 1) (nI 4) := by
    unfold sdC chB
    show (_ && true) = _
    rw [Bool.and_true]
    rfl
  unfold sdMS sdMV
  by_cases c : inX z1 (nI 1) (nI 4) = true
  · rw [if_pos c, if_pos c]
    refine SF_yes (e.trans c) (by simp [up3_at, m0]; rfl) l.2.2.2.2.2.2.2.2.2.2.2 ?_
    obtain ⟨j, hj, rfl⟩ := sd_nat (d := z1) c
    obtain ⟨l1, l2, l3, l4, l5, l6, l7, l8, l9, l10, l11, l12⟩ := l
    unfold sdS
    refine Inv_sa (sdU_ok o hj.2) (of.ne (fun i j => up3_ne (fun z => absurd z.1 (by decide)))) ⟨?_, l2, l3, l4, l5, l6, l7, l8, l9, l10, ?_, ?_⟩ ac (wf_ne (fw_ne rfl) w) (fr_ne (fw_ne rfl) h.frs)
    · unfold m0
      simp only [up3_at]
      simp [l1]
    · unfold m0
      simp only [up3_at]
      simp [l11]
    · unfold m0
      simp only [up3_at]
      simp
  · have c2 : inX z1 (nI 1) (nI 4) = false := by simpa using c
    rw [if_neg c, if_neg c]
    refine SF_no (e.trans c2) ?_ (h.mS mS_mF)
    rw [th_mF]
    have e2 := e.trans c2
    unfold sdC chB at e2
    unfold sdC cdX
    rw [if_neg (fun z => by rw [List.all_cons, z] at e2; exact absurd e2 (by decide))]
    rfl

/-! ===== what stays: single writes ===== -/
theorem up_in {σ : xS} {t k x : Nat} {j n : Nat} (h1 : j = k → x < n) (h2 : n ≤ 2 ^ 31) (h3 : inR (σ t 0 j) n) : inR (up3 σ t 0 k (nI x) t 0 j) n := by
  rw [up3_at]
  by_cases e : j = k
  · rw [if_pos ⟨rfl, rfl, e⟩]
    exact inR_nI (h1 e) h2
  · rw [if_neg (fun z => e z.2.2)]
    exact h3
theorem up_tn {σ : xS} {t k : Nat} {x : Int32} {t' j : Nat} (h : t' ≠ t) : up3 σ t 0 k x t' 0 j = σ t' 0 j := up3_ne (fun z => h z.1)
theorem okP_31 {σ : xS} {k x : Nat} (o : okP σ) (h : x < (if k < 4 then 7 else if k < 8 then 1000001 else if k < 14 then 2 else 6)) : okP (up3 σ 31 0 k (nI x)) := by
  obtain ⟨o1, o2, o3, o4, o5, o6, o7, o8, o9, o10, o11⟩ := o
  refine ⟨?_, ?_, fun v hv => up_in (fun e => ?_) (by decide) (o3 v hv), fun v hv => up_in (fun e => ?_) (by decide) (o4 v hv), fun v hv => up_in (fun e => ?_) (by decide) (o5 v hv), fun v hv => up_in (fun e => ?_) (by decide) (o6 v hv), fun v hv => ?_, fun v hv => ?_, fun v hv => ?_, fun v hv => ?_, ?_⟩
  · rw [up_tn (by decide)]; exact o1
  · rw [up_tn (by decide)]; exact o2
  · subst e; rw [if_pos hv] at h; exact h
  · subst e; rw [if_neg (by omega), if_pos (by omega)] at h; exact h
  · subst e; rw [if_neg (by omega), if_neg (by omega), if_pos (by omega)] at h; exact h
  · subst e; rw [if_neg (by omega), if_neg (by omega), if_neg (by omega)] at h; exact h
  · rw [up_tn (by decide)]; exact o7 v hv
  · rw [up_tn (by decide)]; exact o8 v hv
  · rw [up_tn (by decide)]; exact o9 v hv
  · rw [up_tn (by decide)]; exact o10 v hv
  · rw [up_tn (by decide)]; exact o11
theorem okP_30 {σ : xS} {k x : Nat} (o : okP σ) (h0 : k = 0 → x < 13) (h1 : k = 1 → x < 5) (h2 : k = 2 → x < 901) : okP (up3 σ 30 0 k (nI x)) := by
  obtain ⟨o1, o2, o3, o4, o5, o6, o7, o8, o9, o10, o11⟩ := o
  refine ⟨up_in (fun e => h0 e.symm) (by decide) o1, up_in (fun e => h1 e.symm) (by decide) o2, fun v hv => ?_, fun v hv => ?_, fun v hv => ?_, fun v hv => ?_, fun v hv => ?_, fun v hv => ?_, fun v hv => ?_, fun v hv => ?_, up_in (fun e => h2 e.symm) (by decide) o11⟩
  · rw [up_tn (by decide)]; exact o3 v hv
  · rw [up_tn (by decide)]; exact o4 v hv
  · rw [up_tn (by decide)]; exact o5 v hv
  · rw [up_tn (by decide)]; exact o6 v hv
  · rw [up_tn (by decide)]; exact o7 v hv
  · rw [up_tn (by decide)]; exact o8 v hv
  · rw [up_tn (by decide)]; exact o9 v hv
  · rw [up_tn (by decide)]; exact o10 v hv
/-- a row of numbers below n each -/
theorem okP_row {σ : xS} {t k x : Nat} (o : okP σ) (h : (t = 34 ∧ x < 6) ∨ (t = 35 ∧ x < 4) ∨ (t = 36 ∧ x < 20) ∨ (t = 38 ∧ x < 4)) : okP (up3 σ t 0 k (nI x)) := by
  obtain ⟨o1, o2, o3, o4, o5, o6, o7, o8, o9, o10, o11⟩ := o
  rcases h with ⟨rfl, hx⟩ | ⟨rfl, hx⟩ | ⟨rfl, hx⟩ | ⟨rfl, hx⟩
  · refine ⟨?_, ?_, fun v hv => ?_, fun v hv => ?_, fun v hv => ?_, fun v hv => ?_, fun v hv => up_in (fun _ => hx) (by decide) (o7 v hv), fun v hv => ?_, fun v hv => ?_, fun v hv => ?_, ?_⟩ <;> rw [up_tn (by decide)] <;> first | exact o1 | exact o2 | exact o3 v hv | exact o4 v hv | exact o5 v hv | exact o6 v hv | exact o8 v hv | exact o9 v hv | exact o10 v hv | exact o11
  · refine ⟨?_, ?_, fun v hv => ?_, fun v hv => ?_, fun v hv => ?_, fun v hv => ?_, fun v hv => ?_, fun v hv => up_in (fun _ => hx) (by decide) (o8 v hv), fun v hv => ?_, fun v hv => ?_, ?_⟩ <;> rw [up_tn (by decide)] <;> first | exact o1 | exact o2 | exact o3 v hv | exact o4 v hv | exact o5 v hv | exact o6 v hv | exact o7 v hv | exact o9 v hv | exact o10 v hv | exact o11
  · refine ⟨?_, ?_, fun v hv => ?_, fun v hv => ?_, fun v hv => ?_, fun v hv => ?_, fun v hv => ?_, fun v hv => ?_, fun v hv => up_in (fun _ => hx) (by decide) (o9 v hv), fun v hv => ?_, ?_⟩ <;> rw [up_tn (by decide)] <;> first | exact o1 | exact o2 | exact o3 v hv | exact o4 v hv | exact o5 v hv | exact o6 v hv | exact o7 v hv | exact o8 v hv | exact o10 v hv | exact o11
  · refine ⟨?_, ?_, fun v hv => ?_, fun v hv => ?_, fun v hv => ?_, fun v hv => ?_, fun v hv => ?_, fun v hv => ?_, fun v hv => ?_, fun r hr => ?_, ?_⟩
    · rw [up_tn (by decide)]; exact o1
    · rw [up_tn (by decide)]; exact o2
    · rw [up_tn (by decide)]; exact o3 v hv
    · rw [up_tn (by decide)]; exact o4 v hv
    · rw [up_tn (by decide)]; exact o5 v hv
    · rw [up_tn (by decide)]; exact o6 v hv
    · rw [up_tn (by decide)]; exact o7 v hv
    · rw [up_tn (by decide)]; exact o8 v hv
    · rw [up_tn (by decide)]; exact o9 v hv
    · rw [up3_at]
      by_cases e : r = k
      · rw [if_pos ⟨rfl, rfl, e⟩]; exact Or.inr (inR_nI hx (by decide))
      · rw [if_neg (fun z => e z.2.2)]; exact o10 r hr
    · rw [up_tn (by decide)]; exact o11
theorem okP_38m {σ : xS} {k : Nat} (o : okP σ) : okP (up3 σ 38 0 k (-1)) := by
  obtain ⟨o1, o2, o3, o4, o5, o6, o7, o8, o9, o10, o11⟩ := o
  refine ⟨?_, ?_, fun v hv => ?_, fun v hv => ?_, fun v hv => ?_, fun v hv => ?_, fun v hv => ?_, fun v hv => ?_, fun v hv => ?_, fun r hr => ?_, ?_⟩
  · rw [up_tn (by decide)]; exact o1
  · rw [up_tn (by decide)]; exact o2
  · rw [up_tn (by decide)]; exact o3 v hv
  · rw [up_tn (by decide)]; exact o4 v hv
  · rw [up_tn (by decide)]; exact o5 v hv
  · rw [up_tn (by decide)]; exact o6 v hv
  · rw [up_tn (by decide)]; exact o7 v hv
  · rw [up_tn (by decide)]; exact o8 v hv
  · rw [up_tn (by decide)]; exact o9 v hv
  · rw [up3_at]
    by_cases e : r = k
    · rw [if_pos ⟨rfl, rfl, e⟩]; exact Or.inl rfl
    · rw [if_neg (fun z => e z.2.2)]; exact o10 r hr
  · rw [up_tn (by decide)]; exact o11
/-- tags that frames and stacks rest on -/
def fT (t : Nat) : Bool := t == 3 || t == 6 || t == 12 || t == 20 || t == 21 || t == 22 || t == 23 || t == 24
theorem Fr.ne {σ σ2 : xS} (hs : ∀ t i j, fT t = true → σ2 t i j = σ t i j) (f : Fr σ) : Fr σ2 := fun r hr p hp => by
  rw [hs 3 0 0 rfl] at hr
  rw [hs 24 r p rfl, hs 12 0 r rfl, hs 23 r p rfl, f r hr p hp]
  exact (fnX_congr (hs 6 0 _ rfl) (fun k => ⟨hs 20 _ k rfl, hs 21 _ k rfl, hs 22 _ k rfl⟩)).symm
theorem Wf1.ne {σ σ2 : xS} (hs : ∀ t i j, fT t = true → σ2 t i j = σ t i j) (w : Wf1 σ) : Wf1 σ2 := fun r hr => by
  rw [hs 3 0 0 rfl] at hr
  rw [hs 23 r 0 rfl]
  exact w r hr
theorem fT_dT {t : Nat} (h : fT t = true) : dT t = false := by
  simp [fT] at h
  simp [dT]
  omega
theorem lT_dT {t : Nat} (h : lT t = true) : dT t = false := by
  simp [lT] at h
  simp [dT]
  omega
theorem CO_sa {σ : xS} (o : okX σ) (of : okF σ) (w : Wf1 σ) (f : Fr σ) : CO (saS σ) := by
  refine ⟨⟨saL_ok o, saL_okF of⟩, w.ne (fun t i j h => saL_ne _ t i j (fT_dT h)), f.ne (fun t i j h => saL_ne _ t i j (fT_dT h)), fun r hr => saL_Kd _ r ?_⟩
  have e : saS σ 3 0 0 = σ 3 0 0 := saL_ne _ 3 0 0 rfl
  rwa [e] at hr
/-- numbers that no derived row is made of -/
theorem CO_up {σ σ2 : xS} (c : CO σ) (o : okX σ2) (hs : ∀ t i j, (t == 0 || t == 5 || t == 15) = false → t < 30 → σ2 t i j = σ t i j) : CO σ2 := by
  obtain ⟨⟨-, of⟩, w, f, d⟩ := c
  have hf : ∀ t i j, fT t = true → σ2 t i j = σ t i j := fun t i j h => hs t i j (by simp [fT] at h; simp; omega) (by simp [fT] at h; omega)
  refine ⟨⟨o, of.ne (fun i j => hs 24 i j rfl (by decide))⟩, w.ne hf, f.ne hf, fun r hr => ?_⟩
  rw [hs 3 0 0 rfl (by decide)] at hr
  exact (d r hr).congr (fun p _ => hs 24 r p rfl (by decide)) (funext fun j => hs 10 0 j rfl (by decide)) (funext fun j => hs 11 0 j rfl (by decide)) (hs 2 0 0 rfl (by decide)) (fun p _ => hs 25 r p rfl (by decide)) (hs 12 0 r rfl (by decide)) (hs 23 r 0 rfl (by decide)) (fun j _ => hs 18 0 j rfl (by decide)) (hs 19 0 r rfl (by decide))
theorem okX_30 {σ : xS} {t i j : Nat} {v : Int32} (h : 30 ≤ t) (o : okX σ) : okX (up3 σ t i j v) := o.ne (fun t' i' j' h' => up3_ne (fun z => by have := bT_30 h'; omega))
theorem okF_30 {σ : xS} {t i j : Nat} {v : Int32} (h : 30 ≤ t) (o : okF σ) : okF (up3 σ t i j v) := o.ne (fun i' j' => up3_ne (fun z => by omega))
theorem fT_30 {t : Nat} (h : fT t = true) : t < 30 := by
  simp [fT] at h
  omega
theorem bI_nI (b : Bool) : bI b = nI (if b = true then 1 else 0) := by cases b <;> rfl
theorem st6_up {σ : xS} {k : Nat} {x : Int32} (h : k < 14) : st6 (up3 σ 31 0 k x) = st6 σ := funext fun t => up3_ne (fun y => by omega)
theorem st6_tg {σ : xS} {t i k : Nat} {x : Int32} (h : t ≠ 31) : st6 (up3 σ t i k x) = st6 σ := funext fun u => up3_ne (fun y => h y.1.symm)
theorem LO_up {σ ρ : xS} (l : LO σ) (o : okP ρ) (h1 : st6 ρ = st6 σ) (h2 : 1 ≤ nv (ρ 30 0 1)) (h3 : 1 ≤ nv (ρ 30 0 2)) : LO ρ := ⟨o, l.2.1.congr h1, h2, h3⟩
section PRS
variable {σ : xS}
/-- setSessions -/
theorem st_ses (h : Jv σ) (z : Int32) : (okX (seS σ z) ∧ chOk (ssC (nI (seV z)) (seS σ z 31 0 (4 + seV z))) ∧ seS σ z 5 0 (nv (nI (seV z))) = nI (nv (σ 31 0 (4 + seV z)))) ∧ Jv (seE σ z) := by
  have hv : seV z < 4 := lo_lt _ (by decide) (by decide)
  obtain ⟨x, hx, ex⟩ : ∃ x : Nat, x < 1000001 ∧ seX z = nI x := by
    refine ⟨_, ?_, rfl⟩
    split
    · exact lo_lt _ (by decide) (by decide)
    · have := lo_lt (shr z 6) (n := 200) (by decide) (by decide)
      omega
  have eX : seS σ z 31 0 (4 + seV z) = nI x := by
    unfold seS
    rw [up3_self, ex]
  have en : nv (nI (seV z)) = seV z := nv_nI (by omega)
  have e5 : ∀ j, seS σ z 5 0 j = σ 5 0 j := fun j => up3_ne (fun y => absurd y.1 (by decide))
  have ev := h.2.2.2.1 (seV z) hv
  refine ⟨⟨okX_30 (by decide) h.okx, ?_, ?_⟩, ?_⟩
  · rw [eX]
    refine ⟨?_, trivial⟩
    rw [ibX_ok hv (by decide), Bool.true_and, Bool.and_eq_true, decide_eq_true_eq, decide_eq_true_eq]
    refine ⟨nI_pos (by omega), ?_⟩
    rw [show (1000000 : Int32) = nI 1000000 from rfl, nI_ltI (by decide) (by omega)]
    omega
  · rw [en, e5, ev.2]
    exact (h.okp.ses hv).1
  · have e9 : seE σ z = oM (up3 σ 31 0 (4 + seV z) (nI x)) (up3 (up3 σ 31 0 (4 + seV z) (nI x)) 5 0 (seV z) (nI x)) := by
      unfold seE ssS
      rw [eX, en]
      unfold seS
      rw [ex]
    rw [e9]
    generalize seV z = v at hv
    refine Jv_mk (CO_up h.1 ?_ (fun t i j ht h30 => ?_)) (LO_up h.2.1 (okP_31 h.okp (by rw [if_neg (by omega), if_pos (by omega)]; exact hx)) (st6_up (by omega)) ?_ ?_) ?_
    · obtain ⟨o1, o2, o3, o4, o5, o6, o7, o8, o9, o10⟩ := (okX_30 (by decide) h.okx : okX (up3 σ 31 0 (4 + v) (nI x)))
      refine ⟨o1, o2, o3, o4, fun u hu => ?_, o6, o7, o8, o9, o10⟩
      rw [up3_at]
      split
      · exact inR_nI hx (by decide)
      · exact o5 u hu
    · rw [up3_ne (fun y => by rw [y.1] at ht; exact absurd ht (by decide))]
      exact up3_ne (fun y => by omega)
    · rw [up_tn (by decide)]; exact h.2.1.2.2.1
    · rw [up_tn (by decide)]; exact h.2.1.2.2.2
    · obtain ⟨⟨a1, a2, a3⟩, b, c, d, e, f⟩ := h.2.2
      refine ⟨⟨?_, ?_, ?_⟩, fun u hu => ⟨?_, ?_⟩, fun u hu => ⟨?_, ?_⟩, fun u k hu hk => ⟨?_, ?_, ?_⟩, fun r hr => ⟨?_, ?_, ?_⟩, fun r p hr hp => ?_⟩
      · simp only [up3_at]
        simp [a1]
      · simp only [up3_at]
        simp [a2]
      · simp only [up3_at]
        simp [a3]
      · simp only [up3_at]
        simp [(b u hu).1, show ¬ u = 4 + v by omega]
      · simp only [up3_at]
        simp [(b u hu).2]
      · simp only [up3_at]
        simp [(c u hu).1, show ¬ 8 + u = 4 + v by omega]
      · simp only [up3_at]
        simp [(c u hu).2, show ¬ 14 + u = 4 + v by omega]
      · simp only [up3_at]
        simp [(d u k hu hk).1]
      · simp only [up3_at]
        simp [(d u k hu hk).2.1]
      · simp only [up3_at]
        simp [(d u k hu hk).2.2]
      · simp only [up3_at]
        simp [(e r hr).1]
      · simp only [up3_at]
        simp [(e r hr).2.1]
      · simp only [up3_at]
        simp [(e r hr).2.2]
      · simp only [up3_at]
        simp [f r p hr hp]
/-- fix -/
theorem st_fix (h : Jv σ) (z : Int32) (hq : nv (σ 30 0 0) ≠ 0) : (okX (fiS σ z) ∧ chOk (fxC (fiS σ z) (nI (fiN σ z)) (fiS σ z 38 0 (fiN σ z))) ∧ fiS σ z 15 0 (nv (nI (fiN σ z))) = σ 38 0 (fiN σ z)) ∧ Jv (fiE σ z) := by
  have hn := h.n
  have hN : fiN σ z < nv (σ 30 0 0) := lo_lt _ (by omega) (by omega)
  have hm : loN (shr z 9) 3 < 3 := lo_lt _ (by decide) (by decide)
  have e9 : fiE σ z = oM (fiS σ z) (fxS (fiS σ z) (nI (fiN σ z)) (fiS σ z 38 0 (fiN σ z))) := rfl
  rw [e9]
  unfold fxS
  have eX : fiS σ z 38 0 (fiN σ z) = nI (1 + loN (shr z 9) 3) := by
    unfold fiS
    rw [up3_self]
  have en : nv (nI (fiN σ z)) = fiN σ z := nv_nI (by omega)
  rw [eX, en]
  unfold fiS
  generalize fiN σ z = N at *
  generalize loN (shr z 9) 3 = m at *
  have ox : okX (up3 σ 38 0 N (nI (1 + m))) := okX_30 (by decide) h.okx
  have e3 : up3 σ 38 0 N (nI (1 + m)) 3 0 0 = σ 3 0 0 := up3_ne (fun y => absurd y.1 (by decide))
  refine ⟨⟨ox, ⟨crX_ok ox (by rw [e3]; omega), ?_, trivial⟩, ?_⟩, ?_⟩
  · rw [ibX_ok (by omega) (by decide), Bool.and_true, decide_eq_true_eq, nI_ltI (by omega) (by decide)]
    omega
  · rw [up3_ne (fun y => absurd y.1 (by decide))]
    exact (h.2.2.2.2.2.2.1 N (by omega)).2.2
  · refine Jv_mk (CO_up h.1 ?_ (fun t i j ht h30 => ?_)) (LO_up h.2.1 (okP_row h.okp (Or.inr (Or.inr (Or.inr ⟨rfl, by omega⟩)))) (st6_tg (by decide)) ?_ ?_) ?_
    · obtain ⟨o1, o2, o3, o4, o5, o6, o7, o8, o9, o10⟩ := ox
      refine ⟨o1, o2, o3, o4, o5, o6, fun u hu => ?_, o8, o9, o10⟩
      rw [up3_at]
      split
      · exact Or.inr (inR_nI (by omega) (by decide))
      · exact o7 u hu
    · rw [up3_ne (fun y => by rw [y.1] at ht; exact absurd ht (by decide))]
      exact up3_ne (fun y => by omega)
    · rw [up_tn (by decide)]; exact h.2.1.2.2.1
    · rw [up_tn (by decide)]; exact h.2.1.2.2.2
    · obtain ⟨⟨a1, a2, a3⟩, b, c, d, e, f⟩ := h.2.2
      refine ⟨⟨?_, ?_, ?_⟩, fun u hu => ⟨?_, ?_⟩, fun u hu => ⟨?_, ?_⟩, fun u k hu hk => ⟨?_, ?_, ?_⟩, fun r hr => ⟨?_, ?_, ?_⟩, fun r p hr hp => ?_⟩
      · simp only [up3_at]
        simp [a1]
      · simp only [up3_at]
        simp [a2]
      · simp only [up3_at]
        simp [a3]
      · simp only [up3_at]
        simp [(b u hu).1]
      · simp only [up3_at]
        simp [(b u hu).2]
      · simp only [up3_at]
        simp [(c u hu).1]
      · simp only [up3_at]
        simp [(c u hu).2]
      · simp only [up3_at]
        simp [(d u k hu hk).1]
      · simp only [up3_at]
        simp [(d u k hu hk).2.1]
      · simp only [up3_at]
        simp [(d u k hu hk).2.2]
      · simp only [up3_at]
        simp [(e r hr).1]
      · simp only [up3_at]
        simp [(e r hr).2.1]
      · simp only [up3_at]
        simp [(e r hr).2.2]
      · simp only [up3_at]
        simp [f r p hr hp]
/-- rules: what a write of a rule makes of the class -/
theorem Jv_rule {ω ρ : xS} (o : okX ω) (of : okF ω) (h : Jv σ) (hs : ∀ t i j, fT t = true → ω t i j = σ t i j) (l : LO ρ) (k : LkB ω ρ) : Jv (oM ρ (saS ω)) :=
  Jv_mk (CO_sa o of (h.1.2.1.ne hs) (h.1.2.2.1.ne hs)) l (k.congr (fun t i j ht => saL_ne _ t i j (lT_dT ht)) (fun _ _ _ => rfl))
theorem st_r0 (h : Jv σ) (z : Int32) : (okX (r0S σ z) ∧ okF (r0S σ z) ∧ r0S σ z 10 0 (ruF z) = bI (decide (nv (σ 31 0 (8 + ruF z)) = 1))) ∧ Jv (r0E σ z) := by
  have hF : ruF z < 6 := lo_lt _ (by decide) (by decide)
  have e9 : r0E σ z = oM (r0S σ z) (saS (up3 (r0S σ z) 10 0 (nv (nI (ruF z))) (bI (ruB z)))) := rfl
  have en : nv (nI (ruF z)) = ruF z := nv_nI (by omega)
  have ox : okX (r0S σ z) := okX_30 (by decide) h.okx
  have of : okF (r0S σ z) := okF_30 (by decide) h.okf
  rw [e9, en]
  refine ⟨⟨ox, of, ?_⟩, Jv_rule (igU_ok ox) (of.ne (fun i j => up3_ne (fun y => absurd y.1 (by decide)))) h (fun t i j ht => ?_) (LO_up h.2.1 ?_ (st6_up (by omega)) ?_ ?_) ?_⟩
  · have e10 : r0S σ z 10 0 (ruF z) = σ 10 0 (ruF z) := up3_ne (fun y => absurd y.1 (by decide))
    obtain ⟨i1, i2⟩ := h.okp.ign hF
    rw [e10, (h.2.2.2.2.1 (ruF z) hF).1, i1]
    have : nv (σ 31 0 (8 + ruF z)) = 0 ∨ nv (σ 31 0 (8 + ruF z)) = 1 := by omega
    rcases this with q | q <;> rw [q] <;> rfl
  · rw [up3_ne (fun y => by rw [y.1] at ht; exact absurd ht (by decide))]
    exact up3_ne (fun y => by have := fT_30 ht; omega)
  · exact okP_31 h.okp (by rw [if_neg (show ¬ 8 + ruF z < 4 by omega), if_neg (show ¬ 8 + ruF z < 8 by omega), if_pos (show 8 + ruF z < 14 by omega)]; split <;> decide)
  · unfold r0S; rw [up_tn (by decide)]; exact h.2.1.2.2.1
  · unfold r0S; rw [up_tn (by decide)]; exact h.2.1.2.2.2
  · unfold r0S
    rw [bI_nI]
    generalize ruF z = F at hF
    generalize (if ruB z = true then 1 else 0) = x
    obtain ⟨⟨a1, a2, a3⟩, b, c, d, e, f⟩ := h.2.2
    refine ⟨⟨?_, ?_, ?_⟩, fun u hu => ⟨?_, ?_⟩, fun u hu => ⟨?_, ?_⟩, fun u k hu hk => ⟨?_, ?_, ?_⟩, fun r hr => ⟨?_, ?_, ?_⟩, fun r p hr hp => ?_⟩
    · simp only [up3_at]
      simp [a1]
    · simp only [up3_at]
      simp [a2]
    · simp only [up3_at]
      simp [a3]
    · simp only [up3_at]
      simp [(b u hu).1, show ¬ u = 8 + F by omega]
    · simp only [up3_at]
      simp [(b u hu).2, show ¬ 4 + u = 8 + F by omega]
    · simp only [up3_at]
      simp [(c u hu).1]
    · simp only [up3_at]
      simp [(c u hu).2, show ¬ 14 + u = 8 + F by omega]
    · simp only [up3_at]
      simp [(d u k hu hk).1]
    · simp only [up3_at]
      simp [(d u k hu hk).2.1]
    · simp only [up3_at]
      simp [(d u k hu hk).2.2]
    · simp only [up3_at]
      simp [(e r hr).1]
    · simp only [up3_at]
      simp [(e r hr).2.1]
    · simp only [up3_at]
      simp [(e r hr).2.2]
    · simp only [up3_at]
      simp [f r p hr hp]
theorem st_r2 (h : Jv σ) (z : Int32) : (okX (r2S σ z) ∧ okF (r2S σ z) ∧ chOk (sdC (r2S σ z 30 0 1)) ∧ r2S σ z 2 0 0 = nI (nv (σ 30 0 1))) ∧ Jv (r2E σ z) := by
  have hm : loN (shr z 5) 4 < 4 := lo_lt _ (by decide) (by decide)
  have e9 : r2E σ z = oM (r2S σ z) (saS (up3 (r2S σ z) 2 0 0 (r2S σ z 30 0 1))) := rfl
  have eX : r2S σ z 30 0 1 = nI (1 + loN (shr z 5) 4) := up3_self
  have ox : okX (r2S σ z) := okX_30 (by decide) h.okx
  have of : okF (r2S σ z) := okF_30 (by decide) h.okf
  rw [e9, eX]
  refine ⟨⟨ox, of, ⟨?_, trivial⟩, ?_⟩, Jv_rule (sdU_ok ox (by omega)) (of.ne (fun i j => up3_ne (fun y => absurd y.1 (by decide)))) h (fun t i j ht => ?_) (LO_up h.2.1 ?_ (st6_tg (by decide)) ?_ ?_) ?_⟩
  · rw [Bool.and_eq_true, decide_eq_true_eq, decide_eq_true_eq, nI_ltI (by omega) (by decide), nI_ltI (by decide) (by omega)]
    omega
  · have e2 : r2S σ z 2 0 0 = σ 2 0 0 := up3_ne (fun y => absurd y.1 (by decide))
    rw [e2, h.2.2.1.2.1]
    exact h.okp.dep.1
  · rw [up3_ne (fun y => by rw [y.1] at ht; exact absurd ht (by decide))]
    exact up3_ne (fun y => by have := fT_30 ht; omega)
  · exact okP_30 h.okp (fun y => by omega) (fun _ => by omega) (fun y => by omega)
  · rw [eX, nv_nI (by omega)]; omega
  · unfold r2S; rw [up3_ne (fun y => absurd y.2.2 (by decide))]; exact h.2.1.2.2.2
  · unfold r2S
    generalize (1 + loN (shr z 5) 4) = x
    obtain ⟨⟨a1, a2, a3⟩, b, c, d, e, f⟩ := h.2.2
    refine ⟨⟨?_, ?_, ?_⟩, fun u hu => ⟨?_, ?_⟩, fun u hu => ⟨?_, ?_⟩, fun u k hu hk => ⟨?_, ?_, ?_⟩, fun r hr => ⟨?_, ?_, ?_⟩, fun r p hr hp => ?_⟩
    · simp only [up3_at]
      simp [a1]
    · simp only [up3_at]
      simp [a2]
    · simp only [up3_at]
      simp [a3]
    · simp only [up3_at]
      simp [(b u hu).1]
    · simp only [up3_at]
      simp [(b u hu).2]
    · simp only [up3_at]
      simp [(c u hu).1]
    · simp only [up3_at]
      simp [(c u hu).2]
    · simp only [up3_at]
      simp [(d u k hu hk).1]
    · simp only [up3_at]
      simp [(d u k hu hk).2.1]
    · simp only [up3_at]
      simp [(d u k hu hk).2.2]
    · simp only [up3_at]
      simp [(e r hr).1]
    · simp only [up3_at]
      simp [(e r hr).2.1]
    · simp only [up3_at]
      simp [(e r hr).2.2]
    · simp only [up3_at]
      simp [f r p hr hp]
theorem st_r3 (h : Jv σ) (z : Int32) : (chOk (slC (r3S σ z 30 0 2)) ∧ r3S σ z 0 0 0 = nI (nv (σ 30 0 2))) ∧ Jv (r3E σ z) := by
  have hm : loN (shr z 5) 900 < 900 := lo_lt _ (by decide) (by decide)
  have e9 : r3E σ z = oM (r3S σ z) (up3 (r3S σ z) 0 0 0 (r3S σ z 30 0 2)) := rfl
  have eX : r3S σ z 30 0 2 = nI (1 + loN (shr z 5) 900) := up3_self
  have ox : okX (r3S σ z) := okX_30 (by decide) h.okx
  rw [e9, eX]
  refine ⟨⟨⟨?_, trivial⟩, ?_⟩, Jv_mk (CO_up h.1 (ox.ne (fun t i j ht => up3_ne (fun y => by rw [y.1] at ht; exact absurd ht (by decide)))) (fun t i j ht h30 => ?_)) (LO_up h.2.1 ?_ (st6_tg (by decide)) ?_ ?_) ?_⟩
  · rw [Bool.and_eq_true, decide_eq_true_eq, decide_eq_true_eq, nI_ltI (by omega) (by decide), nI_ltI (by decide) (by omega)]
    omega
  · have e2 : r3S σ z 0 0 0 = σ 0 0 0 := up3_ne (fun y => absurd y.1 (by decide))
    rw [e2, h.2.2.1.2.2]
    exact h.okp.lim.1
  · rw [up3_ne (fun y => by rw [y.1] at ht; exact absurd ht (by decide))]
    exact up3_ne (fun y => by omega)
  · exact okP_30 h.okp (fun y => by omega) (fun y => by omega) (fun _ => by omega)
  · unfold r3S; rw [up3_ne (fun y => absurd y.2.2 (by decide))]; exact h.2.1.2.2.1
  · rw [eX, nv_nI (by omega)]; omega
  · unfold r3S
    generalize (1 + loN (shr z 5) 900) = x
    obtain ⟨⟨a1, a2, a3⟩, b, c, d, e, f⟩ := h.2.2
    refine ⟨⟨?_, ?_, ?_⟩, fun u hu => ⟨?_, ?_⟩, fun u hu => ⟨?_, ?_⟩, fun u k hu hk => ⟨?_, ?_, ?_⟩, fun r hr => ⟨?_, ?_, ?_⟩, fun r p hr hp => ?_⟩
    · simp only [up3_at]
      simp [a1]
    · simp only [up3_at]
      simp [a2]
    · simp only [up3_at]
      simp [a3]
    · simp only [up3_at]
      simp [(b u hu).1]
    · simp only [up3_at]
      simp [(b u hu).2]
    · simp only [up3_at]
      simp [(c u hu).1]
    · simp only [up3_at]
      simp [(c u hu).2]
    · simp only [up3_at]
      simp [(d u k hu hk).1]
    · simp only [up3_at]
      simp [(d u k hu hk).2.1]
    · simp only [up3_at]
      simp [(d u k hu hk).2.2]
    · simp only [up3_at]
      simp [(e r hr).1]
    · simp only [up3_at]
      simp [(e r hr).2.1]
    · simp only [up3_at]
      simp [(e r hr).2.2]
    · simp only [up3_at]
      simp [f r p hr hp]
end PRS

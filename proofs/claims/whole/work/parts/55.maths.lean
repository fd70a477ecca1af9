/-! ===== gate ===== -/
theorem gm_true {v : Nat} : ∀ n k b υ, (gmL v n k true b υ).1.1 = true
  | 0, _, _, _ => rfl
  | n + 1, k, b, υ => by
    unfold gmL
    split
    · rw [if_pos rfl]
      exact gm_true n _ _ _
    · exact gm_true n _ _ _
theorem ga_eq {σ : xS} (o : okX σ) {v : Nat} : ∀ n k b υ, Nm σ υ → k + n ≤ nv (σ 3 0 0) → gmV (gmL v n k false b υ) = gaL σ v n k b
  | 0, _, b, _, _, _ => by cases b <;> rfl
  | n + 1, k, b, υ, h, hk => by
    have e30 : υ 30 0 3 = σ 0 0 0 := h.1.2.2.2.2.2.2.2.2.2.2.1.symm
    unfold gmL gaL
    rw [h.2 k (by omega), rt_eq h, e30, ← h.1.2.2.2.2.2.2.2.2.2.1 v, uc_eq o h]
    by_cases c1 : σ 19 0 k = nI k
    · rw [if_pos c1, if_pos c1, if_neg (by decide)]
      by_cases c2 : 50 ≤ nv (σ 5 0 v) ∧ ¬ nI (rtX σ (nI k) v) < σ 0 0 0
      · rw [if_pos c2]
        have hu := ctB_le (P := snX σ (nI k) v (nv (σ 3 0 0))) 20
        rw [← um_ct o h] at hu
        by_cases c3 : 1 < (umX υ (nI k) v).1
        · rw [if_pos ⟨c2.1, c2.2, by rw [nI_ltI (by omega) (by omega)]; omega⟩, decide_eq_true c3]
          unfold gmV
          rw [if_pos (gm_true n (k + 1) _ _)]
        · rw [if_neg (fun z => c3 (by have := z.2.2; rw [nI_ltI (by omega) (by omega)] at this; omega)), decide_eq_false c3]
          exact ga_eq o n (k + 1) _ _ h.um (by omega)
      · rw [if_neg c2, if_neg (fun z => c2 ⟨z.1, z.2.1⟩)]
        exact ga_eq o n (k + 1) _ _ h (by omega)
    · rw [if_neg c1, if_neg c1]
      exact ga_eq o n (k + 1) _ _ h (by omega)
/-! ===== what stays ===== -/
theorem fnA_congr {σ τ : xS} {v : Nat} {x : Int32} (h : ∀ k, τ 20 v k = σ 20 v k ∧ τ 21 v k = σ 21 v k ∧ τ 22 v k = σ 22 v k) : ∀ n k, fnA τ v x n k = fnA σ v x n k
  | 0, _ => rfl
  | n + 1, k => by
    unfold fnA
    rw [(h k).1, (h k).2.1, (h k).2.2, fnA_congr h n]
theorem fnX_congr {σ τ : xS} {v : Nat} {x : Int32} (h6 : τ 6 0 v = σ 6 0 v) (h : ∀ k, τ 20 v k = σ 20 v k ∧ τ 21 v k = σ 21 v k ∧ τ 22 v k = σ 22 v k) : fnX τ v x = fnX σ v x := by
  unfold fnX
  rw [h6, fnA_congr h]
def sT (t : Nat) : Bool := t == 18 || t == 19 || t == 25 || t == 50
theorem LkB.ne {σ σ2 τ : xS} (hs : ∀ t i j, sT t = false → σ2 t i j = σ t i j) (h : LkB σ τ) : LkB σ2 τ := by
  obtain ⟨l1, l2, l3, l4, l5, l6, l7, l8, l9, l10, l11, l12⟩ := h
  refine ⟨?_, fun v => ?_, fun v k hk => ?_, fun f => ?_, fun f => ?_, fun r => ?_, fun r => ?_, fun r => ?_, fun r p hp => ?_, fun v => ?_, ?_, ?_⟩
  · rw [hs 3 0 0 rfl]; exact l1
  · rw [hs 6 0 v rfl]; exact l2 v
  · rw [hs 20 v k rfl, hs 21 v k rfl, hs 22 v k rfl]; exact l3 v k hk
  · rw [hs 10 0 f rfl]; exact l4 f
  · rw [hs 11 0 f rfl]; exact l5 f
  · rw [hs 12 0 r rfl]; exact l6 r
  · rw [hs 13 0 r rfl]; exact l7 r
  · rw [hs 15 0 r rfl]; exact l8 r
  · rw [hs 23 r p rfl]; exact l9 r p hp
  · rw [hs 5 0 v rfl]; exact l10 v
  · rw [hs 0 0 0 rfl]; exact l11
  · rw [hs 2 0 0 rfl]; exact l12
theorem Wf.ne {σ σ2 : xS} (hs : ∀ t i j, sT t = false → σ2 t i j = σ t i j) (w : Wf σ) : Wf σ2 := by
  refine ⟨fun v hv k hk => ?_, fun v hv j k hj hk hjk => ?_, fun r hr => ?_⟩
  · rw [hs 6 0 v rfl] at hk
    rw [hs 20 v k rfl, hs 21 v k rfl]
    exact w.1 v hv k hk
  · rw [hs 6 0 v rfl] at hj hk
    rw [hs 20 v k rfl, hs 21 v k rfl, hs 20 v j rfl, hs 21 v j rfl]
    exact w.2.1 v hv j k hj hk hjk
  · rw [hs 3 0 0 rfl] at hr
    rw [hs 23 r 0 rfl]
    exact w.2.2 r hr
def Fr (σ : xS) : Prop := ∀ r, r < nv (σ 3 0 0) → ∀ p, p < 4 → σ 24 r p = fnX σ (nv (σ 12 0 r)) (σ 23 r p)
theorem bs_Inv {σ σ2 τ : xS} (hs : ∀ t i j, sT t = false → σ2 t i j = σ t i j) (o : okX σ) (of : okF σ) (l : LkB σ τ) (a : acM τ) (w : Wf σ) (f : Fr σ) (hK : ∀ r, r < nv (σ 3 0 0) → Kd σ2 r) : Inv σ2 τ := by
  refine ⟨⟨o.ne (fun t i j h => hs t i j (by simp [bT] at h; simp [sT]; omega)), of.ne (fun i j => hs 24 i j rfl)⟩, l.ne hs, a, w.ne hs, fun r hr => ?_⟩
  rw [hs 3 0 0 rfl] at hr
  refine ⟨fun p hp => ?_, hK r hr⟩
  rw [hs 24 r p rfl, hs 12 0 r rfl, hs 23 r p rfl, f r hr p hp]
  exact (fnX_congr (hs 6 0 _ rfl) (fun k => ⟨hs 20 _ k rfl, hs 21 _ k rfl, hs 22 _ k rfl⟩)).symm
theorem Inv_sa {σ τ : xS} (o : okX σ) (of : okF σ) (l : LkB σ τ) (a : acM τ) (w : Wf σ) (f : Fr σ) : Inv (saS σ) τ :=
  bs_Inv (fun t i j h => saL_ne _ t i j (by simp [sT] at h; simp [dT]; omega)) o of l a w f (fun r hr => saL_Kd _ r hr)
theorem Inv.frs {σ τ : xS} (h : Inv σ τ) : Fr σ := fun r hr => (h.2.2.2.2 r hr).1
theorem Inv.o {σ σ2 τ : xS} (h : Inv σ τ) (hs : ∀ t, t ≠ 50 → σ2 t = σ t) : Inv σ2 τ := by
  refine bs_Inv (fun t i j ht => by rw [hs t (fun e => by rw [e] at ht; exact absurd ht (by decide))]) h.1.1 h.1.2 h.2.1 h.2.2.1 h.2.2.2.1 h.frs (fun r hr => ?_)
  exact (h.2.2.2.2 r hr).2.congr (fun p _ => by rw [hs 24 (by decide)]) (by rw [hs 10 (by decide)]) (by rw [hs 11 (by decide)]) (by rw [hs 2 (by decide)]) (fun p _ => by rw [hs 25 (by decide)]) (by rw [hs 12 (by decide)]) (by rw [hs 23 (by decide)]) (fun j _ => by rw [hs 18 (by decide)]) (by rw [hs 19 (by decide)])
theorem SF_no {f : String → Int32} {L : List (Bool × String)} {σ σ' τ' : xS} {r rM : Int32} (hB : chB L = false) (hc : cdX f L = τ' 30 0 0) (hI : Inv σ τ') : SF Inv f L σ σ' r τ' rM := ⟨hc, (fun z => absurd z (by rw [hB]; decide)), (by unfold wS; rw [if_neg (by rw [hB]; decide)]; exact hI)⟩
theorem SF_yes {f : String → Int32} {L : List (Bool × String)} {σ σ' τ' : xS} {r rM : Int32} (hB : chB L = true) (h0 : τ' 30 0 0 = 0) (hr : r = rM) (hI : Inv σ' τ') : SF Inv f L σ σ' r τ' rM := by
  refine ⟨(chOk_cd (chB_ok hB)).trans h0.symm, fun _ => hr, ?_⟩
  unfold wS
  rw [if_pos hB]
  exact hI.o (fun t ht => by
    rw [up3_tag ht]
    funext i
    unfold oM
    rw [if_neg ht])
/-! ===== the checks ===== -/
theorem ib_in {x : Int32} {n : Nat} (hn : n + 1 < 2 ^ 31) : ibX x (nI (n + 1)) = inX x (nI 0) (nI n) := by
  unfold ibX inX
  congr 1
  rw [Bool.eq_iff_iff, decide_eq_true_eq, decide_eq_true_eq, Int32.le_iff_toInt_le, Int32.lt_iff_toInt_lt, nI_toInt (by omega), nI_toInt (by omega)]
  omega
theorem ver_ib {x : Int32} : verM x = ibX x (nI 4) := (ib_in (n := 3) (by decide)).symm
theorem fun_ib {x : Int32} : funM x = ibX x (nI 30) := (ib_in (n := 29) (by decide)).symm
theorem adr_ib {x : Int32} : adrM x = ibX x (nI 10000) := (ib_in (n := 9999) (by decide)).symm
theorem ib_0 {x : Int32} : ibX x (nI 0) = false := by
  unfold ibX
  rw [Bool.and_eq_false_iff, decide_eq_false_iff_not, decide_eq_false_iff_not, Int32.le_iff_toInt_le, Int32.lt_iff_toInt_lt]
  have e0 : (0 : Int32).toInt = 0 := rfl
  have e1 : (nI 0).toInt = 0 := rfl
  omega
theorem ir_cr {σ τ : xS} (h : Inv σ τ) {r : Int32} : irM τ r = crX σ r := by
  have hn := h.n60
  unfold irM crX
  rw [← h.2.1.1]
  rcases Nat.eq_zero_or_pos (nv (σ 3 0 0)) with e | e
  · rw [e, ib_0]
    unfold inX
    rw [Bool.and_eq_false_iff, decide_eq_false_iff_not, decide_eq_false_iff_not, Int32.lt_iff_toInt_lt, Int32.lt_iff_toInt_lt]
    have e0 : (nI 0).toInt = 0 := rfl
    have e1 : (nI 0 - nI 1).toInt = -1 := by decide
    omega
  · obtain ⟨j, hj⟩ : ∃ z, nv (σ 3 0 0) = z + 1 := ⟨nv (σ 3 0 0) - 1, by omega⟩
    rw [hj, show nI (j + 1) - nI 1 = nI j from nI_pred j]
    exact (ib_in (by omega)).symm
theorem cr_lt {σ τ : xS} (h : Inv σ τ) {r : Int32} (hc : crX σ r = true) : nv r < nv (σ 3 0 0) := by
  obtain ⟨j, hj, rfl⟩ := crX_nat h.1.1 hc
  have e : nv (nI j) = j := nI_clamp (by omega)
  rw [e]
  exact hj.1
theorem ib_lt {x : Int32} {n : Nat} (hn : n < 2 ^ 31) (h : ibX x (nI n) = true) : nv x < n ∧ x = nI (nv x) := by
  obtain ⟨j, hj, rfl⟩ := ibX_nat hn h
  have e : nv (nI j) = j := nI_clamp (by omega)
  rw [e]
  exact ⟨hj, rfl⟩
theorem th_mF {τ : xS} {k : Nat} : mF τ k 30 0 0 = nI k := up3_self
theorem th_m0 {τ : xS} : m0 τ 30 0 0 = nI 0 := up3_self
theorem th_nm {τ : xS} : nm0 τ 30 0 0 = nI 0 := (naL_ne _ 30 0 0 (by decide) (by decide)).trans th_m0
/-! ===== the calls that change nothing of the class ===== -/
theorem st_reports {σ τ : xS} (h : Inv σ τ) : σ 3 0 0 = τ 30 0 2 ∧ Inv σ (m0 τ) := ⟨h.2.1.1, h.mS mS_m0⟩
theorem st_buckets {σ τ : xS} (h : Inv σ τ) : nI (buL σ (nv (σ 3 0 0))) = bsMV τ ∧ Inv σ (nm0 τ) := by
  refine ⟨?_, h.mS nm0_m⟩
  unfold bsMV
  rw [h.nm.n, bk_eq h.nm _ (Nat.le_refl _)]
theorem st_bucket {σ τ : xS} (h : Inv σ τ) (z1 : Int32) : SF Inv (cd1 eIO) (r1C σ z1) σ σ (σ 19 0 (nv z1)) (bkMS τ z1) (bkMV τ z1) := by
  unfold bkMS bkMV
  rw [ir_cr (h.mS mS_m0)]
  by_cases c : crX σ z1 = true
  · rw [if_pos c, if_pos c]
    exact SF_yes (by unfold r1C chB; rw [c]; rfl) th_nm (h.nm.2 _ (cr_lt h c)).symm (h.mS nm0_m)
  · have c2 : crX σ z1 = false := by simpa using c
    rw [if_neg c, if_neg c]
    exact SF_no (by unfold r1C chB; rw [c2]; rfl) (by unfold r1C cdX; rw [c2, th_mF]; rfl) (h.mS mS_mF)
theorem st_size {σ τ : xS} (h : Inv σ τ) (z1 : Int32) : SF Inv (cd1 eIO) (r1C σ z1) σ σ (nI (siL σ (σ 19 0 (nv z1)) 4)) (bkMS τ z1) (szMV τ z1) := by
  unfold bkMS szMV
  rw [ir_cr (h.mS mS_m0)]
  by_cases c : crX σ z1 = true
  · rw [if_pos c, if_pos c]
    refine SF_yes (by unfold r1C chB; rw [c]; rfl) th_nm ?_ (h.mS nm0_m)
    rw [si_eq h.1.1 h.nm, h.nm.2 _ (cr_lt h c)]
  · have c2 : crX σ z1 = false := by simpa using c
    rw [if_neg c, if_neg c]
    exact SF_no (by unfold r1C chB; rw [c2]; rfl) (by unfold r1C cdX; rw [c2, th_mF]; rfl) (h.mS mS_mF)
theorem fr_B {σ : xS} {r q : Int32} : (crX σ r = true → ibX q (nI 4) = true → chB (frC σ r q) = true) ∧ (crX σ r = false → chB (frC σ r q) = false ∧ cdX (cd1 eIO) (frC σ r q) = nI 1) ∧ (crX σ r = true → ibX q (nI 4) = false → chB (frC σ r q) = false ∧ cdX (cd1 eIO) (frC σ r q) = nI 2) := by
  refine ⟨fun h1 h2 => ?_, fun h1 => ?_, fun h1 h2 => ?_⟩
  · unfold frC chB; rw [h1, h2]; rfl
  · unfold frC chB cdX; rw [h1]; exact ⟨rfl, rfl⟩
  · unfold frC chB cdX cdX; rw [h1, h2]; exact ⟨rfl, rfl⟩
/-- a call of a report and a number from 0 to 3 that only answers -/
theorem st_rq {σ τ τ1 : xS} {r rM : Int32} (h : Inv σ τ) (z1 z2 : Int32) (m1 : mS τ1 τ) (t1 : τ1 30 0 0 = nI 0) (hr : crX σ z1 = true → ibX z2 (nI 4) = true → r = rM) : SF Inv (cd1 eIO) (frC σ z1 z2) σ σ r (if irM (m0 τ) z1 = true then (if inX z2 (nI 0) (nI 3) = true then τ1 else mF τ 2) else mF τ 1) (if irM (m0 τ) z1 = true then (if inX z2 (nI 0) (nI 3) = true then rM else nI 0) else nI 0) := by
  rw [ir_cr (h.mS mS_m0), ← ib_in (n := 3) (by decide)]
  obtain ⟨b1, b2, b3⟩ := fr_B (σ := σ) (r := z1) (q := z2)
  by_cases c : crX σ z1 = true
  · by_cases c2 : ibX z2 (nI 4) = true
    · rw [if_pos c, if_pos c2, if_pos c, if_pos c2]
      exact SF_yes (b1 c c2) t1 (hr c c2) (h.mS m1)
    · have c3 : ibX z2 (nI 4) = false := by simpa using c2
      rw [if_pos c, if_neg c2, if_pos c, if_neg c2]
      exact SF_no (b3 c c3).1 ((b3 c c3).2.trans th_mF.symm) (h.mS mS_mF)
  · have c3 : crX σ z1 = false := by simpa using c
    rw [if_neg c, if_neg c]
    exact SF_no (b2 c3).1 ((b2 c3).2.trans th_mF.symm) (h.mS mS_mF)
theorem st_frame {σ τ : xS} (h : Inv σ τ) (z1 z2 : Int32) : SF Inv (cd1 eIO) (frC σ z1 z2) σ σ (σ 24 (nv z1) (nv z2)) (frMS τ z1 z2) (frMV τ z1 z2) :=
  st_rq h z1 z2 mS_m0 th_m0 (fun c c2 => by rw [frM_mS mS_m0]; exact (h.fr (cr_lt h c) (ib_lt (by decide) c2).1).symm)
theorem st_matters {σ τ : xS} (h : Inv σ τ) (z1 z2 : Int32) : SF Inv (cd1 eIO) (frC σ z1 z2) σ σ (σ 25 (nv z1) (nv z2)) (maMS τ z1 z2) (maMV τ z1 z2) :=
  st_rq h z1 z2 (mS_ky.tr mS_m0) ((kyS_ne (by decide)).trans th_m0) (fun c c2 => by
    rw [kyS_row (ib_lt (by decide) c2).1, kM_mS mS_m0]
    exact (h.ky (cr_lt h c) (ib_lt (by decide) c2).1).symm)
theorem st_rate {σ τ : xS} (h : Inv σ τ) (z1 z2 : Int32) : SF Inv (cd1 eIO) (frC σ z1 z2) σ σ (nI (rtX σ (σ 19 0 (nv z1)) (nv z2))) (rtMS τ z1 z2) (rtMV τ z1 z2) :=
  st_rq h z1 z2 nm0_m th_nm (fun c c2 => by rw [rt_eq h.nm, h.nm.2 _ (cr_lt h c)])
theorem st_users {σ τ : xS} (h : Inv σ τ) (z1 z2 : Int32) : SF Inv (cd1 eIO) (frC σ z1 z2) σ σ (ucX σ (σ 19 0 (nv z1)) (nv z2)) (usMS τ z1 z2) (usMV τ z1 z2) :=
  st_rq h z1 z2 (mS_um.tr nm0_m) ((umX_ne (by decide)).trans th_nm) (fun c c2 => by rw [uc_eq h.1.1 h.nm, h.nm.2 _ (cr_lt h c)])
theorem v1_B {v : Int32} : (ibX v (nI 4) = true → chB (v1C v) = true) ∧ (ibX v (nI 4) = false → chB (v1C v) = false ∧ cdX (cd1 eIA) (v1C v) = nI 1) := by
  refine ⟨fun h1 => ?_, fun h1 => ?_⟩
  · unfold v1C chB; rw [h1]; rfl
  · unfold v1C chB cdX; rw [h1]; exact ⟨rfl, rfl⟩
theorem st_v1 {σ τ τ1 : xS} {r rM : Int32} (h : Inv σ τ) (z1 : Int32) (m1 : mS τ1 τ) (t1 : τ1 30 0 0 = nI 0) (hr : ibX z1 (nI 4) = true → r = rM) : SF Inv (cd1 eIA) (v1C z1) σ σ r (if verM z1 = true then τ1 else mF τ 1) (if verM z1 = true then rM else nI 0) := by
  rw [ver_ib]
  by_cases c : ibX z1 (nI 4) = true
  · rw [if_pos c, if_pos c]
    exact SF_yes (v1_B.1 c) t1 (hr c) (h.mS m1)
  · have c3 : ibX z1 (nI 4) = false := by simpa using c
    rw [if_neg c, if_neg c]
    exact SF_no (v1_B.2 c3).1 ((v1_B.2 c3).2.trans th_mF.symm) (h.mS mS_mF)
theorem gm_th {v : Nat} : ∀ (n k : Nat) (h b : Bool) (τ : xS), (gmL v n k h b τ).2 30 0 0 = τ 30 0 0
  | 0, _, _, _, _ => rfl
  | n + 1, k, h, b, τ => by
    unfold gmL
    split
    · split
      · exact gm_th n _ _ _ _
      · split
        · exact (gm_th n _ _ _ _).trans (umX_ne (by decide))
        · exact gm_th n _ _ _ _
    · exact gm_th n _ _ _ _
theorem st_gate {σ τ : xS} (h : Inv σ τ) (z1 : Int32) : SF Inv (cd1 eIA) (v1C z1) σ σ (gaX σ (nv z1)) (gaMS τ z1) (gaMV τ z1) :=
  st_v1 h z1 ((mS_gm _ _ _ _ _).tr nm0_m) ((gm_th _ _ _ _ _).trans th_nm) (fun c => by
    unfold gmX gaX
    rw [ga_eq h.1.1 _ _ _ _ h.nm (by rw [h.nm.n]; omega), h.nm.n, ← h.nm.1.2.2.2.2.2.2.2.2.2.1]
    congr 1
    by_cases q : 50 ≤ nv (σ 5 0 (nv z1))
    · rw [decide_eq_true q, decide_eq_false (by omega)]; rfl
    · rw [decide_eq_false q, decide_eq_true (by omega)]; rfl)
theorem st_worst {σ τ : xS} (h : Inv σ τ) (z1 : Int32) : SF Inv (cd1 eIA) (v1C z1) σ σ (woX σ (nv z1)) (woMS τ z1) (woMV τ z1) :=
  st_v1 h z1 nm0_m th_nm (fun c => by
    unfold wmX woX
    rw [h.nm.n, wo_eq h.nm _ _ _ _ (by omega)])
theorem st_holds {σ τ : xS} (h : Inv σ τ) (z1 : Int32) : SF Inv (cd1 eIO) (hoC σ z1) σ σ (bI (hoX σ (nv z1))) (hoMS τ z1) (bI (hoMV τ z1)) := by
  have hn := h.n60
  unfold hoMS hoMV hoK
  rw [ir_cr h, ← h.2.1.2.2.2.2.2.2.2.1]
  by_cases c : crX σ z1 = true
  · have hlt := cr_lt h c
    rw [if_pos c]
    by_cases c2 : σ 15 0 (nv z1) = -1
    · rw [if_pos c2, if_neg (by decide), if_neg (by decide)]
      exact SF_no (by unfold hoC chB; rw [c, c2]; rfl) (by unfold hoC cdX cdX; rw [c, c2]; rfl) (h.mS (mS_th _))
    · rw [if_neg c2, if_pos rfl, if_pos rfl]
      have hi : Inv σ (naS (up3 τ 30 0 0 (nI 0))) := h.mS nm0_m
      have hf := (h.1.1.fix (show nv z1 < 60 by omega)).resolve_left c2
      refine SF_yes (by unfold hoC chB; rw [c, decide_eq_false c2]; rfl) th_nm ?_ hi
      congr 1
      exact (ho_eq h.nm hlt hf.1 hf.2).symm
  · have c3 : crX σ z1 = false := by simpa using c
    rw [if_neg c, if_neg (by decide), if_neg (by decide)]
    exact SF_no (by unfold hoC chB; rw [c3]; rfl) (by unfold hoC cdX; rw [c3]; rfl) (h.mS (mS_th _))

/-! ===== values out of the names ===== -/
def Nm (σ υ : xS) : Prop := LkB σ υ ∧ ∀ r, r < nv (σ 3 0 0) → υ 42 0 r = σ 19 0 r
theorem nm0_m {τ : xS} : mS (nm0 τ) τ := mS_na.tr mS_m0
theorem Inv.nm {σ τ : xS} (h : Inv σ τ) : Nm σ (nm0 τ) := by
  refine ⟨h.2.1.mS nm0_m, fun r hr => ?_⟩
  have h2 := h.mS (mS_m0 (τ := τ))
  have e : nv (m0 τ 30 0 2) = nv (σ 3 0 0) := by rw [h2.2.1.1]
  unfold nm0 naS
  rw [e]
  exact (na_eq h2 _ (Nat.le_refl _) r hr).2
theorem Nm.n {σ υ : xS} (h : Nm σ υ) : nv (υ 30 0 2) = nv (σ 3 0 0) := by rw [h.1.1]
theorem Nm.um {σ υ : xS} (h : Nm σ υ) {nm : Int32} {v : Nat} : Nm σ (umX υ nm v).2 := ⟨h.1.mS mS_um, fun r hr => (umX_ne (by decide)).trans (h.2 r hr)⟩
theorem cmx_eq {σ υ : xS} (h : Nm σ υ) {nm : Int32} {v : Nat} : ∀ k, k ≤ nv (σ 3 0 0) → cmL υ nm v k = ciX σ nm v k
  | 0, _ => rfl
  | k + 1, hk => by
    unfold cmL ciX isOfX
    rw [cmx_eq h k (by omega), h.2 k (by omega), ← h.1.2.2.2.2.2.1 k]
    simp only [Bool.and_eq_true, decide_eq_true_eq]
theorem rt_eq {σ υ : xS} (h : Nm σ υ) {nm : Int32} {v : Nat} : rtM υ nm v = rtX σ nm v := by
  unfold rtM rtX coX
  rw [h.n, cmx_eq h _ (Nat.le_refl _), ← h.1.2.2.2.2.2.2.2.2.2.1 v]
theorem bk_eq {σ υ : xS} (h : Nm σ υ) : ∀ k, k ≤ nv (σ 3 0 0) → bkL υ k = buL σ k
  | 0, _ => rfl
  | k + 1, hk => by
    unfold bkL buL
    rw [bk_eq h k (by omega), h.2 k (by omega)]
theorem sz_eq {σ υ : xS} (o : okX σ) (h : Nm σ υ) {nm : Int32} : ∀ k, k ≤ nv (σ 3 0 0) → szL υ nm k = ciX σ nm 0 k + ciX σ nm 1 k + ciX σ nm 2 k + ciX σ nm 3 k
  | 0, _ => rfl
  | k + 1, hk => by
    have hn := o.n.2
    have hv := (o.ver (show k < 60 by omega)).2
    unfold szL ciX isOfX
    rw [sz_eq o h k (by omega), h.2 k (by omega)]
    simp only [Bool.and_eq_true, decide_eq_true_eq]
    by_cases e : σ 19 0 k = nm
    · rw [if_pos e]
      rcases (show nv (σ 12 0 k) = 0 ∨ nv (σ 12 0 k) = 1 ∨ nv (σ 12 0 k) = 2 ∨ nv (σ 12 0 k) = 3 by omega) with q | q | q | q <;> rw [q] <;> simp [e] <;> omega
    · simp [e]
theorem si_eq {σ υ : xS} (o : okX σ) (h : Nm σ υ) {nm : Int32} : szL υ nm (nv (υ 30 0 2)) = siL σ nm 4 := by
  rw [h.n, sz_eq o h _ (Nat.le_refl _)]
  show _ = 0 + coX σ nm 0 + coX σ nm 1 + coX σ nm 2 + coX σ nm 3
  unfold coX
  omega
theorem wo_eq {σ υ : xS} (h : Nm σ υ) {v : Nat} : ∀ n k w t, k + n ≤ nv (σ 3 0 0) → wmL υ v n k w t = woL σ v n k w t
  | 0, _, _, _, _ => rfl
  | n + 1, k, w, t, hk => by
    unfold wmL woL
    rw [rt_eq h, h.2 k (by omega), wo_eq h n (k + 1) _ _ (by omega), wo_eq h n (k + 1) _ _ (by omega)]
/-! holds -/
theorem hoB {σ υ : xS} (h : Nm σ υ) {r f : Nat} (hr : r < nv (σ 3 0 0)) (hf : σ 15 0 r = nI f) (hf4 : f < 4) {t : Nat} : ∀ n v b, v + n ≤ 4 → f ≤ v → hmL υ r n v t b = (b && hoL σ (σ 19 0 r) t n v)
  | 0, _, b, _, _ => (Bool.and_true b).symm
  | n + 1, v, b, hn, hv => by
    unfold hmL hoL
    have e1 : ¬ nI v < υ 40 0 r := by
      rw [← h.1.2.2.2.2.2.2.2.1 r, hf, nI_ltI (by omega) (by omega)]
      omega
    rw [if_neg (fun z => e1 z.1), hoB h hr hf hf4 n (v + 1) _ (by omega) (by omega), rt_eq h, h.2 r hr, ← h.1.2.2.2.2.2.2.2.2.2.1 v, decide_eq_false e1, Bool.false_or]
    by_cases c1 : nv (σ 5 0 v) = 0
    · rw [if_neg (fun z => z.1 c1), decide_eq_true c1, Bool.true_or, Bool.and_true]
    · by_cases c2 : 2 * rtX σ (σ 19 0 r) v ≤ t
      · rw [if_neg (fun z => z.2 c2), decide_eq_true c2, Bool.or_true, Bool.and_true]
      · rw [if_pos ⟨c1, c2⟩, decide_eq_false c1, decide_eq_false c2, Bool.or_false, Bool.and_false, Bool.false_and]
theorem hoA {σ υ : xS} (h : Nm σ υ) {r f : Nat} (hr : r < nv (σ 3 0 0)) (hf : σ 15 0 r = nI f) (hf4 : f < 4) : ∀ m v, v + m = f → hmL υ r (4 - v) v (grX σ (σ 19 0 r) v) true = hmL υ r (4 - f) f (grX σ (σ 19 0 r) f) true
  | 0, v, e => by
    have e : v = f := e
    subst e
    rfl
  | m + 1, v, e => by
    rw [← hoA h hr hf hf4 m (v + 1) (by omega), show 4 - v = (4 - (v + 1)) + 1 by omega]
    have e1 : nI v < υ 40 0 r := by
      rw [← h.1.2.2.2.2.2.2.2.1 r, hf, nI_ltI (by omega) (by omega)]
      omega
    show hmL υ r (4 - (v + 1)) (v + 1) _ _ = _
    rw [rt_eq h, h.2 r hr, decide_eq_true e1, Bool.true_or, Bool.and_true]
    congr 1
    show _ = if grX σ (σ 19 0 r) v < rtX σ (σ 19 0 r) v then rtX σ (σ 19 0 r) v else grX σ (σ 19 0 r) v
    by_cases c : grX σ (σ 19 0 r) v < rtX σ (σ 19 0 r) v
    · rw [if_pos ⟨e1, c⟩, if_pos c]
    · rw [if_neg (fun z => c z.2), if_neg c]
theorem ho_eq {σ υ : xS} (h : Nm σ υ) {r f : Nat} (hr : r < nv (σ 3 0 0)) (hf : σ 15 0 r = nI f) (hf4 : f < 4) : hmX υ r = hoX σ r := by
  have e : nv (σ 15 0 r) = f := by rw [hf]; exact nI_clamp (by omega)
  unfold hmX hoX
  rw [e]
  have h1 := hoA h hr hf hf4 f 0 (by omega)
  rw [show (4 - 0 : Nat) = 4 from rfl, show grX σ (σ 19 0 r) 0 = 0 from rfl] at h1
  rw [h1, hoB h hr hf hf4 (4 - f) f true (by omega) (Nat.le_refl _), Bool.true_and]
/-! users -/
def ctB (P : Nat → Bool) : Nat → Nat
  | 0 => 0
  | n + 1 => ctB P n + (if P n = true then 1 else 0)
theorem ctB_congr {P P' : Nat → Bool} : ∀ n, (∀ i, i < n → P i = P' i) → ctB P n = ctB P' n
  | 0, _ => rfl
  | n + 1, h => by
    unfold ctB
    rw [ctB_congr n (fun i hi => h i (by omega)), h n (by omega)]
theorem ctB_out {P : Nat → Bool} {i : Nat} {b : Bool} : ∀ n, n ≤ i → ctB (fun k => if k = i then b else P k) n = ctB P n := fun n hn => ctB_congr n (fun j hj => if_neg (by omega))
theorem ctB_upd {P : Nat → Bool} {i : Nat} {b : Bool} : ∀ n, i < n → ctB (fun k => if k = i then (b || P k) else P k) n = ctB P n + (if b = true ∧ P i = false then 1 else 0)
  | n + 1, h => by
    unfold ctB
    by_cases e : i = n
    · subst e
      rw [ctB_congr i (P' := P) (fun j hj => if_neg (by omega)), if_pos rfl]
      cases b <;> cases hp : P i <;> simp
    · rw [ctB_upd n (by omega)]
      have : ¬ n = i := fun z => e z.symm
      simp only [if_neg this]
      omega
/-- who has been seen -/
def snX (σ : xS) (nm : Int32) (v : Nat) : Nat → Nat → Bool
  | 0, _ => false
  | k + 1, u => if u = nv (σ 13 0 k) then (isOfX σ k nm v || snX σ nm v k u) else snX σ nm v k u
theorem bI_0 (b : Bool) : (bI b = 0) ↔ b = false := by cases b <;> simp [bI]
theorem um_sn {σ υ β : xS} (o : okX σ) (h : Nm σ υ) (hz : ∀ u, u < 20 → β 44 0 u = nI 0) (hb : ∀ t i j, t ≠ 44 → β t i j = υ t i j) {nm : Int32} {v : Nat} : ∀ k, k ≤ nv (σ 3 0 0) → (∀ u, u < 20 → (umL nm v k (0, β)).2 44 0 u = bI (snX σ nm v k u)) ∧ (umL nm v k (0, β)).1 = ctB (snX σ nm v k) 20
  | 0, _ => by
    refine ⟨fun u hu => hz u hu, ?_⟩
    have hs : ∀ n, ctB (snX σ nm v 0) n = 0 := by
      intro n
      induction n with
      | zero => rfl
      | succ n ih => unfold ctB; rw [ih]; rfl
    exact (hs 20).symm
  | k + 1, hk => by
    have hn := o.n.2
    obtain ⟨h1, h2⟩ := um_sn o h hz hb (nm := nm) (v := v) k (by omega)
    have hu := (o.usr (show k < 60 by omega)).2
    have e38 : (umL nm v k (0, β)).2 38 0 k = σ 13 0 k := by
      rw [umL_ne k _ 38 0 k (by decide)]
      exact (hb 38 0 k (by decide)).trans (h.1.2.2.2.2.2.2.1 k).symm
    have eit : itM (umL nm v k (0, β)).2 nm v k = isOfX σ k nm v := by
      unfold itM isOfX
      rw [umL_ne k _ 42 0 k (by decide), umL_ne k _ 37 0 k (by decide)]
      show (decide (β 42 0 k = nm) && decide (nv (β 37 0 k) = v)) = _
      rw [hb 42 0 k (by decide), hb 37 0 k (by decide), h.2 k (by omega), ← h.1.2.2.2.2.2.1 k]
    have eS : umL nm v (k + 1) (0, β) = u1M nm v k (umL nm v k (0, β)) := rfl
    rw [eS]
    generalize umL nm v k (0, β) = q at h1 h2 e38 eit
    have sS : snX σ nm v (k + 1) = fun u => if u = nv (σ 13 0 k) then (isOfX σ k nm v || snX σ nm v k u) else snX σ nm v k u := rfl
    rw [sS]
    generalize snX σ nm v k = S at h1 h2
    generalize isOfX σ k nm v = c at eit
    unfold u1M
    rw [e38, eit, h1 _ hu]
    refine ⟨fun u hu2 => ?_, ?_⟩
    · by_cases e : u = nv (σ 13 0 k)
      · subst e
        dsimp only
        rw [if_pos rfl, up3_self]
        congr 1
        cases S (nv (σ 13 0 k)) <;> cases c <;> rfl
      · dsimp only
        rw [if_neg e, up3_ne (fun z => e z.2.2)]
        exact h1 u hu2
    · dsimp only
      rw [ctB_upd 20 hu, h2]
      simp only [bI_0]
theorem s0_z {υ : xS} : ∀ n u, u < n → s0L υ n 44 0 u = nI 0
  | n + 1, u, h => by
    unfold s0L
    by_cases e : u = n
    · subst e; rw [up3_self]
    · rw [up3_ne (fun z => e z.2.2)]
      exact s0_z n u (by omega)
theorem um_ct {σ υ : xS} (o : okX σ) (h : Nm σ υ) {nm : Int32} {v : Nat} : (umX υ nm v).1 = ctB (snX σ nm v (nv (σ 3 0 0))) 20 := by
  unfold umX
  rw [h.n]
  exact (um_sn o h (β := s0L υ 20) (fun u hu => s0_z 20 u hu) (fun t i j ht => s0L_ne 20 t i j ht) _ (Nat.le_refl _)).2
theorem sh_bit : ∀ u, u < 32 → (nI 1 <<< (nI u &&& 31)).toBitVec = BitVec.twoPow 32 u := by decide +kernel
theorem us_bit {σ : xS} (o : okX σ) {nm : Int32} {v : Nat} : ∀ k, k ≤ nv (σ 3 0 0) → ∀ i, i < 32 → (usX σ nm v k).toBitVec.getLsbD i = snX σ nm v k i
  | 0, _, i, _ => BitVec.getLsbD_zero
  | k + 1, hk, i, hi => by
    have hn := o.n.2
    have hu := (o.usr (show k < 60 by omega)).2
    have ih := us_bit o (nm := nm) (v := v) k (by omega) i hi
    unfold usX snX
    by_cases c : isOfX σ k nm v = true
    · rw [if_pos c, Int32.toBitVec_or, BitVec.getLsbD_or, ih, sh_bit _ (by omega), BitVec.getLsbD_twoPow, c]
      by_cases e : i = nv (σ 13 0 k)
      · rw [if_pos e, e]
        simp
        omega
      · have e2 : ¬ nv (σ 13 0 k) = i := fun z => e z.symm
        rw [if_neg e]
        simp [e2]
    · rw [if_neg c, ih]
      have c2 : isOfX σ k nm v = false := by cases h9 : isOfX σ k nm v <;> simp_all
      rw [c2]
      split <;> rfl
theorem sn_20 {σ : xS} (o : okX σ) {nm : Int32} {v : Nat} : ∀ k, k ≤ nv (σ 3 0 0) → ∀ i, 20 ≤ i → snX σ nm v k i = false
  | 0, _, _, _ => rfl
  | k + 1, hk, i, hi => by
    have hn := o.n.2
    have hu := (o.usr (show k < 60 by omega)).2
    unfold snX
    rw [if_neg (by omega)]
    exact sn_20 o k (by omega) i hi

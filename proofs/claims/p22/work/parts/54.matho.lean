/-! ===== what the law asks, in the state behind its names ===== -/
section CGR
variable {σ τ : xS}
theorem frP_cg (h : ∀ t, t ≠ 39 → τ t = σ t) {x : Int32} : ∀ c n, frP τ x c n = frP σ x c n
  | 0, _ => rfl
  | c + 1, n => by
    unfold frP
    rw [h 32 (by decide), h 33 (by decide), h 34 (by decide), frP_cg h c]
theorem frV_cg (h : ∀ t, t ≠ 39 → τ t = σ t) {r p : Nat} : frV τ r p = frV σ r p := by
  unfold frV
  rw [frP_cg h, h 37 (by decide), h 31 (by decide), h 35 (by decide)]
theorem enP_cg (h : ∀ t, t ≠ 39 → τ t = σ t) : ∀ n t, enP τ n t = enP σ n t
  | 0, _ => rfl
  | n + 1, t => by
    unfold enP
    rw [h 31 (by decide), enP_cg h n]
theorem isMt_cg (h : ∀ t, t ≠ 39 → τ t = σ t) {r p : Nat} : isMt τ r p = isMt σ r p := by
  unfold isMt
  rw [frV_cg h, h 31 (by decide)]
theorem mnP_cg (h : ∀ t, t ≠ 39 → τ t = σ t) {r : Nat} : ∀ j acc, mnP τ r j acc = mnP σ r j acc
  | 0, _ => rfl
  | j + 1, acc => by
    unfold mnP
    rw [isMt_cg h, mnP_cg h j]
theorem smP_cg (h : ∀ t, t ≠ 39 → τ t = σ t) {r : Nat} : ∀ j s k, smP τ r j s k = smP σ r j s k
  | 0, _, _ => rfl
  | j + 1, s, k => by
    unfold smP
    rw [isMt_cg h, frV_cg h, enP_cg h, smP_cg h j, smP_cg h j]
theorem nuP_cg (h : ∀ t, t ≠ 39 → τ t = σ t) {r : Nat} : nuP τ r = nuP σ r := by
  unfold nuP skP myP
  rw [mnP_cg h, smP_cg h, h 30 (by decide), h 37 (by decide), h 35 (by decide)]
end CGR
def ffP (f : Nat → Int32) (r : Nat) : Nat → Nat → Nat
  | 0, k => k
  | n + 1, k => if f k = f r then k else ffP f r n (k + 1)
theorem fsP_ff {σ : xS} {r : Nat} : ∀ n k, fsP σ r n k = ffP (σ 39 0) r n k
  | 0, _ => rfl
  | n + 1, k => by
    unfold fsP ffP
    rw [fsP_ff n]
theorem nmA_ff {σ : xS} {r : Nat} : ∀ n k, nmA σ r n k = ffP (σ 18 0) r n k
  | 0, _ => rfl
  | n + 1, k => by
    unfold nmA ffP
    rw [nmA_ff n]
theorem ffP_iff {f g : Nat → Int32} {r : Nat} : ∀ n k, (∀ j, j < k + n → (f j = f r ↔ g j = g r)) → ffP f r n k = ffP g r n k
  | 0, _, _ => rfl
  | n + 1, k, h => by
    unfold ffP
    rw [ffP_iff n (k + 1) (fun j hj => h j (by omega))]
    by_cases c : f k = f r
    · rw [if_pos c, if_pos ((h k (by omega)).mp c)]
    · rw [if_neg c, if_neg (fun z => c ((h k (by omega)).mpr z))]
theorem ffP_le {f : Nat → Int32} {r : Nat} : ∀ n k, ffP f r n k ≤ k + n
  | 0, _ => Nat.le_refl _
  | n + 1, k => by
    unfold ffP
    have := ffP_le (f := f) (r := r) n (k + 1)
    split <;> omega
theorem ns_at {σ : xS} : ∀ n, n ≤ 12 → ∀ r, r < n → nsL σ n 39 0 r = nuP σ r ∧ nsL σ n 39 0 (12 + r) = nI (ffP (nuP σ) r r 0)
  | n + 1, hn, r, hr => by
    have ih := ns_at (σ := σ) n (by omega)
    have hc : ∀ t, t ≠ 39 → nsL σ n t = σ t := fun t ht => by
      funext i
      funext j
      exact nsL_ne n t i j ht
    show n2P (nsL σ n) n 39 0 r = _ ∧ n2P (nsL σ n) n 39 0 (12 + r) = _
    generalize nsL σ n = ν at ih hc
    unfold n2P
    by_cases e : r = n
    · subst e
      refine ⟨?_, ?_⟩
      · rw [up3_ne (fun z => by omega)]
        unfold n1P
        rw [up3_self, nuP_cg hc]
      · rw [up3_self, fsP_ff]
        congr 1
        refine ffP_iff r 0 (fun j hj => ?_)
        have e1 : n1P ν r 39 0 r = nuP σ r := by
          unfold n1P
          rw [up3_self, nuP_cg hc]
        have e2 : n1P ν r 39 0 j = nuP σ j := by
          unfold n1P
          rw [up3_ne (fun z => by omega)]
          exact (ih j (by omega)).1
        rw [e1, e2]
    · obtain ⟨h1, h2⟩ := ih r (by omega)
      unfold n1P
      refine ⟨?_, ?_⟩
      · rw [up3_ne (fun z => by omega), up3_ne (fun z => by omega)]
        exact h1
      · rw [up3_ne (fun z => by omega), up3_ne (fun z => by omega)]
        exact h2
/-- the names stand -/
def Nk (τ : xS) : Prop := ∀ r, r < nv (τ 3 0 0) → τ 39 0 r = nuP τ r ∧ τ 39 0 (12 + r) = τ 19 0 r ∧ ∃ m : Nat, m ≤ r ∧ τ 19 0 r = nI m
theorem Nk_ns {σ : xS} (h : Jv σ) : Nk (nsS σ) := by
  intro r hr
  have hn := h.n
  have e3 : nsS σ 3 = σ 3 := ns_tag (by decide)
  rw [e3] at hr
  obtain ⟨a1, a2⟩ := ns_at (σ := σ) (nv (σ 30 0 0)) (by omega) r (by omega)
  have hc : ∀ t, t ≠ 39 → nsS σ t = σ t := fun t ht => ns_tag ht
  have e19 : nsS σ 19 0 r = nI (ffP (nuP σ) r r 0) := by
    rw [hc 19 (by decide), (h.1.2.2.2 r hr).2.2, nmA_ff]
    congr 1
    exact ffP_iff r 0 (fun j hj => nu_iff h (by omega) hr)
  refine ⟨?_, ?_, _, ?_, e19⟩
  · rw [nuP_cg hc]
    exact a1
  · rw [e19]
    exact a2
  · have := ffP_le (f := nuP σ) (r := r) r 0
    omega
section OBS
variable {τ : xS}
theorem ses_eq (h : Jv τ) {v : Nat} (hv : v < 4) : nv (τ 5 0 v) = nv (τ 31 0 (4 + v)) := congrArg nv (h.2.2.2.1 v hv).2
theorem ci_lo (k0 : Nk τ) {nm v : Nat} (hnm : nm < 2 ^ 31) : ∀ k, k ≤ nm → k ≤ nv (τ 3 0 0) → ciX τ (nI nm) v k = 0
  | 0, _, _ => rfl
  | k + 1, h1, h2 => by
    unfold ciX
    obtain ⟨-, -, m, hm, e⟩ := k0 k (by omega)
    have hne : τ 19 0 k ≠ nI nm := by
      rw [e]
      intro z
      rw [nI_eq (by omega) hnm] at z
      omega
    have hb : isOfX τ k (nI nm) v = false := by
      unfold isOfX
      rw [decide_eq_false hne]
      rfl
    rw [ci_lo k0 hnm k (by omega) (by omega), hb]
    rfl
theorem ci_hi (h : Jv τ) (k0 : Nk τ) {nm v : Nat} (hnm : nm < 2 ^ 31) : ∀ j, nm + j ≤ nv (τ 3 0 0) → ciX τ (nI nm) v (nm + j) = rcP τ nm v j
  | 0, h1 => ci_lo k0 hnm nm (Nat.le_refl _) h1
  | j + 1, h1 => by
    have hn := h.n
    show ciX τ (nI nm) v (nm + j) + (if isOfX τ (nm + j) (nI nm) v = true then 1 else 0) = _
    unfold rcP
    rw [ci_hi h k0 hnm j (by omega), (k0 (nm + j) (by omega)).2.1]
    unfold isOfX
    rw [(h.ver (show nm + j < 12 by omega)).1]
    simp only [Bool.and_eq_true, decide_eq_true_eq]
theorem rt_eq (h : Jv τ) (k0 : Nk τ) {nm v : Nat} (hnm : nm ≤ nv (τ 3 0 0)) (hv : v < 4) : rtX τ (nI nm) v = rtP τ nm v := by
  have hn := h.n
  have h1 := ci_hi h k0 (nm := nm) (v := v) (by omega) (nv (τ 3 0 0) - nm) (by omega)
  rw [show nm + (nv (τ 3 0 0) - nm) = nv (τ 3 0 0) by omega] at h1
  unfold rtX rtP coX
  rw [h1, ses_eq h hv, hn.1, Nat.mul_comm]
theorem or0 (x : Int32) : x ||| nI 0 = x := by
  apply Int32.toBitVec_inj.mp
  rw [Int32.toBitVec_or]
  show x.toBitVec ||| 0#32 = x.toBitVec
  simp
theorem us_eq (h : Jv τ) (k0 : Nk τ) {nm v : Nat} : ∀ k, k ≤ nv (τ 3 0 0) → usX τ (nI nm) v k = usP τ nm v k
  | 0, _ => rfl
  | k + 1, hk => by
    have hn := h.n
    unfold usX usP
    rw [us_eq h k0 k (by omega), (k0 k (by omega)).2.1]
    have e13 : τ 13 0 k = τ 36 0 k := (h.2.2.2.2.2.2.1 k (by omega)).2.1
    unfold isOfX
    rw [(h.ver (show k < 12 by omega)).1, e13]
    by_cases c : τ 19 0 k = nI nm ∧ nv (τ 35 0 k) = v
    · rw [if_pos c, if_pos (by rw [decide_eq_true c.1, decide_eq_true c.2]; rfl)]
    · rw [if_neg c, if_neg (by rw [Bool.and_eq_true, decide_eq_true_eq, decide_eq_true_eq]; exact c), or0]
theorem shr_nI {x k : Nat} (hx : x < 2 ^ 31) (hk : k < 32) : nI x >>> (nI k &&& 31) = nI (x / 2 ^ k) := by
  apply Int32.toBitVec_inj.mp
  rw [Int32.toBitVec_shiftRight]
  have e1 : ∀ k, k < 32 → ((nI k &&& 31).toBitVec.smod 32).toNat = k := by decide +kernel
  have hm : (nI x).toBitVec.msb = false := by
    show (BitVec.ofNat 32 x).msb = false
    rw [BitVec.msb_eq_false_iff_two_mul_lt, BitVec.toNat_ofNat]
    omega
  rw [BitVec.sshiftRight_eq', e1 k hk, BitVec.sshiftRight_eq_of_msb_false hm]
  apply BitVec.eq_of_toNat_eq
  rw [BitVec.toNat_ushiftRight, Nat.shiftRight_eq_div_pow]
  show (BitVec.ofNat 32 x).toNat / 2 ^ k = (BitVec.ofNat 32 (x / 2 ^ k)).toNat
  rw [BitVec.toNat_ofNat, BitVec.toNat_ofNat, Nat.mod_eq_of_lt (by omega), Nat.mod_eq_of_lt (Nat.lt_of_le_of_lt (Nat.div_le_self _ _) (by omega))]
theorem fb_ct {M : Nat} (hM : M < 2 ^ 31) : ∀ n, n ≤ 31 → fbP (nI M) n = nI (ctB (fun i => M.testBit i) n)
  | 0, _ => rfl
  | n + 1, hn => by
    unfold fbP ctB
    rw [fb_ct hM n (by omega), shr_nI hM (by omega), and_nI, nI_add]
    congr 2
    rw [Nat.and_one_is_mod, Nat.testBit_eq_decide_div_mod_eq]
    by_cases c : M / 2 ^ n % 2 = 1
    · rw [c]; rfl
    · rw [if_neg (by simpa using c)]
      omega
theorem uc_eq (h : Jv τ) (k0 : Nk τ) {nm v : Nat} : ucX τ (nI nm) v = ucP τ nm v := by
  have hn := h.n
  unfold ucX ucP
  rw [← hn.1, ← us_eq h k0 _ (Nat.le_refl _)]
  have hb := us_bit h.okx (nm := nI nm) (v := v) (nv (τ 3 0 0)) (Nat.le_refl _)
  have hz := sn_20 h.okx (nm := nI nm) (v := v) (nv (τ 3 0 0)) (Nat.le_refl _)
  generalize usX τ (nI nm) v (nv (τ 3 0 0)) = x at hb
  have hx : x = nI x.toBitVec.toNat := by
    apply Int32.toBitVec_inj.mp
    show _ = BitVec.ofNat 32 _
    simp
  have ht : ∀ i, x.toBitVec.toNat.testBit i = if i < 32 then snX τ (nI nm) v (nv (τ 3 0 0)) i else false := fun i => by
    by_cases hi : i < 32
    · rw [if_pos hi, ← hb i hi]
      rfl
    · rw [if_neg hi]
      exact Nat.testBit_lt_two_pow (Nat.lt_of_lt_of_le x.toBitVec.isLt (Nat.pow_le_pow_right (by decide) (by omega)))
  have hM : x.toBitVec.toNat < 2 ^ 20 := by
    apply Nat.lt_pow_two_of_testBit
    intro i hi
    rw [ht i]
    split
    · exact hz i hi
    · rfl
  rw [hx, bcX_nI hM, fb_ct (by omega) 20 (by decide)]
theorem sz_eq (h : Jv τ) (k0 : Nk τ) {n : Nat} (hnq : n < nv (τ 3 0 0)) : ∀ k, k ≤ nv (τ 3 0 0) → szP τ n k = ciX τ (τ 19 0 n) 0 k + ciX τ (τ 19 0 n) 1 k + ciX τ (τ 19 0 n) 2 k + ciX τ (τ 19 0 n) 3 k
  | 0, _ => rfl
  | k + 1, hk => by
    have hn := h.n
    have hv := (h.okx.ver (show k < 60 by omega)).2
    unfold szP ciX isOfX
    rw [sz_eq h k0 hnq k (by omega), (k0 k (by omega)).2.1, (k0 n hnq).2.1]
    simp only [Bool.and_eq_true, decide_eq_true_eq]
    by_cases e : τ 19 0 k = τ 19 0 n
    · rw [if_pos e]
      rcases (show nv (τ 12 0 k) = 0 ∨ nv (τ 12 0 k) = 1 ∨ nv (τ 12 0 k) = 2 ∨ nv (τ 12 0 k) = 3 by omega) with q | q | q | q <;> rw [q] <;> simp [e] <;> omega
    · simp [e]
theorem si_eq (h : Jv τ) (k0 : Nk τ) {n : Nat} (hnq : n < nv (τ 3 0 0)) : siL τ (τ 19 0 n) 4 = szP τ n (nv (τ 30 0 0)) := by
  rw [← h.n.1, sz_eq h k0 hnq _ (Nat.le_refl _)]
  show 0 + coX τ (τ 19 0 n) 0 + coX τ (τ 19 0 n) 1 + coX τ (τ 19 0 n) 2 + coX τ (τ 19 0 n) 3 = _
  unfold coX
  omega
theorem bu_eq (k0 : Nk τ) : ∀ k, k ≤ nv (τ 3 0 0) → buL τ k = bkP τ k
  | 0, _ => rfl
  | k + 1, hk => by
    unfold buL bkP
    rw [bu_eq k0 k (by omega), (k0 k (by omega)).2.1]
/-- holds -/
theorem gr_eq (h : Jv τ) (k0 : Nk τ) {n m : Nat} (hnq : n < nv (τ 3 0 0)) (hm : m ≤ n) (e : τ 19 0 n = nI m) : ∀ v, v ≤ 4 → grX τ (τ 19 0 n) v = mxP τ n v
  | 0, _ => rfl
  | v + 1, hv => by
    have hn := h.n
    have e2 : nv (τ 39 0 (12 + n)) = m := by rw [(k0 n hnq).2.1, e]; exact nv_nI (by omega)
    unfold grX mxP
    rw [gr_eq h k0 hnq hm e v (by omega), e2, e, rt_eq h k0 (by omega) (by omega)]
theorem hl_eq (h : Jv τ) (k0 : Nk τ) {n m t : Nat} (hnq : n < nv (τ 3 0 0)) (hm : m ≤ n) (e : τ 19 0 n = nI m) : ∀ c v, v + c ≤ 4 → bI (hoL τ (τ 19 0 n) t c v) = hlP τ n t c v
  | 0, _, _ => rfl
  | c + 1, v, hv => by
    have hn := h.n
    have e2 : nv (τ 39 0 (12 + n)) = m := by rw [(k0 n hnq).2.1, e]; exact nv_nI (by omega)
    unfold hoL hlP
    rw [← hl_eq h k0 hnq hm e c (v + 1) (by omega), e2, ses_eq h (show v < 4 by omega), e, rt_eq h k0 (show m ≤ nv (τ 3 0 0) by omega) (show v < 4 by omega)]
    by_cases c1 : 0 < nv (τ 31 0 (4 + v)) ∧ t < rtP τ m v * 2
    · rw [if_pos c1, if_pos ⟨by omega, by omega⟩]
      rfl
    · rw [if_neg c1, if_neg (by omega)]
theorem hc_eq (h : Jv τ) (k0 : Nk τ) {n : Nat} (hnq : n < nv (τ 3 0 0)) : hcX τ n = hoP τ n := by
  have hn := h.n
  obtain ⟨-, -, m, hm, e⟩ := k0 n hnq
  have en : nv (nI n) = n := nv_nI (by omega)
  have e15 : τ 15 0 n = τ 38 0 n := (h.2.2.2.2.2.2.1 n (by omega)).2.2
  unfold hcX caV hoP
  rcases h.okp.fix (show n < 12 by omega) with c | c
  · have hB : chB (hoC τ (nI n)) = false := by
      unfold hoC chB
      rw [en, e15, c, crX_ok h.okx hnq]
      rfl
    rw [hB, if_neg (by decide), if_pos (by rw [c]; decide)]
  · have hne : ¬ τ 38 0 n = -1 := by
      rw [c.1]
      exact nI_nm1 (by have := c.2; omega)
    have hB : chB (hoC τ (nI n)) = true := by
      unfold hoC chB
      rw [en, e15, crX_ok h.okx hnq, decide_eq_false hne]
      rfl
    have c4 := c.2
    rw [hB, if_pos rfl, if_neg (inR_lt0 c (by decide)), en]
    unfold hoX
    rw [e15, gr_eq h k0 hnq hm e _ (by omega)]
    exact hl_eq h k0 hnq hm e _ _ (by omega)
/-- gate, worst -/
def gtP (τ : xS) (v : Nat) : Nat → Nat → Nat → Nat
  | 0, _, g => g
  | c + 1, n, g => gtP τ v c (n + 1) (g2P τ v n g)
def wsP (τ : xS) (v : Nat) : Nat → Nat → Int32 → Nat → Int32
  | 0, _, w, _ => w
  | c + 1, n, w, t => wsP τ v c (n + 1) (if t < vrP τ v n then nI n else w) (if t < vrP τ v n then vrP τ v n else t)
theorem ve_two {v : Nat} : ∀ c n g w t, veP τ v c n g w t = (gtP τ v c n g, wsP τ v c n w t)
  | 0, _, _, _, _ => rfl
  | c + 1, n, g, w, t => ve_two c _ _ _ _
theorem ws_eq (h : Jv τ) (k0 : Nk τ) {v : Nat} (hv : v < 4) : ∀ c n w t, n + c ≤ nv (τ 3 0 0) → woL τ v c n w t = wsP τ v c n w t
  | 0, _, _, _, _ => rfl
  | c + 1, n, w, t, hk => by
    unfold woL wsP vrP
    rw [(k0 n (by omega)).2.1, rt_eq h k0 (show n ≤ nv (τ 3 0 0) by omega) hv]
    by_cases c1 : τ 19 0 n = nI n
    · simp only [if_pos c1]
      by_cases c2 : t < rtP τ n v
      · rw [if_pos ⟨c1, c2⟩, if_pos c2, if_pos c2]
        exact ws_eq h k0 hv c (n + 1) _ _ (by omega)
      · rw [if_neg (fun z => c2 z.2), if_neg c2, if_neg c2]
        exact ws_eq h k0 hv c (n + 1) _ _ (by omega)
    · simp only [if_neg c1]
      rw [if_neg (fun z => c1 z.1), if_neg (Nat.not_lt_zero _), if_neg (Nat.not_lt_zero _)]
      exact ws_eq h k0 hv c (n + 1) _ _ (by omega)
theorem gt_2 {v : Nat} : ∀ c n, gtP τ v c n 2 = 2
  | 0, _ => rfl
  | c + 1, n => by
    unfold gtP
    have e1 : g1P τ v n 2 = 2 := by
      unfold g1P
      rw [if_neg (fun z => absurd z.1 (by decide))]
    have e : g2P τ v n 2 = 2 := by
      unfold g2P
      rw [e1]
      split <;> rfl
    rw [e]
    exact gt_2 c (n + 1)
theorem le1_lt2 (x : Int32) : x < nI 2 ↔ x ≤ nI 1 := by
  rw [Int32.lt_iff_toInt_lt, Int32.le_iff_toInt_le]
  have e1 : (nI 2).toInt = 2 := rfl
  have e2 : (nI 1).toInt = 1 := rfl
  omega
theorem ga_eq (h : Jv τ) (k0 : Nk τ) {v : Nat} (hv : v < 4) : ∀ c n (b : Bool), n + c ≤ nv (τ 3 0 0) → gaL τ v c n b = nI (gtP τ v c n (if b = true then 1 else 0))
  | 0, _, b, _ => by cases b <;> rfl
  | c + 1, n, b, hk => by
    have hl := h.okp.lim
    have hl1 := h.2.1.2.2.2
    have e0 : τ 0 0 0 = nI (nv (τ 30 0 2)) := h.2.2.1.2.2.trans hl.1
    have hr := rtP_le (nm := n) (v := v) h.okp
    have hll := hl.2
    unfold gaL gtP g2P g1P vrP
    rw [(k0 n (by omega)).2.1, rt_eq h k0 (show n ≤ nv (τ 3 0 0) by omega) hv, uc_eq h k0, e0, ses_eq h hv]
    by_cases c1 : τ 19 0 n = nI n
    · simp only [if_pos c1]
      have t1 : nI (rtP τ n v) < nI (nv (τ 30 0 2)) ↔ rtP τ n v < nv (τ 30 0 2) := nI_ltI (by omega) (by omega)
      have t3 : nI (2 * rtP τ n v) < nI (nv (τ 30 0 2)) ↔ 2 * rtP τ n v < nv (τ 30 0 2) := nI_ltI (by omega) (by omega)
      have t2 := le1_lt2 (ucP τ n v)
      by_cases c2 : 50 ≤ nv (τ 31 0 (4 + v)) ∧ ¬ nI (rtP τ n v) < nI (nv (τ 30 0 2)) ∧ ¬ ucP τ n v < nI 2
      · have c3 := c2.2.1
        rw [t1] at c3
        rw [if_pos c2, if_pos ⟨c1, by omega, by omega, fun z => c2.2.2 (t2.mpr z)⟩, gt_2]
      · rw [if_neg c2, if_neg (fun z => c2 ⟨by omega, fun y => by have := t1.mp y; omega, fun y => z.2.2.2 (t2.mp y)⟩), ga_eq h k0 hv c (n + 1) _ (by omega)]
        congr 2
        cases b
        · by_cases c3 : nI (2 * rtP τ n v) < nI (nv (τ 30 0 2))
          · have c4 := t3.mp c3
            rw [decide_eq_false (fun z => z c3)]
            simp only [Bool.or_self, Bool.false_eq_true, if_false, true_and]
            rw [if_neg (by omega)]
          · have c4 : ¬ 2 * rtP τ n v < nv (τ 30 0 2) := fun z => c3 (t3.mpr z)
            rw [decide_eq_true c3]
            simp only [Bool.false_or, Bool.false_eq_true, if_false, true_and, if_true]
            rw [if_pos (by omega)]
        · rw [Bool.true_or, if_pos rfl, if_neg (fun z => absurd z.1 (by decide))]
    · simp only [if_neg c1]
      rw [if_neg (fun z => c1 z.1), if_neg (by omega)]
      exact ga_eq h k0 hv c (n + 1) b (by omega)
theorem iso_v (h : Jv τ) (k0 : Nk τ) {v : Nat} (hv : v < 4) : IsoV τ v := by
  unfold IsoV vgP gaX woX
  rw [ve_two, ← h.n.1, ga_eq h k0 hv _ _ _ (by omega), ws_eq h k0 hv _ _ _ _ (by omega), ses_eq h hv]
  have e : (if (!decide (50 ≤ nv (τ 31 0 (4 + v)))) = true then 1 else 0) = (if nv (τ 31 0 (4 + v)) < 50 then (1 : Nat) else 0) := by
    by_cases c : 50 ≤ nv (τ 31 0 (4 + v))
    · rw [decide_eq_true c, if_neg (show ¬ nv (τ 31 0 (4 + v)) < 50 by omega)]
      rfl
    · rw [decide_eq_false c, if_pos (show nv (τ 31 0 (4 + v)) < 50 by omega)]
      rfl
  rw [e]
  exact ⟨rfl, rfl⟩
theorem iso_of (h : Jv τ) (k0 : Nk τ) : Iso τ := by
  have hn := h.n
  refine ⟨h.2.2.1.1, fun n hnq => ?_, fun v hv => iso_v h k0 hv, ?_⟩
  · rw [← hn.1] at hnq
    obtain ⟨a, b, m, hm, e⟩ := k0 n hnq
    have e2 : nv (τ 39 0 (12 + n)) = m := by rw [b, e]; exact nv_nI (by omega)
    refine ⟨⟨fun p hp => ⟨(fr_eq h hnq hp).symm, by rw [a]; exact (mt_eq h hnq hp).symm⟩, ⟨b.symm, si_eq h k0 hnq, hc_eq h k0 hnq⟩, fun v hv => ?_⟩, ?_⟩
    · rw [e2, e]
      exact ⟨rt_eq h k0 (by omega) hv, uc_eq h k0⟩
    · rw [b, e]
      exact inR_nI (by omega) (by decide)
  · rw [← hn.1]
    exact bu_eq k0 _ (Nat.le_refl _)
end OBS
theorem st_so {σ : xS} (h : Jv σ) : Iso (nsS σ) ∧ Jv (nsS σ) := ⟨iso_of (Jv_ns h) (Nk_ns h), Jv_ns h⟩

/-! ===== the law's number of a report, and the class's signature ===== -/
theorem frP_A {σ : xS} {v : Nat} {x : Int32} (hv : v < 4) (l : ∀ v k, v < 4 → k < 6 → σ 20 v k = σ 32 0 (6 * v + k) ∧ σ 21 v k = σ 33 0 (6 * v + k) ∧ σ 22 v k = σ 34 0 (6 * v + k)) : ∀ n k, k + n ≤ 6 → fnA σ v x n k = frP σ x n (6 * v + k)
  | 0, _, _ => rfl
  | n + 1, k, h => by
    obtain ⟨a, b, c⟩ := l v k hv (by omega)
    unfold fnA frP
    rw [a, b, c, frP_A hv l n (k + 1) (by omega)]
    rfl
theorem fr_eq {σ : xS} (h : Jv σ) {r p : Nat} (hr : r < nv (σ 3 0 0)) (hp : p < 4) : frV σ r p = σ 24 r p := by
  have hn := h.n
  have hr12 : r < 12 := by omega
  obtain ⟨e1, e2⟩ := h.ver hr12
  have hc := (h.okp.cnt e2).2
  rw [h.1.2.2.1 r hr p hp, e1, h.2.2.2.2.2.2.2 r p hr12 hp]
  unfold fnX frV
  rw [(h.2.2.2.1 _ e2).1]
  exact (frP_A e2 h.2.2.2.2.2.1 _ 0 (by omega)).symm
theorem enP_it {σ : xS} : ∀ n t, enP σ n t = itF (st6 σ) n t
  | 0, _ => rfl
  | n + 1, t => enP_it n _
theorem ieF_it {st : Nat → Int32} : ∀ n t k, k ≤ n → fxF st (itF st k t) → ieF st n t = itF st k t
  | 0, t, k, hk, _ => by
    have : k = 0 := by omega
    subst this
    rfl
  | n + 1, t, k, hk, h => by
    unfold ieF
    split
    · next hf => exact (it_fx hf k).symm
    · next hf =>
      cases k with
      | zero => exact absurd h hf
      | succ k => exact ieF_it n _ k (by omega) h
theorem ieF_congr {st st' : Nat → Int32} (h : ∀ f, f < 6 → st' f = st f) (hs : ∀ f, f < 6 → nv (st f) < 6) : ∀ n t, t < 6 → ieF st' n t = ieF st n t
  | 0, _, _ => rfl
  | n + 1, t, ht => by
    unfold ieF
    rw [h t ht, ieF_congr h hs n _ (hs t ht)]
theorem st6_lt {σ : xS} (o : okP σ) : ∀ f, f < 6 → nv (st6 σ f) < 6 := fun f hf => (o.std hf).2
theorem it_lt6 {st : Nat → Int32} (hs : ∀ f, f < 6 → nv (st f) < 6) : ∀ k t, t < 6 → itF st k t < 6
  | 0, _, h => h
  | k + 1, t, h => it_lt6 hs k _ (hs t h)
theorem it_6 {st : Nat → Int32} (hs : ∀ f, f < 6 → nv (st f) < 6) {t : Nat} (ht : t < 6) : ∀ k, fxF st (itF st k t) → ∃ k', k' ≤ 6 ∧ fxF st (itF st k' t) := by
  intro k
  induction k using Nat.strongRecOn with
  | ind k ih =>
    intro hk
    by_cases hle : k ≤ 6
    · exact ⟨k, hle, hk⟩
    · obtain ⟨i, j, h1, h2, h3⟩ := fb_twice (m := 6) (n := 7) (f := fun i => itF st i t) (fun i _ => it_lt6 hs i t ht) (by decide)
      have h3 : itF st i t = itF st j t := h3
      refine ih (i + (k - j)) (by omega) ?_
      rw [it_add, h3, ← it_add, show j + (k - j) = k by omega]
      exact hk
theorem it_end {st : Nat → Int32} {t k : Nat} (h : fxF st (itF st k t)) {n : Nat} (hn : k ≤ n) : itF st n t = itF st k t := by
  obtain ⟨d, rfl⟩ : ∃ d, n = k + d := ⟨n - k, by omega⟩
  rw [it_add, it_fx h]
theorem en_eq {σ : xS} (h : Jv σ) {t : Nat} (ht : t < 6) : ieF (σ 11 0) 30 t = enP σ 6 t := by
  have hs := st6_lt h.okp
  obtain ⟨k0, hk0⟩ := h.2.1.2.1 t ht
  obtain ⟨k, hk, hf⟩ := it_6 hs ht k0 hk0
  rw [enP_it, it_end hf hk, ieF_congr (st := st6 σ) (fun f hf => (h.2.2.2.2.1 f hf).2) hs 30 t ht]
  exact ieF_it 30 t k (by omega) hf
/-- digits -/
def kB (b : Nat → Bool) (e : Nat → Nat) (D : Nat) : Nat → Nat → Nat → List Nat
  | 0, _, _ => []
  | n + 1, p, q => if D ≤ q then [] else if b p = true then (e p + 1) :: kB b e D n (p + 1) (q + 1) else kB b e D n (p + 1) q
def mnB (b : Nat → Bool) : Nat → Nat → Nat
  | 0, acc => acc
  | j + 1, acc => mnB b j (acc + if b j = true then 1 else 0)
def smB (b : Nat → Bool) (e : Nat → Nat) : Nat → Nat → Int32 → Nat
  | 0, sum, _ => sum
  | j + 1, sum, sk => if b j = true then smB b e j (if sk ≤ 0 then 7 * sum + 1 + e j else 0) (sk + Int32.ofInt (-1)) else smB b e j sum sk
theorem mnP_B {σ : xS} {r : Nat} : ∀ j acc, mnP σ r j acc = mnB (isMt σ r) j acc
  | 0, _ => rfl
  | j + 1, acc => mnP_B j _
theorem smP_B {σ : xS} {r : Nat} : ∀ j sum sk, smP σ r j sum sk = smB (isMt σ r) (fun p => enP σ 6 (nv (frV σ r p))) j sum sk
  | 0, _, _ => rfl
  | j + 1, sum, sk => by
    unfold smP smB
    rw [smP_B j, smP_B j]
def gd (l : List Nat) (p : Nat) : Nat := l.getD p 0
set_option maxHeartbeats 4000000 in
theorem nub (b : Nat → Bool) (e : Nat → Nat) (D : Nat) (h1 : 1 ≤ D) (h4 : D ≤ 4) : (mnB b 4 0 = 0 ↔ gd (kB b e D 4 0 0) 0 = 0) ∧ (0 < mnB b 4 0 → smB b e 4 0 (if mnB b 4 0 ≤ D then nI 0 else nI (mnB b 4 0) - nI D) = gd (kB b e D 4 0 0) 0 + 7 * gd (kB b e D 4 0 0) 1 + 49 * gd (kB b e D 4 0 0) 2 + 343 * gd (kB b e D 4 0 0) 3) := by
  have hD : D = 1 ∨ D = 2 ∨ D = 3 ∨ D = 4 := by omega
  rcases hD with rfl | rfl | rfl | rfl <;> cases h0 : b 0 <;> cases h1 : b 1 <;> cases h2 : b 2 <;> cases h3 : b 3 <;> simp +decide [mnB, smB, kB, gd, h0, h1, h2, h3] <;> omega
theorem kB_le {b : Nat → Bool} {e : Nat → Nat} {D m : Nat} (he : ∀ p, b p = true → e p < m) : ∀ n p q, ∀ x ∈ kB b e D n p q, 1 ≤ x ∧ x ≤ m
  | 0, _, _, _, h => absurd h List.not_mem_nil
  | n + 1, p, q, x, h => by
    unfold kB at h
    split at h
    · exact absurd h List.not_mem_nil
    · split at h
      · next hb =>
        rcases List.mem_cons.mp h with h | h
        · subst h
          have := he p hb
          omega
        · exact kB_le he n _ _ x h
      · exact kB_le he n _ _ x h
theorem gd_le {l : List Nat} {m : Nat} (h : ∀ x ∈ l, 1 ≤ x ∧ x ≤ m) (p : Nat) : gd l p ≤ m := by
  unfold gd
  rw [List.getD_eq_getElem?_getD]
  cases hp : l[p]? with
  | none => exact Nat.zero_le _
  | some x => exact (h x (List.mem_of_getElem? hp)).2
theorem gd_0 {l : List Nat} {m : Nat} (h : ∀ x ∈ l, 1 ≤ x ∧ x ≤ m) (h0 : gd l 0 = 0) (p : Nat) : gd l p = 0 := by
  cases l with
  | nil => rfl
  | cons x l =>
    have h2 : x = 0 := h0
    have := (h x List.mem_cons_self).1
    omega
def dgs (σ : xS) (r : Nat) : List Nat := kB (isMt σ r) (fun p => enP σ 6 (nv (frV σ r p))) (nv (σ 30 0 1)) 4 0 0
theorem isMt_fr {σ : xS} {r p : Nat} (h : isMt σ r p = true) (o : okP σ) (hr : r < 12) : inR (frV σ r p) 6 := by
  unfold isMt at h
  rw [Bool.and_eq_true, decide_eq_true_eq] at h
  exact frV_ge o hr h.1
theorem dgs_le {σ : xS} (h : Jv σ) {r : Nat} (hr : r < nv (σ 3 0 0)) : ∀ x ∈ dgs σ r, 1 ≤ x ∧ x ≤ 6 := by
  have hn := h.n
  exact kB_le (fun p hb => enP_lt h.okp 6 _ (isMt_fr hb h.okp (by omega)).2) 4 0 0
theorem kS_B {σ : xS} (h : Jv σ) {r : Nat} (hr : r < nv (σ 3 0 0)) : ∀ n p q, p + n ≤ 4 → kS (σ 24 r) (σ 10 0) (σ 11 0) (nv (σ 2 0 0)) n p q = (kB (isMt σ r) (fun p => enP σ 6 (nv (frV σ r p))) (nv (σ 30 0 1)) n p q).map (fun d => nI (d - 1))
  | 0, _, _, _ => rfl
  | n + 1, p, q, hp => by
    have hn := h.n
    have hr12 : r < 12 := by omega
    unfold kS kB
    rw [kS_B h hr n (p + 1) q (by omega), kS_B h hr n (p + 1) (q + 1) (by omega), h.2.2.1.2.1]
    by_cases c1 : nv (σ 30 0 1) ≤ q
    · rw [if_pos c1, if_pos c1]; rfl
    · rw [if_neg c1, if_neg c1]
      have ef := fr_eq h hr (show p < 4 by omega)
      rcases frV_rng (p := p) h.okp hr12 with c2 | c2
      · have hb : isMt σ r p = false := by
          unfold isMt
          rw [c2]
          rfl
        rw [← ef, if_pos c2, if_neg (by rw [hb]; decide)]
      · have hne : frV σ r p ≠ -1 := by
          rw [c2.1]
          exact nI_nm1 (by have := c2.2; omega)
        have hl := (h.2.2.2.2.1 (nv (frV σ r p)) c2.2).1
        have hi := (h.okp.ign c2.2).1
        rw [← ef, if_neg hne, hl]
        by_cases c3 : nv (σ 31 0 (8 + nv (frV σ r p))) = 0
        · have hz : σ 31 0 (8 + nv (frV σ r p)) = 0 := by
            rw [hi, c3]
            rfl
          have hb : isMt σ r p = true := by
            unfold isMt
            rw [decide_eq_true (inR_lt0 c2 (by decide)), decide_eq_true c3]
            rfl
          rw [if_neg (fun z => z hz), if_pos hb, List.map_cons, en_eq h c2.2]
          rfl
        · have hz : σ 31 0 (8 + nv (frV σ r p)) ≠ 0 := fun z => c3 (by rw [z]; rfl)
          have hb : isMt σ r p = false := by
            unfold isMt
            rw [decide_eq_false c3, Bool.and_false]
          rw [if_pos hz, if_neg (by rw [hb]; decide)]
theorem dg_row {σ : xS} (h : Jv σ) {r : Nat} (hr : r < nv (σ 3 0 0)) : ∀ p, p < 4 → σ 25 r p + 1 = nI (gd (dgs σ r) p) := by
  intro p hp
  rw [(h.1.2.2.2 r hr).1 p hp]
  unfold kX kV
  rw [kS_B h hr 4 0 0 (by omega)]
  have hl := dgs_le h hr
  unfold dgs at hl ⊢
  generalize kB (isMt σ r) (fun p => enP σ 6 (nv (frV σ r p))) (nv (σ 30 0 1)) 4 0 0 = l at hl
  unfold gd
  rw [List.getD_eq_getElem?_getD, List.getD_eq_getElem?_getD, List.getElem?_map]
  cases hp2 : l[p]? with
  | none => rfl
  | some x =>
    have := hl x (List.mem_of_getElem? hp2)
    show nI (x - 1) + 1 = nI x
    rw [nI_1, show x - 1 + 1 = x by omega]
def nmd (l : List Nat) : Nat := gd l 0 + 7 * gd l 1 + 49 * gd l 2 + 343 * gd l 3
theorem nu_eq {σ : xS} (h : Jv σ) {r : Nat} (hr : r < nv (σ 3 0 0)) : nuP σ r = if gd (dgs σ r) 0 = 0 then -1 - nI 4 * σ 37 0 (4 * r) - nI (nv (σ 35 0 r)) else nI (nmd (dgs σ r)) := by
  have hd := h.okp.dep.2
  obtain ⟨n1, n2⟩ := nub (isMt σ r) (fun p => enP σ 6 (nv (frV σ r p))) (nv (σ 30 0 1)) h.2.1.2.2.1 (by omega)
  have em : myP σ r = mnB (isMt σ r) 4 0 := mnP_B 4 0
  unfold nuP
  by_cases c : gd (dgs σ r) 0 = 0
  · rw [if_pos c, if_neg (by rw [em]; have := n1.mpr c; omega)]
  · have hm : 0 < mnB (isMt σ r) 4 0 := Nat.pos_of_ne_zero (fun z => c (n1.mp z))
    rw [if_neg c, if_pos (by rw [em]; exact hm), smP_B]
    unfold skP
    rw [em, n2 hm]
    rfl
theorem ad0 {σ : xS} (h : Jv σ) {r : Nat} (hr : r < nv (σ 3 0 0)) : ∃ b : Nat, b < 10000 ∧ σ 37 0 (4 * r) = nI b ∧ σ 23 r 0 = nI b := by
  have hn := h.n
  obtain ⟨b, hb, e⟩ := h.1.2.1 r hr
  have e2 := h.2.2.2.2.2.2.2 r 0 (by omega) (by decide)
  rw [Nat.add_zero] at e2
  exact ⟨b, hb, by rw [← e2]; exact e, e⟩
theorem nuN {a b : Nat} {x : Int32} (h : x = -1 - nI 4 * nI a - nI b) : x + nI (4 * a + b) = -1 := by
  have e : nI (4 * a + b) = nI b + nI 4 * nI a := by
    rw [nI_mul, nI_add]
    congr 1
    omega
  rw [e, ← Int32.add_assoc, h, Int32.sub_add_cancel, Int32.sub_add_cancel]
theorem nu_iff {σ : xS} (h : Jv σ) {r o : Nat} (hr : r < nv (σ 3 0 0)) (ho : o < nv (σ 3 0 0)) : σ 18 0 r = σ 18 0 o ↔ nuP σ r = nuP σ o := by
  have hn := h.n
  obtain ⟨b, hb, e1, e2⟩ := ad0 h hr
  obtain ⟨b', hb', e1', e2'⟩ := ad0 h ho
  have v1 := h.okp.ver (show r < 12 by omega)
  have v2 := h.okp.ver (show o < 12 by omega)
  have l1 := dgs_le h hr
  have l2 := dgs_le h ho
  have f1 : σ 12 0 r = nI (nv (σ 35 0 r)) := (h.2.2.2.2.2.2.1 r (by omega)).1.trans v1.1
  have f2 : σ 12 0 o = nI (nv (σ 35 0 o)) := (h.2.2.2.2.2.2.1 o (by omega)).1.trans v2.1
  have key := sg_iff (σ := σ) (r := r) (o := o) (d := gd (dgs σ r)) (d' := gd (dgs σ o)) (dg_row h hr) (dg_row h ho) (fun p _ => Nat.le_trans (gd_le l1 p) (by decide)) (fun p _ => Nat.le_trans (gd_le l2 p) (by decide)) (fun z p _ => gd_0 l1 z p) (fun z p _ => gd_0 l2 z p) v1.2 v2.2 hb hb' f1 f2 e2 e2'
  rw [(h.1.2.2.2 r hr).2.1, (h.1.2.2.2 o ho).2.1, key, nu_eq h hr, nu_eq h ho, e1, e1']
  have q0 := gd_le l1 0; have q1 := gd_le l1 1; have q2 := gd_le l1 2; have q3 := gd_le l1 3
  have p0 := gd_le l2 0; have p1 := gd_le l2 1; have p2 := gd_le l2 2; have p3 := gd_le l2 3
  have z1 := gd_0 l1; have z2 := gd_0 l2
  unfold nmd
  generalize gd (dgs σ r) = d at *
  generalize gd (dgs σ o) = d' at *
  have w1 := v1.2; have w2 := v2.2
  generalize nv (σ 35 0 r) = a at *
  generalize nv (σ 35 0 o) = a' at *
  have hall : (∀ p, p < 4 → d p = d' p) ↔ d 0 = d' 0 ∧ d 1 = d' 1 ∧ d 2 = d' 2 ∧ d 3 = d' 3 := by
    constructor
    · intro z
      exact ⟨z 0 (by decide), z 1 (by decide), z 2 (by decide), z 3 (by decide)⟩
    · rintro ⟨y0, y1, y2, y3⟩ p hp
      rcases (show p = 0 ∨ p = 1 ∨ p = 2 ∨ p = 3 by omega) with rfl | rfl | rfl | rfl <;> assumption
  rw [hall]
  by_cases c1 : d 0 = 0
  · rw [if_pos c1]
    have y1 := z1 c1 1; have y2 := z1 c1 2; have y3 := z1 c1 3
    by_cases c2 : d' 0 = 0
    · rw [if_pos c2]
      have x1 := z2 c2 1; have x2 := z2 c2 2; have x3 := z2 c2 3
      constructor
      · rintro ⟨-, z | ⟨rfl, rfl⟩⟩
        · omega
        · rfl
      · intro e
        have g1 := nuN (rfl : (-1 - nI 4 * nI b - nI a : Int32) = _)
        have g2 := nuN (rfl : (-1 - nI 4 * nI b' - nI a' : Int32) = _)
        rw [e] at g1
        have g3 := (Int32.add_right_inj _).mp (g1.trans g2.symm)
        rw [nI_eq (by omega) (by omega)] at g3
        exact ⟨⟨by omega, by omega, by omega, by omega⟩, Or.inr ⟨by omega, by omega⟩⟩
    · rw [if_neg c2]
      constructor
      · rintro ⟨⟨y0, -⟩, -⟩
        omega
      · intro e
        exfalso
        have g1 := nuN (rfl : (-1 - nI 4 * nI b - nI a : Int32) = _)
        rw [e, nI_add] at g1
        exact nI_nm1 (by omega) g1
  · rw [if_neg c1]
    by_cases c2 : d' 0 = 0
    · rw [if_pos c2]
      constructor
      · rintro ⟨⟨y0, -⟩, -⟩
        omega
      · intro e
        exfalso
        have g1 := nuN (rfl : (-1 - nI 4 * nI b' - nI a' : Int32) = _)
        rw [← e, nI_add] at g1
        exact nI_nm1 (by omega) g1
    · rw [if_neg c2, nI_eq (by omega) (by omega)]
      constructor
      · rintro ⟨⟨y0, y1, y2, y3⟩, -⟩
        rw [y0, y1, y2, y3]
      · intro e
        exact ⟨⟨by omega, by omega, by omega, by omega⟩, Or.inl c1⟩
theorem rs_N {N : Nat} (h : N < 2401) : ∀ p, rsP (nI N) p = nI (N / 7 ^ p)
  | 0 => by
    show nI N = _
    rw [Nat.pow_zero, Nat.div_one]
  | p + 1 => by
    have hp : N / 7 ^ p ≤ N := Nat.div_le_self _ _
    unfold rsP
    rw [rs_N h p, Nat.pow_succ, ← Nat.div_div_eq_div_mul]
    generalize N / 7 ^ p = M at hp
    by_cases c : M = 0
    · rw [if_pos ((nI_le0 (by omega)).mpr c), c]
    · rw [if_neg (fun z => c ((nI_le0 (by omega)).mp z)), pk_div (by omega) (by omega) (by omega)]
theorem rs_neg {x : Int32} (h : x ≤ 0) : ∀ p, rsP x p ≤ 0
  | 0 => h
  | p + 1 => by
    unfold rsP
    rw [if_pos (rs_neg h p)]
    decide
theorem mt_N {N p d : Nat} (h : N < 2401) (hd : N / 7 ^ p % 7 = d) {x : Int32} (hx : x + 1 = nI d) : mtP (nI N) p = x := by
  have ex : x = nI d - nI 1 := by
    rw [← hx]
    exact (Int32.add_sub_cancel x 1).symm
  have hp : N / 7 ^ p ≤ N := Nat.div_le_self _ _
  unfold mtP
  rw [rs_N h p]
  generalize N / 7 ^ p = M at hp hd
  by_cases c : M = 0
  · rw [if_pos ((nI_le0 (by omega)).mpr c), ex, ← hd, c]
    rfl
  · rw [if_neg (fun z => c ((nI_le0 (by omega)).mp z)), pk_div (by omega) (by omega) (by omega), pk_mul, subN (Nat.div_mul_le_self M 7), ex, ← hd]
    congr 2
    omega
theorem nI_nm2 {m : Nat} (h : m < 4294967295) : nI m ≠ -1 := by
  intro e
  have e2 := congrArg (fun z : Int32 => z.toBitVec.toNat) e
  have e3 : (BitVec.ofNat 32 m).toNat = (-1 : Int32).toBitVec.toNat := e2
  rw [BitVec.toNat_ofNat] at e3
  have e4 : (-1 : Int32).toBitVec.toNat = 4294967295 := by decide
  omega
theorem mt_eq {σ : xS} (h : Jv σ) {r p : Nat} (hr : r < nv (σ 3 0 0)) (hp : p < 4) : mtP (nuP σ r) p = σ 25 r p := by
  have hn := h.n
  obtain ⟨b, hb, e1, e2⟩ := ad0 h hr
  have v1 := (h.okp.ver (show r < 12 by omega)).2
  have l1 := dgs_le h hr
  have q0 := gd_le l1 0; have q1 := gd_le l1 1; have q2 := gd_le l1 2; have q3 := gd_le l1 3
  have z1 := gd_0 l1
  have hrow := dg_row h hr p hp
  rw [nu_eq h hr, e1]
  unfold nmd
  generalize gd (dgs σ r) = d at *
  by_cases c : d 0 = 0
  · rw [if_pos c]
    have hx : σ 25 r p = -1 := by
      rw [z1 c p] at hrow
      have e : σ 25 r p + 1 - 1 = nI 0 - 1 := by rw [hrow]
      rw [Int32.add_sub_cancel] at e
      exact e
    have hneg : (-1 - nI 4 * nI b - nI (nv (σ 35 0 r)) : Int32) ≤ 0 := by
      have g := nuN (rfl : (-1 - nI 4 * nI b - nI (nv (σ 35 0 r)) : Int32) = _)
      generalize (-1 - nI 4 * nI b - nI (nv (σ 35 0 r)) : Int32) = x at g
      refine Classical.byContradiction fun hc => ?_
      have hc2 : ¬ x < 0 := fun z => hc (by rw [Int32.le_iff_toInt_le]; rw [Int32.lt_iff_toInt_lt] at z; omega)
      obtain ⟨j, hj, rfl⟩ := nI_of hc2
      rw [nI_add] at g
      exact nI_nm2 (by omega) g
    unfold mtP
    rw [if_pos (rs_neg hneg p), hx]
  · rw [if_neg c]
    refine mt_N (by omega) ?_ hrow
    rcases (show p = 0 ∨ p = 1 ∨ p = 2 ∨ p = 3 by omega) with rfl | rfl | rfl | rfl
    · show _ / 1 % 7 = _; omega
    · show _ / 7 % 7 = _; omega
    · show _ / 49 % 7 = _; omega
    · show _ / 343 % 7 = _; omega

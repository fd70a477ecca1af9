/-! ===== p22's law in my words ===== -/
theorem nI_m1 (n : Nat) : nI n + Int32.ofInt (-1) = nI n - nI 1 := by
  rw [Int32.sub_eq_add_neg]
  rfl
theorem nIs_lt0 {n : Nat} (hn : n < 2 ^ 31) : nI n - nI 1 < 0 ↔ n = 0 := by
  constructor
  · intro h
    rcases Nat.eq_zero_or_pos n with e | e
    · exact e
    · obtain ⟨j, rfl⟩ : ∃ z, n = z + 1 := ⟨n - 1, by omega⟩
      have e2 : nI (j + 1) - nI 1 = nI j := nI_pred j
      rw [e2] at h
      exact absurd h (nI_pos (by omega))
  · rintro rfl
    decide
theorem nI_eq0 {n : Nat} (h : n < 2 ^ 31) : nI n = 0 ↔ n = 0 := by
  have := nI_eq (a := n) (b := 0) h (by decide)
  rw [show (0 : Int32) = nI 0 from rfl, this]
theorem i32_nlt {x y : Int32} (h : y ≤ x) : ¬ x < y := by
  rw [Int32.le_iff_toInt_le] at h
  rw [Int32.lt_iff_toInt_lt]
  omega
theorem i32_lt {x y : Int32} (h : ¬ y ≤ x) : x < y := by
  rw [Int32.le_iff_toInt_le] at h
  rw [Int32.lt_iff_toInt_lt]
  omega
theorem inR_lt0 {x : Int32} {n : Nat} (h : inR x n) (hn : n ≤ 2 ^ 31) : ¬ x < 0 := by
  rw [h.1]
  exact nI_pos (by have := h.2; omega)
section XROWS4
variable {p : Program} {l : Launch} {e : Env} {R : Room} {s : State} {m : MethodId} {args : Array Value} {below : List Frame} {meth : Method} {c : Code} {H : Heap} {locs : List Loc} {cells slots : Nat} {Q : State → Prop}
variable {cc : ByteArray} {pc : Nat} {ls : Array Slot} {rest : List Value}
theorem x_ifeqn (hexec : p.tables.exec = Jvm.exec) (hb : c.code = cc) {x : Nat} {off : Int} {tgt : Nat} (hx : x < 2 ^ 31) (hdg : decode cc pc = .ok (.ifCond .eq off, 3)) (ht : (pc : Int) + off = (tgt : Int))
    (kt : x = 0 → W p l e R s m args below meth c H locs cells slots Q (F0 m tgt ls rest)) (kf : x ≠ 0 → W p l e R s m args below meth c H locs cells slots Q (F0 m (pc + 3) ls rest)) : W p l e R s m args below meth c H locs cells slots Q (F0 m pc ls (.int (nI x) :: rest)) :=
  lv_if_eq hexec hb hdg ht (fun h => kt ((nI_eq0 hx).mp h)) (fun h => kf (fun h2 => h ((nI_eq0 hx).mpr h2)))
theorem x_ifnen (hexec : p.tables.exec = Jvm.exec) (hb : c.code = cc) {x : Nat} {off : Int} {tgt : Nat} (hx : x < 2 ^ 31) (hdg : decode cc pc = .ok (.ifCond .ne off, 3)) (ht : (pc : Int) + off = (tgt : Int))
    (kt : x ≠ 0 → W p l e R s m args below meth c H locs cells slots Q (F0 m tgt ls rest)) (kf : x = 0 → W p l e R s m args below meth c H locs cells slots Q (F0 m (pc + 3) ls rest)) : W p l e R s m args below meth c H locs cells slots Q (F0 m pc ls (.int (nI x) :: rest)) :=
  lv_if_ne hexec hb hdg ht (fun h => kt (fun h2 => h ((nI_eq0 hx).mpr h2))) (fun h => kf ((nI_eq0 hx).mp h))
end XROWS4
/-- low -/
def loI (z : Int32) (n : Nat) : Int32 := (z &&& 2147483647) - (z &&& 2147483647) / nI n * nI n
def loN (z : Int32) (n : Nat) : Nat := nv (loI z n)
theorem andN (x : Int32) (y : Nat) : x &&& nI y = nI (x.toBitVec.toNat &&& y) := by
  apply Int32.toBitVec_inj.mp
  rw [Int32.toBitVec_and]
  show x.toBitVec &&& BitVec.ofNat 32 y = BitVec.ofNat 32 (x.toBitVec.toNat &&& y)
  apply BitVec.eq_of_toNat_eq
  rw [BitVec.toNat_and, BitVec.toNat_ofNat, BitVec.toNat_ofNat, Nat.and_mod_two_pow, Nat.mod_eq_of_lt x.toBitVec.isLt]
theorem low_ex (z : Int32) : ∃ M : Nat, M < 2 ^ 31 ∧ z &&& 2147483647 = nI M := by
  refine ⟨z.toBitVec.toNat &&& 2147483647, ?_, andN z 2147483647⟩
  have : z.toBitVec.toNat &&& 2147483647 ≤ 2147483647 := Nat.and_le_right
  omega
theorem subN {x y : Nat} (h : y ≤ x) : nI x - nI y = nI (x - y) := by
  have e : nI x = nI (x - y) + nI y := by rw [nI_add]; congr 1; omega
  rw [e, Int32.add_sub_cancel]
theorem lo_R (z : Int32) {n : Nat} (h0 : 0 < n) (hn : n < 2 ^ 31) : inR (loI z n) n := by
  obtain ⟨M, hM, e⟩ := low_ex z
  have h1 : M / n * n ≤ M := Nat.div_mul_le_self M n
  have e2 : loI z n = nI (M - M / n * n) := by
    unfold loI
    rw [e, pk_div (by omega) (by omega) (by omega), pk_mul, subN h1]
  rw [e2]
  refine inR_nI ?_ (by omega)
  have h2 := Nat.div_add_mod M n
  have h3 := Nat.mod_lt M h0
  rw [Nat.mul_comm] at h2
  omega
theorem lo_e (z : Int32) {n : Nat} (h0 : 0 < n) (hn : n < 2 ^ 31) : loI z n = nI (loN z n) := (lo_R z h0 hn).1
theorem lo_lt (z : Int32) {n : Nat} (h0 : 0 < n) (hn : n < 2 ^ 31) : loN z n < n := (lo_R z h0 hn).2
abbrev shr (z : Int32) (k : Nat) : Int32 := z >>> (nI k &&& 31)
/-- what the machine needs of the law's arrays -/
def okP (σ : xS) : Prop := inR (σ 30 0 0) 13 ∧ inR (σ 30 0 1) 5 ∧ (∀ v, v < 4 → inR (σ 31 0 v) 7) ∧ (∀ v, v < 4 → inR (σ 31 0 (4 + v)) 1000001) ∧ (∀ f, f < 6 → inR (σ 31 0 (8 + f)) 2) ∧ (∀ f, f < 6 → inR (σ 31 0 (14 + f)) 6) ∧ (∀ k, k < 24 → inR (σ 34 0 k) 6) ∧ (∀ r, r < 12 → inR (σ 35 0 r) 4) ∧ (∀ r, r < 12 → inR (σ 36 0 r) 20) ∧ (∀ r, r < 12 → σ 38 0 r = -1 ∨ inR (σ 38 0 r) 4) ∧ inR (σ 30 0 2) 901
def pB (t : Nat) : Bool := t == 30 || t == 31 || t == 34 || t == 35 || t == 36 || t == 38
theorem okP.ne {σ τ : xS} (o : okP σ) (h : ∀ t i j, pB t = true → τ t i j = σ t i j) : okP τ := by
  obtain ⟨o1, o2, o3, o4, o5, o6, o7, o8, o9, o10, o11⟩ := o
  refine ⟨?_, ?_, fun v hv => ?_, fun v hv => ?_, fun f hf => ?_, fun f hf => ?_, fun k hk => ?_, fun r hr => ?_, fun r hr => ?_, fun r hr => ?_, ?_⟩
  · rw [h 30 0 0 rfl]; exact o1
  · rw [h 30 0 1 rfl]; exact o2
  · rw [h 31 0 _ rfl]; exact o3 v hv
  · rw [h 31 0 _ rfl]; exact o4 v hv
  · rw [h 31 0 _ rfl]; exact o5 f hf
  · rw [h 31 0 _ rfl]; exact o6 f hf
  · rw [h 34 0 _ rfl]; exact o7 k hk
  · rw [h 35 0 _ rfl]; exact o8 r hr
  · rw [h 36 0 _ rfl]; exact o9 r hr
  · rw [h 38 0 _ rfl]; exact o10 r hr
  · rw [h 30 0 2 rfl]; exact o11
theorem okP.n {σ : xS} (o : okP σ) : inR (σ 30 0 0) 13 := o.1
theorem okP.dep {σ : xS} (o : okP σ) : inR (σ 30 0 1) 5 := o.2.1
theorem okP.cnt {σ : xS} (o : okP σ) {v : Nat} (h : v < 4) : inR (σ 31 0 v) 7 := o.2.2.1 v h
theorem okP.ses {σ : xS} (o : okP σ) {v : Nat} (h : v < 4) : inR (σ 31 0 (4 + v)) 1000001 := o.2.2.2.1 v h
theorem okP.ign {σ : xS} (o : okP σ) {f : Nat} (h : f < 6) : inR (σ 31 0 (8 + f)) 2 := o.2.2.2.2.1 f h
theorem okP.std {σ : xS} (o : okP σ) {f : Nat} (h : f < 6) : inR (σ 31 0 (14 + f)) 6 := o.2.2.2.2.2.1 f h
theorem okP.fn {σ : xS} (o : okP σ) {k : Nat} (h : k < 24) : inR (σ 34 0 k) 6 := o.2.2.2.2.2.2.1 k h
theorem okP.ver {σ : xS} (o : okP σ) {r : Nat} (h : r < 12) : inR (σ 35 0 r) 4 := o.2.2.2.2.2.2.2.1 r h
theorem okP.usr {σ : xS} (o : okP σ) {r : Nat} (h : r < 12) : inR (σ 36 0 r) 20 := o.2.2.2.2.2.2.2.2.1 r h
theorem okP.fix {σ : xS} (o : okP σ) {r : Nat} (h : r < 12) : σ 38 0 r = -1 ∨ inR (σ 38 0 r) 4 := o.2.2.2.2.2.2.2.2.2.1 r h
theorem okP.lim {σ : xS} (o : okP σ) : inR (σ 30 0 2) 901 := o.2.2.2.2.2.2.2.2.2.2
/-- frame -/
def frP (σ : xS) (x : Int32) : Nat → Nat → Int32
  | 0, _ => -1
  | c + 1, n => if ¬ x < σ 32 0 n ∧ ¬ σ 33 0 n < x then σ 34 0 n else frP σ x c (n + 1)
def frV (σ : xS) (r p : Nat) : Int32 := frP σ (σ 37 0 (4 * r + p)) (nv (σ 31 0 (nv (σ 35 0 r)))) (6 * nv (σ 35 0 r))
theorem frP_rng {σ : xS} {x : Int32} (o : okP σ) : ∀ c n, n + c ≤ 24 → frP σ x c n = -1 ∨ inR (frP σ x c n) 6
  | 0, _, _ => Or.inl rfl
  | c + 1, n, h => by
    unfold frP
    split
    · exact Or.inr (o.fn (by omega))
    · exact frP_rng o c (n + 1) (by omega)
theorem frV_rng {σ : xS} {r p : Nat} (o : okP σ) (hr : r < 12) : frV σ r p = -1 ∨ inR (frV σ r p) 6 := by
  have h1 := (o.ver hr).2
  have h2 := (o.cnt h1).2
  exact frP_rng o _ _ (by omega)
theorem frV_ge {σ : xS} {r p : Nat} (o : okP σ) (hr : r < 12) (h : ¬ frV σ r p < 0) : inR (frV σ r p) 6 := (frV_rng o hr).resolve_left (fun e => h (by rw [e]; decide))
/-- ends -/
def enP (σ : xS) : Nat → Nat → Nat
  | 0, t => t
  | n + 1, t => enP σ n (nv (σ 31 0 (14 + t)))
theorem enP_lt {σ : xS} (o : okP σ) : ∀ n t, t < 6 → enP σ n t < 6
  | 0, _, h => h
  | n + 1, _, h => enP_lt o n _ (o.std h).2
/-- number -/
def isMt (σ : xS) (r p : Nat) : Bool := decide (¬ frV σ r p < 0) && decide (nv (σ 31 0 (8 + nv (frV σ r p))) = 0)
def mnP (σ : xS) (r : Nat) : Nat → Nat → Nat
  | 0, acc => acc
  | j + 1, acc => mnP σ r j (acc + if isMt σ r j = true then 1 else 0)
def myP (σ : xS) (r : Nat) : Nat := mnP σ r 4 0
def smP (σ : xS) (r : Nat) : Nat → Nat → Int32 → Nat
  | 0, sum, _ => sum
  | j + 1, sum, sk => if isMt σ r j = true then smP σ r j (if sk ≤ 0 then 7 * sum + 1 + enP σ 6 (nv (frV σ r j)) else 0) (sk + Int32.ofInt (-1)) else smP σ r j sum sk
def skP (σ : xS) (r : Nat) : Int32 := if myP σ r ≤ nv (σ 30 0 1) then nI 0 else nI (myP σ r) - nI (nv (σ 30 0 1))
def nuP (σ : xS) (r : Nat) : Int32 := if 0 < myP σ r then nI (smP σ r 4 0 (skP σ r)) else -1 - nI 4 * σ 37 0 (4 * r) - nI (nv (σ 35 0 r))
/-- names -/
def fsP (σ : xS) (r : Nat) : Nat → Nat → Nat
  | 0, k => k
  | n + 1, k => if σ 39 0 k = σ 39 0 r then k else fsP σ r n (k + 1)
def n1P (σ : xS) (n : Nat) : xS := up3 σ 39 0 n (nuP σ n)
def n2P (σ : xS) (n : Nat) : xS := up3 (n1P σ n) 39 0 (12 + n) (nI (fsP (n1P σ n) n n 0))
def nsL (σ : xS) : Nat → xS
  | 0 => σ
  | n + 1 => n2P (nsL σ n) n
def nsS (σ : xS) : xS := nsL σ (nv (σ 30 0 0))
theorem n2P_ne {σ : xS} {n : Nat} (t i j : Nat) (h : t ≠ 39) : n2P σ n t i j = σ t i j := by
  unfold n2P n1P
  rw [up3_ne (fun z => h z.1), up3_ne (fun z => h z.1)]
theorem nsL_ne {σ : xS} : ∀ (n t i j : Nat), t ≠ 39 → nsL σ n t i j = σ t i j
  | 0, _, _, _, _ => rfl
  | n + 1, t, i, j, h => (n2P_ne t i j h).trans (nsL_ne n t i j h)
theorem pB_39 {t : Nat} (h : pB t = true) : t ≠ 39 := fun e => by rw [e] at h; cases h
theorem nsL_ok {σ : xS} {n : Nat} (o : okP σ) : okP (nsL σ n) := o.ne (fun t i j h => nsL_ne n t i j (pB_39 h))
theorem n1P_ok {σ : xS} {n : Nat} (o : okP σ) : okP (n1P σ n) := o.ne (fun t i j h => up3_ne (fun z => pB_39 h z.1))
/-- rate -/
def rcP (σ : xS) (nm v : Nat) : Nat → Nat
  | 0 => 0
  | j + 1 => rcP σ nm v j + (if σ 39 0 (12 + (nm + j)) = nI nm ∧ nv (σ 35 0 (nm + j)) = v then 1 else 0)
theorem rcP_le {σ : xS} {nm v : Nat} : ∀ j, rcP σ nm v j ≤ j
  | 0 => Nat.le_refl _
  | j + 1 => by
    unfold rcP
    have := rcP_le (σ := σ) (nm := nm) (v := v) j
    split <;> omega
def rtP (σ : xS) (nm v : Nat) : Nat := rcP σ nm v (nv (σ 30 0 0) - nm) * 10000 / nv (σ 31 0 (4 + v))
theorem rtP_le {σ : xS} {nm v : Nat} (o : okP σ) : rtP σ nm v ≤ 120000 := by
  have h1 := rcP_le (σ := σ) (nm := nm) (v := v) (nv (σ 30 0 0) - nm)
  have h2 := o.n.2
  unfold rtP
  exact Nat.le_trans (Nat.div_le_self _ _) (by omega)
/-- users -/
def usP (σ : xS) (nm v : Nat) : Nat → Int32
  | 0 => nI 0
  | k + 1 => usP σ nm v k ||| (if σ 39 0 (12 + k) = nI nm ∧ nv (σ 35 0 k) = v then nI 1 <<< (nI (nv (σ 36 0 k)) &&& 31) else nI 0)
def fbP (x : Int32) : Nat → Int32
  | 0 => nI 0
  | n + 1 => fbP x n + ((x >>> (nI n &&& 31)) &&& nI 1)
def ucP (σ : xS) (nm v : Nat) : Int32 := fbP (usP σ nm v (nv (σ 30 0 0))) 20
/-- version -/
def vrP (σ : xS) (v n : Nat) : Nat := if σ 39 0 (12 + n) = nI n then rtP σ n v else 0
def g1P (σ : xS) (v n g : Nat) : Nat := if g = 0 ∧ nv (σ 30 0 2) ≤ vrP σ v n + vrP σ v n then 1 else g
def g2P (σ : xS) (v n g : Nat) : Nat := if σ 39 0 (12 + n) = nI n ∧ nv (σ 30 0 2) ≤ vrP σ v n ∧ 49 < nv (σ 31 0 (4 + v)) ∧ ¬ ucP σ n v ≤ nI 1 then 2 else g1P σ v n g
def veP (σ : xS) (v : Nat) : Nat → Nat → Nat → Int32 → Nat → Nat × Int32
  | 0, _, g, w, _ => (g, w)
  | c + 1, n, g, w, t => veP σ v c (n + 1) (g2P σ v n g) (if t < vrP σ v n then nI n else w) (if t < vrP σ v n then vrP σ v n else t)
def vgP (σ : xS) (v : Nat) : Nat × Int32 := veP σ v (nv (σ 30 0 0)) 0 (if nv (σ 31 0 (4 + v)) < 50 then 1 else 0) (-1) 0
/-- holds -/
def mxP (σ : xS) (r : Nat) : Nat → Nat
  | 0 => 0
  | n + 1 => if mxP σ r n < rtP σ (nv (σ 39 0 (12 + r))) n then rtP σ (nv (σ 39 0 (12 + r))) n else mxP σ r n
theorem mxP_le {σ : xS} {r : Nat} (o : okP σ) : ∀ n, mxP σ r n ≤ 120000
  | 0 => Nat.zero_le _
  | n + 1 => by
    unfold mxP
    split
    · exact rtP_le o
    · exact mxP_le o n
def hlP (σ : xS) (r t : Nat) : Nat → Nat → Int32
  | 0, _ => nI 1
  | c + 1, n => if 0 < nv (σ 31 0 (4 + n)) ∧ t < rtP σ (nv (σ 39 0 (12 + r))) n * 2 then nI 0 else hlP σ r t c (n + 1)
def hoP (σ : xS) (r : Nat) : Int32 := if σ 38 0 r < 0 then -3 else hlP σ r (mxP σ r (nv (σ 38 0 r))) (4 - nv (σ 38 0 r)) (nv (σ 38 0 r))
/-- isSo -/
def rsP (x : Int32) : Nat → Int32
  | 0 => x
  | p + 1 => if rsP x p ≤ 0 then nI 0 else rsP x p / nI 7
def mtP (x : Int32) (p : Nat) : Int32 := if rsP x p ≤ 0 then -1 else (rsP x p - rsP x p / nI 7 * nI 7) - nI 1
def szP (σ : xS) (n : Nat) : Nat → Nat
  | 0 => 0
  | i + 1 => szP σ n i + (if σ 39 0 (12 + i) = σ 39 0 (12 + n) then 1 else 0)
def bkP (σ : xS) : Nat → Nat
  | 0 => 0
  | n + 1 => bkP σ n + (if σ 39 0 (12 + n) = nI n then 1 else 0)
def chB (L : List (Bool × String)) : Bool := L.all (fun q => q.1)
theorem chOk_B : ∀ {L : List (Bool × String)}, chOk L → chB L = true
  | [], _ => rfl
  | (c, e) :: L, h => by
    have h2 : c = true ∧ chOk L := h
    have h3 := chOk_B h2.2
    unfold chB at h3 ⊢
    rw [List.all_cons, h3, h2.1]
    rfl
theorem chB_ok : ∀ {L : List (Bool × String)}, chB L = true → chOk L
  | [], _ => trivial
  | (c, e) :: L, h => by
    unfold chB at h
    rw [List.all_cons, Bool.and_eq_true] at h
    exact ⟨h.1, chB_ok h.2⟩
theorem chEx_B : ∀ {L : List (Bool × String)} {E : String}, chEx L E → chB L = false
  | [], _, h => h.elim
  | (c, e) :: L, E, h => by
    have h2 : (c = false ∧ E = e) ∨ (c = true ∧ chEx L E) := h
    rcases h2 with ⟨rfl, rfl⟩ | ⟨rfl, h3⟩
    · rfl
    · have := chEx_B h3
      unfold chB at this ⊢
      rw [List.all_cons, this]
      rfl
theorem chEx_no {L : List (Bool × String)} {E : String} (h : chOk L) (h2 : chEx L E) : False := by
  have := chEx_B h2
  rw [chOk_B h] at this
  cases this
/-- the class's part of a state from the one, the law's arrays from the other -/
def oM (σ τ : xS) : xS := fun t i => if 30 ≤ t then σ t i else τ t i
theorem oM_self {σ : xS} : oM σ σ = σ := by
  funext t i
  unfold oM
  split <;> rfl
def caV (L : List (Bool × String)) (r : Int32) : Int32 := if chB L = true then r else -3
def caS (L : List (Bool × String)) (σ τ : xS) : xS := if chB L = true then oM σ τ else σ
def hcX (σ : xS) (n : Nat) : Int32 := caV (hoC σ (nI n)) (bI (hoX σ (nv (nI n))))
def IsoA (τ : xS) (n : Nat) : Prop := (∀ p, p < 4 → τ 24 n p = frV τ n p ∧ τ 25 n p = mtP (τ 39 0 n) p) ∧ (τ 19 0 n = τ 39 0 (12 + n) ∧ siL τ (τ 19 0 n) 4 = szP τ n (nv (τ 30 0 0)) ∧ hcX τ n = hoP τ n) ∧ ∀ v, v < 4 → rtX τ (τ 19 0 n) v = rtP τ (nv (τ 39 0 (12 + n))) v ∧ ucX τ (τ 19 0 n) v = ucP τ (nv (τ 39 0 (12 + n))) v
def IsoV (τ : xS) (v : Nat) : Prop := gaX τ v = nI (vgP τ v).1 ∧ woX τ v = (vgP τ v).2
def Iso (τ : xS) : Prop := τ 3 0 0 = τ 30 0 0 ∧ (∀ n, n < nv (τ 30 0 0) → IsoA τ n ∧ inR (τ 39 0 (12 + n)) 12) ∧ (∀ v, v < 4 → IsoV τ v) ∧ buL τ (nv (τ 3 0 0)) = bkP τ (nv (τ 30 0 0))
/-- ranges -/
def rgV (z : Int32) : Nat := loN z 4
def rgF (z : Int32) : Nat := loN (shr z 2) 12 * 10
def rgK (z : Int32) : Nat := if loN (shr z 13) 3 = 0 then 40 else 10
def rgT (z : Int32) : Nat := rgF z + loN (shr z 6) (rgK z)
def rgO (z : Int32) : Nat := loN (shr z 9) 6
def caP (σ : xS) (v x y : Nat) : Nat → Bool
  | 0 => true
  | j + 1 => caP σ v x y j && (decide (nI y < σ 32 0 (6 * v + j)) || decide (σ 33 0 (6 * v + j) < nI x))
def rgC (σ : xS) (z : Int32) : Bool := caP σ (rgV z) (rgF z) (rgT z) (nv (σ 31 0 (rgV z)))
def rgA (σ : xS) (v x y o : Nat) : xS := up3 (up3 (up3 (up3 σ 32 0 (6 * v + nv (σ 31 0 v)) (nI x)) 33 0 (6 * v + nv (σ 31 0 v)) (nI y)) 34 0 (6 * v + nv (σ 31 0 v)) (nI o)) 31 0 v (nI (nv (σ 31 0 v) + 1))
def rgS (σ : xS) (z : Int32) : xS := if rgC σ z = true then rgA σ (rgV z) (rgF z) (rgT z) (rgO z) else σ
def rgL (σ : xS) (z : Int32) : List (Bool × String) := arC (rgS σ z) (nI (rgV z)) (nI (rgF z)) (nI (rgT z)) (nI (rgO z))
def rgN (σ : xS) (z : Int32) : xS := arS (rgS σ z) (nI (rgV z)) (nI (rgF z)) (nI (rgT z)) (nI (rgO z))
def rgE (σ : xS) (z : Int32) : xS := if rgC σ z = true ∧ nv (σ 31 0 (rgV z)) = 6 then σ else caS (rgL σ z) (rgS σ z) (rgN σ z)
/-- rules -/
def ruF (z : Int32) : Nat := loN (shr z 2) 6
def ruB (z : Int32) : Bool := decide (loN (shr z 5) 3 = 0)
def ruO (z : Int32) : Nat := loN (shr z 5) 6
def r0S (σ : xS) (z : Int32) : xS := up3 σ 31 0 (8 + ruF z) (nI (if ruB z = true then 1 else 0))
def r0E (σ : xS) (z : Int32) : xS := oM (r0S σ z) (igS (r0S σ z) (nI (ruF z)) (ruB z))
def atP (σ : xS) (o : Nat) : Nat → Nat
  | 0 => o
  | n + 1 => nv (σ 31 0 (14 + atP σ o n))
theorem atP_lt {σ : xS} {o : Nat} (ok : okP σ) (ho : o < 6) : ∀ n, atP σ o n < 6
  | 0 => ho
  | n + 1 => (ok.std (atP_lt ok ho n)).2
def rdP (σ : xS) (f o : Nat) : Nat → Bool
  | 0 => decide (o ≠ f) && decide (o = f)
  | n + 1 => rdP σ f o n || (decide (o ≠ f) && decide (atP σ o (n + 1) = f))
def r1S (σ : xS) (z : Int32) : xS := up3 σ 31 0 (14 + ruF z) (nI (if rdP σ (ruF z) (ruO z) 6 = true then nv (σ 31 0 (14 + ruF z)) else ruO z))
def r1L (σ : xS) (z : Int32) : List (Bool × String) := sfC (r1S σ z) (nI (ruF z)) (nI (ruO z))
def r1E (σ : xS) (z : Int32) : xS := caS (r1L σ z) (r1S σ z) (sfS (r1S σ z) (nI (ruF z)) (nI (ruO z)))
def r2S (σ : xS) (z : Int32) : xS := up3 σ 30 0 1 (nI (1 + loN (shr z 5) 4))
def r2E (σ : xS) (z : Int32) : xS := oM (r2S σ z) (sdS (r2S σ z) (r2S σ z 30 0 1))
def r3S (σ : xS) (z : Int32) : xS := up3 σ 30 0 2 (nI (1 + loN (shr z 5) 900))
def r3E (σ : xS) (z : Int32) : xS := oM (r3S σ z) (slS (r3S σ z) (r3S σ z 30 0 2))
def ruE (σ : xS) (z : Int32) : xS := if loN z 4 = 0 then r0E σ z else if loN z 4 = 1 then r1E σ z else if loN z 4 = 2 then r2E σ z else r3E σ z
/-- report -/
def rpI (σ : xS) (z : Int32) (n : Nat) : xS := up3 (up3 σ 35 0 n (nI (loN (shr z 2) 4))) 36 0 n (nI (loN (shr z 4) 20))
def rpX (z : Int32) (p : Nat) : Int32 := if p < 1 + loN z 4 then nI (loN (shr z (5 + p)) (if loN (shr z 14) 5 = 0 then 10000 else 130)) else -1
def rpK (σ : xS) (z : Int32) (n : Nat) : Nat → xS
  | 0 => rpI σ z n
  | p + 1 => up3 (rpK σ z n p) 37 0 (4 * n + p) (rpX z p)
def rpQ (σ : xS) (z : Int32) (n : Nat) : xS := up3 (up3 (rpK σ z n 4) 38 0 n (-1)) 30 0 0 (nI (n + 1))
def rpA (τ : xS) (n : Nat) : List (Bool × String) := rpC τ (τ 35 0 n) (τ 36 0 n) (τ 37 0 (4 * n)) (τ 37 0 (4 * n + 1)) (τ 37 0 (4 * n + 2)) (τ 37 0 (4 * n + 3))
def rpN (τ : xS) (n : Nat) : xS := rpS τ (τ 35 0 n) (τ 36 0 n) (τ 37 0 (4 * n)) (τ 37 0 (4 * n + 1)) (τ 37 0 (4 * n + 2)) (τ 37 0 (4 * n + 3))
def rpE (σ : xS) (z : Int32) (n : Nat) : xS := oM (rpQ σ z n) (rpN (rpQ σ z n) n)
/-- setSessions and fix, in the law -/
def seV (z : Int32) : Nat := loN (shr z 4) 4
def seX (z : Int32) : Int32 := nI (loN (shr z 6) (if loN (shr z 13) 4 = 0 then 1000001 else 200))
def seS (σ : xS) (z : Int32) : xS := up3 σ 31 0 (4 + seV z) (seX z)
def seE (σ : xS) (z : Int32) : xS := oM (seS σ z) (ssS (seS σ z) (nI (seV z)) (seS σ z 31 0 (4 + seV z)))
def fiN (σ : xS) (z : Int32) : Nat := loN (shr z 4) (nv (σ 30 0 0))
def fiS (σ : xS) (z : Int32) : xS := up3 σ 38 0 (fiN σ z) (nI (1 + loN (shr z 9) 3))
def fiE (σ : xS) (z : Int32) : xS := oM (fiS σ z) (fxS (fiS σ z) (nI (fiN σ z)) (fiS σ z 38 0 (fiN σ z)))
def RuH (σ : xS) (z : Int32) : Prop := (loN z 4 = 0 → okX (r0S σ z) ∧ okF (r0S σ z) ∧ r0S σ z 10 0 (ruF z) = bI (decide (nv (σ 31 0 (8 + ruF z)) = 1))) ∧ (loN z 4 = 1 → okX (r1S σ z) ∧ okF (r1S σ z) ∧ (∀ E, chEx (r1L σ z) E → E = eIS) ∧ (rdP σ (ruF z) (ruO z) 6 = true → caV (r1L σ z) (r1S σ z 11 0 (nv (nI (ruF z)))) = -3) ∧ (rdP σ (ruF z) (ruO z) 6 = false → caV (r1L σ z) (r1S σ z 11 0 (nv (nI (ruF z)))) = nI (nv (σ 31 0 (14 + ruF z))))) ∧ (loN z 4 = 2 → okX (r2S σ z) ∧ okF (r2S σ z) ∧ chOk (sdC (r2S σ z 30 0 1)) ∧ r2S σ z 2 0 0 = nI (nv (σ 30 0 1))) ∧ (loN z 4 ≠ 0 → loN z 4 ≠ 1 → loN z 4 ≠ 2 → chOk (slC (r3S σ z 30 0 2)) ∧ r3S σ z 0 0 0 = nI (nv (σ 30 0 2)))
theorem rpK_ne {σ : xS} {z : Int32} {n t i j : Nat} (h5 : t ≠ 35) (h6 : t ≠ 36) (h7 : t ≠ 37) : ∀ {q : Nat}, rpK σ z n q t i j = σ t i j
  | 0 => by
    show rpI σ z n t i j = _
    unfold rpI
    rw [up3_ne (fun y => h6 y.1), up3_ne (fun y => h5 y.1)]
  | q + 1 => by
    show up3 (rpK σ z n q) 37 0 (4 * n + q) (rpX z q) t i j = _
    rw [up3_ne (fun y => h7 y.1), rpK_ne h5 h6 h7]

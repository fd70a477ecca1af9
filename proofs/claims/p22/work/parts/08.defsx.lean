/-! ===== the class in my words, loop by loop as it runs ===== -/
/-- a number from 0 below n -/
def inR (x : Int32) (n : Nat) : Prop := x = nI (nv x) ∧ nv x < n
theorem nv_nI {j : Nat} (h : j < 2 ^ 31) : nv (nI j) = j := nI_clamp h
theorem inR_nI {j n : Nat} (h : j < n) (hn : n ≤ 2 ^ 31) : inR (nI j) n := by
  have e := nv_nI (j := j) (by omega)
  exact ⟨by rw [e], by rw [e]; exact h⟩
theorem inR_of {x : Int32} {j n : Nat} (e : x = nI j) (h : j < n) (hn : n ≤ 2 ^ 31) : inR x n := by rw [e]; exact inR_nI h hn
theorem inR.mono {x : Int32} {n m : Nat} (h : inR x n) (hm : n ≤ m) : inR x m := ⟨h.1, Nat.lt_of_lt_of_le h.2 hm⟩
theorem xDj0 {a : xAd} : xDj [] a := fun i j p q h => by simp at h
theorem xP0 {g : xG} {a : xAd} {H : Heap} (σ : xS) : va_P g.1 vwCl (xw [] g a σ) H := fun k q h => by simp [xwf] at h
/-- what the machine needs of a state of the class: every number that is used as a place, a bound or a divisor is in its range -/
def okX (σ : xS) : Prop := inR (σ 3 0 0) 61 ∧ (∀ v, v < 4 → inR (σ 6 0 v) 31) ∧ (∀ r, r < 60 → inR (σ 12 0 r) 4) ∧ (∀ f, f < 30 → inR (σ 11 0 f) 30) ∧ (∀ v, v < 4 → inR (σ 5 0 v) 1000001) ∧ inR (σ 2 0 0) 5 ∧ (∀ r, r < 60 → σ 15 0 r = -1 ∨ inR (σ 15 0 r) 4) ∧ (∀ v, v < 4 → ∀ k, k < 30 → inR (σ 22 v k) 30) ∧ (∀ r, r < 60 → inR (σ 13 0 r) 20) ∧ (∀ f, f < 30 → σ 10 0 f = 0 ∨ σ 10 0 f = 1)
def okF (σ : xS) : Prop := ∀ r, r < 60 → ∀ p, p < 4 → σ 24 r p = -1 ∨ inR (σ 24 r p) 30
/-- the tags that okX speaks of -/
def bT (t : Nat) : Bool := t == 2 || t == 3 || t == 5 || t == 6 || t == 10 || t == 11 || t == 12 || t == 13 || t == 15 || t == 22
theorem okX.congr {σ τ : xS} (h : ∀ t i j, bT t = true → τ t i j = σ t i j) (o : okX σ) : okX τ := by
  obtain ⟨o1, o2, o3, o4, o5, o6, o7, o8, o9, o10⟩ := o
  refine ⟨?_, fun v hv => ?_, fun r hr => ?_, fun f hf => ?_, fun v hv => ?_, ?_, fun r hr => ?_, fun v hv k hk => ?_, fun r hr => ?_, fun f hf => ?_⟩
  · rw [h 3 0 0 rfl]; exact o1
  · rw [h 6 0 v rfl]; exact o2 v hv
  · rw [h 12 0 r rfl]; exact o3 r hr
  · rw [h 11 0 f rfl]; exact o4 f hf
  · rw [h 5 0 v rfl]; exact o5 v hv
  · rw [h 2 0 0 rfl]; exact o6
  · rw [h 15 0 r rfl]; exact o7 r hr
  · rw [h 22 v k rfl]; exact o8 v hv k hk
  · rw [h 13 0 r rfl]; exact o9 r hr
  · rw [h 10 0 f rfl]; exact o10 f hf
theorem okX.n {σ : xS} (o : okX σ) : inR (σ 3 0 0) 61 := o.1
theorem okX.cnt {σ : xS} (o : okX σ) {v : Nat} (h : v < 4) : inR (σ 6 0 v) 31 := o.2.1 v h
theorem okX.ver {σ : xS} (o : okX σ) {r : Nat} (h : r < 60) : inR (σ 12 0 r) 4 := o.2.2.1 r h
theorem okX.std {σ : xS} (o : okX σ) {f : Nat} (h : f < 30) : inR (σ 11 0 f) 30 := o.2.2.2.1 f h
theorem okX.ses {σ : xS} (o : okX σ) {v : Nat} (h : v < 4) : inR (σ 5 0 v) 1000001 := o.2.2.2.2.1 v h
theorem okX.dep {σ : xS} (o : okX σ) : inR (σ 2 0 0) 5 := o.2.2.2.2.2.1
theorem okX.fix {σ : xS} (o : okX σ) {r : Nat} (h : r < 60) : σ 15 0 r = -1 ∨ inR (σ 15 0 r) 4 := o.2.2.2.2.2.2.1 r h
theorem okX.fn {σ : xS} (o : okX σ) {v k : Nat} (h : v < 4) (hk : k < 30) : inR (σ 22 v k) 30 := o.2.2.2.2.2.2.2.1 v h k hk
theorem okX.usr {σ : xS} (o : okX σ) {r : Nat} (h : r < 60) : inR (σ 13 0 r) 20 := o.2.2.2.2.2.2.2.2.1 r h
theorem okX.ign {σ : xS} (o : okX σ) {f : Nat} (h : f < 30) : σ 10 0 f = 0 ∨ σ 10 0 f = 1 := o.2.2.2.2.2.2.2.2.2 f h
def ovlA (σ : xS) (v : Nat) (x y : Int32) : Nat → Nat → Bool
  | 0, _ => false
  | n + 1, k => if ¬ y < σ 20 v k ∧ ¬ σ 21 v k < x then true else ovlA σ v x y n (k + 1)
def fnA (σ : xS) (v : Nat) (x : Int32) : Nat → Nat → Int32
  | 0, _ => -1
  | n + 1, k => if ¬ x < σ 20 v k ∧ ¬ σ 21 v k < x then σ 22 v k else fnA σ v x n (k + 1)
def fnX (σ : xS) (v : Nat) (x : Int32) : Int32 := fnA σ v x (nv (σ 6 0 v)) 0
def addS (σ : xS) (v c : Nat) (x y z : Int32) : xS := up3 (up3 (up3 (up3 σ 20 v c x) 21 v c y) 22 v c z) 6 0 v (nI (c + 1))
def ldA (σ : xS) (f : Nat) : Nat → Nat → Nat
  | 0, t => t
  | n + 1, t => if t = f then t else ldA σ f n (nv (σ 11 0 t))
def ieA (σ : xS) : Nat → Nat → Nat
  | 0, t => t
  | n + 1, t => if nv (σ 11 0 t) = t then t else ieA σ n (nv (σ 11 0 t))
theorem x_end {g : xG} {NL : xNL} {a : xAd} {u : xS} {H : Heap} {t : State} (ht : t.heap = H) (hP : va_P g.1 vwCl (xw NL g a u) H) : va_P g.1 vwCl (xw NL g a u) t.heap := ht ▸ hP
/-- Reports -/
def radS (σ : xS) (n v u : Nat) : xS := up3 (up3 (up3 (up3 σ 12 0 n (nI v)) 13 0 n (nI u)) 15 0 n (-1)) 3 0 0 (nI (n + 1))
def stkS (σ : xS) (n : Nat) (x y z w : Int32) : xS := up3 (up3 (up3 (up3 σ 23 n 0 x) 23 n 1 y) 23 n 2 z) 23 n 3 w
/-- Buckets: a row of frames, place by place -/
def rdL (σ : xS) (r : Nat) : Nat → xS
  | 0 => σ
  | p + 1 => up3 (rdL σ r p) 24 r p (fnX (rdL σ r p) (nv (rdL σ r p 12 0 r)) (rdL σ r p 23 r p))
def rdS (σ : xS) (r : Nat) : xS := rdL σ r 4
theorem rdL_ne {σ : xS} {r : Nat} : ∀ (p t i j : Nat), t ≠ 24 → rdL σ r p t i j = σ t i j
  | 0, _, _, _, _ => rfl
  | p + 1, t, i, j, h => by
    show up3 (rdL σ r p) 24 r p _ t i j = _
    rw [up3_ne (fun z => h z.1)]
    exact rdL_ne p t i j h
theorem okX.ne {σ τ : xS} (o : okX σ) (h : ∀ t i j, bT t = true → τ t i j = σ t i j) : okX τ := okX.congr h o
theorem bT_ne {t u : Nat} (h : bT t = true) (hu : bT u = false) : t ≠ u := fun e => by rw [e, hu] at h; cases h
theorem rdL_ok {σ : xS} {r p : Nat} (o : okX σ) : okX (rdL σ r p) := o.ne (fun t i j h => rdL_ne p t i j (bT_ne h rfl))
def rsL (σ : xS) (v : Nat) : Nat → xS
  | 0 => σ
  | k + 1 => if nv (rsL σ v k 12 0 k) = v then rdS (rsL σ v k) k else rsL σ v k
def rsS (σ : xS) (v : Nat) : xS := rsL σ v (nv (σ 3 0 0))
theorem rsL_ne {σ : xS} {v : Nat} : ∀ (k t i j : Nat), t ≠ 24 → rsL σ v k t i j = σ t i j
  | 0, _, _, _, _ => rfl
  | k + 1, t, i, j, h => by
    unfold rsL
    split
    · exact (rdL_ne 4 t i j h).trans (rsL_ne k t i j h)
    · exact rsL_ne k t i j h
theorem rsL_ok {σ : xS} {v k : Nat} (o : okX σ) : okX (rsL σ v k) := o.ne (fun t i j h => rsL_ne k t i j (bT_ne h rfl))
/-- the frames that matter: the road over the places, then the rest -/
def pkL (r : Nat) : Nat → Nat → Nat → xS → Nat × xS
  | 0, _, q, τ => (q, τ)
  | n + 1, p, q, τ => if nv (τ 2 0 0) ≤ q then (q, τ) else if τ 24 r p = -1 then pkL r n (p + 1) q τ else if τ 10 0 (nv (τ 24 r p)) ≠ 0 then pkL r n (p + 1) q τ else pkL r n (p + 1) (q + 1) (up3 τ 25 r q (nI (ieA τ 30 (nv (τ 24 r p)))))
def flL (r : Nat) : Nat → Nat → xS → xS
  | 0, _, τ => τ
  | n + 1, k, τ => flL r n (k + 1) (up3 τ 25 r k (-1))
def pkS (τ : xS) (r : Nat) : xS := flL r (4 - (pkL r 4 0 0 τ).1) (pkL r 4 0 0 τ).1 (pkL r 4 0 0 τ).2
theorem pkL_ne {r : Nat} : ∀ (n p q : Nat) (τ : xS) (t i j : Nat), t ≠ 25 → (pkL r n p q τ).2 t i j = τ t i j
  | 0, _, _, _, _, _, _, _ => rfl
  | n + 1, p, q, τ, t, i, j, h => by
    unfold pkL
    split
    · rfl
    · split
      · exact pkL_ne n _ _ _ t i j h
      · split
        · exact pkL_ne n _ _ _ t i j h
        · rw [pkL_ne n _ _ _ t i j h, up3_ne (fun z => h z.1)]
theorem flL_ne {r : Nat} : ∀ (n k : Nat) (τ : xS) (t i j : Nat), t ≠ 25 → flL r n k τ t i j = τ t i j
  | 0, _, _, _, _, _, _ => rfl
  | n + 1, k, τ, t, i, j, h => by
    unfold flL
    rw [flL_ne n _ _ t i j h, up3_ne (fun z => h z.1)]
theorem pkS_ne {τ : xS} {r : Nat} (t i j : Nat) (h : t ≠ 25) : pkS τ r t i j = τ t i j := by
  unfold pkS
  rw [flL_ne _ _ _ t i j h, pkL_ne _ _ _ _ t i j h]
theorem pkS_ok {σ : xS} {r : Nat} (o : okX σ) : okX (pkS σ r) := o.ne (fun t i j h => pkS_ne t i j (bT_ne h rfl))
def sgL (τ : xS) (r : Nat) : Nat → Int32
  | 0 => 0
  | p + 1 => sgL τ r p * 31 + τ 25 r p + 1
def sgX (τ : xS) (r : Nat) : Int32 := if sgL τ r 4 ≤ 0 then -1 - τ 12 0 r * 10000 - τ 23 r 0 else sgL τ r 4
def nmA (τ : xS) (r : Nat) : Nat → Nat → Nat
  | 0, k => k
  | n + 1, k => if τ 18 0 k = τ 18 0 r then k else nmA τ r n (k + 1)
def soS (σ : xS) (r : Nat) : xS := up3 (up3 (pkS σ r) 18 0 r (sgX (pkS σ r) r)) 19 0 r (nI (nmA (up3 (pkS σ r) 18 0 r (sgX (pkS σ r) r)) r r 0))
def dT (t : Nat) : Bool := t == 18 || t == 19 || t == 25
theorem soS_ne {σ : xS} {r : Nat} (t i j : Nat) (h : dT t = false) : soS σ r t i j = σ t i j := by
  have h1 : t ≠ 18 ∧ t ≠ 19 ∧ t ≠ 25 := by simp [dT] at h; omega
  unfold soS
  rw [up3_ne (fun z => h1.2.1 z.1), up3_ne (fun z => h1.1 z.1), pkS_ne t i j h1.2.2]
theorem dT_of {t : Nat} (h : bT t = true) : dT t = false := by
  simp [bT] at h
  simp [dT]
  omega
theorem soS_ok {σ : xS} {r : Nat} (o : okX σ) : okX (soS σ r) := o.ne (fun t i j h => soS_ne t i j (dT_of h))
def saL (σ : xS) : Nat → xS
  | 0 => σ
  | k + 1 => soS (saL σ k) k
def saS (σ : xS) : xS := saL σ (nv (σ 3 0 0))
theorem saL_ne {σ : xS} : ∀ (k t i j : Nat), dT t = false → saL σ k t i j = σ t i j
  | 0, _, _, _, _ => rfl
  | k + 1, t, i, j, h => (soS_ne t i j h).trans (saL_ne k t i j h)
theorem saL_ok {σ : xS} {k : Nat} (o : okX σ) : okX (saL σ k) := o.ne (fun t i j h => saL_ne k t i j (dT_of h))
theorem okF.ne {σ τ : xS} (o : okF σ) (h : ∀ i j, τ 24 i j = σ 24 i j) : okF τ := fun r hr p hp => by rw [h]; exact o r hr p hp
theorem saL_okF {σ : xS} {k : Nat} (o : okF σ) : okF (saL σ k) := o.ne (fun i j => saL_ne k 24 i j rfl)
/-- how many reports are of a bucket, in a version -/
def isOfX (σ : xS) (r : Nat) (nm : Int32) (v : Nat) : Bool := decide (σ 19 0 r = nm) && decide (nv (σ 12 0 r) = v)
def ciX (σ : xS) (nm : Int32) (v : Nat) : Nat → Nat
  | 0 => 0
  | k + 1 => ciX σ nm v k + (if isOfX σ k nm v = true then 1 else 0)
theorem ciX_le {σ : xS} {nm : Int32} {v : Nat} : ∀ k, ciX σ nm v k ≤ k
  | 0 => Nat.le_refl _
  | k + 1 => by
    unfold ciX
    have := ciX_le (σ := σ) (nm := nm) (v := v) k
    split <;> omega
def coX (σ : xS) (nm : Int32) (v : Nat) : Nat := ciX σ nm v (nv (σ 3 0 0))
def raX (σ : xS) (nm : Int32) (v : Nat) : Int32 := if σ 5 0 v ≤ 0 then 0 else nI (10000 * coX σ nm v) / σ 5 0 v
def rtX (σ : xS) (nm : Int32) (v : Nat) : Nat := 10000 * coX σ nm v / nv (σ 5 0 v)
theorem nI_le0 {n : Nat} (h : n < 2 ^ 31) : nI n ≤ 0 ↔ n = 0 := by
  have := nI_leI (a := n) (b := 0) h (by decide)
  rw [show (0 : Int32) = nI 0 from rfl, this]
  omega
section XROWS3
variable {p : Program} {l : Launch} {e : Env} {R : Room} {s : State} {m : MethodId} {args : Array Value} {below : List Frame} {meth : Method} {c : Code} {H : Heap} {locs : List Loc} {cells slots : Nat} {Q : State → Prop}
variable {cc : ByteArray} {pc : Nat} {ls : Array Slot} {rest : List Value}
theorem x_ifle (hexec : p.tables.exec = Jvm.exec) (hb : c.code = cc) {x : Nat} {off : Int} {tgt : Nat} (hx : x < 2 ^ 31) (hdg : decode cc pc = .ok (.ifCond .le off, 3)) (ht : (pc : Int) + off = (tgt : Int))
    (kt : x = 0 → W p l e R s m args below meth c H locs cells slots Q (F0 m tgt ls rest)) (kf : 0 < x → W p l e R s m args below meth c H locs cells slots Q (F0 m (pc + 3) ls rest)) : W p l e R s m args below meth c H locs cells slots Q (F0 m pc ls (.int (nI x) :: rest)) :=
  lv_if_le hexec hb hdg ht (fun h => kt ((nI_le0 hx).mp h)) (fun h => kf (Nat.pos_of_ne_zero (fun h2 => h ((nI_le0 hx).mpr h2))))
end XROWS3
def ibX (v n : Int32) : Bool := decide (¬ v < 0) && decide (¬ n ≤ v)
def usX (σ : xS) (nm : Int32) (v : Nat) : Nat → Int32
  | 0 => 0
  | k + 1 => if isOfX σ k nm v = true then usX σ nm v k ||| (nI 1 <<< (nI (nv (σ 13 0 k)) &&& 31)) else usX σ nm v k
def grX (σ : xS) (nm : Int32) : Nat → Nat
  | 0 => 0
  | k + 1 => if grX σ nm k < rtX σ nm k then rtX σ nm k else grX σ nm k
theorem coX_le {σ : xS} {nm : Int32} {v : Nat} (o : okX σ) : coX σ nm v ≤ 60 := by
  have h1 := ciX_le (σ := σ) (nm := nm) (v := v) (nv (σ 3 0 0))
  have h2 := o.n.2
  unfold coX
  omega
theorem rtX_le {σ : xS} {nm : Int32} {v : Nat} (o : okX σ) : rtX σ nm v ≤ 600000 := by
  have h1 := coX_le (nm := nm) (v := v) o
  unfold rtX
  exact Nat.le_trans (Nat.div_le_self _ _) (by omega)
theorem grX_le {σ : xS} {nm : Int32} (o : okX σ) : ∀ k, grX σ nm k ≤ 600000
  | 0 => Nat.zero_le _
  | k + 1 => by
    unfold grX
    split
    · exact rtX_le o
    · exact grX_le o k
def ush (x k : Int32) : Int32 := (x.toUInt32 >>> (k.toUInt32 &&& Int32.toUInt32 31)).toInt32
def bc1 (x : Int32) : Int32 := x - (ush x (nI 1) &&& 1431655765)
def bc2 (x : Int32) : Int32 := (x &&& 858993459) + (ush x (nI 2) &&& 858993459)
def bc3 (x : Int32) : Int32 := (x + ush x (nI 4)) &&& 252645135
def bc4 (x : Int32) : Int32 := x + ush x (nI 8)
def bc5 (x : Int32) : Int32 := x + ush x (nI 16)
def bcX (x : Int32) : Int32 := bc5 (bc4 (bc3 (bc2 (bc1 x)))) &&& nI 63
def ucX (σ : xS) (nm : Int32) (v : Nat) : Int32 := bcX (usX σ nm v (nv (σ 3 0 0)))
theorem mx_nI {a b : Nat} (ha : a < 2 ^ 31) (hb : b < 2 ^ 31) : (if nI a < nI b then nI b else nI a) = nI (if a < b then b else a) := by
  by_cases h : a < b
  · rw [if_pos h, if_pos ((nI_ltI ha hb).mpr h)]
  · rw [if_neg h, if_neg (fun z => h ((nI_ltI ha hb).mp z))]
def mfX (x y : Int32) : Bool := decide (y = -1) || (decide (¬ x = -1) && ibX y (nI 10000))

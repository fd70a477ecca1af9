/-! ===== the reference's face in my words ===== -/
theorem m0_ac {τ : xS} (o : acM τ) : acM (m0 τ) := o
theorem nI_eq0 {n : Nat} (h : n < 2 ^ 31) : nI n = 0 ↔ n = 0 := by
  have := nI_eq (a := n) (b := 0) h (by decide)
  rw [show (0 : Int32) = nI 0 from rfl, this]
theorem i32_nlt {x y : Int32} (h : y ≤ x) : ¬ x < y := by
  rw [Int32.le_iff_toInt_le] at h
  rw [Int32.lt_iff_toInt_lt]
  omega
theorem i32_lt {x y : Int32} (h : ¬ y ≤ x) : x < y := by
  rw [Int32.le_iff_toInt_le] at h
  rw [Int32.lt_iff_toInt_lt]
  omega
section XROWS4
variable {p : Program} {l : Launch} {e : Env} {R : Room} {s : State} {m : MethodId} {args : Array Value} {below : List Frame} {meth : Method} {c : Code} {H : Heap} {locs : List Loc} {cells slots : Nat} {Q : State → Prop}
variable {cc : ByteArray} {pc : Nat} {ls : Array Slot} {rest : List Value}
theorem x_ifeqn (hexec : p.tables.exec = Jvm.exec) (hb : c.code = cc) {x : Nat} {off : Int} {tgt : Nat} (hx : x < 2 ^ 31) (hdg : decode cc pc = .ok (.ifCond .eq off, 3)) (ht : (pc : Int) + off = (tgt : Int))
    (kt : x = 0 → W p l e R s m args below meth c H locs cells slots Q (F0 m tgt ls rest)) (kf : x ≠ 0 → W p l e R s m args below meth c H locs cells slots Q (F0 m (pc + 3) ls rest)) : W p l e R s m args below meth c H locs cells slots Q (F0 m pc ls (.int (nI x) :: rest)) :=
  lv_if_eq hexec hb hdg ht (fun h => kt ((nI_eq0 hx).mp h)) (fun h => kf (fun h2 => h ((nI_eq0 hx).mpr h2)))
theorem x_ifnen (hexec : p.tables.exec = Jvm.exec) (hb : c.code = cc) {x : Nat} {off : Int} {tgt : Nat} (hx : x < 2 ^ 31) (hdg : decode cc pc = .ok (.ifCond .ne off, 3)) (ht : (pc : Int) + off = (tgt : Int))
    (kt : x ≠ 0 → W p l e R s m args below meth c H locs cells slots Q (F0 m tgt ls rest)) (kf : x = 0 → W p l e R s m args below meth c H locs cells slots Q (F0 m (pc + 3) ls rest)) : W p l e R s m args below meth c H locs cells slots Q (F0 m pc ls (.int (nI x) :: rest)) :=
  lv_if_ne hexec hb hdg ht (fun h => kt (fun h2 => h ((nI_eq0 hx).mpr h2))) (fun h => kf ((nI_eq0 hx).mp h))
end XROWS4
def nm0 (τ : xS) : xS := naS (m0 τ)
theorem nm0_ok {τ : xS} (o : okM τ) : okM (nm0 τ) := naS_ok (m0_ok o)
def bkMS (τ : xS) (r : Int32) : xS := if irM (m0 τ) r = true then nm0 τ else mF τ 1
def bkMV (τ : xS) (r : Int32) : Int32 := if irM (m0 τ) r = true then nm0 τ 42 0 (nv r) else nI 0
def bsMV (τ : xS) : Int32 := nI (bkL (nm0 τ) (nv (nm0 τ 30 0 2)))
def szMV (τ : xS) (r : Int32) : Int32 := if irM (m0 τ) r = true then nI (szL (nm0 τ) (nm0 τ 42 0 (nv r)) (nv (nm0 τ 30 0 2))) else nI 0
def ssB (v n : Int32) : Bool := verM v && inX n (nI 0) 1000000
def ssMS (τ : xS) (v n : Int32) : xS := if ssB v n = true then up3 (m0 τ) 41 0 (nv v) n else mF τ 1
def ssMV (τ : xS) (v n : Int32) : Int32 := if ssB v n = true then τ 41 0 (nv v) else nI 0
def slMS (τ : xS) (n : Int32) : xS := if inX n (nI 1) (nI 10000) = true then up3 (m0 τ) 30 0 3 n else mF τ 1
def slMV (τ : xS) (n : Int32) : Int32 := if inX n (nI 1) (nI 10000) = true then τ 30 0 3 else nI 0
def rtMS (τ : xS) (r v : Int32) : xS := if irM (m0 τ) r = true then (if verM v = true then nm0 τ else mF τ 2) else mF τ 1
def rtMV (τ : xS) (r v : Int32) : Int32 := if irM (m0 τ) r = true then (if verM v = true then nI (rtM (nm0 τ) (nm0 τ 42 0 (nv r)) (nv v)) else nI 0) else nI 0
def usMS (τ : xS) (r v : Int32) : xS := if irM (m0 τ) r = true then (if verM v = true then (umX (nm0 τ) (nm0 τ 42 0 (nv r)) (nv v)).2 else mF τ 2) else mF τ 1
def usMV (τ : xS) (r v : Int32) : Int32 := if irM (m0 τ) r = true then (if verM v = true then nI (umX (nm0 τ) (nm0 τ 42 0 (nv r)) (nv v)).1 else nI 0) else nI 0
def gaMS (τ : xS) (v : Int32) : xS := if verM v = true then (gmX (nm0 τ) (nv v)).2 else mF τ 1
def gaMV (τ : xS) (v : Int32) : Int32 := if verM v = true then gmV (gmX (nm0 τ) (nv v)) else nI 0
def woMS (τ : xS) (v : Int32) : xS := if verM v = true then nm0 τ else mF τ 1
def woMV (τ : xS) (v : Int32) : Int32 := if verM v = true then wmX (nm0 τ) (nv v) else nI 0
def fxMS (τ : xS) (r v : Int32) : xS := if irM (m0 τ) r = true then (if inX v (nI 1) (nI 3) = true then up3 (m0 τ) 40 0 (nv r) v else mF τ 2) else mF τ 1
def fxMV (τ : xS) (r v : Int32) : Int32 := if irM (m0 τ) r = true then (if inX v (nI 1) (nI 3) = true then τ 40 0 (nv r) else nI 0) else nI 0
def frMS (τ : xS) (r q : Int32) : xS := if irM (m0 τ) r = true then (if inX q (nI 0) (nI 3) = true then m0 τ else mF τ 2) else mF τ 1
def frMV (τ : xS) (r q : Int32) : Int32 := if irM (m0 τ) r = true then (if inX q (nI 0) (nI 3) = true then frM (m0 τ) (nv r) (nv q) else nI 0) else nI 0
def maMS (τ : xS) (r q : Int32) : xS := if irM (m0 τ) r = true then (if inX q (nI 0) (nI 3) = true then kyS (m0 τ) (nv r) else mF τ 2) else mF τ 1
def maMV (τ : xS) (r q : Int32) : Int32 := if irM (m0 τ) r = true then (if inX q (nI 0) (nI 3) = true then kyS (m0 τ) (nv r) 43 0 (4 * nv r + nv q) else nI 0) else nI 0
def hoK (τ : xS) (r : Int32) : Nat := if irM τ r = true then (if τ 40 0 (nv r) = -1 then 2 else 0) else 1
def hoMS (τ : xS) (r : Int32) : xS := if hoK τ r = 0 then naS (up3 τ 30 0 0 (nI (hoK τ r))) else up3 τ 30 0 0 (nI (hoK τ r))
def hoMV (τ : xS) (r : Int32) : Bool := if hoK τ r = 0 then hmX (naS (up3 τ 30 0 0 (nI (hoK τ r)))) (nv r) else false
theorem ovM_of (τ : xS) (v : Nat) (x y : Int32) (b : Bool) (hb : b = true) : ∀ j, ovM τ v x y b j = true
  | 0 => hb
  | j + 1 => by
    unfold ovM
    rw [ovM_of τ v x y b hb j]
    rfl
theorem up44_ok {τ : xS} {k : Nat} {x : Int32} (o : okM τ) : okM (up3 τ 44 0 k x) := o.ne (fun t i j h => up3_ne (fun z => mB_ne h (u := 44) (fun _ => rfl) z.1))
theorem umL_step {nm : Int32} {v k t : Nat} {τ β : xS} (h : (t, τ) = umL nm v k (0, β)) : (t + (if itM τ nm v k = true ∧ τ 44 0 (nv (τ 38 0 k)) = 0 then 1 else 0), up3 τ 44 0 (nv (τ 38 0 k)) (bI (!decide (τ 44 0 (nv (τ 38 0 k)) = 0) || itM τ nm v k))) = umL nm v (k + 1) (0, β) := by
  show _ = u1M nm v k (umL nm v k (0, β))
  rw [← h]
  rfl
theorem nm0_n {τ : xS} : nv (nm0 τ 30 0 2) = nv (m0 τ 30 0 2) := congrArg nv (naL_ne _ 30 0 2 (by decide) (by decide))
theorem umX_le {τ : xS} {nm : Int32} {v : Nat} (o : okM τ) : (umX τ nm v).1 ≤ 60 := by
  have h1 := umL_le (nm := nm) (v := v) (nv (τ 30 0 2)) (0, s0L τ 20)
  have h2 := o.n.2
  have h3 : (umX τ nm v).1 ≤ 0 + nv (τ 30 0 2) := h1
  omega
theorem wm_step {υ : xS} {v n k t : Nat} {w : Int32} : wmL υ v n (k + 1) (if t < (if υ 42 0 k = nI k then rtM υ (nI k) v else 0) then nI k else w) (if t < (if υ 42 0 k = nI k then rtM υ (nI k) v else 0) then (if υ 42 0 k = nI k then rtM υ (nI k) v else 0) else t) = if υ 42 0 k = nI k ∧ t < rtM υ (nI k) v then wmL υ v n (k + 1) (nI k) (rtM υ (nI k) v) else wmL υ v n (k + 1) w t := by
  by_cases h : υ 42 0 k = nI k
  · simp only [if_pos h]
    by_cases h2 : t < rtM υ (nI k) v
    · rw [if_pos h2, if_pos h2, if_pos ⟨h, h2⟩]
    · rw [if_neg h2, if_neg h2, if_neg (fun z => h2 z.2)]
  · simp only [if_neg h]
    rw [if_neg (Nat.not_lt_zero _), if_neg (Nat.not_lt_zero _), if_neg (fun z => h z.1)]

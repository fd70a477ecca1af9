section XROWS
variable {p : Program} {l : Launch} {e : Env} {R : Room} {s : State} {m : MethodId} {args : Array Value} {below : List Frame} {meth : Method} {c : Code} {H : Heap} {locs : List Loc} {cells slots : Nat} {Q : State → Prop}
variable {cc : ByteArray} {pc nL : Nat} {ls : Array Slot} {rest : List Value} {Ts : List Cond} {own : String} {NL : xNL} {g : xG} {a : xAd} {A : Nat → Prop} {σ : xS}
theorem xC.hx (C0 : xC p s m args c cc nL Ts own NL g a A) : p.tables.exec = Jvm.exec := C0.1.1
theorem xC.hb (C0 : xC p s m args c cc nL Ts own NL g a A) : c.code = cc := C0.1.2.1
theorem xC.hts (C0 : xC p s m args c cc nL Ts own NL g a A) : ∀ w ∈ Ts, w.before args s = true := C0.1.2.2.2.2
theorem xC.hK (C0 : xC p s m args c cc nL Ts own NL g a A) : va_K g.1 vwCl (xT g) s := C0.2.1
theorem xC.hD (C0 : xC p s m args c cc nL Ts own NL g a A) (σ : xS) : va_D A (xw NL g a σ) := xwf_D C0.2.2.2.1 C0.2.2.2.2.1
/-- a field is read -/
theorem x_get (C0 : xC p s m args c cc nL Ts own NL g a A) (hP : va_P g.1 vwCl (xw NL g a σ) H) (t : Nat) {i : Nat} (hm : (t, i) ∈ NL) {ci N : Nat} {T : u_T} {C : String} {fs : List Value} (he : xB g a t (σ t i) = .inr (ci, fs)) (hc : vwCl[ci]? = some (C, T, N)) (k : Nat) (hk : k < N) (hin : ∀ w ∈ u_ws C T N, w ∈ Ts) {index : Nat} (hlink : Cond.fieldLink own index C (T k).2.1 (T k).2.2.1 ∈ Ts) (hdecl : (T k).1 = C) {v : Value} (hv : fs[k]? = some v) (hdg : decode cc pc = .ok (.getfield index, 3))
    (kk : W p l e R s m args below meth c H locs cells slots Q (F0 m (pc + 3) ls (v :: rest))) : W p l e R s m args below meth c H locs cells slots Q (F0 m pc ls (.ref (a t i) :: rest)) := by
  obtain ⟨q0, -, h2⟩ := xwf_get (xB g a) a σ hm
  rw [he] at h2
  exact va_get C0.hx C0.hb C0.hts hin C0.1.2.2.2.1 C0.hK hP q0 h2 hc k hk (C0.hts _ hlink) (fun x h => by rw [hdecl] at h; exact h) hv hdg kk
theorem x_getN (C0 : xC p s m args c cc nL Ts own NL g a A) (hP : va_P g.1 vwCl (xw NL g a σ) H) (t : Nat) {i : Nat} (hm : (t, i) ∈ NL) {ci N : Nat} {T : u_T} {C : String} {fs : List Value} (he : xB g a t (σ t i) = .inr (ci, fs)) (hc : vwCl[ci]? = some (C, T, N)) (k : Nat) (hk : k < N) (hin : ∀ w ∈ u_ws C T N, w ∈ Ts) {index : Nat} (hlink : Cond.fieldLinkNest own index C (T k).2.1 (T k).2.2.1 RX4 ∈ xNs) (hdecl : (T k).1 = C) {v : Value} (hv : fs[k]? = some v) (hdg : decode cc pc = .ok (.getfield index, 3))
    (kk : W p l e R s m args below meth c H locs cells slots Q (F0 m (pc + 3) ls (v :: rest))) : W p l e R s m args below meth c H locs cells slots Q (F0 m pc ls (.ref (a t i) :: rest)) := by
  obtain ⟨q0, -, h2⟩ := xwf_get (xB g a) a σ hm
  rw [he] at h2
  exact va_getN C0.hx C0.hb C0.hts hin C0.1.2.2.2.1 C0.hK hP q0 h2 hc k hk (va_Nw.use rfl (C0.2.2.1.1 _ hlink)) (fun x h => by rw [hdecl] at h; exact h) hv hdg kk
/-- an int field is written -/
theorem x_put (C0 : xC p s m args c cc nL Ts own NL g a A) (hP : va_P g.1 vwCl (xw NL g a σ) H) (hS : va_S A s.heap H locs) (t : Nat) {i : Nat} (hm : (t, i) ∈ NL) {ci N : Nat} {T : u_T} {C : String} {fs : List Value} (he : xB g a t (σ t i) = .inr (ci, fs)) (hc : vwCl[ci]? = some (C, T, N)) (ty0 : Nat → FieldType) (hty : ∀ k, k < N → parseFieldDescriptor (T k).2.2.1 = some (ty0 k)) (hnm : ∀ a, a < N → ∀ b, b < N → a ≠ b → (T a).2.1 ≠ (T b).2.1) (k : Nat) (hk : k < N) (hin : ∀ w ∈ u_ws C T N, w ∈ Ts) {index : Nat} (hlink : Cond.fieldLink own index C (T k).2.1 (T k).2.2.1 ∈ Ts) (hdecl : (T k).1 = C) (hfin : (T k).2.2.2 = false) (j : Nat) {v : Int32} (hd : parseFieldDescriptor (T k).2.2.1 = some .int) (hl : k < fs.length) (hup : (.inr (ci, fs.set k (.int v)) : va_E) = xB g a t (upd (σ t i) j v)) (hdg : decode cc pc = .ok (.putfield index, 3))
    (kk : ∀ (H1 : Heap) (locs1 : List Loc), va_P g.1 vwCl (xw NL g a (up3 σ t i j v)) H1 → va_S A s.heap H1 locs1 → W p l e R s m args below meth c H1 locs1 cells slots Q (F0 m (pc + 3) ls rest)) : W p l e R s m args below meth c H locs cells slots Q (F0 m pc ls (.int v :: .ref (a t i) :: rest)) := by
  obtain ⟨q0, h1, h2⟩ := xwf_get (xB g a) a σ hm
  rw [he] at h2
  refine va_put C0.hx C0.hb C0.hts hin ty0 hty hnm C0.1.2.2.2.1 C0.hK hP (C0.hD σ) hS q0 h2 hc k hk (C0.hts _ hlink) (fun x h => by rw [hdecl] at h; exact h) hfin hd rfl rfl hl hdg (fun H1 locs1 q1 q2 q3 => ?_)
  rw [hup, xwf_set C0.2.2.2.1 h1] at q1
  exact kk H1 locs1 q1 q3
theorem x_putN (C0 : xC p s m args c cc nL Ts own NL g a A) (hP : va_P g.1 vwCl (xw NL g a σ) H) (hS : va_S A s.heap H locs) (t : Nat) {i : Nat} (hm : (t, i) ∈ NL) {ci N : Nat} {T : u_T} {C : String} {fs : List Value} (he : xB g a t (σ t i) = .inr (ci, fs)) (hc : vwCl[ci]? = some (C, T, N)) (ty0 : Nat → FieldType) (hty : ∀ k, k < N → parseFieldDescriptor (T k).2.2.1 = some (ty0 k)) (hnm : ∀ a, a < N → ∀ b, b < N → a ≠ b → (T a).2.1 ≠ (T b).2.1) (k : Nat) (hk : k < N) (hin : ∀ w ∈ u_ws C T N, w ∈ Ts) {index : Nat} (hlink : Cond.fieldLinkNest own index C (T k).2.1 (T k).2.2.1 RX4 ∈ xNs) (hdecl : (T k).1 = C) (hfin : (T k).2.2.2 = false) (j : Nat) {v : Int32} (hd : parseFieldDescriptor (T k).2.2.1 = some .int) (hl : k < fs.length) (hup : (.inr (ci, fs.set k (.int v)) : va_E) = xB g a t (upd (σ t i) j v)) (hdg : decode cc pc = .ok (.putfield index, 3))
    (kk : ∀ (H1 : Heap) (locs1 : List Loc), va_P g.1 vwCl (xw NL g a (up3 σ t i j v)) H1 → va_S A s.heap H1 locs1 → W p l e R s m args below meth c H1 locs1 cells slots Q (F0 m (pc + 3) ls rest)) : W p l e R s m args below meth c H locs cells slots Q (F0 m pc ls (.int v :: .ref (a t i) :: rest)) := by
  obtain ⟨q0, h1, h2⟩ := xwf_get (xB g a) a σ hm
  rw [he] at h2
  refine va_putN C0.hx C0.hb C0.hts hin ty0 hty hnm C0.1.2.2.2.1 C0.hK hP (C0.hD σ) hS q0 h2 hc k hk (va_Nw.use rfl (C0.2.2.1.1 _ hlink)) (fun x h => by rw [hdecl] at h; exact h) hfin hd rfl rfl hl hdg (fun H1 locs1 q1 q2 q3 => ?_)
  rw [hup, xwf_set C0.2.2.2.1 h1] at q1
  exact kk H1 locs1 q1 q3
theorem x_vpin {j n : Nat} (hj : j < n) (hn : n < 2 ^ 31) : vp_in (nI j) n := vp_in_nI hj hn
/-- a place of an array of ints, by its number -/
theorem x_iald (C0 : xC p s m args c cc nL Ts own NL g a A) (hP : va_P g.1 vwCl (xw NL g a σ) H) (t : Nat) {i : Nat} (j n : Nat) (hm : (t, i) ∈ NL) (he : xB g a t (σ t i) = xIa g n (σ t i)) (hj : j < n) (hn : n < 2 ^ 31) (hdg : decode cc pc = .ok (.iaload, 1))
    (kk : W p l e R s m args below meth c H locs cells slots Q (F0 m (pc + 1) ls (.int (σ t i j) :: rest))) : W p l e R s m args below meth c H locs cells slots Q (F0 m pc ls (.int (nI j) :: .ref (a t i) :: rest)) := by
  obtain ⟨q0, -, h2⟩ := xwf_get (xB g a) a σ hm
  rw [he] at h2
  refine va_iald C0.hx C0.hb C0.hK hP q0 0 h2 rfl (x_vpin hj hn) hdg ?_
  rw [nI_clamp (Nat.lt_trans hj hn)]
  exact kk
theorem x_zald (C0 : xC p s m args c cc nL Ts own NL g a A) (hP : va_P g.1 vwCl (xw NL g a σ) H) (t : Nat) {i : Nat} (j n : Nat) (hm : (t, i) ∈ NL) (he : xB g a t (σ t i) = xZa g n (σ t i)) (hj : j < n) (hn : n < 2 ^ 31) (hdg : decode cc pc = .ok (.baload, 1))
    (kk : W p l e R s m args below meth c H locs cells slots Q (F0 m (pc + 1) ls (.int (σ t i j) :: rest))) : W p l e R s m args below meth c H locs cells slots Q (F0 m pc ls (.int (nI j) :: .ref (a t i) :: rest)) := by
  obtain ⟨q0, -, h2⟩ := xwf_get (xB g a) a σ hm
  rw [he] at h2
  refine va_zald C0.hx C0.hb C0.hK hP q0 1 h2 rfl (x_vpin hj hn) hdg ?_
  rw [nI_clamp (Nat.lt_trans hj hn)]
  exact kk
/-- a row of an array of arrays -/
theorem x_aald (C0 : xC p s m args c cc nL Ts own NL g a A) (hP : va_P g.1 vwCl (xw NL g a σ) H) (t : Nat) {i : Nat} (j n u : Nat) (hm : (t, i) ∈ NL) (he : xB g a t (σ t i) = xRa g n (a u)) (hj : j < n) (hn : n < 2 ^ 31) (hdg : decode cc pc = .ok (.aaload, 1))
    (kk : W p l e R s m args below meth c H locs cells slots Q (F0 m (pc + 1) ls (.ref (a u j) :: rest))) : W p l e R s m args below meth c H locs cells slots Q (F0 m pc ls (.int (nI j) :: .ref (a t i) :: rest)) := by
  obtain ⟨q0, -, h2⟩ := xwf_get (xB g a) a σ hm
  rw [he] at h2
  have hin := x_vpin hj hn
  have hcl : (nI j).toNatClampNeg = j := nI_clamp (Nat.lt_trans hj hn)
  have hlt : (nI j).toNatClampNeg < n := by rw [hcl]; exact hj
  exact W.aald (v := .ref (a u j)) (ty := .array .int) C0.hx C0.hb (hP q0 _ h2) ((C0.hK.2 2 _ rfl).1 n (fun j => va_rf (some (a u j)))) rfl (fun q => by cases q) (by show ¬ (nI j < 0 ∨ (arrV _ _ _).slots.size ≤ _); rw [arrV_size]; exact hin) (by show (arrV _ _ _).slots[_]? = _; rw [arrV_read _ _ hlt, hcl]; rfl) rfl rfl hdg kk
theorem x_iast (C0 : xC p s m args c cc nL Ts own NL g a A) (hP : va_P g.1 vwCl (xw NL g a σ) H) (hS : va_S A s.heap H locs) (t : Nat) {i : Nat} (j n : Nat) {v : Int32} (hm : (t, i) ∈ NL) (he : ∀ r, xB g a t r = xIa g n r) (hj : j < n) (hn : n < 2 ^ 31) (hdg : decode cc pc = .ok (.iastore, 1))
    (kk : ∀ (H1 : Heap) (locs1 : List Loc), va_P g.1 vwCl (xw NL g a (up3 σ t i j v)) H1 → va_S A s.heap H1 locs1 → W p l e R s m args below meth c H1 locs1 cells slots Q (F0 m (pc + 1) ls rest)) : W p l e R s m args below meth c H locs cells slots Q (F0 m pc ls (.int v :: .int (nI j) :: .ref (a t i) :: rest)) := by
  obtain ⟨q0, h1, h2⟩ := xwf_get (xB g a) a σ hm
  rw [he] at h2
  refine va_iast C0.hx C0.hb C0.hK hP (C0.hD σ) hS q0 0 h2 rfl (x_vpin hj hn) hdg (fun H1 locs1 q1 q2 q3 => ?_)
  rw [nI_clamp (Nat.lt_trans hj hn)] at q1
  have e9 : (Sum.inl (g.2.1, n, Sum.inl (upd (σ t i) j v)) : va_E) = xB g a t (upd (σ t i) j v) := (he _).symm
  first
    | rw [e9, xwf_set C0.2.2.2.1 h1] at q1
      exact kk H1 locs1 q1 q3
    | (have e8 : vp_nar .int v = v := rfl
       rw [e8, e9, xwf_set C0.2.2.2.1 h1] at q1
       exact kk H1 locs1 q1 q3)
theorem x_zast (C0 : xC p s m args c cc nL Ts own NL g a A) (hP : va_P g.1 vwCl (xw NL g a σ) H) (hS : va_S A s.heap H locs) (t : Nat) {i : Nat} (j n : Nat) {v : Int32} (hv : v = 0 ∨ v = 1) (hm : (t, i) ∈ NL) (he : ∀ r, xB g a t r = xZa g n r) (hj : j < n) (hn : n < 2 ^ 31) (hdg : decode cc pc = .ok (.bastore, 1))
    (kk : ∀ (H1 : Heap) (locs1 : List Loc), va_P g.1 vwCl (xw NL g a (up3 σ t i j v)) H1 → va_S A s.heap H1 locs1 → W p l e R s m args below meth c H1 locs1 cells slots Q (F0 m (pc + 1) ls rest)) : W p l e R s m args below meth c H locs cells slots Q (F0 m pc ls (.int v :: .int (nI j) :: .ref (a t i) :: rest)) := by
  obtain ⟨q0, h1, h2⟩ := xwf_get (xB g a) a σ hm
  rw [he] at h2
  refine va_zast C0.hx C0.hb C0.hK hP (C0.hD σ) hS q0 1 h2 rfl (x_vpin hj hn) hdg (fun H1 locs1 q1 q2 q3 => ?_)
  rw [nI_clamp (Nat.lt_trans hj hn)] at q1
  have e8 : vp_nar .boolean v = v := by rcases hv with rfl | rfl <;> rfl
  have e9 : (Sum.inl (g.2.2.1, n, Sum.inl (upd (σ t i) j v)) : va_E) = xB g a t (upd (σ t i) j v) := (he _).symm
  rw [e8, e9, xwf_set C0.2.2.2.1 h1] at q1
  exact kk H1 locs1 q1 q3
/-- the top of the stack by another name -/
theorem x_top {x y : Int32} (h : x = y) (k : W p l e R s m args below meth c H locs cells slots Q (F0 m pc ls (.int y :: rest))) : W p l e R s m args below meth c H locs cells slots Q (F0 m pc ls (.int x :: rest)) := h ▸ k
/-- compares of two numbers that are small -/
theorem x_icmp_lt (hexec : p.tables.exec = Jvm.exec) (hb : c.code = cc) {x y : Nat} {off : Int} {tgt : Nat} (hx : x < 2 ^ 31) (hy : y < 2 ^ 31) (hdg : decode cc pc = .ok (.if_icmp .lt off, 3)) (ht : (pc : Int) + off = (tgt : Int))
    (kt : x < y → W p l e R s m args below meth c H locs cells slots Q (F0 m tgt ls rest)) (kf : y ≤ x → W p l e R s m args below meth c H locs cells slots Q (F0 m (pc + 3) ls rest)) : W p l e R s m args below meth c H locs cells slots Q (F0 m pc ls (.int (nI y) :: .int (nI x) :: rest)) :=
  lv_icmp_lt hexec hb hdg ht (fun h => kt ((nI_ltI hx hy).mp h)) (fun h => kf (Nat.le_of_not_lt (fun h2 => h ((nI_ltI hx hy).mpr h2))))
theorem x_icmp_ge (hexec : p.tables.exec = Jvm.exec) (hb : c.code = cc) {x y : Nat} {off : Int} {tgt : Nat} (hx : x < 2 ^ 31) (hy : y < 2 ^ 31) (hdg : decode cc pc = .ok (.if_icmp .ge off, 3)) (ht : (pc : Int) + off = (tgt : Int))
    (kt : y ≤ x → W p l e R s m args below meth c H locs cells slots Q (F0 m tgt ls rest)) (kf : x < y → W p l e R s m args below meth c H locs cells slots Q (F0 m (pc + 3) ls rest)) : W p l e R s m args below meth c H locs cells slots Q (F0 m pc ls (.int (nI y) :: .int (nI x) :: rest)) :=
  lv_icmp_ge hexec hb hdg ht (fun h => kt ((nI_leI hy hx).mp h)) (fun h => kf (Nat.lt_of_not_le (fun h2 => h ((nI_leI hy hx).mpr h2))))
theorem x_icmp_gt (hexec : p.tables.exec = Jvm.exec) (hb : c.code = cc) {x y : Nat} {off : Int} {tgt : Nat} (hx : x < 2 ^ 31) (hy : y < 2 ^ 31) (hdg : decode cc pc = .ok (.if_icmp .gt off, 3)) (ht : (pc : Int) + off = (tgt : Int))
    (kt : y < x → W p l e R s m args below meth c H locs cells slots Q (F0 m tgt ls rest)) (kf : x ≤ y → W p l e R s m args below meth c H locs cells slots Q (F0 m (pc + 3) ls rest)) : W p l e R s m args below meth c H locs cells slots Q (F0 m pc ls (.int (nI y) :: .int (nI x) :: rest)) :=
  lv_icmp_gt hexec hb hdg ht (fun h => kt ((nI_ltI hy hx).mp h)) (fun h => kf (Nat.le_of_not_lt (fun h2 => h ((nI_ltI hy hx).mpr h2))))
theorem x_icmp_le (hexec : p.tables.exec = Jvm.exec) (hb : c.code = cc) {x y : Nat} {off : Int} {tgt : Nat} (hx : x < 2 ^ 31) (hy : y < 2 ^ 31) (hdg : decode cc pc = .ok (.if_icmp .le off, 3)) (ht : (pc : Int) + off = (tgt : Int))
    (kt : x ≤ y → W p l e R s m args below meth c H locs cells slots Q (F0 m tgt ls rest)) (kf : y < x → W p l e R s m args below meth c H locs cells slots Q (F0 m (pc + 3) ls rest)) : W p l e R s m args below meth c H locs cells slots Q (F0 m pc ls (.int (nI y) :: .int (nI x) :: rest)) :=
  lv_icmp_le hexec hb hdg ht (fun h => kt ((nI_leI hx hy).mp h)) (fun h => kf (Nat.lt_of_not_le (fun h2 => h ((nI_leI hx hy).mpr h2))))
theorem x_icmp_eq (hexec : p.tables.exec = Jvm.exec) (hb : c.code = cc) {x y : Nat} {off : Int} {tgt : Nat} (hx : x < 2 ^ 31) (hy : y < 2 ^ 31) (hdg : decode cc pc = .ok (.if_icmp .eq off, 3)) (ht : (pc : Int) + off = (tgt : Int))
    (kt : x = y → W p l e R s m args below meth c H locs cells slots Q (F0 m tgt ls rest)) (kf : x ≠ y → W p l e R s m args below meth c H locs cells slots Q (F0 m (pc + 3) ls rest)) : W p l e R s m args below meth c H locs cells slots Q (F0 m pc ls (.int (nI y) :: .int (nI x) :: rest)) :=
  lv_icmp_eq hexec hb hdg ht (fun h => kt ((nI_eq hx hy).mp h)) (fun h => kf (fun h2 => h ((nI_eq hx hy).mpr h2)))
theorem x_icmp_ne (hexec : p.tables.exec = Jvm.exec) (hb : c.code = cc) {x y : Nat} {off : Int} {tgt : Nat} (hx : x < 2 ^ 31) (hy : y < 2 ^ 31) (hdg : decode cc pc = .ok (.if_icmp .ne off, 3)) (ht : (pc : Int) + off = (tgt : Int))
    (kt : x ≠ y → W p l e R s m args below meth c H locs cells slots Q (F0 m tgt ls rest)) (kf : x = y → W p l e R s m args below meth c H locs cells slots Q (F0 m (pc + 3) ls rest)) : W p l e R s m args below meth c H locs cells slots Q (F0 m pc ls (.int (nI y) :: .int (nI x) :: rest)) :=
  lv_icmp_ne hexec hb hdg ht (fun h => kt (fun h2 => h ((nI_eq hx hy).mpr h2))) (fun h => kf ((nI_eq hx hy).mp h))
end XROWS
/-- a boolean as the machine holds it -/
def bI (b : Bool) : Int32 := if b = true then 1 else 0
theorem bI_01 (b : Bool) : bI b = 0 ∨ bI b = 1 := by cases b <;> simp [bI]
theorem bI_t {b : Bool} (h : b = true) : bI b = 1 := by rw [h]; rfl
theorem bI_f {b : Bool} (h : b = false) : bI b = 0 := by rw [h]; rfl
theorem bI_nar (b : Bool) : narrow .boolean (.int (bI b)) = .int (bI b) := by cases b <;> rfl
section XROWS2
variable {p : Program} {l : Launch} {e : Env} {R : Room} {s : State} {m : MethodId} {args : Array Value} {below : List Frame} {meth : Method} {c : Code} {H : Heap} {locs : List Loc} {cells slots : Nat} {Q : State → Prop}
variable {cc : ByteArray} {pc nL : Nat} {ls : Array Slot} {rest : List Value} {Ts : List Cond} {own : String} {NL : xNL} {g : xG} {a : xAd} {A : Nat → Prop} {σ : xS}
theorem x_ifeq (hexec : p.tables.exec = Jvm.exec) (hb : c.code = cc) {b : Bool} {off : Int} {tgt : Nat} (hdg : decode cc pc = .ok (.ifCond .eq off, 3)) (ht : (pc : Int) + off = (tgt : Int))
    (kt : b = false → W p l e R s m args below meth c H locs cells slots Q (F0 m tgt ls rest)) (kf : b = true → W p l e R s m args below meth c H locs cells slots Q (F0 m (pc + 3) ls rest)) : W p l e R s m args below meth c H locs cells slots Q (F0 m pc ls (.int (bI b) :: rest)) :=
  lv_if_eq hexec hb hdg ht (fun h => kt (by cases b <;> simp_all [bI])) (fun h => kf (by cases b <;> simp_all [bI]))
theorem x_ifne (hexec : p.tables.exec = Jvm.exec) (hb : c.code = cc) {b : Bool} {off : Int} {tgt : Nat} (hdg : decode cc pc = .ok (.ifCond .ne off, 3)) (ht : (pc : Int) + off = (tgt : Int))
    (kt : b = true → W p l e R s m args below meth c H locs cells slots Q (F0 m tgt ls rest)) (kf : b = false → W p l e R s m args below meth c H locs cells slots Q (F0 m (pc + 3) ls rest)) : W p l e R s m args below meth c H locs cells slots Q (F0 m pc ls (.int (bI b) :: rest)) :=
  lv_if_ne hexec hb hdg ht (fun h => kt (by cases b <;> simp_all [bI])) (fun h => kf (by cases b <;> simp_all [bI]))
/-- a method that only reads, and answers an int -/
def xMi (l : Launch) (y : MethodName) (ws : List Cond) (rm : Room) (NL : xNL) (g : xG) (a : xAd) (σ : xS) (As : List Value) (r : Int32) : Prop := Met l y ws rm (va_Pc As (xPre NL g a σ)) (vp_Si (fun q => q = r)) 0 0 (fun _ => False)
/-- a method that writes, and answers nothing -/
def xMv (l : Launch) (y : MethodName) (ws : List Cond) (rm : Room) (NL : xNL) (g : xG) (a : xAd) (σ : xS) (As : List Value) (τ : xS) : Prop := ∀ sz : Nat, Met l y ws rm (va_Pc As (fun U => U.heap.size = sz ∧ xPre NL g a σ U)) (va_Qv (fun u : xS => u = τ) (fun u t => va_P g.1 vwCl (xw NL g a u) t.heap) (xA NL a sz)) 0 0 (xA NL a sz)
/-- .. and answers an int -/
def xMw (l : Launch) (y : MethodName) (ws : List Cond) (rm : Room) (NL : xNL) (g : xG) (a : xAd) (σ : xS) (As : List Value) (r : Int32) (τ : xS) : Prop := ∀ sz : Nat, Met l y ws rm (va_Pc As (fun U => U.heap.size = sz ∧ xPre NL g a σ U)) (va_Qi (fun (q : Int32) (u : xS) => q = r ∧ u = τ) (fun u t => va_P g.1 vwCl (xw NL g a u) t.heap) (xA NL a sz)) 0 0 (xA NL a sz)
variable {mc ms n index maxL : Nat} {y : MethodName} {bytes : ByteArray} {ret : Option FieldType} {ws : List Cond} {rm : Room} {C : String} {b : Nat} {As : List Value} {st0 : List Value} {NL' : xNL} {σ' : xS} {τ : xS} {r : Int32}
theorem x_pre (C0 : xC p s m args c cc nL Ts own NL g a A) (hP : va_P g.1 vwCl (xw NL' g a σ') H) (hj : xDj NL' a) : ∀ U : State, U.heap = H → s.WarmedH U.vm → va_Pc As (xPre NL' g a σ') As.toArray U := fun U hU hW => ⟨rfl, by rw [hU]; exact hP, va_K.moved hW.alike C0.hK, xN.warm hW C0.2.2.1, hj⟩
theorem x_pres (C0 : xC p s m args c cc nL Ts own NL g a A) (hP : va_P g.1 vwCl (xw NL' g a σ') H) (hj : xDj NL' a) : ∀ U : State, U.heap = H → s.WarmedH U.vm → va_Pc As (fun U => U.heap.size = H.size ∧ xPre NL' g a σ' U) As.toArray U := fun U hU hW => ⟨rfl, by rw [hU], by rw [hU]; exact hP, va_K.moved hW.alike C0.hK, xN.warm hW C0.2.2.1, hj⟩
/-- the receiver of a class of ours -/
theorem x_recv (C0 : xC p s m args c cc nL Ts own NL g a A) (hP : va_P g.1 vwCl (xw NL g a σ) H) (t : Nat) {i : Nat} (hm : (t, i) ∈ NL) {ci N : Nat} {T : u_T} {C : String} {fs : List Value} (he : xB g a t (σ t i) = .inr (ci, fs)) (hc : vwCl[ci]? = some (C, T, N)) : ∃ cell : Cell, H[a t i]? = some cell ∧ cell.vm.isStatics = false ∧ s.vm.findClass C = some cell.cls := by
  obtain ⟨q0, -, h2⟩ := xwf_get (xB g a) a σ hm
  rw [he] at h2
  exact va_recv C0.hK hP hc h2
/-- calls: virtual (private or not) of the same class; a nest mate's; static -/
theorem x_Vi (C0 : xC p s m args c cc nL Ts own NL g a A) (hM : xMi l y ws rm NL' g a σ' (.ref b :: As) r) (hP : va_P g.1 vwCl (xw NL' g a σ') H) (hj : xDj NL' a) (cw : CallW R s args own C index y bytes maxL ret ws rm 0 0 n) (hrecv : ∃ cell : Cell, H[b]? = some cell ∧ cell.vm.isStatics = false ∧ s.vm.findClass C = some cell.cls) (hn : As.length = n) {lv : List (Nat × Value)} (hl : lv_has ls nL lv) (hst : st0 = As.reverse ++ .ref b :: rest) (hW : (rest.map fun v => v.category).sum ≤ 8) (hc1 : cells ≤ R.cells) (hs1 : slots ≤ R.slots) (hdg : decode cc pc = .ok (.invokevirtual index, 3))
    (kk : W p l e R s m args below meth c H locs cells slots Q (F0 m (pc + 3) ls (.int r :: rest))) : W p l e R s m args below meth c H locs cells slots Q (F0 m pc ls st0) := by
  have hU : xMi l y ws rm NL' g a σ' (.ref b :: As) r := hM
  unfold xMi at hU
  refine vp_callSi ((va_runV (g := F0 m pc ls st0) (As := As) (rest := rest) C0.1 hU cw ⟨xFB, hrecv, x_pre C0 hP hj⟩ rfl hn hl.1 hst (lv_room hW) hdg ⟨hc1, hs1⟩).run) (fun q hq => ?_)
  rw [hq]
  exact kk
theorem x_VNi (C0 : xC p s m args c cc nL Ts own NL g a A) (hM : xMi l y ws rm NL' g a σ' (.ref b :: As) r) (hP : va_P g.1 vwCl (xw NL' g a σ') H) (hj : xDj NL' a) {host : String} (cw : va_CN R s args own index y host bytes maxL ret ws rm 0 0 n) (hin : (Cond.instanceMethod y).before args s = true) (hsel : (Cond.selects C y y).before args s = true) (hrecv : ∃ cell : Cell, H[b]? = some cell ∧ cell.vm.isStatics = false ∧ s.vm.findClass C = some cell.cls) (hn : As.length = n) {lv : List (Nat × Value)} (hl : lv_has ls nL lv) (hst : st0 = As.reverse ++ .ref b :: rest) (hW : (rest.map fun v => v.category).sum ≤ 8) (hc1 : cells ≤ R.cells) (hs1 : slots ≤ R.slots) (hdg : decode cc pc = .ok (.invokevirtual index, 3))
    (kk : W p l e R s m args below meth c H locs cells slots Q (F0 m (pc + 3) ls (.int r :: rest))) : W p l e R s m args below meth c H locs cells slots Q (F0 m pc ls st0) := by
  have hU : xMi l y ws rm NL' g a σ' (.ref b :: As) r := hM
  unfold xMi at hU
  refine vp_callSi ((va_runVN (g := F0 m pc ls st0) (As := As) (rest := rest) C0.1 hU ⟨cw, hin, hsel⟩ ⟨xFB, hrecv, x_pre C0 hP hj⟩ rfl hn hl.1 hst (lv_room hW) hdg ⟨hc1, hs1⟩).run) (fun q hq => ?_)
  rw [hq]
  exact kk
theorem x_Si (C0 : xC p s m args c cc nL Ts own NL g a A) (hM : xMi l y ws rm NL' g a σ' As r) (hP : va_P g.1 vwCl (xw NL' g a σ') H) (hj : xDj NL' a) (cw : CallB R s args own index y bytes maxL ret ws rm 0 0 n ∧ (Cond.static y).before args s = true) (hn : As.length = n) {lv : List (Nat × Value)} (hl : lv_has ls nL lv) (hst : st0 = As.reverse ++ rest) (hW : (rest.map fun v => v.category).sum ≤ 8) (hc1 : cells ≤ R.cells) (hs1 : slots ≤ R.slots) (hdg : decode cc pc = .ok (.invokestatic index, 3))
    (kk : W p l e R s m args below meth c H locs cells slots Q (F0 m (pc + 3) ls (.int r :: rest))) : W p l e R s m args below meth c H locs cells slots Q (F0 m pc ls st0) := by
  have hU : xMi l y ws rm NL' g a σ' As r := hM
  unfold xMi at hU
  refine vp_callSi ((va_runS (g := F0 m pc ls st0) (As := As) (rest := rest) C0.1 hU cw ⟨xFB, x_pre C0 hP hj⟩ rfl hn hl.1 hst (lv_room hW) hdg ⟨hc1, hs1⟩).run) (fun q hq => ?_)
  rw [hq]
  exact kk
theorem x_AA (C0 : xC p s m args c cc nL Ts own NL g a A) (hS : va_S A s.heap H locs) : (∀ q, q < H.size → xA NL a H.size q → A q) ∧ ∀ q, xA NL a H.size q → A q := by
  have h2 : ∀ q, xA NL a H.size q → A q := by
    intro q h
    rcases h with ⟨n, h1, rfl⟩ | h
    · exact C0.2.2.2.2.1 n h1
    · exact C0.2.2.2.2.2 q (Nat.le_trans hS.1 h)
  exact ⟨fun q _ h => h2 q h, h2⟩
theorem x_Vv (C0 : xC p s m args c cc nL Ts own NL g a A) (hM : xMv l y ws rm NL g a σ (.ref b :: As) τ) (hP : va_P g.1 vwCl (xw NL g a σ) H) (hS : va_S A s.heap H locs) (cw : CallW R s args own C index y bytes maxL ret ws rm 0 0 n) (hrecv : ∃ cell : Cell, H[b]? = some cell ∧ cell.vm.isStatics = false ∧ s.vm.findClass C = some cell.cls) (hn : As.length = n) {lv : List (Nat × Value)} (hl : lv_has ls nL lv) (hst : st0 = As.reverse ++ .ref b :: rest) (hW : (rest.map fun v => v.category).sum ≤ 8) (hc1 : cells ≤ R.cells) (hs1 : slots ≤ R.slots) (hdg : decode cc pc = .ok (.invokevirtual index, 3))
    (kk : ∀ (H1 : Heap) (locs1 : List Loc), va_P g.1 vwCl (xw NL g a τ) H1 → va_S A s.heap H1 locs1 → W p l e R s m args below meth c H1 locs1 cells slots Q (F0 m (pc + 3) ls rest)) : W p l e R s m args below meth c H locs cells slots Q (F0 m pc ls st0) := by
  obtain ⟨h1, h2⟩ := x_AA C0 hS
  refine va_callv (va_runV (g := F0 m pc ls st0) (As := As) (rest := rest) C0.1 (hM H.size) cw ⟨xFBs, hrecv, x_pres C0 hP C0.2.2.2.1⟩ rfl hn hl.1 hst (lv_room hW) hdg ⟨hc1, hs1⟩) hS h1 h2 (fun u t H1 locs1 ht hvm hw hB hz hk hS1 => ?_)
  subst hw
  rw [ht] at hB
  exact kk H1 locs1 hB hS1
theorem x_VNv (C0 : xC p s m args c cc nL Ts own NL g a A) (hM : xMv l y ws rm NL g a σ (.ref b :: As) τ) (hP : va_P g.1 vwCl (xw NL g a σ) H) (hS : va_S A s.heap H locs) {host : String} (cw : va_CN R s args own index y host bytes maxL ret ws rm 0 0 n) (hin : (Cond.instanceMethod y).before args s = true) (hsel : (Cond.selects C y y).before args s = true) (hrecv : ∃ cell : Cell, H[b]? = some cell ∧ cell.vm.isStatics = false ∧ s.vm.findClass C = some cell.cls) (hn : As.length = n) {lv : List (Nat × Value)} (hl : lv_has ls nL lv) (hst : st0 = As.reverse ++ .ref b :: rest) (hW : (rest.map fun v => v.category).sum ≤ 8) (hc1 : cells ≤ R.cells) (hs1 : slots ≤ R.slots) (hdg : decode cc pc = .ok (.invokevirtual index, 3))
    (kk : ∀ (H1 : Heap) (locs1 : List Loc), va_P g.1 vwCl (xw NL g a τ) H1 → va_S A s.heap H1 locs1 → W p l e R s m args below meth c H1 locs1 cells slots Q (F0 m (pc + 3) ls rest)) : W p l e R s m args below meth c H locs cells slots Q (F0 m pc ls st0) := by
  obtain ⟨h1, h2⟩ := x_AA C0 hS
  refine va_callv (va_runVN (g := F0 m pc ls st0) (As := As) (rest := rest) C0.1 (hM H.size) ⟨cw, hin, hsel⟩ ⟨xFBs, hrecv, x_pres C0 hP C0.2.2.2.1⟩ rfl hn hl.1 hst (lv_room hW) hdg ⟨hc1, hs1⟩) hS h1 h2 (fun u t H1 locs1 ht hvm hw hB hz hk hS1 => ?_)
  subst hw
  rw [ht] at hB
  exact kk H1 locs1 hB hS1
theorem x_Vw (C0 : xC p s m args c cc nL Ts own NL g a A) (hM : xMw l y ws rm NL g a σ (.ref b :: As) r τ) (hP : va_P g.1 vwCl (xw NL g a σ) H) (hS : va_S A s.heap H locs) (cw : CallW R s args own C index y bytes maxL ret ws rm 0 0 n) (hrecv : ∃ cell : Cell, H[b]? = some cell ∧ cell.vm.isStatics = false ∧ s.vm.findClass C = some cell.cls) (hn : As.length = n) {lv : List (Nat × Value)} (hl : lv_has ls nL lv) (hst : st0 = As.reverse ++ .ref b :: rest) (hW : (rest.map fun v => v.category).sum ≤ 8) (hc1 : cells ≤ R.cells) (hs1 : slots ≤ R.slots) (hdg : decode cc pc = .ok (.invokevirtual index, 3))
    (kk : ∀ (H1 : Heap) (locs1 : List Loc), va_P g.1 vwCl (xw NL g a τ) H1 → va_S A s.heap H1 locs1 → W p l e R s m args below meth c H1 locs1 cells slots Q (F0 m (pc + 3) ls (.int r :: rest))) : W p l e R s m args below meth c H locs cells slots Q (F0 m pc ls st0) := by
  obtain ⟨h1, h2⟩ := x_AA C0 hS
  refine va_calli (va_runV (g := F0 m pc ls st0) (As := As) (rest := rest) C0.1 (hM H.size) cw ⟨xFBs, hrecv, x_pres C0 hP C0.2.2.2.1⟩ rfl hn hl.1 hst (lv_room hW) hdg ⟨hc1, hs1⟩) hS h1 h2 (fun q u t H1 locs1 ht hvm hw hB hz hk hS1 => ?_)
  obtain ⟨rfl, rfl⟩ := hw
  rw [ht] at hB
  exact kk H1 locs1 hB hS1
theorem x_VNw (C0 : xC p s m args c cc nL Ts own NL g a A) (hM : xMw l y ws rm NL g a σ (.ref b :: As) r τ) (hP : va_P g.1 vwCl (xw NL g a σ) H) (hS : va_S A s.heap H locs) {host : String} (cw : va_CN R s args own index y host bytes maxL ret ws rm 0 0 n) (hin : (Cond.instanceMethod y).before args s = true) (hsel : (Cond.selects C y y).before args s = true) (hrecv : ∃ cell : Cell, H[b]? = some cell ∧ cell.vm.isStatics = false ∧ s.vm.findClass C = some cell.cls) (hn : As.length = n) {lv : List (Nat × Value)} (hl : lv_has ls nL lv) (hst : st0 = As.reverse ++ .ref b :: rest) (hW : (rest.map fun v => v.category).sum ≤ 8) (hc1 : cells ≤ R.cells) (hs1 : slots ≤ R.slots) (hdg : decode cc pc = .ok (.invokevirtual index, 3))
    (kk : ∀ (H1 : Heap) (locs1 : List Loc), va_P g.1 vwCl (xw NL g a τ) H1 → va_S A s.heap H1 locs1 → W p l e R s m args below meth c H1 locs1 cells slots Q (F0 m (pc + 3) ls (.int r :: rest))) : W p l e R s m args below meth c H locs cells slots Q (F0 m pc ls st0) := by
  obtain ⟨h1, h2⟩ := x_AA C0 hS
  refine va_calli (va_runVN (g := F0 m pc ls st0) (As := As) (rest := rest) C0.1 (hM H.size) ⟨cw, hin, hsel⟩ ⟨xFBs, hrecv, x_pres C0 hP C0.2.2.2.1⟩ rfl hn hl.1 hst (lv_room hW) hdg ⟨hc1, hs1⟩) hS h1 h2 (fun q u t H1 locs1 ht hvm hw hB hz hk hS1 => ?_)
  obtain ⟨rfl, rfl⟩ := hw
  rw [ht] at hB
  exact kk H1 locs1 hB hS1
end XROWS2
section XLOOPS
variable {p : Program} {l : Launch} {e : Env} {R : Room} {s : State} {m : MethodId} {args : Array Value} {below : List Frame} {meth : Method} {c : Code} {H : Heap} {locs : List Loc} {cells slots : Nat} {Q : State → Prop}
variable {pc : Nat} {ls : Array Slot} {st : List Value}
/-- a loop that writes nothing -/
theorem x_loopR {α : Type} (μ : α → Nat) (I : α → Array Slot → Prop) (hs : ∀ (x : α) (ls : Array Slot), I x ls → (∀ (y : α) (ls : Array Slot), I y ls → μ y < μ x → W p l e R s m args below meth c H locs cells slots Q (F0 m pc ls st)) → W p l e R s m args below meth c H locs cells slots Q (F0 m pc ls st)) (x0 : α) (h0 : I x0 ls) : W p l e R s m args below meth c H locs cells slots Q (F0 m pc ls st) := by
  have key : ∀ (n : Nat) (x : α) (ls : Array Slot), μ x < n → I x ls → W p l e R s m args below meth c H locs cells slots Q (F0 m pc ls st) := by
    intro n
    induction n with
    | zero => intro x ls h; exact absurd h (Nat.not_lt_zero _)
    | succ n ih => intro x ls h hi; exact hs x ls hi (fun y ls hy hlt => ih y ls (by omega) hy)
  exact key (μ x0 + 1) x0 ls (Nat.lt_succ_self _) h0
theorem x_loopW {α : Type} (μ : α → Nat) (I : α → Heap → List Loc → Array Slot → Prop) (hs : ∀ (x : α) (H : Heap) (locs : List Loc) (ls : Array Slot), I x H locs ls → (∀ (y : α) (H : Heap) (locs : List Loc) (ls : Array Slot), I y H locs ls → μ y < μ x → W p l e R s m args below meth c H locs cells slots Q (F0 m pc ls st)) → W p l e R s m args below meth c H locs cells slots Q (F0 m pc ls st)) (x0 : α) (h0 : I x0 H locs ls) : W p l e R s m args below meth c H locs cells slots Q (F0 m pc ls st) := by
  have key : ∀ (n : Nat) (x : α) (H : Heap) (locs : List Loc) (ls : Array Slot), μ x < n → I x H locs ls → W p l e R s m args below meth c H locs cells slots Q (F0 m pc ls st) := by
    intro n
    induction n with
    | zero => intro x H locs ls h; exact absurd h (Nat.not_lt_zero _)
    | succ n ih => intro x H locs ls h hi; exact hs x H locs ls hi (fun y H locs ls hy hlt => ih y H locs ls (by omega) hy)
  exact key (μ x0 + 1) x0 H locs ls (Nat.lt_succ_self _) h0
/-- roads that meet at tgt -/
theorem x_join {α : Type} (tgt : Nat) (I : α → Heap → List Loc → Array Slot → Prop) (stk : α → List Value) (hk : ∀ (x : α) (H : Heap) (locs : List Loc) (ls : Array Slot), I x H locs ls → W p l e R s m args below meth c H locs cells slots Q (F0 m tgt ls (stk x))) (hb : (∀ (x : α) (H : Heap) (locs : List Loc) (ls : Array Slot), I x H locs ls → W p l e R s m args below meth c H locs cells slots Q (F0 m tgt ls (stk x))) → W p l e R s m args below meth c H locs cells slots Q (F0 m pc ls st)) : W p l e R s m args below meth c H locs cells slots Q (F0 m pc ls st) := hb hk
end XLOOPS
abbrev nv (x : Int32) : Nat := x.toNatClampNeg
def NLX : xNL := (List.range 20).map (fun t => (t, 0)) ++ ((List.range 4).map (fun i => (20, i)) ++ ((List.range 4).map (fun i => (21, i)) ++ ((List.range 4).map (fun i => (22, i)) ++ ((List.range 60).map (fun i => (23, i)) ++ ((List.range 60).map (fun i => (24, i)) ++ (List.range 60).map (fun i => (25, i)))))))
def NLM : xNL := (List.range 10).map (fun t => (30 + t, 0))
theorem mX {t : Nat} (h : t < 20) : (t, 0) ∈ NLX := List.mem_append_left _ (List.mem_map.mpr ⟨t, List.mem_range.mpr h, rfl⟩)
theorem mXr (t n : Nat) {i : Nat} (h : i < n) : (t, i) ∈ (List.range n).map (fun i => (t, i)) := List.mem_map.mpr ⟨i, List.mem_range.mpr h, rfl⟩
theorem mX20 {i : Nat} (h : i < 4) : (20, i) ∈ NLX := List.mem_append_right _ (List.mem_append_left _ (mXr 20 4 h))
theorem mX21 {i : Nat} (h : i < 4) : (21, i) ∈ NLX := List.mem_append_right _ (List.mem_append_right _ (List.mem_append_left _ (mXr 21 4 h)))
theorem mX22 {i : Nat} (h : i < 4) : (22, i) ∈ NLX := List.mem_append_right _ (List.mem_append_right _ (List.mem_append_right _ (List.mem_append_left _ (mXr 22 4 h))))
theorem mX23 {i : Nat} (h : i < 60) : (23, i) ∈ NLX := List.mem_append_right _ (List.mem_append_right _ (List.mem_append_right _ (List.mem_append_right _ (List.mem_append_left _ (mXr 23 60 h)))))
theorem mX24 {i : Nat} (h : i < 60) : (24, i) ∈ NLX := List.mem_append_right _ (List.mem_append_right _ (List.mem_append_right _ (List.mem_append_right _ (List.mem_append_right _ (List.mem_append_left _ (mXr 24 60 h))))))
theorem mX25 {i : Nat} (h : i < 60) : (25, i) ∈ NLX := List.mem_append_right _ (List.mem_append_right _ (List.mem_append_right _ (List.mem_append_right _ (List.mem_append_right _ (List.mem_append_right _ (mXr 25 60 h))))))
theorem mM {t : Nat} (h : t < 10) : (30 + t, 0) ∈ NLM := List.mem_map.mpr ⟨t, List.mem_range.mpr h, rfl⟩
theorem mX_n {t : Nat} (h : Nat.blt t 20 = true) : (t, 0) ∈ NLX := mX (by simpa using h)
theorem mM_n {t : Nat} (h1 : Nat.ble 30 t = true) (h2 : Nat.blt t 40 = true) : (t, 0) ∈ NLM := by
  have e1 : 30 ≤ t := Nat.le_of_ble_eq_true h1
  have e2 : t < 40 := by simpa using h2
  have := mM (t := t - 30) (by omega)
  rwa [show 30 + (t - 30) = t by omega] at this
/-- selects, instance, initialized of private methods out of a list of words -/
theorem x_nV {s : State} {args : Array Value} {Ts : List Cond} {w : Cond} (hts : ∀ w ∈ Ts, w.before args s = true) (h : w ∈ Ts) : w.before args s = true := hts w h

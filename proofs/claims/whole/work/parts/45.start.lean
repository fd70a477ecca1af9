theorem inlX0 : ∀ w ∈ wsX00, w ∈ wsL_law := fun _ h => List.mem_append_left _ (List.mem_append_left _ (List.mem_append_left _ (List.mem_append_left _ (List.mem_append_left _ (List.mem_append_left _ (List.mem_append_left _ (List.mem_append_right _ h)))))))
theorem inlX1 : ∀ w ∈ wsX10, w ∈ wsL_law := fun _ h => List.mem_append_left _ (List.mem_append_left _ (List.mem_append_left _ (List.mem_append_left _ (List.mem_append_right _ h))))
theorem inlX2 : ∀ w ∈ wsX20, w ∈ wsL_law := fun _ h => List.mem_append_left _ (List.mem_append_left _ (List.mem_append_left _ (List.mem_append_left _ (List.mem_append_left _ (List.mem_append_right _ h)))))
theorem inlX3 : ∀ w ∈ wsX30, w ∈ wsL_law := fun _ h => List.mem_append_left _ (List.mem_append_left _ (List.mem_append_left _ (List.mem_append_left _ (List.mem_append_left _ (List.mem_append_left _ (List.mem_append_right _ h))))))
theorem inlX4 : ∀ w ∈ wsX40, w ∈ wsL_law := fun _ h => List.mem_append_left _ (List.mem_append_left _ (List.mem_append_left _ (List.mem_append_left _ (List.mem_append_left _ (List.mem_append_left _ (List.mem_append_left _ (List.mem_append_left _ (List.mem_append_left _ (List.mem_append_right _ h)))))))))
theorem inlX5 : ∀ w ∈ wsX50, w ∈ wsL_law := fun _ h => List.mem_append_left _ (List.mem_append_left _ (List.mem_append_left _ (List.mem_append_left _ (List.mem_append_left _ (List.mem_append_left _ (List.mem_append_left _ (List.mem_append_left _ (List.mem_append_right _ h))))))))
theorem x_newl {p : Program} {l : Launch} {e : Env} {R : Room} {s : State} {m : MethodId} {args : Array Value} {below : List Frame} {meth : Method} {c : Code} {H : Heap} {locs : List Loc} {cells slots : Nat} {Q : State → Prop} {cc : ByteArray} {pc nL : Nat} {ls : Array Slot} {rest : List Value} {Ts : List Cond} {own : String} {g : xG} {a : xAd} {A : Nat → Prop} {Wd : va_W} (C0 : xC p s m args c cc nL Ts own [] g a A) (hQ : xQ g A Wd H) (hS : va_S A s.heap H locs) (hw : Cond.arrayClass .long ∈ Ts) (n : Nat) (hn : n ≤ 1000) (hcells : cells + 1 ≤ R.cells) (hslots : slots + n ≤ R.slots) (hdg : decode cc pc = .ok (.newarray .long, 2))
    (kk : ∀ (q : Nat) (H1 : Heap), xQ g A (Wd ++ [(q, xLa g n (fun _ => 0))]) H1 → va_S A s.heap H1 locs → W p l e R s m args below meth c H1 locs (cells + 1) (slots + n) Q (F0 m (pc + 2) ls (.ref q :: rest))) : W p l e R s m args below meth c H locs cells slots Q (F0 m pc ls (.int (nI n) :: rest)) := by
  refine va_newa (atype := .long) (ty := .long) C0.hx C0.hb (C0.hts _ hw) rfl C0.hK hQ.1 hQ.2 hS C0.2.2.2.2.2 (a0 := (n, .inr (.inl (fun _ => (0 : Int32).toInt64)))) (fun cA => rfl) (fun h => (x_vpin (j := n) (n := n + 1) (by omega) (by omega)) (Or.inl h)) (nI_clamp (by omega)) (by simp only [componentBytes]; omega) hcells hslots hdg (fun q cA H1 hK1 hP1 hD1 hS1 => ?_)
  have e1 : s.vm.findClass ("[" ++ FieldType.long.toString) = some cA := (hK1.2 4 (cA, .long) rfl).2
  have e2 : s.vm.findClass ("[" ++ FieldType.long.toString) = some g.2.2.2.2 := (C0.hK.2 3 (g.2.2.2.2, .long) rfl).2
  have e3 : cA = g.2.2.2.2 := Option.some.inj (e1.symm.trans e2)
  subst e3
  exact kk q H1 ⟨hP1, hD1⟩ hS1
/-- the states at the start: the class's and the reference's -/
def σ0 : xS := fun t _ => match t with
  | 0 => fun _ => nI 100
  | 2 => fun _ => nI 2
  | 11 => idR 30
  | 36 => idR 30
  | 30 => fun j => if j = 1 then nI 2 else if j = 3 then nI 100 else 0
  | _ => fun _ => 0
def rwL (t n : Nat) : xNL := (List.range n).map (fun i => (t, i))
def NLW : xNL := (((0, 0) :: (((((([] : xNL) ++ ((1, 0) :: (((((((([] : xNL) ++ [(6, 0)]) ++ [(7, 0)]) ++ rwL 20 4) ++ [(8, 0)]) ++ rwL 21 4) ++ [(9, 0)]) ++ rwL 22 4))) ++ ((2, 0) :: [(10, 0), (11, 0)])) ++ ((3, 0) :: (((((([] : xNL) ++ [(12, 0)]) ++ [(13, 0)]) ++ [(14, 0)]) ++ rwL 23 60) ++ [(15, 0)]))) ++ ((4, 0) :: ((((((([] : xNL) ++ [(16, 0)]) ++ rwL 24 60) ++ [(17, 0)]) ++ rwL 25 60) ++ [(18, 0)]) ++ [(19, 0)]))) ++ [(5, 0)])) ++ ((30, 0) :: [(31, 0), (32, 0), (33, 0), (34, 0), (35, 0), (36, 0), (37, 0), (38, 0), (39, 0), (40, 0), (41, 0), (42, 0), (43, 0), (44, 0)])) ++ [(50, 0)]
theorem NLW_A : NLW.isPerm NLA = true := by decide +kernel
def aW (q0 : Nat) (u : SX4) (q8 : Nat) (w : SX5) (q17 : Nat) : xAd := fun t i => match t with
  | 0 => q0
  | 1 => u.1
  | 2 => u.2.2.1
  | 3 => u.2.2.2.2.1
  | 4 => u.2.2.2.2.2.2.1
  | 5 => u.2.2.2.2.2.2.2.2
  | 6 => u.2.1.1
  | 7 => u.2.1.2.1
  | 20 => u.2.1.2.2.1 i
  | 8 => u.2.1.2.2.2.1
  | 21 => u.2.1.2.2.2.2.1 i
  | 9 => u.2.1.2.2.2.2.2.1
  | 22 => u.2.1.2.2.2.2.2.2 i
  | 10 => u.2.2.2.1.1
  | 11 => u.2.2.2.1.2
  | 12 => u.2.2.2.2.2.1.1
  | 13 => u.2.2.2.2.2.1.2.1
  | 14 => u.2.2.2.2.2.1.2.2.1
  | 23 => u.2.2.2.2.2.1.2.2.2.1 i
  | 15 => u.2.2.2.2.2.1.2.2.2.2
  | 16 => u.2.2.2.2.2.2.2.1.1
  | 24 => u.2.2.2.2.2.2.2.1.2.1 i
  | 17 => u.2.2.2.2.2.2.2.1.2.2.1
  | 25 => u.2.2.2.2.2.2.2.1.2.2.2.1 i
  | 18 => u.2.2.2.2.2.2.2.1.2.2.2.2.1
  | 19 => u.2.2.2.2.2.2.2.1.2.2.2.2.2
  | 30 => q8
  | 31 => w.1
  | 32 => w.2.1
  | 33 => w.2.2.1
  | 34 => w.2.2.2.1
  | 35 => w.2.2.2.2.1
  | 36 => w.2.2.2.2.2.1
  | 37 => w.2.2.2.2.2.2.1
  | 38 => w.2.2.2.2.2.2.2.1
  | 39 => w.2.2.2.2.2.2.2.2.1
  | 40 => w.2.2.2.2.2.2.2.2.2.1
  | 41 => w.2.2.2.2.2.2.2.2.2.2.1
  | 42 => w.2.2.2.2.2.2.2.2.2.2.2.1
  | 43 => w.2.2.2.2.2.2.2.2.2.2.2.2.1
  | 44 => w.2.2.2.2.2.2.2.2.2.2.2.2.2
  | 50 => q17
  | _ => 0
theorem rwL_w (f : Nat → (Nat → Int32) → va_E) (t n : Nat) (a : xAd) (σ : xS) (r : Nat → Nat) (en : va_E) (h1 : ∀ i, a t i = r i) (h2 : ∀ i, f t (σ t i) = en) : xwf f (rwL t n) a σ = (List.range n).map (fun i => (r i, en)) := by
  unfold xwf rwL
  rw [List.map_map]
  apply List.map_congr_left
  intro i _
  show (a t i, f t (σ t i)) = _
  rw [h1, h2]
theorem xwf_app (f : Nat → (Nat → Int32) → va_E) (x y : xNL) (a : xAd) (σ : xS) : xwf f (x ++ y) a σ = xwf f x a σ ++ xwf f y a σ := List.map_append
theorem xwf_cons (f : Nat → (Nat → Int32) → va_E) (n : Nat × Nat) (y : xNL) (a : xAd) (σ : xS) : xwf f (n :: y) a σ = (a n.1 n.2, f n.1 (σ n.1 n.2)) :: xwf f y a σ := rfl
theorem xwf_nil (f : Nat → (Nat → Int32) → va_E) (a : xAd) (σ : xS) : xwf f [] a σ = [] := rfl
theorem NLW_w (g : xG) (q0 : Nat) (u : SX4) (q8 : Nat) (w : SX5) (q17 : Nat) : (wdX4 g q0 u ++ wdX5 g q8 w) ++ [(q17, xLa g 1 (fun _ => 0))] = xw NLW g (aW q0 u q8 w q17) σ0 := by
  generalize ha : aW q0 u q8 w q17 = a
  unfold xw NLW
  simp only [xwf_app, xwf_cons, xwf_nil]
  rw [rwL_w (xB g a) 20 4 a σ0 u.2.1.2.2.1 (xIa g 30 (fun _ => 0)) (fun i => by rw [← ha]; rfl) (fun i => rfl), rwL_w (xB g a) 21 4 a σ0 u.2.1.2.2.2.2.1 (xIa g 30 (fun _ => 0)) (fun i => by rw [← ha]; rfl) (fun i => rfl), rwL_w (xB g a) 22 4 a σ0 u.2.1.2.2.2.2.2.2 (xIa g 30 (fun _ => 0)) (fun i => by rw [← ha]; rfl) (fun i => rfl), rwL_w (xB g a) 23 60 a σ0 u.2.2.2.2.2.1.2.2.2.1 (xIa g 4 (fun _ => 0)) (fun i => by rw [← ha]; rfl) (fun i => rfl), rwL_w (xB g a) 24 60 a σ0 u.2.2.2.2.2.2.2.1.2.1 (xIa g 4 (fun _ => 0)) (fun i => by rw [← ha]; rfl) (fun i => rfl), rwL_w (xB g a) 25 60 a σ0 u.2.2.2.2.2.2.2.1.2.2.2.1 (xIa g 4 (fun _ => 0)) (fun i => by rw [← ha]; rfl) (fun i => rfl)]
  subst ha
  rfl
theorem xN_words : (∀ w ∈ xNs, w ∈ lw_tbl) ∧ (∀ q ∈ xMs, Cond.methodLinkNest q.1 q.2.1 q.2.2 RX4 ∈ lw_tbl) := ⟨by decide +kernel, by decide +kernel⟩
theorem xN_tab : (∀ w ∈ xNs, w.onTables = true) ∧ (∀ q ∈ xMs, (Cond.methodLinkNest q.1 q.2.1 q.2.2 RX4).onTables = true) := ⟨by decide +kernel, by decide +kernel⟩
theorem xT_words : (∀ w ∈ xTw, w ∈ lw_tbl) ∧ ∀ q ∈ xTx, Cond.stringRef RX4 q.1 q.2 ∈ lw_tbl := ⟨by decide +kernel, by decide +kernel⟩
theorem xX_words : ∀ q ∈ xTx, Cond.exactly (.string RX4 q.1) "java/lang/String" ∈ flatC (Jvm.Cond.and given_1 narrow_1) := by decide +kernel
set_option maxHeartbeats 4000000 in
set_option maxRecDepth 100000 in
/-- the law from its entry, for what an I keeps -/
theorem law_start {I : xS → xS → Prop} (hok : ∀ σ τ, I σ τ → (okX σ ∧ okF σ) ∧ (okM τ ∧ acM τ)) (hI0 : I σ0 σ0) (h0 : ∀ σ τ, I σ τ → ∀ (z1 : Int32) (z2 : Int32) (z3 : Int32) (z4 : Int32), SF I (cd1 eIA) (arC σ z1 z2 z3 z4) σ (arS σ z1 z2 z3 z4) (arS σ z1 z2 z3 z4 6 0 (nv z1)) (arMS τ z1 z2 z3 z4) (arMV τ z1 z2 z3 z4)) (h1 : ∀ σ τ, I σ τ → ∀ (z1 : Int32) (z2 : Bool), SF I (cd1 eIA) (igC z1) σ (igS σ z1 z2) (σ 10 0 (nv z1)) (igMS τ z1 z2) (igMV τ z1)) (h2 : ∀ σ τ, I σ τ → ∀ (z1 : Int32) (z2 : Int32), SF I (cd1 eIA) (sfC σ z1 z2) σ (sfS σ z1 z2) (σ 11 0 (nv z1)) (sfMS τ z1 z2) (sfMV τ z1 z2)) (h3 : ∀ σ τ, I σ τ → ∀ (z1 : Int32), SF I (cd1 eIA) (sdC z1) σ (sdS σ z1) (σ 2 0 0) (sdMS τ z1) (sdMV τ z1)) (h4 : ∀ σ τ, I σ τ → ∀ (z1 : Int32) (z2 : Int32) (z3 : Int32) (z4 : Int32) (z5 : Int32) (z6 : Int32), SF I (cd1 eIA) (rpC σ z1 z2 z3 z4 z5 z6) σ (rpS σ z1 z2 z3 z4 z5 z6) (nI (nv (σ 3 0 0))) (rpMS τ z1 z2 z3 z4 z5 z6) (rpMV τ z1 z2 z3 z4 z5 z6)) (h5 : ∀ σ τ, I σ τ → σ 3 0 0 = τ 30 0 2 ∧ I σ (m0 τ)) (h6 : ∀ σ τ, I σ τ → ∀ (z1 : Int32) (z2 : Int32), SF I (cd1 eIO) (frC σ z1 z2) σ σ (σ 24 (nv z1) (nv z2)) (frMS τ z1 z2) (frMV τ z1 z2)) (h7 : ∀ σ τ, I σ τ → ∀ (z1 : Int32) (z2 : Int32), SF I (cd1 eIO) (frC σ z1 z2) σ σ (σ 25 (nv z1) (nv z2)) (maMS τ z1 z2) (maMV τ z1 z2)) (h8 : ∀ σ τ, I σ τ → ∀ (z1 : Int32), SF I (cd1 eIO) (r1C σ z1) σ σ (σ 19 0 (nv z1)) (bkMS τ z1) (bkMV τ z1)) (h9 : ∀ σ τ, I σ τ → nI (buL σ (nv (σ 3 0 0))) = bsMV τ ∧ I σ (nm0 τ)) (h10 : ∀ σ τ, I σ τ → ∀ (z1 : Int32), SF I (cd1 eIO) (r1C σ z1) σ σ (nI (siL σ (σ 19 0 (nv z1)) 4)) (bkMS τ z1) (szMV τ z1)) (h11 : ∀ σ τ, I σ τ → ∀ (z1 : Int32) (z2 : Int32), SF I (cd1 eIA) (ssC z1 z2) σ (ssS σ z1 z2) (σ 5 0 (nv z1)) (ssMS τ z1 z2) (ssMV τ z1 z2)) (h12 : ∀ σ τ, I σ τ → ∀ (z1 : Int32), SF I (cd1 eIA) (slC z1) σ (slS σ z1) (σ 0 0 0) (slMS τ z1) (slMV τ z1)) (h13 : ∀ σ τ, I σ τ → ∀ (z1 : Int32) (z2 : Int32), SF I (cd1 eIO) (frC σ z1 z2) σ σ (nI (rtX σ (σ 19 0 (nv z1)) (nv z2))) (rtMS τ z1 z2) (rtMV τ z1 z2)) (h14 : ∀ σ τ, I σ τ → ∀ (z1 : Int32) (z2 : Int32), SF I (cd1 eIO) (frC σ z1 z2) σ σ (ucX σ (σ 19 0 (nv z1)) (nv z2)) (usMS τ z1 z2) (usMV τ z1 z2)) (h15 : ∀ σ τ, I σ τ → ∀ (z1 : Int32), SF I (cd1 eIA) (v1C z1) σ σ (gaX σ (nv z1)) (gaMS τ z1) (gaMV τ z1)) (h16 : ∀ σ τ, I σ τ → ∀ (z1 : Int32), SF I (cd1 eIA) (v1C z1) σ σ (woX σ (nv z1)) (woMS τ z1) (woMV τ z1)) (h17 : ∀ σ τ, I σ τ → ∀ (z1 : Int32) (z2 : Int32), SF I (cd1 eIO) (fxC σ z1 z2) σ (fxS σ z1 z2) (σ 15 0 (nv z1)) (fxMS τ z1 z2) (fxMV τ z1 z2)) (h18 : ∀ σ τ, I σ τ → ∀ (z1 : Int32), SF I (cd1 eIO) (hoC σ z1) σ σ (bI (hoX σ (nv z1))) (hoMS τ z1) (bI (hoMV τ z1))) {p : Program} {e : Env} {s : State} {m : MethodId} {below : List Frame} {meth : Method} {c : Code} (l : Launch) (hflags : l.flags = flags0) {b L : Nat} {xs : Nat → Int32} (hL : L ≤ 3584) (C0 : lw_At p s m meth c b L xs) : W p l e room_1 s m #[Value.ref b] below meth c s.heap [] 0 0 (lw_Z below #[Value.ref b] s) (entryFrame m ([Value.ref b] : List Value).toArray 7) := by
  obtain ⟨hx, hb, hr, hml, hown, hts, hV, hbl, hlocks, hgv⟩ := id C0
  have hfl : l.stackTraces = false := by
    unfold Launch.stackTraces
    rw [hflags]
    decide
  have hgf := flat_of_before _ hgv
  have hA0 : ∀ a : Nat, a < s.heap.size → ¬ (fun q : Nat => s.heap.size ≤ q) a := fun a h => Nat.not_le.mpr h
  have htl : ∀ w ∈ wsL_law, w.before #[Value.ref b] s = true := fun w h => hts w (wsL_law_in w h)
  obtain ⟨c0, i0, k0⟩ := u_known (C := RX0) (T := TX0) (N := 4) (n := 4) hts lwr_X0 (hts (.instantiable RX0 4) (by decide +kernel))
  obtain ⟨c1, i1, k1⟩ := u_known (C := RX1) (T := TX1) (N := 4) (n := 4) hts lwr_X1 (hts (.instantiable RX1 4) (by decide +kernel))
  obtain ⟨c2, i2, k2⟩ := u_known (C := RX2) (T := TX2) (N := 5) (n := 5) hts lwr_X2 (hts (.instantiable RX2 5) (by decide +kernel))
  obtain ⟨c3, i3, k3⟩ := u_known (C := RX3) (T := TX3) (N := 3) (n := 3) hts lwr_X3 (hts (.instantiable RX3 3) (by decide +kernel))
  obtain ⟨c4, i4, k4⟩ := u_known (C := RX4) (T := TX4) (N := 6) (n := 6) hts lwr_X4 (hts (.instantiable RX4 6) (by decide +kernel))
  obtain ⟨c5, i5, k5⟩ := u_known (C := RX5) (T := TX5) (N := 18) (n := 18) hts lwr_X5 (hts (.instantiable RX5 18) (by decide +kernel))
  obtain ⟨D, hKc⟩ : ∃ D : va_G, ∀ (k : Nat) (q : vw_C), vwCl[k]? = some q → u_Kn s q.1 q.2.1 q.2.2 (D.1 k) (D.2 k) := by
    refine ⟨(fun k => match k with | 0 => c0 | 1 => c1 | 2 => c2 | 3 => c3 | 4 => c4 | _ => c5, fun k => match k with | 0 => i0 | 1 => i1 | 2 => i2 | 3 => i3 | 4 => i4 | _ => i5), ?_⟩
    intro k q hq
    match k, hq with
    | 0, hq => cases hq; exact k0
    | 1, hq => cases hq; exact k1
    | 2, hq => cases hq; exact k2
    | 3, hq => cases hq; exact k3
    | 4, hq => cases hq; exact k4
    | 5, hq => cases hq; exact k5
    | k + 6, hq => simp at hq
  have hOw := hts (.arrayOver (.array .int)) (by decide +kernel)
  have hO : va_AOA .int s := va_AOA.of hOw
  obtain ⟨ci, ki, pi, a1, a2, a3⟩ := Cond.arrayClass_spec (hts (.arrayClass .int) (by decide +kernel))
  obtain ⟨cz, kz, pz, b1, b2, b3⟩ := Cond.arrayClass_spec (hts (.arrayClass .boolean) (by decide +kernel))
  obtain ⟨cl, kl, pl, d1, d2, d3⟩ := Cond.arrayClass_spec (hts (.arrayClass .long) (by decide +kernel))
  obtain ⟨pr, cr, kr, e1, e2, e3, e4, e5⟩ := arrayOver_specB hOw
  generalize hg : ((D, ci, cz, cr, cl) : xG) = g
  have hK : va_K g.1 vwCl (xT g) s := by
    subst hg
    refine ⟨hKc, fun k q hk => ?_⟩
    match k, hk with
    | 0, hk => cases hk; exact ⟨fun n z => ⟨fun k h => (by cases h), ki, a2, pi, a3⟩, a1⟩
    | 1, hk => cases hk; exact ⟨fun n z => ⟨fun k h => (by cases h), kz, b2, pz, b3⟩, b1⟩
    | 2, hk => cases hk; exact ⟨fun n z => ⟨fun k h => (by cases h), kr, e3, pr, e4⟩, e5⟩
    | 3, hk => cases hk; exact ⟨fun n z => ⟨fun k h => (by cases h), kl, d2, pl, d3⟩, d1⟩
    | k + 4, hk => simp [xT] at hk
  have hN : xN s := ⟨fun w hw => va_Nw.of (xN_tab.1 w hw) (hts w (xN_words.1 w hw)), fun q hq => va_Nw.of (xN_tab.2 q hq) (hts _ (xN_words.2 q hq))⟩
  have hT : xZt s := by
    refine ⟨fun w hw => ?_, fun q hq => ?_⟩
    · have h1 := hts w (xT_words.1 w hw)
      unfold xTw at hw
      simp only [List.mem_cons, List.not_mem_nil, or_false] at hw
      rcases hw with rfl | rfl | rfl | rfl | rfl | rfl <;> first | exact va_Nw.of rfl h1 | exact h1
    · obtain ⟨sa, c, cA, kA, q1, -⟩ := Cond.exactly_spec (args := #[Value.ref b]) (first := s) (o := none) (s := s) (idx := []) (t := .string RX4 q.1) (cls := "java/lang/String") (hgf _ (xX_words q hq))
      exact ⟨sa, vk_R.of (hts _ (xT_words.2 q hq)) q1⟩
  have hZ : xZh (fun q => s.heap.size ≤ q) s s.heap := ⟨vx_Zqof (hts _ (by decide +kernel)) (hts _ (by decide +kernel)) (hgf _ (by decide +kernel)) hA0, vx_Zqof (hts _ (by decide +kernel)) (hts _ (by decide +kernel)) (hgf _ (by decide +kernel)) hA0⟩
  have hW9 : xZw s := ⟨va_Nc.of (hgf (.not (.castable eIS eIA)) (by decide +kernel)), va_Nc.of (hgf (.not (.castable eIA eIO)) (by decide +kernel)), va_Nc.of (hgf (.not (.castable eIS eIO)) (by decide +kernel))⟩
  have C1 : xC p s m #[Value.ref b] c cL_law 7 wsL_law RL [] g (fun _ _ => 0) (fun q => s.heap.size ≤ q) := ⟨⟨hx, hb, hml, hown, htl⟩, hK, hN, (fun i j p q h => nomatch h), (fun n h => nomatch h), fun q h => h⟩
  have hS : va_S (fun q : Nat => s.heap.size ≤ q) s.heap s.heap [] := va_S.rf
  have hQ : xQ g (fun q : Nat => s.heap.size ≤ q) ([] : va_W) s.heap := ⟨fun k q h => by simp at h, va_D_nd.mpr ⟨List.nodup_nil, fun q h => by simp at h⟩⟩
  have hl := lv_entry ([.ref b]) (n := 7) (Nat.le_of_ble_eq_true rfl)
  rw [lg_entry_eq]
  generalize (lg_sl ([.ref b]) ++ List.replicate (7 - (lg_sl ([.ref b])).length) Slot.unset).toArray = ls at hl ⊢
  have hl : lv_has ls 7 [(0, .ref b)] := hl
  refine x_new C1 hQ hS (fun w h => inlX4 w h) tyX4 tyX4_ok (by decide +kernel) (by decide +kernel) (by decide +kernel) (ci := 4) (N := 6) rfl (fs := [.null, .null, .null, .null, .null, .int 0]) (by decide) (Nat.le_of_ble_eq_true rfl) (Nat.le_of_ble_eq_true rfl) dL_law_0 (fun q0 H hQ hS => ?_)
  refine lv_dup C1.hx C1.hb dL_law_3 rfl ?_
  have hPc : va_P g.1 vwCl [(q0, .inr (4, [.null, .null, .null, .null, .null, .int 0]))] H := va_P_mem.mpr (fun x hx => va_P_mem.mp hQ.1 x (List.mem_append_right _ hx))
  have hAq : s.heap.size ≤ q0 := (va_D_nd.mp hQ.2).2 (q0, .inr (4, [.null, .null, .null, .null, .null, .int 0])) (List.mem_append_right _ (List.mem_singleton.mpr rfl))
  have hsz := hS.1
  refine va_callv (va_runI (g := F0 m 4 ls [.ref q0, .ref q0]) (As := []) (rest := [.ref q0]) C1.1 (mtX4_init l g q0 H.size) (cwI 0 C1.hts gL_law_X4_init rfl rfl rfl (C1.hts (.initialized RX4) (by decide +kernel)) (C1.hts (.methodLink RL 72 yX4_init) (by decide +kernel)) (C1.hts (.instanceMethod yX4_init) (by decide +kernel)) rfl (by decide +kernel) ⟨Nat.le_of_ble_eq_true rfl, Nat.le_of_ble_eq_true rfl⟩) ⟨xFBn, fun U hU hW => ⟨rfl, by rw [hU], by rw [hU]; exact hPc, va_K.moved hW.alike C1.hK, xN.warm hW C1.2.2.1, va_AOA.moved hW.alike hO⟩⟩ rfl rfl hl.1 rfl (lv_room (Nat.le_of_ble_eq_true rfl)) dL_law_4 ⟨Nat.le_of_ble_eq_true rfl, Nat.le_of_ble_eq_true rfl⟩) hS (fun z _ h => h.elim (fun h => h ▸ hAq) (fun h => Nat.le_trans hsz h)) (fun z h => h.elim (fun h => h ▸ hAq) (fun h => Nat.le_trans hsz h)) (fun u t H1 locs1 ht hvm _ hB hz hk hS => ?_)
  rw [ht] at hB
  have hQ := xQ_join hQ hB hk (A := fun q : Nat => s.heap.size ≤ q) (fun z h => h) hsz
  clear hB ht hvm t hz hk hPc hAq hsz
  refine lv_astore_n (lv' := [(1, .ref q0), (0, .ref b)]) C1.hx C1.hb dL_law_7 rfl hl (by decide) rfl (fun ls hl => ?_)
  refine x_new C1 hQ hS (fun w h => inlX5 w h) tyX5 tyX5_ok (by decide +kernel) (by decide +kernel) (by decide +kernel) (ci := 5) (N := 18) rfl (fs := [.int 0, .null, .null, .null, .null, .null, .null, .int 0, .int 0, .null, .null, .null, .null, .null, .int 0, .null, .null, .null]) (by decide) (Nat.le_of_ble_eq_true rfl) (Nat.le_of_ble_eq_true rfl) dL_law_8 (fun q8 H hQ hS => ?_)
  refine lv_dup C1.hx C1.hb dL_law_11 rfl ?_
  have hPc : va_P g.1 vwCl [(q8, .inr (5, [.int 0, .null, .null, .null, .null, .null, .null, .int 0, .int 0, .null, .null, .null, .null, .null, .int 0, .null, .null, .null]))] H := va_P_mem.mpr (fun x hx => va_P_mem.mp hQ.1 x (List.mem_append_right _ hx))
  have hAq : s.heap.size ≤ q8 := (va_D_nd.mp hQ.2).2 (q8, .inr (5, [.int 0, .null, .null, .null, .null, .null, .null, .int 0, .int 0, .null, .null, .null, .null, .null, .int 0, .null, .null, .null])) (List.mem_append_right _ (List.mem_singleton.mpr rfl))
  have hsz := hS.1
  refine va_callv (va_runI (g := F0 m 12 ls [.ref q8, .ref q8]) (As := []) (rest := [.ref q8]) C1.1 (mtX5_init l g q8 H.size) (cwI 0 C1.hts gL_law_X5_init rfl rfl rfl (C1.hts (.initialized RX5) (by decide +kernel)) (C1.hts (.methodLink RL 75 yX5_init) (by decide +kernel)) (C1.hts (.instanceMethod yX5_init) (by decide +kernel)) rfl (by decide +kernel) ⟨Nat.le_of_ble_eq_true rfl, Nat.le_of_ble_eq_true rfl⟩) ⟨xFBn, fun U hU hW => ⟨rfl, by rw [hU], by rw [hU]; exact hPc, va_K.moved hW.alike C1.hK, xN.warm hW C1.2.2.1, va_AOA.moved hW.alike hO⟩⟩ rfl rfl hl.1 rfl (lv_room (Nat.le_of_ble_eq_true rfl)) dL_law_12 ⟨Nat.le_of_ble_eq_true rfl, Nat.le_of_ble_eq_true rfl⟩) hS (fun z _ h => h.elim (fun h => h ▸ hAq) (fun h => Nat.le_trans hsz h)) (fun z h => h.elim (fun h => h ▸ hAq) (fun h => Nat.le_trans hsz h)) (fun w t H1 locs1 ht hvm _ hB hz hk hS => ?_)
  rw [ht] at hB
  have hQ := xQ_join hQ hB hk (A := fun q : Nat => s.heap.size ≤ q) (fun z h => h) hsz
  clear hB ht hvm t hz hk hPc hAq hsz
  refine lv_astore_n (lv' := [(2, .ref q8), (1, .ref q0), (0, .ref b)]) C1.hx C1.hb dL_law_15 rfl hl (by decide) rfl (fun ls hl => ?_)
  refine lv_iconst (v := nI 1) C1.hx C1.hb dL_law_16 (by decide) ?_
  refine x_newl C1 hQ hS (by decide +kernel) 1 (by decide) (Nat.le_of_ble_eq_true rfl) (Nat.le_of_ble_eq_true rfl) dL_law_17 (fun q17 H hQ hS => ?_)
  have hQ : xQ g (fun q : Nat => s.heap.size ≤ q) ((wdX4 g q0 u ++ wdX5 g q8 w) ++ [(q17, xLa g 1 (fun _ => 0))]) H := hQ
  refine lv_astore_n (lv' := [(3, .ref q17), (2, .ref q8), (1, .ref q0), (0, .ref b)]) C1.hx C1.hb dL_law_19 rfl hl (by decide) rfl (fun ls hl => ?_)
  refine lv_iconst (v := nI 0) C1.hx C1.hb dL_law_20 (by decide) ?_
  refine lv_istore (lv' := [(4, .int (nI 0)), (3, .ref q17), (2, .ref q8), (1, .ref q0), (0, .ref b)]) C1.hx C1.hb dL_law_21 hl (by decide) rfl (fun ls hl => ?_)
  have hQz := hQ
  rw [NLW_w] at hQz
  have e50 : aW q0 u q8 w q17 50 0 = q17 := rfl
  have e30 : aW q0 u q8 w q17 30 0 = q8 := rfl
  have e00 : aW q0 u q8 w q17 0 0 = q0 := rfl
  generalize aW q0 u q8 w q17 = a at hQz e50 e30 e00
  subst e50
  subst e30
  subst e00
  have hPA : va_P g.1 vwCl (xw NLA g a σ0) H := xw_perm hQz.1 NLW_A
  have hDA : xDj NLA a := (xQ_dj hQz).perm NLW_A
  have hAA : ∀ n ∈ NLA, s.heap.size ≤ a n.1 n.2 := fun n hn => by
    have hn2 : n ∈ NLW := (List.isPerm_iff.mp NLW_A).mem_iff.mpr hn
    exact (va_D_nd.mp hQz.2).2 _ (List.mem_map.mpr ⟨n, hn2, rfl⟩)
  have C2 : xC p s m #[Value.ref b] c cL_law 7 wsL_law RL NLA g a (fun q => s.heap.size ≤ q) := ⟨C1.1, hK, hN, hDA, hAA, fun q h => h⟩
  exact law_loop C2 hr hlocks hfl hT hZ hW9 hV hbl hL hok h0 h1 h2 h3 h4 h5 h6 h7 h8 h9 h10 h11 h12 h13 h14 h15 h16 h17 h18 512 0 σ0 σ0 _ _ _ _ _ (by omega) (by omega) (Nat.le_of_ble_eq_true rfl) (Nat.le_of_ble_eq_true rfl) (xwf_sub hPA NLA_L) (xwf_sub hPA NLA_M) hS hI0 hl

/-- the state at the start -/
def σ0 : xS := fun t _ => match t with
  | 0 => fun _ => nI 100
  | 2 => fun _ => nI 2
  | 11 => idR 30
  | _ => fun _ => 0
def rwL (t n : Nat) : xNL := (List.range n).map (fun i => (t, i))
def NLW : xNL := ((((((((((((0, 0) :: (((((([] : xNL) ++ ((1, 0) :: (((((((([] : xNL) ++ [(6, 0)]) ++ [(7, 0)]) ++ rwL 20 4) ++ [(8, 0)]) ++ rwL 21 4) ++ [(9, 0)]) ++ rwL 22 4))) ++ ((2, 0) :: [(10, 0), (11, 0)])) ++ ((3, 0) :: (((((([] : xNL) ++ [(12, 0)]) ++ [(13, 0)]) ++ [(14, 0)]) ++ rwL 23 60) ++ [(15, 0)]))) ++ ((4, 0) :: ((((((([] : xNL) ++ [(16, 0)]) ++ rwL 24 60) ++ [(17, 0)]) ++ rwL 25 60) ++ [(18, 0)]) ++ [(19, 0)]))) ++ [(5, 0)])) ++ [(30, 0)]) ++ [(31, 0)]) ++ [(32, 0)]) ++ [(33, 0)]) ++ [(34, 0)]) ++ [(35, 0)]) ++ [(36, 0)]) ++ [(37, 0)]) ++ [(38, 0)]) ++ [(39, 0)])
theorem NLW_A : NLW.isPerm NLA = true := by decide +kernel
def aW (q0 : Nat) (u : SX4) (r : Nat → Nat) : xAd := fun t i => match t with
  | 0 => q0
  | 1 => u.1
  | 2 => u.2.2.1
  | 3 => u.2.2.2.2.1
  | 4 => u.2.2.2.2.2.2.1
  | 5 => u.2.2.2.2.2.2.2.2
  | 6 => u.2.1.1
  | 7 => u.2.1.2.1
  | 20 => u.2.1.2.2.1 i
  | 8 => u.2.1.2.2.2.1
  | 21 => u.2.1.2.2.2.2.1 i
  | 9 => u.2.1.2.2.2.2.2.1
  | 22 => u.2.1.2.2.2.2.2.2 i
  | 10 => u.2.2.2.1.1
  | 11 => u.2.2.2.1.2
  | 12 => u.2.2.2.2.2.1.1
  | 13 => u.2.2.2.2.2.1.2.1
  | 14 => u.2.2.2.2.2.1.2.2.1
  | 23 => u.2.2.2.2.2.1.2.2.2.1 i
  | 15 => u.2.2.2.2.2.1.2.2.2.2
  | 16 => u.2.2.2.2.2.2.2.1.1
  | 24 => u.2.2.2.2.2.2.2.1.2.1 i
  | 17 => u.2.2.2.2.2.2.2.1.2.2.1
  | 25 => u.2.2.2.2.2.2.2.1.2.2.2.1 i
  | 18 => u.2.2.2.2.2.2.2.1.2.2.2.2.1
  | 19 => u.2.2.2.2.2.2.2.1.2.2.2.2.2
  | t + 26 => r t
theorem rwL_w (f : Nat → (Nat → Int32) → va_E) (t n : Nat) (a : xAd) (σ : xS) (r : Nat → Nat) (en : va_E) (h1 : ∀ i, a t i = r i) (h2 : ∀ i, f t (σ t i) = en) : xwf f (rwL t n) a σ = (List.range n).map (fun i => (r i, en)) := by
  unfold xwf rwL
  rw [List.map_map]
  apply List.map_congr_left
  intro i _
  show (a t i, f t (σ t i)) = _
  rw [h1, h2]
theorem xwf_app (f : Nat → (Nat → Int32) → va_E) (x y : xNL) (a : xAd) (σ : xS) : xwf f (x ++ y) a σ = xwf f x a σ ++ xwf f y a σ := List.map_append
theorem xwf_cons (f : Nat → (Nat → Int32) → va_E) (n : Nat × Nat) (y : xNL) (a : xAd) (σ : xS) : xwf f (n :: y) a σ = (a n.1 n.2, f n.1 (σ n.1 n.2)) :: xwf f y a σ := rfl
theorem xwf_nil (f : Nat → (Nat → Int32) → va_E) (a : xAd) (σ : xS) : xwf f [] a σ = [] := rfl
theorem NLW_w (g : xG) (q0 : Nat) (u : SX4) (r : Nat → Nat) : ((((((((((wdX4 g q0 u ++ [(r 4, xIa g 3 (fun _ => 0))]) ++ [(r 5, xIa g 20 (fun _ => 0))]) ++ [(r 6, xIa g 24 (fun _ => 0))]) ++ [(r 7, xIa g 24 (fun _ => 0))]) ++ [(r 8, xIa g 24 (fun _ => 0))]) ++ [(r 9, xIa g 12 (fun _ => 0))]) ++ [(r 10, xIa g 12 (fun _ => 0))]) ++ [(r 11, xIa g 48 (fun _ => 0))]) ++ [(r 12, xIa g 12 (fun _ => 0))]) ++ [(r 13, xIa g 24 (fun _ => 0))]) = xw NLW g (aW q0 u r) σ0 := by
  generalize ha : aW q0 u r = a
  unfold xw NLW
  simp only [xwf_app, xwf_cons, xwf_nil]
  rw [rwL_w (xB g a) 20 4 a σ0 u.2.1.2.2.1 (xIa g 30 (fun _ => 0)) (fun i => by rw [← ha]; rfl) (fun i => rfl), rwL_w (xB g a) 21 4 a σ0 u.2.1.2.2.2.2.1 (xIa g 30 (fun _ => 0)) (fun i => by rw [← ha]; rfl) (fun i => rfl), rwL_w (xB g a) 22 4 a σ0 u.2.1.2.2.2.2.2.2 (xIa g 30 (fun _ => 0)) (fun i => by rw [← ha]; rfl) (fun i => rfl), rwL_w (xB g a) 23 60 a σ0 u.2.2.2.2.2.1.2.2.2.1 (xIa g 4 (fun _ => 0)) (fun i => by rw [← ha]; rfl) (fun i => rfl), rwL_w (xB g a) 24 60 a σ0 u.2.2.2.2.2.2.2.1.2.1 (xIa g 4 (fun _ => 0)) (fun i => by rw [← ha]; rfl) (fun i => rfl), rwL_w (xB g a) 25 60 a σ0 u.2.2.2.2.2.2.2.1.2.2.2.1 (xIa g 4 (fun _ => 0)) (fun i => by rw [← ha]; rfl) (fun i => rfl)]
  subst ha
  rfl
theorem xN_words : (∀ w ∈ xNs, w ∈ lw_tbl) ∧ (∀ q ∈ xMs, Cond.methodLinkNest q.1 q.2.1 q.2.2 RX4 ∈ lw_tbl) := ⟨by decide +kernel, by decide +kernel⟩
theorem xN_tab : (∀ w ∈ xNs, w.onTables = true) ∧ (∀ q ∈ xMs, (Cond.methodLinkNest q.1 q.2.1 q.2.2 RX4).onTables = true) := ⟨by decide +kernel, by decide +kernel⟩
theorem xT_words : (∀ w ∈ xTw, w ∈ lw_tbl) ∧ ∀ q ∈ xTx, Cond.stringRef RX4 q.1 q.2 ∈ lw_tbl := ⟨by decide +kernel, by decide +kernel⟩
theorem xX_words : ∀ q ∈ xTx, Cond.exactly (.string RX4 q.1) "java/lang/String" ∈ flatC (Jvm.Cond.and given_1 narrow_1) := by decide +kernel
set_option maxHeartbeats 4000000 in
set_option maxRecDepth 100000 in
/-- the law from its entry, for what an I keeps -/
theorem law_start {I : xS → Prop} (hL9 : LawH I) (hI0 : I (mLP σ0 6)) {p : Program} {e : Env} {s : State} {m : MethodId} {below : List Frame} {meth : Method} {c : Code} (l : Launch) (hflags : l.flags = flags0) {b L : Nat} {xs : Nat → Int32} (hL : L ≤ 260) (C0 : lw_At p s m meth c b L xs) : W p l e room_1 s m #[Value.ref b] below meth c s.heap [] 0 0 (lw_Z below #[Value.ref b] s) (entryFrame m ([Value.ref b] : List Value).toArray 18) := by
  obtain ⟨hx, hb, hr, hml, hown, hts, hV, hbl, hlocks, hgv⟩ := id C0
  have hfl : l.stackTraces = false := by
    unfold Launch.stackTraces
    rw [hflags]
    decide
  have hgf := flat_of_before _ hgv
  have hA0 : ∀ a : Nat, a < s.heap.size → ¬ (fun q : Nat => s.heap.size ≤ q) a := fun a h => Nat.not_le.mpr h
  have htl : ∀ w ∈ wsL_law, w.before #[Value.ref b] s = true := fun w h => hts w (wsL_law_in w h)
  obtain ⟨c0, i0, k0⟩ := u_known (C := RX0) (T := TX0) (N := 4) (n := 4) hts lwr_X0 (hts (.instantiable RX0 4) (by decide +kernel))
  obtain ⟨c1, i1, k1⟩ := u_known (C := RX1) (T := TX1) (N := 4) (n := 4) hts lwr_X1 (hts (.instantiable RX1 4) (by decide +kernel))
  obtain ⟨c2, i2, k2⟩ := u_known (C := RX2) (T := TX2) (N := 5) (n := 5) hts lwr_X2 (hts (.instantiable RX2 5) (by decide +kernel))
  obtain ⟨c3, i3, k3⟩ := u_known (C := RX3) (T := TX3) (N := 3) (n := 3) hts lwr_X3 (hts (.instantiable RX3 3) (by decide +kernel))
  obtain ⟨c4, i4, k4⟩ := u_known (C := RX4) (T := TX4) (N := 6) (n := 6) hts lwr_X4 (hts (.instantiable RX4 6) (by decide +kernel))
  obtain ⟨D, hKc⟩ : ∃ D : va_G, ∀ (k : Nat) (q : vw_C), vwCl[k]? = some q → u_Kn s q.1 q.2.1 q.2.2 (D.1 k) (D.2 k) := by
    refine ⟨(fun k => match k with | 0 => c0 | 1 => c1 | 2 => c2 | 3 => c3 | _ => c4, fun k => match k with | 0 => i0 | 1 => i1 | 2 => i2 | 3 => i3 | _ => i4), ?_⟩
    intro k q hq
    match k, hq with
    | 0, hq => cases hq; exact k0
    | 1, hq => cases hq; exact k1
    | 2, hq => cases hq; exact k2
    | 3, hq => cases hq; exact k3
    | 4, hq => cases hq; exact k4
    | k + 5, hq => simp at hq
  have hOw := hts (.arrayOver (.array .int)) (by decide +kernel)
  have hO : va_AOA .int s := va_AOA.of hOw
  obtain ⟨ci, ki, pi, a1, a2, a3⟩ := Cond.arrayClass_spec (hts (.arrayClass .int) (by decide +kernel))
  obtain ⟨cz, kz, pz, b1, b2, b3⟩ := Cond.arrayClass_spec (hts (.arrayClass .boolean) (by decide +kernel))
  obtain ⟨pr, cr, kr, e1, e2, e3, e4, e5⟩ := arrayOver_specB hOw
  generalize hg : ((D, ci, cz, cr, cr) : xG) = g
  have hK : va_K g.1 vwCl (xT g) s := by
    subst hg
    refine ⟨hKc, fun k q hk => ?_⟩
    match k, hk with
    | 0, hk => cases hk; exact ⟨fun n z => ⟨fun k h => (by cases h), ki, a2, pi, a3⟩, a1⟩
    | 1, hk => cases hk; exact ⟨fun n z => ⟨fun k h => (by cases h), kz, b2, pz, b3⟩, b1⟩
    | 2, hk => cases hk; exact ⟨fun n z => ⟨fun k h => (by cases h), kr, e3, pr, e4⟩, e5⟩
    | k + 3, hk => simp [xT] at hk
  have hN : xN s := ⟨fun w hw => va_Nw.of (xN_tab.1 w hw) (hts w (xN_words.1 w hw)), fun q hq => va_Nw.of (xN_tab.2 q hq) (hts _ (xN_words.2 q hq))⟩
  have hT : xZt s := by
    refine ⟨fun w hw => ?_, fun q hq => ?_⟩
    · have h1 := hts w (xT_words.1 w hw)
      unfold xTw at hw
      simp only [List.mem_cons, List.not_mem_nil, or_false] at hw
      rcases hw with rfl | rfl | rfl | rfl | rfl | rfl <;> first | exact va_Nw.of rfl h1 | exact h1
    · obtain ⟨sa, c, cA, kA, q1, -⟩ := Cond.exactly_spec (args := #[Value.ref b]) (first := s) (o := none) (s := s) (idx := []) (t := .string RX4 q.1) (cls := "java/lang/String") (hgf _ (xX_words q hq))
      exact ⟨sa, vk_R.of (hts _ (xT_words.2 q hq)) q1⟩
  have hZ : xZh (fun q => s.heap.size ≤ q) s s.heap := ⟨vx_Zqof (hts _ (by decide +kernel)) (hts _ (by decide +kernel)) (hgf _ (by decide +kernel)) hA0, vx_Zqof (hts _ (by decide +kernel)) (hts _ (by decide +kernel)) (hgf _ (by decide +kernel)) hA0⟩
  have C1 : xC p s m #[Value.ref b] c cL_law 18 wsL_law RL [] g (fun _ _ => 0) (fun q => s.heap.size ≤ q) := ⟨⟨hx, hb, hml, hown, htl⟩, hK, hN, (fun i j p q h => nomatch h), (fun n h => nomatch h), fun q h => h⟩
  have hS : va_S (fun q : Nat => s.heap.size ≤ q) s.heap s.heap [] := va_S.rf
  have hQ : xQ g (fun q : Nat => s.heap.size ≤ q) ([] : va_W) s.heap := ⟨fun k q h => by simp at h, va_D_nd.mpr ⟨List.nodup_nil, fun q h => by simp at h⟩⟩
  have hl := lv_entry ([.ref b]) (n := 18) (Nat.le_of_ble_eq_true rfl)
  rw [lg_entry_eq]
  generalize (lg_sl ([.ref b]) ++ List.replicate (18 - (lg_sl ([.ref b])).length) Slot.unset).toArray = ls at hl ⊢
  have hl : lv_has ls 18 [(0, .ref b)] := hl
  refine x_new C1 hQ hS (fun w h => inlX4 w h) tyX4 tyX4_ok (by decide +kernel) (by decide +kernel) (by decide +kernel) (ci := 4) (N := 6) rfl (fs := [.null, .null, .null, .null, .null, .int 0]) (by decide) (Nat.le_of_ble_eq_true rfl) (Nat.le_of_ble_eq_true rfl) dL_law_0 (fun q0 H hQ hS => ?_)
  refine lv_dup C1.hx C1.hb dL_law_3 rfl ?_
  have hPc : va_P g.1 vwCl [(q0, .inr (4, [.null, .null, .null, .null, .null, .int 0]))] H := va_P_mem.mpr (fun x hx => va_P_mem.mp hQ.1 x (List.mem_append_right _ hx))
  have hAq : s.heap.size ≤ q0 := (va_D_nd.mp hQ.2).2 (q0, .inr (4, [.null, .null, .null, .null, .null, .int 0])) (List.mem_append_right _ (List.mem_singleton.mpr rfl))
  have hsz := hS.1
  refine va_callv (va_runI (g := F0 m 4 ls [.ref q0, .ref q0]) (As := []) (rest := [.ref q0]) C1.1 (mtX4_init l g q0 H.size) (cwI 0 C1.hts gL_law_X4_init rfl rfl rfl (C1.hts (.initialized RX4) (by decide +kernel)) (C1.hts (.methodLink RL 108 yX4_init) (by decide +kernel)) (C1.hts (.instanceMethod yX4_init) (by decide +kernel)) rfl (by decide +kernel) ⟨Nat.le_of_ble_eq_true rfl, Nat.le_of_ble_eq_true rfl⟩) ⟨xFBn, fun U hU hW => ⟨rfl, by rw [hU], by rw [hU]; exact hPc, va_K.moved hW.alike C1.hK, xN.warm hW C1.2.2.1, va_AOA.moved hW.alike hO⟩⟩ rfl rfl hl.1 rfl (lv_room (Nat.le_of_ble_eq_true rfl)) dL_law_4 ⟨Nat.le_of_ble_eq_true rfl, Nat.le_of_ble_eq_true rfl⟩) hS (fun z _ h => h.elim (fun h => h ▸ hAq) (fun h => Nat.le_trans hsz h)) (fun z h => h.elim (fun h => h ▸ hAq) (fun h => Nat.le_trans hsz h)) (fun u t H1 locs1 ht hvm _ hB hz hk hS => ?_)
  rw [ht] at hB
  have hQ := xQ_join hQ hB hk (A := fun q : Nat => s.heap.size ≤ q) (fun z h => h) hsz
  clear hB ht hvm t hz hk hPc hAq hsz
  refine lv_astore_n (lv' := [(1, .ref q0), (0, .ref b)]) C1.hx C1.hb dL_law_7 rfl hl (by decide) rfl (fun ls hl => ?_)
  refine lv_iconst (v := nI 3) C1.hx C1.hb dL_law_8 (by decide) ?_
  refine x_newi C1 hQ hS (by decide +kernel) 3 (by decide) (Nat.le_of_ble_eq_true rfl) (Nat.le_of_ble_eq_true rfl) dL_law_9 (fun p0 H hQ hS => ?_)
  refine lv_astore_n (lv' := [(2, .ref p0), (1, .ref q0), (0, .ref b)]) C1.hx C1.hb dL_law_11 rfl hl (by decide) rfl (fun ls hl => ?_)
  refine lv_bipush (v := nI 20) C1.hx C1.hb dL_law_12 (by decide) ?_
  refine x_newi C1 hQ hS (by decide +kernel) 20 (by decide) (Nat.le_of_ble_eq_true rfl) (Nat.le_of_ble_eq_true rfl) dL_law_14 (fun p1 H hQ hS => ?_)
  refine lv_astore_n (lv' := [(3, .ref p1), (2, .ref p0), (1, .ref q0), (0, .ref b)]) C1.hx C1.hb dL_law_16 rfl hl (by decide) rfl (fun ls hl => ?_)
  refine lv_bipush (v := nI 24) C1.hx C1.hb dL_law_17 (by decide) ?_
  refine x_newi C1 hQ hS (by decide +kernel) 24 (by decide) (Nat.le_of_ble_eq_true rfl) (Nat.le_of_ble_eq_true rfl) dL_law_19 (fun p2 H hQ hS => ?_)
  refine lv_astore (lv' := [(4, .ref p2), (3, .ref p1), (2, .ref p0), (1, .ref q0), (0, .ref b)]) C1.hx C1.hb dL_law_21 hl (by decide) rfl (fun ls hl => ?_)
  refine lv_bipush (v := nI 24) C1.hx C1.hb dL_law_23 (by decide) ?_
  refine x_newi C1 hQ hS (by decide +kernel) 24 (by decide) (Nat.le_of_ble_eq_true rfl) (Nat.le_of_ble_eq_true rfl) dL_law_25 (fun p3 H hQ hS => ?_)
  refine lv_astore (lv' := [(5, .ref p3), (4, .ref p2), (3, .ref p1), (2, .ref p0), (1, .ref q0), (0, .ref b)]) C1.hx C1.hb dL_law_27 hl (by decide) rfl (fun ls hl => ?_)
  refine lv_bipush (v := nI 24) C1.hx C1.hb dL_law_29 (by decide) ?_
  refine x_newi C1 hQ hS (by decide +kernel) 24 (by decide) (Nat.le_of_ble_eq_true rfl) (Nat.le_of_ble_eq_true rfl) dL_law_31 (fun p4 H hQ hS => ?_)
  refine lv_astore (lv' := [(6, .ref p4), (5, .ref p3), (4, .ref p2), (3, .ref p1), (2, .ref p0), (1, .ref q0), (0, .ref b)]) C1.hx C1.hb dL_law_33 hl (by decide) rfl (fun ls hl => ?_)
  refine lv_bipush (v := nI 12) C1.hx C1.hb dL_law_35 (by decide) ?_
  refine x_newi C1 hQ hS (by decide +kernel) 12 (by decide) (Nat.le_of_ble_eq_true rfl) (Nat.le_of_ble_eq_true rfl) dL_law_37 (fun p5 H hQ hS => ?_)
  refine lv_astore (lv' := [(7, .ref p5), (6, .ref p4), (5, .ref p3), (4, .ref p2), (3, .ref p1), (2, .ref p0), (1, .ref q0), (0, .ref b)]) C1.hx C1.hb dL_law_39 hl (by decide) rfl (fun ls hl => ?_)
  refine lv_bipush (v := nI 12) C1.hx C1.hb dL_law_41 (by decide) ?_
  refine x_newi C1 hQ hS (by decide +kernel) 12 (by decide) (Nat.le_of_ble_eq_true rfl) (Nat.le_of_ble_eq_true rfl) dL_law_43 (fun p6 H hQ hS => ?_)
  refine lv_astore (lv' := [(8, .ref p6), (7, .ref p5), (6, .ref p4), (5, .ref p3), (4, .ref p2), (3, .ref p1), (2, .ref p0), (1, .ref q0), (0, .ref b)]) C1.hx C1.hb dL_law_45 hl (by decide) rfl (fun ls hl => ?_)
  refine lv_bipush (v := nI 48) C1.hx C1.hb dL_law_47 (by decide) ?_
  refine x_newi C1 hQ hS (by decide +kernel) 48 (by decide) (Nat.le_of_ble_eq_true rfl) (Nat.le_of_ble_eq_true rfl) dL_law_49 (fun p7 H hQ hS => ?_)
  refine lv_astore (lv' := [(9, .ref p7), (8, .ref p6), (7, .ref p5), (6, .ref p4), (5, .ref p3), (4, .ref p2), (3, .ref p1), (2, .ref p0), (1, .ref q0), (0, .ref b)]) C1.hx C1.hb dL_law_51 hl (by decide) rfl (fun ls hl => ?_)
  refine lv_bipush (v := nI 12) C1.hx C1.hb dL_law_53 (by decide) ?_
  refine x_newi C1 hQ hS (by decide +kernel) 12 (by decide) (Nat.le_of_ble_eq_true rfl) (Nat.le_of_ble_eq_true rfl) dL_law_55 (fun p8 H hQ hS => ?_)
  refine lv_astore (lv' := [(10, .ref p8), (9, .ref p7), (8, .ref p6), (7, .ref p5), (6, .ref p4), (5, .ref p3), (4, .ref p2), (3, .ref p1), (2, .ref p0), (1, .ref q0), (0, .ref b)]) C1.hx C1.hb dL_law_57 hl (by decide) rfl (fun ls hl => ?_)
  refine lv_bipush (v := nI 24) C1.hx C1.hb dL_law_59 (by decide) ?_
  refine x_newi C1 hQ hS (by decide +kernel) 24 (by decide) (Nat.le_of_ble_eq_true rfl) (Nat.le_of_ble_eq_true rfl) dL_law_61 (fun p9 H hQ hS => ?_)
  refine lv_astore (lv' := [(11, .ref p9), (10, .ref p8), (9, .ref p7), (8, .ref p6), (7, .ref p5), (6, .ref p4), (5, .ref p3), (4, .ref p2), (3, .ref p1), (2, .ref p0), (1, .ref q0), (0, .ref b)]) C1.hx C1.hb dL_law_63 hl (by decide) rfl (fun ls hl => ?_)
  have hQz : xQ g (fun q : Nat => s.heap.size ≤ q) (xw NLW g (aW q0 u (fun t => match t with | 4 => p0 | 5 => p1 | 6 => p2 | 7 => p3 | 8 => p4 | 9 => p5 | 10 => p6 | 11 => p7 | 12 => p8 | _ => p9)) σ0) H := by
    have h9 := NLW_w g q0 u (fun t => match t with | 4 => p0 | 5 => p1 | 6 => p2 | 7 => p3 | 8 => p4 | 9 => p5 | 10 => p6 | 11 => p7 | 12 => p8 | _ => p9)
    rw [← h9]
    exact hQ
  obtain ⟨a, ha⟩ : ∃ z : xAd, z = aW q0 u (fun t => match t with | 4 => p0 | 5 => p1 | 6 => p2 | 7 => p3 | 8 => p4 | 9 => p5 | 10 => p6 | 11 => p7 | 12 => p8 | _ => p9) := ⟨_, rfl⟩
  rw [← ha] at hQz
  have e0 : q0 = a 0 0 := by rw [ha]; rfl
  have e30 : p0 = a 30 0 := by rw [ha]; rfl
  have e31 : p1 = a 31 0 := by rw [ha]; rfl
  have e32 : p2 = a 32 0 := by rw [ha]; rfl
  have e33 : p3 = a 33 0 := by rw [ha]; rfl
  have e34 : p4 = a 34 0 := by rw [ha]; rfl
  have e35 : p5 = a 35 0 := by rw [ha]; rfl
  have e36 : p6 = a 36 0 := by rw [ha]; rfl
  have e37 : p7 = a 37 0 := by rw [ha]; rfl
  have e38 : p8 = a 38 0 := by rw [ha]; rfl
  have e39 : p9 = a 39 0 := by rw [ha]; rfl
  clear ha
  rw [e0, e30, e31, e32, e33, e34, e35, e36, e37, e38, e39] at hl
  have hPA : va_P g.1 vwCl (xw NLA g a σ0) H := xw_perm hQz.1 NLW_A
  have hDA : xDj NLA a := (xQ_dj hQz).perm NLW_A
  have hAA : ∀ n ∈ NLA, s.heap.size ≤ a n.1 n.2 := fun n hn => by
    have hn2 : n ∈ NLW := (List.isPerm_iff.mp NLW_A).mem_iff.mpr hn
    exact (va_D_nd.mp hQz.2).2 _ (List.mem_map.mpr ⟨n, hn2, rfl⟩)
  have C2 : xC p s m #[Value.ref b] c cL_law 18 wsL_law RL NLA g a (fun q => s.heap.size ≤ q) := ⟨C1.1, hK, hN, hDA, hAA, fun q h => h⟩
  exact law_run hL9 hI0 C2 hr hlocks hfl hT hZ hV hbl hL (Nat.le_of_ble_eq_true rfl) (Nat.le_of_ble_eq_true rfl) hPA hS (lv_sub hl [11, 10, 9, 8, 7, 6, 5, 4, 3, 2, 1, 0] rfl)

set_option maxHeartbeats 4000000 in
set_option maxRecDepth 100000 in
theorem mtL_isSo (l : Launch) (hfl : l.stackTraces = false) (g : xG) (a : xAd) (σ : xS) (okx : okX σ) (ok : okP σ) (hI : Iso (nsS σ)) : xMl l yL_isSo wsL_isSo ({ frames := 9, cells := 1300, slots := 7800, locals := 176 }) 1300 7800  g a σ [.ref (a 0 0), .ref (a 30 0), .ref (a 31 0), .ref (a 32 0), .ref (a 33 0), .ref (a 34 0), .ref (a 35 0), .ref (a 36 0), .ref (a 37 0), .ref (a 38 0), .ref (a 39 0)] (nI 1) (nsS σ) := by
  intro sz
  refine Met.ofW (cc := cL_isSo) (maxL := 17) (ret := (some .boolean)) (by decide) rfl ?_
  intro p e s m args below meth c s₁ B hml hv
  obtain ⟨rfl, hsz, ⟨hP, hK, hN, hj⟩, hT, hZ⟩ := hv
  subst hsz
  have hr := B.returns
  have hlocks := B.notSynchronized
  have C0 : xC p s m _ c cL_isSo 17 wsL_isSo RL NLA g a (xA NLA a s.heap.size) := ⟨⟨B.exec, B.bytes, hml, findClass_of_methodNamed B.named, atoms_spec (ws := wsL_isSo) B.pre⟩, hK, hN, hj, fun n h => Or.inl ⟨n, h, rfl⟩, fun q h => Or.inr h⟩
  have hS : va_S (xA NLA a s.heap.size) s.heap s.heap [] := va_S.rf
  have hl := lv_entry ([.ref (a 0 0), .ref (a 30 0), .ref (a 31 0), .ref (a 32 0), .ref (a 33 0), .ref (a 34 0), .ref (a 35 0), .ref (a 36 0), .ref (a 37 0), .ref (a 38 0), .ref (a 39 0)]) (n := 17) (Nat.le_of_ble_eq_true rfl)
  rw [lg_entry_eq]
  generalize (lg_sl ([.ref (a 0 0), .ref (a 30 0), .ref (a 31 0), .ref (a 32 0), .ref (a 33 0), .ref (a 34 0), .ref (a 35 0), .ref (a 36 0), .ref (a 37 0), .ref (a 38 0), .ref (a 39 0)]) ++ List.replicate (17 - (lg_sl ([.ref (a 0 0), .ref (a 30 0), .ref (a 31 0), .ref (a 32 0), .ref (a 33 0), .ref (a 34 0), .ref (a 35 0), .ref (a 36 0), .ref (a 37 0), .ref (a 38 0), .ref (a 39 0)])).length) Slot.unset).toArray = ls at hl ⊢
  have hl : lv_has ls 17 [(0, .ref (a 0 0)), (1, .ref (a 30 0)), (2, .ref (a 31 0)), (3, .ref (a 32 0)), (4, .ref (a 33 0)), (5, .ref (a 34 0)), (6, .ref (a 35 0)), (7, .ref (a 36 0)), (8, .ref (a 37 0)), (9, .ref (a 38 0)), (10, .ref (a 39 0))] := hl
  refine lv_aload_n C0.hx C0.hb dL_isSo_0 rfl (lv_at hl 1 rfl) ?_
  refine lv_aload_n C0.hx C0.hb dL_isSo_1 rfl (lv_at hl 2 rfl) ?_
  refine lv_aload_n C0.hx C0.hb dL_isSo_2 rfl (lv_at hl 3 rfl) ?_
  refine lv_aload C0.hx C0.hb dL_isSo_3 (lv_at hl 4 rfl) ?_
  refine lv_aload C0.hx C0.hb dL_isSo_5 (lv_at hl 5 rfl) ?_
  refine lv_aload C0.hx C0.hb dL_isSo_7 (lv_at hl 6 rfl) ?_
  refine lv_aload C0.hx C0.hb dL_isSo_9 (lv_at hl 8 rfl) ?_
  refine lv_aload C0.hx C0.hb dL_isSo_11 (lv_at hl 10 rfl) ?_
  refine x_Sv (As := [.ref (a 30 0), .ref (a 31 0), .ref (a 32 0), .ref (a 33 0), .ref (a 34 0), .ref (a 35 0), .ref (a 37 0), .ref (a 39 0)]) (rest := []) C0 (mtL_names l g a σ ok) hP hS (va_cwS 8 C0.hts gL_isSo_L_names rfl rfl rfl (by decide +kernel) ⟨Nat.le_of_ble_eq_true rfl, Nat.le_of_ble_eq_true rfl⟩) rfl hl rfl (Nat.le_of_ble_eq_true rfl) (by show _ ≤ 1300; omega) (by show _ ≤ 7800; omega) dL_isSo_13 (fun H locs hP hS => ?_)
  obtain ⟨τ, hτ⟩ : ∃ w, w = nsS σ := ⟨_, rfl⟩
  rw [← hτ] at hP hI ⊢
  have okx : okX τ := by rw [hτ]; exact okx.ne (fun t i j h => nsL_ne _ t i j (fun e => by rw [e] at h; cases h))
  have ok : okP τ := by rw [hτ]; exact nsL_ok ok
  have hn13 := ok.n.2
  have hn3 : nv (τ 3 0 0) = nv (τ 30 0 0) := congrArg nv hI.1
  refine lv_iconst (v := nI 0) C0.hx C0.hb dL_isSo_16 (by decide) ?_
  refine lv_istore (lv' := [(11, .int (nI 0)), (0, .ref (a 0 0)), (1, .ref (a 30 0)), (2, .ref (a 31 0)), (3, .ref (a 32 0)), (4, .ref (a 33 0)), (5, .ref (a 34 0)), (6, .ref (a 35 0)), (7, .ref (a 36 0)), (8, .ref (a 37 0)), (9, .ref (a 38 0)), (10, .ref (a 39 0))]) C0.hx C0.hb dL_isSo_17 hl (by decide) rfl (fun ls hl => ?_)
  refine lv_aload_n C0.hx C0.hb dL_isSo_19 rfl (lv_at hl 1 rfl) ?_
  refine x_Vi (As := []) (rest := []) C0 (mtX4_reports l g a τ okx) (xwf_sub hP NLA_X) (xDj_A C0.2.2.2.1).1 (cwV 0 C0.hts gL_isSo_X4_reports rfl rfl rfl (by decide +kernel) ⟨Nat.le_of_ble_eq_true rfl, Nat.le_of_ble_eq_true rfl⟩) (x_recv C0 hP 0 (NLA_X _ (mX_n rfl)) rfl rfl) rfl hl rfl (Nat.le_of_ble_eq_true rfl) (by show _ ≤ 1300; omega) (by show _ ≤ 7800; omega) dL_isSo_20 ?_
  refine lv_aload_n C0.hx C0.hb dL_isSo_23 rfl (lv_at hl 2 rfl) ?_
  refine lv_iconst (v := nI 0) C0.hx C0.hb dL_isSo_24 (by decide) ?_
  refine x_iald C0 hP 30 0 3 (NLA_M _ (mM_n rfl rfl)) rfl (by omega) (by decide) dL_isSo_25 ?_
  obtain ⟨e_1, b_2⟩ := (ok.n : inR (τ 30 0 0) _)
  refine x_top e_1 ?_
  refine lv_icmp_ne (tgt := 33) C0.hx C0.hb dL_isSo_26 (by decide) (fun c_3 => ?_) (fun c_3 => ?_)
  ·
    exact absurd (hI.1.trans ok.n.1) c_3
  ·
    refine lv_iconst (v := nI 1) C0.hx C0.hb dL_isSo_29 (by decide) ?_
    refine lv_goto (tgt := 34) C0.hx C0.hb dL_isSo_30 (by decide) ?_
    refine lv_istore (lv' := [(12, .int (nI 1)), (11, .int (nI 0)), (0, .ref (a 0 0)), (1, .ref (a 30 0)), (2, .ref (a 31 0)), (3, .ref (a 32 0)), (4, .ref (a 33 0)), (5, .ref (a 34 0)), (6, .ref (a 35 0)), (7, .ref (a 36 0)), (8, .ref (a 37 0)), (9, .ref (a 38 0)), (10, .ref (a 39 0))]) C0.hx C0.hb dL_isSo_34 hl (by decide) rfl (fun ls hl => ?_)
    refine lv_iconst (v := nI 0) C0.hx C0.hb dL_isSo_36 (by decide) ?_
    refine lv_istore (lv' := [(13, .int (nI 0)), (12, .int (nI 1)), (11, .int (nI 0)), (0, .ref (a 0 0)), (1, .ref (a 30 0)), (2, .ref (a 31 0)), (3, .ref (a 32 0)), (4, .ref (a 33 0)), (5, .ref (a 34 0)), (6, .ref (a 35 0)), (7, .ref (a 36 0)), (8, .ref (a 37 0)), (9, .ref (a 38 0)), (10, .ref (a 39 0))]) C0.hx C0.hb dL_isSo_37 hl (by decide) rfl (fun ls hl => ?_)
    refine W.widen (k := 0 + 0 + 100 * 0) (n := 0 + 0 + 600 * 0) (by omega) (by omega) ?_
    refine x_loopC (α := Nat) (fun n => 12 - n) (fun n => 0 + 0 + 100 * n) (fun n => 0 + 0 + 600 * n) (fun n H locs ls => va_P g.1 vwCl (xw NLA g a τ) H ∧ va_S (xA NLA a s.heap.size) s.heap H locs ∧ n ≤ nv (τ 30 0 0) ∧ lv_has ls 17 [(0, .ref (a 0 0)), (1, .ref (a 30 0)), (2, .ref (a 31 0)), (3, .ref (a 32 0)), (4, .ref (a 33 0)), (5, .ref (a 34 0)), (6, .ref (a 35 0)), (7, .ref (a 36 0)), (8, .ref (a 37 0)), (9, .ref (a 38 0)), (10, .ref (a 39 0)), (11, .int (nI (bkP τ n))), (12, .int (nI 1)), (13, .int (nI n))]) ?_ 0 ⟨hP, hS, (by omega), (lv_sub hl [3, 4, 5, 6, 7, 8, 9, 10, 11, 12, 13, 2, 1, 0] rfl)⟩
    rintro n H locs ls ⟨hP, hS, hn, hl⟩ ih39
    refine lv_iload C0.hx C0.hb dL_isSo_39 (lv_at hl 13 rfl) ?_
    refine lv_aload_n C0.hx C0.hb dL_isSo_41 rfl (lv_at hl 1 rfl) ?_
    refine lv_iconst (v := nI 0) C0.hx C0.hb dL_isSo_42 (by decide) ?_
    refine x_iald C0 hP 30 0 3 (NLA_M _ (mM_n rfl rfl)) rfl (by omega) (by decide) dL_isSo_43 ?_
    obtain ⟨e_4, b_5⟩ := (ok.n : inR (τ 30 0 0) _)
    refine x_top e_4 ?_
    refine x_icmp_ge (tgt := 389) C0.hx C0.hb (by omega) (by omega) dL_isSo_44 (by decide) (fun c_6 => ?_) (fun c_6 => ?_)
    ·
      have hnq : n = nv (τ 30 0 0) := by omega
      refine lv_iconst (v := nI 0) C0.hx C0.hb dL_isSo_389 (by decide) ?_
      refine lv_istore (lv' := [(13, .int (nI 0)), (0, .ref (a 0 0)), (1, .ref (a 30 0)), (2, .ref (a 31 0)), (3, .ref (a 32 0)), (4, .ref (a 33 0)), (5, .ref (a 34 0)), (6, .ref (a 35 0)), (7, .ref (a 36 0)), (8, .ref (a 37 0)), (9, .ref (a 38 0)), (10, .ref (a 39 0)), (11, .int (nI (bkP τ n))), (12, .int (nI 1))]) C0.hx C0.hb dL_isSo_390 hl (by decide) rfl (fun ls hl => ?_)
      refine W.widen (k := 0 + 0 + 100 * n + 0 + 2 * 0) (n := 0 + 0 + 600 * n + 0 + 12 * 0) (by omega) (by omega) ?_
      refine x_loopC (α := Nat) (fun v => 4 - v) (fun v => 0 + 0 + 100 * n + 0 + 2 * v) (fun v => 0 + 0 + 600 * n + 0 + 12 * v) (fun v H locs ls => va_P g.1 vwCl (xw NLA g a τ) H ∧ va_S (xA NLA a s.heap.size) s.heap H locs ∧ v ≤ 4 ∧ lv_has ls 17 [(0, .ref (a 0 0)), (1, .ref (a 30 0)), (2, .ref (a 31 0)), (3, .ref (a 32 0)), (4, .ref (a 33 0)), (5, .ref (a 34 0)), (6, .ref (a 35 0)), (7, .ref (a 36 0)), (8, .ref (a 37 0)), (9, .ref (a 38 0)), (10, .ref (a 39 0)), (11, .int (nI (bkP τ n))), (12, .int (nI 1)), (13, .int (nI v))]) ?_ 0 ⟨hP, hS, (by omega), (lv_sub hl [1, 2, 3, 4, 5, 6, 7, 8, 9, 10, 11, 12, 13, 0] rfl)⟩
      rintro v H locs ls ⟨hP, hS, hv4, hl⟩ ih392
      refine lv_iload C0.hx C0.hb dL_isSo_392 (lv_at hl 13 rfl) ?_
      refine lv_iconst (v := nI 4) C0.hx C0.hb dL_isSo_394 (by decide) ?_
      refine x_icmp_ge (tgt := 425) C0.hx C0.hb (by omega) (by omega) dL_isSo_395 (by decide) (fun c_7 => ?_) (fun c_7 => ?_)
      ·
        refine lv_iload C0.hx C0.hb dL_isSo_425 (lv_at hl 12 rfl) ?_
        refine x_ifeqn (tgt := 443) C0.hx C0.hb (by omega) dL_isSo_427 (by decide) (fun c_8 => ?_) (fun c_8 => ?_)
        ·
          exact absurd c_8 (by decide)
        ·
          refine lv_aload_n C0.hx C0.hb dL_isSo_430 rfl (lv_at hl 0 rfl) ?_
          refine x_Vi (As := []) (rest := []) C0 (mtX4_buckets l g a τ okx) (xwf_sub hP NLA_X) (xDj_A C0.2.2.2.1).1 (cwV 0 C0.hts gL_isSo_X4_buckets rfl rfl rfl (by decide +kernel) ⟨Nat.le_of_ble_eq_true rfl, Nat.le_of_ble_eq_true rfl⟩) (x_recv C0 hP 0 (NLA_X _ (mX_n rfl)) rfl rfl) rfl hl rfl (Nat.le_of_ble_eq_true rfl) (by show _ ≤ 1300; omega) (by show _ ≤ 7800; omega) dL_isSo_431 ?_
          refine lv_iload C0.hx C0.hb dL_isSo_434 (lv_at hl 11 rfl) ?_
          refine lv_icmp_ne (tgt := 443) C0.hx C0.hb dL_isSo_436 (by decide) (fun c_9 => ?_) (fun c_9 => ?_)
          ·
            exact absurd (by rw [hI.2.2.2, hnq]) c_9
          ·
            refine lv_iconst (v := nI 1) C0.hx C0.hb dL_isSo_439 (by decide) ?_
            refine lv_goto (tgt := 444) C0.hx C0.hb dL_isSo_440 (by decide) ?_
            refine W.widen (k := 1300) (n := 7800) (by omega) (by omega) ?_
            exact W.zret (v := nI 1) C0.hx C0.hb hr rfl (fun t ht hW => ⟨⟨_, τ, rfl, ⟨rfl, rfl⟩, x_end ht hP⟩, hS.F ht⟩) hS.2.2 dL_isSo_444
      ·
        refine lv_iload C0.hx C0.hb dL_isSo_398 (lv_at hl 12 rfl) ?_
        refine x_ifeqn (tgt := 425) C0.hx C0.hb (by omega) dL_isSo_400 (by decide) (fun c_10 => ?_) (fun c_10 => ?_)
        ·
          exact absurd c_10 (by decide)
        ·
          refine lv_aload_n C0.hx C0.hb dL_isSo_403 rfl (lv_at hl 0 rfl) ?_
          refine lv_iload C0.hx C0.hb dL_isSo_404 (lv_at hl 13 rfl) ?_
          refine lv_aload_n C0.hx C0.hb dL_isSo_406 rfl (lv_at hl 1 rfl) ?_
          refine lv_aload_n C0.hx C0.hb dL_isSo_407 rfl (lv_at hl 2 rfl) ?_
          refine lv_aload C0.hx C0.hb dL_isSo_408 (lv_at hl 6 rfl) ?_
          refine lv_aload C0.hx C0.hb dL_isSo_410 (lv_at hl 7 rfl) ?_
          refine lv_aload C0.hx C0.hb dL_isSo_412 (lv_at hl 10 rfl) ?_
          refine x_LS (As := [.ref (a 0 0), .int (nI v), .ref (a 30 0), .ref (a 31 0), .ref (a 35 0), .ref (a 36 0), .ref (a 39 0)]) (rest := []) C0 (mtL_version l hfl g a τ v (by omega) okx ok (hI.2.2.1 v (by omega))) hP hS hT hZ (va_cwS 7 C0.hts gL_isSo_L_version rfl rfl rfl (by decide +kernel) ⟨Nat.le_of_ble_eq_true rfl, Nat.le_of_ble_eq_true rfl⟩) rfl hl rfl (Nat.le_of_ble_eq_true rfl) (by show _ ≤ 1300; omega) (by show _ ≤ 7800; omega) dL_isSo_414 (fun H locs hP hS => ?_)
          refine lv_istore (lv' := [(12, .int (nI 1)), (0, .ref (a 0 0)), (1, .ref (a 30 0)), (2, .ref (a 31 0)), (3, .ref (a 32 0)), (4, .ref (a 33 0)), (5, .ref (a 34 0)), (6, .ref (a 35 0)), (7, .ref (a 36 0)), (8, .ref (a 37 0)), (9, .ref (a 38 0)), (10, .ref (a 39 0)), (11, .int (nI (bkP τ n))), (13, .int (nI v))]) C0.hx C0.hb dL_isSo_417 hl (by decide) rfl (fun ls hl => ?_)
          refine lv_iinc (v := nI (v + 1)) (lv' := [(13, .int (nI (v + 1))), (12, .int (nI 1)), (0, .ref (a 0 0)), (1, .ref (a 30 0)), (2, .ref (a 31 0)), (3, .ref (a 32 0)), (4, .ref (a 33 0)), (5, .ref (a 34 0)), (6, .ref (a 35 0)), (7, .ref (a 36 0)), (8, .ref (a 37 0)), (9, .ref (a 38 0)), (10, .ref (a 39 0)), (11, .int (nI (bkP τ n)))]) C0.hx C0.hb dL_isSo_419 hl (k := 13) rfl (nI_1 v) (by decide) rfl (fun ls hl => ?_)
          refine lv_goto (tgt := 392) C0.hx C0.hb dL_isSo_422 (by decide) ?_
          refine W.widen (k := 0 + 0 + 100 * n + 0 + 2 * ((v + 1))) (n := 0 + 0 + 600 * n + 0 + 12 * ((v + 1))) (by omega) (by omega) ?_
          exact ih392 ((v + 1)) H locs ls ⟨hP, hS, (by omega), (lv_sub hl [2, 3, 4, 5, 6, 7, 8, 9, 10, 11, 12, 13, 1, 0] rfl)⟩ (by omega)
    ·
      obtain ⟨hA, hk9⟩ := hI.2.1 n (by omega)
      have hk9l := hk9.2
      refine lv_iload C0.hx C0.hb dL_isSo_47 (lv_at hl 12 rfl) ?_
      refine x_ifeqn (tgt := 389) C0.hx C0.hb (by omega) dL_isSo_49 (by decide) (fun c_11 => ?_) (fun c_11 => ?_)
      ·
        exact absurd c_11 (by decide)
      ·
        refine lv_iconst (v := nI 0) C0.hx C0.hb dL_isSo_52 (by decide) ?_
        refine lv_istore (lv' := [(14, .int (nI 0)), (0, .ref (a 0 0)), (1, .ref (a 30 0)), (2, .ref (a 31 0)), (3, .ref (a 32 0)), (4, .ref (a 33 0)), (5, .ref (a 34 0)), (6, .ref (a 35 0)), (7, .ref (a 36 0)), (8, .ref (a 37 0)), (9, .ref (a 38 0)), (10, .ref (a 39 0)), (11, .int (nI (bkP τ n))), (12, .int (nI 1)), (13, .int (nI n))]) C0.hx C0.hb dL_isSo_53 hl (by decide) rfl (fun ls hl => ?_)
        refine lv_aload C0.hx C0.hb dL_isSo_55 (lv_at hl 11 rfl) ?_
        refine lv_iload C0.hx C0.hb dL_isSo_57 (lv_at hl 14 rfl) ?_
        refine x_iald C0 hP 39 n 24 (NLA_M _ (mM_n rfl rfl)) rfl (by omega) (by decide) dL_isSo_59 ?_
        refine lv_istore (lv' := [(15, .int (τ 39 0 n)), (14, .int (nI 0)), (0, .ref (a 0 0)), (1, .ref (a 30 0)), (2, .ref (a 31 0)), (3, .ref (a 32 0)), (4, .ref (a 33 0)), (5, .ref (a 34 0)), (6, .ref (a 35 0)), (7, .ref (a 36 0)), (8, .ref (a 37 0)), (9, .ref (a 38 0)), (10, .ref (a 39 0)), (11, .int (nI (bkP τ n))), (12, .int (nI 1)), (13, .int (nI n))]) C0.hx C0.hb dL_isSo_60 hl (by decide) rfl (fun ls hl => ?_)
        refine lv_iconst (v := nI 0) C0.hx C0.hb dL_isSo_62 (by decide) ?_
        refine lv_istore (lv' := [(16, .int (nI 0)), (15, .int (τ 39 0 n)), (14, .int (nI 0)), (0, .ref (a 0 0)), (1, .ref (a 30 0)), (2, .ref (a 31 0)), (3, .ref (a 32 0)), (4, .ref (a 33 0)), (5, .ref (a 34 0)), (6, .ref (a 35 0)), (7, .ref (a 36 0)), (8, .ref (a 37 0)), (9, .ref (a 38 0)), (10, .ref (a 39 0)), (11, .int (nI (bkP τ n))), (12, .int (nI 1)), (13, .int (nI n))]) C0.hx C0.hb dL_isSo_63 hl (by decide) rfl (fun ls hl => ?_)
        refine x_loopR (α := Nat) (fun i => 12 - i) (fun i ls => i ≤ nv (τ 30 0 0) ∧ lv_has ls 17 [(0, .ref (a 0 0)), (1, .ref (a 30 0)), (2, .ref (a 31 0)), (3, .ref (a 32 0)), (4, .ref (a 33 0)), (5, .ref (a 34 0)), (6, .ref (a 35 0)), (7, .ref (a 36 0)), (8, .ref (a 37 0)), (9, .ref (a 38 0)), (10, .ref (a 39 0)), (11, .int (nI (bkP τ n))), (12, .int (nI 1)), (13, .int (nI n)), (14, .int (nI (szP τ n i))), (15, .int (τ 39 0 n)), (16, .int (nI i))]) ?_ 0 ⟨(by omega), (lv_sub hl [3, 4, 5, 6, 7, 8, 9, 10, 11, 12, 13, 14, 15, 16, 2, 1, 0] rfl)⟩
        rintro i ls ⟨hi, hl⟩ ih65
        refine lv_iload C0.hx C0.hb dL_isSo_65 (lv_at hl 16 rfl) ?_
        refine lv_aload_n C0.hx C0.hb dL_isSo_67 rfl (lv_at hl 1 rfl) ?_
        refine lv_iconst (v := nI 0) C0.hx C0.hb dL_isSo_68 (by decide) ?_
        refine x_iald C0 hP 30 0 3 (NLA_M _ (mM_n rfl rfl)) rfl (by omega) (by decide) dL_isSo_69 ?_
        obtain ⟨e_12, b_13⟩ := (ok.n : inR (τ 30 0 0) _)
        refine x_top e_12 ?_
        refine x_icmp_ge (tgt := 108) C0.hx C0.hb (by omega) (by omega) dL_isSo_70 (by decide) (fun c_14 => ?_) (fun c_14 => ?_)
        ·
          obtain rfl : i = nv (τ 30 0 0) := by omega
          refine lv_iconst (v := nI 0) C0.hx C0.hb dL_isSo_108 (by decide) ?_
          refine lv_istore (lv' := [(16, .int (nI 0)), (0, .ref (a 0 0)), (1, .ref (a 30 0)), (2, .ref (a 31 0)), (3, .ref (a 32 0)), (4, .ref (a 33 0)), (5, .ref (a 34 0)), (6, .ref (a 35 0)), (7, .ref (a 36 0)), (8, .ref (a 37 0)), (9, .ref (a 38 0)), (10, .ref (a 39 0)), (11, .int (nI (bkP τ n))), (12, .int (nI 1)), (13, .int (nI n)), (14, .int (nI (szP τ n (nv (τ 30 0 0))))), (15, .int (τ 39 0 n))]) C0.hx C0.hb dL_isSo_109 hl (by decide) rfl (fun ls hl => ?_)
          refine W.widen (k := 0 + 0 + 100 * n + 0 + 4 * 0) (n := 0 + 0 + 600 * n + 0 + 24 * 0) (by omega) (by omega) ?_
          refine x_loopC (α := Nat) (fun q => 4 - q) (fun q => 0 + 0 + 100 * n + 0 + 4 * q) (fun q => 0 + 0 + 600 * n + 0 + 24 * q) (fun q H locs ls => va_P g.1 vwCl (xw NLA g a τ) H ∧ va_S (xA NLA a s.heap.size) s.heap H locs ∧ q ≤ 4 ∧ lv_has ls 17 [(0, .ref (a 0 0)), (1, .ref (a 30 0)), (2, .ref (a 31 0)), (3, .ref (a 32 0)), (4, .ref (a 33 0)), (5, .ref (a 34 0)), (6, .ref (a 35 0)), (7, .ref (a 36 0)), (8, .ref (a 37 0)), (9, .ref (a 38 0)), (10, .ref (a 39 0)), (11, .int (nI (bkP τ n))), (12, .int (nI 1)), (13, .int (nI n)), (14, .int (nI (szP τ n (nv (τ 30 0 0))))), (15, .int (rsP (τ 39 0 n) q)), (16, .int (nI q))]) ?_ 0 ⟨hP, hS, (by omega), (lv_sub hl [1, 2, 3, 4, 5, 6, 7, 8, 9, 10, 11, 12, 13, 14, 15, 16, 0] rfl)⟩
          rintro q H locs ls ⟨hP, hS, hq4, hl⟩ ih111
          refine lv_iload C0.hx C0.hb dL_isSo_111 (lv_at hl 16 rfl) ?_
          refine lv_iconst (v := nI 4) C0.hx C0.hb dL_isSo_113 (by decide) ?_
          refine x_icmp_ge (tgt := 206) C0.hx C0.hb (by omega) (by omega) dL_isSo_114 (by decide) (fun c_15 => ?_) (fun c_15 => ?_)
          ·
            refine lv_iload C0.hx C0.hb dL_isSo_206 (lv_at hl 11 rfl) ?_
            refine x_join (α := Nat) 226 (fun z H' locs' ls => (H' = H ∧ locs' = locs ∧ z = (if τ 39 0 (12 + n) = nI n then 1 else 0)) ∧ lv_has ls 17 [(0, .ref (a 0 0)), (1, .ref (a 30 0)), (2, .ref (a 31 0)), (3, .ref (a 32 0)), (4, .ref (a 33 0)), (5, .ref (a 34 0)), (6, .ref (a 35 0)), (7, .ref (a 36 0)), (8, .ref (a 37 0)), (9, .ref (a 38 0)), (10, .ref (a 39 0)), (11, .int (nI (bkP τ n))), (12, .int (nI 1)), (13, .int (nI n)), (14, .int (nI (szP τ n (nv (τ 30 0 0))))), (15, .int (rsP (τ 39 0 n) q)), (16, .int (nI q))]) (fun z => [.int (nI z), .int (nI (bkP τ n))]) ?_ (fun J226 => ?_)
            · rintro z H locs ls ⟨⟨rfl, rfl, hz⟩, hl⟩
              subst hz
              refine lv_iadd C0.hx C0.hb dL_isSo_226 ?_
              refine x_top (nI_add (bkP τ n) (if τ 39 0 (12 + n) = nI n then 1 else 0)) ?_
              refine lv_istore (lv' := [(11, .int (nI ((bkP τ n) + (if τ 39 0 (12 + n) = nI n then 1 else 0)))), (0, .ref (a 0 0)), (1, .ref (a 30 0)), (2, .ref (a 31 0)), (3, .ref (a 32 0)), (4, .ref (a 33 0)), (5, .ref (a 34 0)), (6, .ref (a 35 0)), (7, .ref (a 36 0)), (8, .ref (a 37 0)), (9, .ref (a 38 0)), (10, .ref (a 39 0)), (12, .int (nI 1)), (13, .int (nI n)), (14, .int (nI (szP τ n (nv (τ 30 0 0))))), (15, .int (rsP (τ 39 0 n) q)), (16, .int (nI q))]) C0.hx C0.hb dL_isSo_227 hl (by decide) rfl (fun ls hl => ?_)
              refine lv_iload C0.hx C0.hb dL_isSo_229 (lv_at hl 12 rfl) ?_
              refine x_ifeqn (tgt := 292) C0.hx C0.hb (by omega) dL_isSo_231 (by decide) (fun c_16 => ?_) (fun c_16 => ?_)
              ·
                exact absurd c_16 (by decide)
              ·
                refine lv_aload_n C0.hx C0.hb dL_isSo_234 rfl (lv_at hl 1 rfl) ?_
                refine lv_iload C0.hx C0.hb dL_isSo_235 (lv_at hl 13 rfl) ?_
                refine x_VXR (As := [.int (nI n)]) (rest := []) C0 (mtX4_bucket l hfl g a τ (nI n) okx) (fun _ h => chEx_no (r1_ok okx (by omega)) h) hP hS hT hZ (cwV 1 C0.hts gL_isSo_X4_bucket rfl rfl rfl (by decide +kernel) ⟨Nat.le_of_ble_eq_true rfl, Nat.le_of_ble_eq_true rfl⟩) (x_recv C0 hP 0 (NLA_X _ (mX_n rfl)) rfl rfl) rfl hl rfl (Nat.le_of_ble_eq_true rfl) (by show _ ≤ 1300; omega) (by show _ ≤ 7800; omega) dL_isSo_237 (fun H locs hP hS => ?_)
                refine lv_aload C0.hx C0.hb dL_isSo_240 (lv_at hl 11 rfl) ?_
                refine lv_bipush (v := nI 12) C0.hx C0.hb dL_isSo_242 (by decide) ?_
                refine lv_iload C0.hx C0.hb dL_isSo_244 (lv_at hl 13 rfl) ?_
                refine lv_iadd C0.hx C0.hb dL_isSo_246 ?_
                refine x_top (nI_add 12 n) ?_
                refine x_iald C0 hP 39 (12 + n) 24 (NLA_M _ (mM_n rfl rfl)) rfl (by omega) (by decide) dL_isSo_247 ?_
                refine lv_icmp_ne (tgt := 292) C0.hx C0.hb dL_isSo_248 (by decide) (fun c_17 => ?_) (fun c_17 => ?_)
                ·
                  exact absurd (by rw [(show nv (nI n) = n from nv_nI (by omega))]; exact hA.2.1.1) c_17
                ·
                  refine lv_aload_n C0.hx C0.hb dL_isSo_251 rfl (lv_at hl 1 rfl) ?_
                  refine lv_iload C0.hx C0.hb dL_isSo_252 (lv_at hl 13 rfl) ?_
                  refine x_VXR (As := [.int (nI n)]) (rest := []) C0 (mtX4_size l hfl g a τ (nI n) okx) (fun _ h => chEx_no (r1_ok okx (by omega)) h) hP hS hT hZ (cwV 1 C0.hts gL_isSo_X4_size rfl rfl rfl (by decide +kernel) ⟨Nat.le_of_ble_eq_true rfl, Nat.le_of_ble_eq_true rfl⟩) (x_recv C0 hP 0 (NLA_X _ (mX_n rfl)) rfl rfl) rfl hl rfl (Nat.le_of_ble_eq_true rfl) (by show _ ≤ 1300; omega) (by show _ ≤ 7800; omega) dL_isSo_254 (fun H locs hP hS => ?_)
                  refine lv_iload C0.hx C0.hb dL_isSo_257 (lv_at hl 14 rfl) ?_
                  refine lv_icmp_ne (tgt := 292) C0.hx C0.hb dL_isSo_259 (by decide) (fun c_18 => ?_) (fun c_18 => ?_)
                  ·
                    exact absurd (by rw [(show nv (nI n) = n from nv_nI (by omega)), hA.2.1.2.1]) c_18
                  ·
                    refine lv_aload_n C0.hx C0.hb dL_isSo_262 rfl (lv_at hl 1 rfl) ?_
                    refine lv_iconst (v := nI 2) C0.hx C0.hb dL_isSo_263 (by decide) ?_
                    refine lv_iload C0.hx C0.hb dL_isSo_264 (lv_at hl 13 rfl) ?_
                    refine lv_iconst (v := nI 0) C0.hx C0.hb dL_isSo_266 (by decide) ?_
                    refine lv_iconst (v := nI 0) C0.hx C0.hb dL_isSo_267 (by decide) ?_
                    refine lv_iconst (v := nI 0) C0.hx C0.hb dL_isSo_268 (by decide) ?_
                    refine x_LSW (As := [.ref (a 0 0), .int (nI 2), .int (nI n), .int (nI 0), .int (nI 0), .int (nI 0)]) (rest := []) C0 (mtL_calls2 l hfl g a τ n okx (hcE okx (by omega))) hP hS hT hZ (vx_cwSW 6 C0.hts gL_isSo_L_calls rfl rfl rfl (by decide +kernel) ⟨Nat.le_of_ble_eq_true rfl, Nat.le_of_ble_eq_true rfl⟩) rfl hl rfl (Nat.le_of_ble_eq_true rfl) (by show _ ≤ 1300; omega) (by show _ ≤ 7800; omega) dL_isSo_269 (fun H locs hP hS => ?_)
                    refine lv_iload C0.hx C0.hb dL_isSo_272 (lv_at hl 13 rfl) ?_
                    refine lv_aload_n C0.hx C0.hb dL_isSo_274 rfl (lv_at hl 2 rfl) ?_
                    refine lv_aload_n C0.hx C0.hb dL_isSo_275 rfl (lv_at hl 3 rfl) ?_
                    refine lv_aload C0.hx C0.hb dL_isSo_276 (lv_at hl 7 rfl) ?_
                    refine lv_aload C0.hx C0.hb dL_isSo_278 (lv_at hl 10 rfl) ?_
                    refine lv_aload C0.hx C0.hb dL_isSo_280 (lv_at hl 11 rfl) ?_
                    refine x_Si (As := [.int (nI n), .ref (a 30 0), .ref (a 31 0), .ref (a 35 0), .ref (a 38 0), .ref (a 39 0)]) (rest := [.int (hcX τ n)]) C0 (mtL_holds l g a τ n (by omega) hk9 ok) hP C0.2.2.2.1 (va_cwS 6 C0.hts gL_isSo_L_holds rfl rfl rfl (by decide +kernel) ⟨Nat.le_of_ble_eq_true rfl, Nat.le_of_ble_eq_true rfl⟩) rfl hl rfl (Nat.le_of_ble_eq_true rfl) (by show _ ≤ 1300; omega) (by show _ ≤ 7800; omega) dL_isSo_282 ?_
                    refine lv_icmp_ne (tgt := 292) C0.hx C0.hb dL_isSo_285 (by decide) (fun c_19 => ?_) (fun c_19 => ?_)
                    ·
                      exact absurd hA.2.1.2.2 c_19
                    ·
                      refine lv_iconst (v := nI 1) C0.hx C0.hb dL_isSo_288 (by decide) ?_
                      refine lv_goto (tgt := 293) C0.hx C0.hb dL_isSo_289 (by decide) ?_
                      refine lv_istore (lv' := [(12, .int (nI 1)), (11, .int (nI ((bkP τ n) + (if τ 39 0 (12 + n) = nI n then 1 else 0)))), (0, .ref (a 0 0)), (1, .ref (a 30 0)), (2, .ref (a 31 0)), (3, .ref (a 32 0)), (4, .ref (a 33 0)), (5, .ref (a 34 0)), (6, .ref (a 35 0)), (7, .ref (a 36 0)), (8, .ref (a 37 0)), (9, .ref (a 38 0)), (10, .ref (a 39 0)), (13, .int (nI n)), (14, .int (nI (szP τ n (nv (τ 30 0 0))))), (15, .int (rsP (τ 39 0 n) q)), (16, .int (nI q))]) C0.hx C0.hb dL_isSo_293 hl (by decide) rfl (fun ls hl => ?_)
                      refine lv_iconst (v := nI 0) C0.hx C0.hb dL_isSo_295 (by decide) ?_
                      refine lv_istore (lv' := [(16, .int (nI 0)), (12, .int (nI 1)), (11, .int (nI ((bkP τ n) + (if τ 39 0 (12 + n) = nI n then 1 else 0)))), (0, .ref (a 0 0)), (1, .ref (a 30 0)), (2, .ref (a 31 0)), (3, .ref (a 32 0)), (4, .ref (a 33 0)), (5, .ref (a 34 0)), (6, .ref (a 35 0)), (7, .ref (a 36 0)), (8, .ref (a 37 0)), (9, .ref (a 38 0)), (10, .ref (a 39 0)), (13, .int (nI n)), (14, .int (nI (szP τ n (nv (τ 30 0 0))))), (15, .int (rsP (τ 39 0 n) q))]) C0.hx C0.hb dL_isSo_296 hl (by decide) rfl (fun ls hl => ?_)
                      refine W.widen (k := 0 + 0 + 100 * n + 0 + 4 * q + 5 + 4 * 0) (n := 0 + 0 + 600 * n + 0 + 24 * q + 30 + 24 * 0) (by omega) (by omega) ?_
                      refine x_loopC (α := Nat) (fun v => 4 - v) (fun v => 0 + 0 + 100 * n + 0 + 4 * q + 5 + 4 * v) (fun v => 0 + 0 + 600 * n + 0 + 24 * q + 30 + 24 * v) (fun v H locs ls => va_P g.1 vwCl (xw NLA g a τ) H ∧ va_S (xA NLA a s.heap.size) s.heap H locs ∧ v ≤ 4 ∧ lv_has ls 17 [(0, .ref (a 0 0)), (1, .ref (a 30 0)), (2, .ref (a 31 0)), (3, .ref (a 32 0)), (4, .ref (a 33 0)), (5, .ref (a 34 0)), (6, .ref (a 35 0)), (7, .ref (a 36 0)), (8, .ref (a 37 0)), (9, .ref (a 38 0)), (10, .ref (a 39 0)), (11, .int (nI ((bkP τ n) + (if τ 39 0 (12 + n) = nI n then 1 else 0)))), (12, .int (nI 1)), (13, .int (nI n)), (14, .int (nI (szP τ n (nv (τ 30 0 0))))), (15, .int (rsP (τ 39 0 n) q)), (16, .int (nI v))]) ?_ 0 ⟨hP, hS, (by omega), (lv_sub hl [3, 4, 5, 6, 7, 8, 9, 10, 11, 12, 13, 2, 1, 14, 15, 16, 0] rfl)⟩
                      rintro v H locs ls ⟨hP, hS, hv4, hl⟩ ih298
                      refine lv_iload C0.hx C0.hb dL_isSo_298 (lv_at hl 16 rfl) ?_
                      refine lv_iconst (v := nI 4) C0.hx C0.hb dL_isSo_300 (by decide) ?_
                      refine x_icmp_ge (tgt := 383) C0.hx C0.hb (by omega) (by omega) dL_isSo_301 (by decide) (fun c_20 => ?_) (fun c_20 => ?_)
                      ·
                        refine lv_iinc (v := nI (n + 1)) (lv' := [(13, .int (nI (n + 1))), (0, .ref (a 0 0)), (1, .ref (a 30 0)), (2, .ref (a 31 0)), (3, .ref (a 32 0)), (4, .ref (a 33 0)), (5, .ref (a 34 0)), (6, .ref (a 35 0)), (7, .ref (a 36 0)), (8, .ref (a 37 0)), (9, .ref (a 38 0)), (10, .ref (a 39 0)), (11, .int (nI ((bkP τ n) + (if τ 39 0 (12 + n) = nI n then 1 else 0)))), (12, .int (nI 1)), (14, .int (nI (szP τ n (nv (τ 30 0 0))))), (15, .int (rsP (τ 39 0 n) q)), (16, .int (nI v))]) C0.hx C0.hb dL_isSo_383 hl (k := 13) rfl (nI_1 n) (by decide) rfl (fun ls hl => ?_)
                        refine lv_goto (tgt := 39) C0.hx C0.hb dL_isSo_386 (by decide) ?_
                        refine W.widen (k := 0 + 0 + 100 * ((n + 1))) (n := 0 + 0 + 600 * ((n + 1))) (by omega) (by omega) ?_
                        exact ih39 ((n + 1)) H locs ls ⟨hP, hS, (by omega), (lv_sub hl [1, 2, 3, 4, 5, 6, 7, 8, 9, 10, 11, 12, 13, 0] rfl)⟩ (by omega)
                      ·
                        refine lv_iload C0.hx C0.hb dL_isSo_304 (lv_at hl 12 rfl) ?_
                        refine x_ifeqn (tgt := 383) C0.hx C0.hb (by omega) dL_isSo_306 (by decide) (fun c_21 => ?_) (fun c_21 => ?_)
                        ·
                          exact absurd c_21 (by decide)
                        ·
                          refine lv_aload_n C0.hx C0.hb dL_isSo_309 rfl (lv_at hl 0 rfl) ?_
                          refine lv_iload C0.hx C0.hb dL_isSo_310 (lv_at hl 13 rfl) ?_
                          refine lv_iload C0.hx C0.hb dL_isSo_312 (lv_at hl 16 rfl) ?_
                          refine x_VXR (As := [.int (nI n), .int (nI v)]) (rest := []) C0 (mtX4_rate l hfl g a τ (nI n) (nI v) okx) (fun _ h => chEx_no (fr_ok okx (by omega) (by omega)) h) hP hS hT hZ (cwV 2 C0.hts gL_isSo_X4_rate rfl rfl rfl (by decide +kernel) ⟨Nat.le_of_ble_eq_true rfl, Nat.le_of_ble_eq_true rfl⟩) (x_recv C0 hP 0 (NLA_X _ (mX_n rfl)) rfl rfl) rfl hl rfl (Nat.le_of_ble_eq_true rfl) (by show _ ≤ 1300; omega) (by show _ ≤ 7800; omega) dL_isSo_314 (fun H locs hP hS => ?_)
                          refine lv_aload C0.hx C0.hb dL_isSo_317 (lv_at hl 10 rfl) ?_
                          refine lv_bipush (v := nI 12) C0.hx C0.hb dL_isSo_319 (by decide) ?_
                          refine lv_iload C0.hx C0.hb dL_isSo_321 (lv_at hl 13 rfl) ?_
                          refine lv_iadd C0.hx C0.hb dL_isSo_323 ?_
                          refine x_top (nI_add 12 n) ?_
                          refine x_iald C0 hP 39 (12 + n) 24 (NLA_M _ (mM_n rfl rfl)) rfl (by omega) (by decide) dL_isSo_324 ?_
                          refine x_top hk9.1 ?_
                          refine lv_iload C0.hx C0.hb dL_isSo_325 (lv_at hl 16 rfl) ?_
                          refine lv_aload_n C0.hx C0.hb dL_isSo_327 rfl (lv_at hl 1 rfl) ?_
                          refine lv_aload_n C0.hx C0.hb dL_isSo_328 rfl (lv_at hl 2 rfl) ?_
                          refine lv_aload C0.hx C0.hb dL_isSo_329 (lv_at hl 6 rfl) ?_
                          refine lv_aload C0.hx C0.hb dL_isSo_331 (lv_at hl 10 rfl) ?_
                          refine x_Si (As := [.int (nI (nv (τ 39 0 (12 + n)))), .int (nI v), .ref (a 30 0), .ref (a 31 0), .ref (a 35 0), .ref (a 39 0)]) (rest := [.int (nI (rtX τ (τ 19 0 (nv (nI n))) (nv (nI v))))]) C0 (mtL_rate l g a τ (nv (τ 39 0 (12 + n))) v (by omega) (by omega) ok) hP C0.2.2.2.1 (va_cwS 6 C0.hts gL_isSo_L_rate rfl rfl rfl (by decide +kernel) ⟨Nat.le_of_ble_eq_true rfl, Nat.le_of_ble_eq_true rfl⟩) rfl hl rfl (Nat.le_of_ble_eq_true rfl) (by show _ ≤ 1300; omega) (by show _ ≤ 7800; omega) dL_isSo_333 ?_
                          refine lv_icmp_ne (tgt := 374) C0.hx C0.hb dL_isSo_336 (by decide) (fun c_22 => ?_) (fun c_22 => ?_)
                          ·
                            exact absurd (by rw [(show nv (nI n) = n from nv_nI (by omega)), (show nv (nI v) = v from nv_nI (by omega)), (hA.2.2 v (by omega)).1]) c_22
                          ·
                            refine lv_aload_n C0.hx C0.hb dL_isSo_339 rfl (lv_at hl 0 rfl) ?_
                            refine lv_iload C0.hx C0.hb dL_isSo_340 (lv_at hl 13 rfl) ?_
                            refine lv_iload C0.hx C0.hb dL_isSo_342 (lv_at hl 16 rfl) ?_
                            refine x_VXR (As := [.int (nI n), .int (nI v)]) (rest := []) C0 (mtX4_users l hfl g a τ (nI n) (nI v) okx) (fun _ h => chEx_no (fr_ok okx (by omega) (by omega)) h) hP hS hT hZ (cwV 2 C0.hts gL_isSo_X4_users rfl rfl rfl (by decide +kernel) ⟨Nat.le_of_ble_eq_true rfl, Nat.le_of_ble_eq_true rfl⟩) (x_recv C0 hP 0 (NLA_X _ (mX_n rfl)) rfl rfl) rfl hl rfl (Nat.le_of_ble_eq_true rfl) (by show _ ≤ 1300; omega) (by show _ ≤ 7800; omega) dL_isSo_344 (fun H locs hP hS => ?_)
                            refine lv_aload C0.hx C0.hb dL_isSo_347 (lv_at hl 10 rfl) ?_
                            refine lv_bipush (v := nI 12) C0.hx C0.hb dL_isSo_349 (by decide) ?_
                            refine lv_iload C0.hx C0.hb dL_isSo_351 (lv_at hl 13 rfl) ?_
                            refine lv_iadd C0.hx C0.hb dL_isSo_353 ?_
                            refine x_top (nI_add 12 n) ?_
                            refine x_iald C0 hP 39 (12 + n) 24 (NLA_M _ (mM_n rfl rfl)) rfl (by omega) (by decide) dL_isSo_354 ?_
                            refine x_top hk9.1 ?_
                            refine lv_iload C0.hx C0.hb dL_isSo_355 (lv_at hl 16 rfl) ?_
                            refine lv_aload_n C0.hx C0.hb dL_isSo_357 rfl (lv_at hl 1 rfl) ?_
                            refine lv_aload C0.hx C0.hb dL_isSo_358 (lv_at hl 6 rfl) ?_
                            refine lv_aload C0.hx C0.hb dL_isSo_360 (lv_at hl 7 rfl) ?_
                            refine lv_aload C0.hx C0.hb dL_isSo_362 (lv_at hl 10 rfl) ?_
                            refine x_Si (As := [.int (nI (nv (τ 39 0 (12 + n)))), .int (nI v), .ref (a 30 0), .ref (a 35 0), .ref (a 36 0), .ref (a 39 0)]) (rest := [.int (ucX τ (τ 19 0 (nv (nI n))) (nv (nI v)))]) C0 (mtL_users l g a τ (nv (τ 39 0 (12 + n))) v (by omega) ok) hP C0.2.2.2.1 (va_cwS 6 C0.hts gL_isSo_L_users rfl rfl rfl (by decide +kernel) ⟨Nat.le_of_ble_eq_true rfl, Nat.le_of_ble_eq_true rfl⟩) rfl hl rfl (Nat.le_of_ble_eq_true rfl) (by show _ ≤ 1300; omega) (by show _ ≤ 7800; omega) dL_isSo_364 ?_
                            refine lv_icmp_ne (tgt := 374) C0.hx C0.hb dL_isSo_367 (by decide) (fun c_23 => ?_) (fun c_23 => ?_)
                            ·
                              exact absurd (by rw [(show nv (nI n) = n from nv_nI (by omega)), (show nv (nI v) = v from nv_nI (by omega)), (hA.2.2 v (by omega)).2]) c_23
                            ·
                              refine lv_iconst (v := nI 1) C0.hx C0.hb dL_isSo_370 (by decide) ?_
                              refine lv_goto (tgt := 375) C0.hx C0.hb dL_isSo_371 (by decide) ?_
                              refine lv_istore (lv' := [(12, .int (nI 1)), (0, .ref (a 0 0)), (1, .ref (a 30 0)), (2, .ref (a 31 0)), (3, .ref (a 32 0)), (4, .ref (a 33 0)), (5, .ref (a 34 0)), (6, .ref (a 35 0)), (7, .ref (a 36 0)), (8, .ref (a 37 0)), (9, .ref (a 38 0)), (10, .ref (a 39 0)), (11, .int (nI ((bkP τ n) + (if τ 39 0 (12 + n) = nI n then 1 else 0)))), (13, .int (nI n)), (14, .int (nI (szP τ n (nv (τ 30 0 0))))), (15, .int (rsP (τ 39 0 n) q)), (16, .int (nI v))]) C0.hx C0.hb dL_isSo_375 hl (by decide) rfl (fun ls hl => ?_)
                              refine lv_iinc (v := nI (v + 1)) (lv' := [(16, .int (nI (v + 1))), (12, .int (nI 1)), (0, .ref (a 0 0)), (1, .ref (a 30 0)), (2, .ref (a 31 0)), (3, .ref (a 32 0)), (4, .ref (a 33 0)), (5, .ref (a 34 0)), (6, .ref (a 35 0)), (7, .ref (a 36 0)), (8, .ref (a 37 0)), (9, .ref (a 38 0)), (10, .ref (a 39 0)), (11, .int (nI ((bkP τ n) + (if τ 39 0 (12 + n) = nI n then 1 else 0)))), (13, .int (nI n)), (14, .int (nI (szP τ n (nv (τ 30 0 0))))), (15, .int (rsP (τ 39 0 n) q))]) C0.hx C0.hb dL_isSo_377 hl (k := 16) rfl (nI_1 v) (by decide) rfl (fun ls hl => ?_)
                              refine lv_goto (tgt := 298) C0.hx C0.hb dL_isSo_380 (by decide) ?_
                              refine W.widen (k := 0 + 0 + 100 * n + 0 + 4 * q + 5 + 4 * ((v + 1))) (n := 0 + 0 + 600 * n + 0 + 24 * q + 30 + 24 * ((v + 1))) (by omega) (by omega) ?_
                              exact ih298 ((v + 1)) H locs ls ⟨hP, hS, (by omega), (lv_sub hl [2, 3, 4, 5, 6, 7, 8, 9, 10, 11, 12, 13, 1, 14, 15, 16, 0] rfl)⟩ (by omega)
            ·
              refine lv_aload C0.hx C0.hb dL_isSo_208 (lv_at hl 10 rfl) ?_
              refine lv_bipush (v := nI 12) C0.hx C0.hb dL_isSo_210 (by decide) ?_
              refine lv_iload C0.hx C0.hb dL_isSo_212 (lv_at hl 13 rfl) ?_
              refine lv_iadd C0.hx C0.hb dL_isSo_214 ?_
              refine x_top (nI_add 12 n) ?_
              refine x_iald C0 hP 39 (12 + n) 24 (NLA_M _ (mM_n rfl rfl)) rfl (by omega) (by decide) dL_isSo_215 ?_
              refine lv_iload C0.hx C0.hb dL_isSo_216 (lv_at hl 13 rfl) ?_
              refine lv_icmp_ne (tgt := 225) C0.hx C0.hb dL_isSo_218 (by decide) (fun c_24 => ?_) (fun c_24 => ?_)
              ·
                refine lv_iconst (v := nI 0) C0.hx C0.hb dL_isSo_225 (by decide) ?_
                exact J226 0 _ _ ls ⟨⟨rfl, rfl, (by simp [c_24])⟩, (lv_sub hl [0, 1, 2, 3, 4, 5, 6, 7, 8, 9, 10, 11, 12, 13, 14, 15, 16] rfl)⟩
              ·
                refine lv_iconst (v := nI 1) C0.hx C0.hb dL_isSo_221 (by decide) ?_
                refine lv_goto (tgt := 226) C0.hx C0.hb dL_isSo_222 (by decide) ?_
                exact J226 1 _ _ ls ⟨⟨rfl, rfl, (by simp [c_24])⟩, (lv_sub hl [0, 1, 2, 3, 4, 5, 6, 7, 8, 9, 10, 11, 12, 13, 14, 15, 16] rfl)⟩
          ·
            refine lv_iload C0.hx C0.hb dL_isSo_117 (lv_at hl 12 rfl) ?_
            refine x_ifeqn (tgt := 206) C0.hx C0.hb (by omega) dL_isSo_119 (by decide) (fun c_25 => ?_) (fun c_25 => ?_)
            ·
              exact absurd c_25 (by decide)
            ·
              refine lv_aload_n C0.hx C0.hb dL_isSo_122 rfl (lv_at hl 0 rfl) ?_
              refine lv_iload C0.hx C0.hb dL_isSo_123 (lv_at hl 13 rfl) ?_
              refine lv_iload C0.hx C0.hb dL_isSo_125 (lv_at hl 16 rfl) ?_
              refine x_VXR (As := [.int (nI n), .int (nI q)]) (rest := []) C0 (mtX4_frame l hfl g a τ (nI n) (nI q) okx) (fun _ h => chEx_no (fr_ok okx (by omega) (by omega)) h) hP hS hT hZ (cwV 2 C0.hts gL_isSo_X4_frame rfl rfl rfl (by decide +kernel) ⟨Nat.le_of_ble_eq_true rfl, Nat.le_of_ble_eq_true rfl⟩) (x_recv C0 hP 0 (NLA_X _ (mX_n rfl)) rfl rfl) rfl hl rfl (Nat.le_of_ble_eq_true rfl) (by show _ ≤ 1300; omega) (by show _ ≤ 7800; omega) dL_isSo_127 (fun H locs hP hS => ?_)
              refine lv_iload C0.hx C0.hb dL_isSo_130 (lv_at hl 13 rfl) ?_
              refine lv_iload C0.hx C0.hb dL_isSo_132 (lv_at hl 16 rfl) ?_
              refine lv_aload_n C0.hx C0.hb dL_isSo_134 rfl (lv_at hl 2 rfl) ?_
              refine lv_aload_n C0.hx C0.hb dL_isSo_135 rfl (lv_at hl 3 rfl) ?_
              refine lv_aload C0.hx C0.hb dL_isSo_136 (lv_at hl 4 rfl) ?_
              refine lv_aload C0.hx C0.hb dL_isSo_138 (lv_at hl 5 rfl) ?_
              refine lv_aload C0.hx C0.hb dL_isSo_140 (lv_at hl 6 rfl) ?_
              refine lv_aload C0.hx C0.hb dL_isSo_142 (lv_at hl 8 rfl) ?_
              refine x_Si (As := [.int (nI n), .int (nI q), .ref (a 31 0), .ref (a 32 0), .ref (a 33 0), .ref (a 34 0), .ref (a 35 0), .ref (a 37 0)]) (rest := [.int (τ 24 (nv (nI n)) (nv (nI q)))]) C0 (mtL_frame l g a τ n q (by omega) (by omega) ok) hP C0.2.2.2.1 (va_cwS 8 C0.hts gL_isSo_L_frame rfl rfl rfl (by decide +kernel) ⟨Nat.le_of_ble_eq_true rfl, Nat.le_of_ble_eq_true rfl⟩) rfl hl rfl (Nat.le_of_ble_eq_true rfl) (by show _ ≤ 1300; omega) (by show _ ≤ 7800; omega) dL_isSo_144 ?_
              refine lv_icmp_ne (tgt := 181) C0.hx C0.hb dL_isSo_147 (by decide) (fun c_26 => ?_) (fun c_26 => ?_)
              ·
                exact absurd (by rw [(show nv (nI n) = n from nv_nI (by omega)), (show nv (nI q) = q from nv_nI (by omega))]; exact (hA.1 q (by omega)).1) c_26
              ·
                refine lv_aload_n C0.hx C0.hb dL_isSo_150 rfl (lv_at hl 0 rfl) ?_
                refine lv_iload C0.hx C0.hb dL_isSo_151 (lv_at hl 13 rfl) ?_
                refine lv_iload C0.hx C0.hb dL_isSo_153 (lv_at hl 16 rfl) ?_
                refine x_VXR (As := [.int (nI n), .int (nI q)]) (rest := []) C0 (mtX4_matters l hfl g a τ (nI n) (nI q) okx) (fun _ h => chEx_no (fr_ok okx (by omega) (by omega)) h) hP hS hT hZ (cwV 2 C0.hts gL_isSo_X4_matters rfl rfl rfl (by decide +kernel) ⟨Nat.le_of_ble_eq_true rfl, Nat.le_of_ble_eq_true rfl⟩) (x_recv C0 hP 0 (NLA_X _ (mX_n rfl)) rfl rfl) rfl hl rfl (Nat.le_of_ble_eq_true rfl) (by show _ ≤ 1300; omega) (by show _ ≤ 7800; omega) dL_isSo_155 (fun H locs hP hS => ?_)
                refine x_join (α := Int32) 174 (fun z H' locs' ls => (H' = H ∧ locs' = locs ∧ z = (mtP (τ 39 0 n) q)) ∧ lv_has ls 17 [(0, .ref (a 0 0)), (1, .ref (a 30 0)), (2, .ref (a 31 0)), (3, .ref (a 32 0)), (4, .ref (a 33 0)), (5, .ref (a 34 0)), (6, .ref (a 35 0)), (7, .ref (a 36 0)), (8, .ref (a 37 0)), (9, .ref (a 38 0)), (10, .ref (a 39 0)), (11, .int (nI (bkP τ n))), (12, .int (nI 1)), (13, .int (nI n)), (14, .int (nI (szP τ n (nv (τ 30 0 0))))), (15, .int (rsP (τ 39 0 n) q)), (16, .int (nI q))]) (fun z => [.int z, .int (τ 25 (nv (nI n)) (nv (nI q)))]) ?_ (fun J174 => ?_)
                · rintro z H locs ls ⟨⟨rfl, rfl, hz⟩, hl⟩
                  subst hz
                  refine lv_icmp_ne (tgt := 181) C0.hx C0.hb dL_isSo_174 (by decide) (fun c_27 => ?_) (fun c_27 => ?_)
                  ·
                    exact absurd (by rw [(show nv (nI n) = n from nv_nI (by omega)), (show nv (nI q) = q from nv_nI (by omega))]; exact (hA.1 q (by omega)).2) c_27
                  ·
                    refine lv_iconst (v := nI 1) C0.hx C0.hb dL_isSo_177 (by decide) ?_
                    refine lv_goto (tgt := 182) C0.hx C0.hb dL_isSo_178 (by decide) ?_
                    refine lv_istore (lv' := [(12, .int (nI 1)), (0, .ref (a 0 0)), (1, .ref (a 30 0)), (2, .ref (a 31 0)), (3, .ref (a 32 0)), (4, .ref (a 33 0)), (5, .ref (a 34 0)), (6, .ref (a 35 0)), (7, .ref (a 36 0)), (8, .ref (a 37 0)), (9, .ref (a 38 0)), (10, .ref (a 39 0)), (11, .int (nI (bkP τ n))), (13, .int (nI n)), (14, .int (nI (szP τ n (nv (τ 30 0 0))))), (15, .int (rsP (τ 39 0 n) q)), (16, .int (nI q))]) C0.hx C0.hb dL_isSo_182 hl (by decide) rfl (fun ls hl => ?_)
                    refine x_join (α := Int32) 198 (fun z H' locs' ls => (H' = H ∧ locs' = locs ∧ z = (rsP (τ 39 0 n) (q + 1))) ∧ lv_has ls 17 [(0, .ref (a 0 0)), (1, .ref (a 30 0)), (2, .ref (a 31 0)), (3, .ref (a 32 0)), (4, .ref (a 33 0)), (5, .ref (a 34 0)), (6, .ref (a 35 0)), (7, .ref (a 36 0)), (8, .ref (a 37 0)), (9, .ref (a 38 0)), (10, .ref (a 39 0)), (11, .int (nI (bkP τ n))), (12, .int (nI 1)), (13, .int (nI n)), (14, .int (nI (szP τ n (nv (τ 30 0 0))))), (15, .int (rsP (τ 39 0 n) q)), (16, .int (nI q))]) (fun z => [.int z]) ?_ (fun J198 => ?_)
                    · rintro z H locs ls ⟨⟨rfl, rfl, hz⟩, hl⟩
                      subst hz
                      refine lv_istore (lv' := [(15, .int (rsP (τ 39 0 n) (q + 1))), (0, .ref (a 0 0)), (1, .ref (a 30 0)), (2, .ref (a 31 0)), (3, .ref (a 32 0)), (4, .ref (a 33 0)), (5, .ref (a 34 0)), (6, .ref (a 35 0)), (7, .ref (a 36 0)), (8, .ref (a 37 0)), (9, .ref (a 38 0)), (10, .ref (a 39 0)), (11, .int (nI (bkP τ n))), (12, .int (nI 1)), (13, .int (nI n)), (14, .int (nI (szP τ n (nv (τ 30 0 0))))), (16, .int (nI q))]) C0.hx C0.hb dL_isSo_198 hl (by decide) rfl (fun ls hl => ?_)
                      refine lv_iinc (v := nI (q + 1)) (lv' := [(16, .int (nI (q + 1))), (15, .int (rsP (τ 39 0 n) (q + 1))), (0, .ref (a 0 0)), (1, .ref (a 30 0)), (2, .ref (a 31 0)), (3, .ref (a 32 0)), (4, .ref (a 33 0)), (5, .ref (a 34 0)), (6, .ref (a 35 0)), (7, .ref (a 36 0)), (8, .ref (a 37 0)), (9, .ref (a 38 0)), (10, .ref (a 39 0)), (11, .int (nI (bkP τ n))), (12, .int (nI 1)), (13, .int (nI n)), (14, .int (nI (szP τ n (nv (τ 30 0 0)))))]) C0.hx C0.hb dL_isSo_200 hl (k := 16) rfl (nI_1 q) (by decide) rfl (fun ls hl => ?_)
                      refine lv_goto (tgt := 111) C0.hx C0.hb dL_isSo_203 (by decide) ?_
                      refine W.widen (k := 0 + 0 + 100 * n + 0 + 4 * ((q + 1))) (n := 0 + 0 + 600 * n + 0 + 24 * ((q + 1))) (by omega) (by omega) ?_
                      exact ih111 ((q + 1)) H locs ls ⟨hP, hS, (by omega), (lv_sub hl [2, 3, 4, 5, 6, 7, 8, 9, 10, 11, 12, 13, 14, 15, 16, 1, 0] rfl)⟩ (by omega)
                    ·
                      refine lv_iload C0.hx C0.hb dL_isSo_184 (lv_at hl 15 rfl) ?_
                      refine lv_if_le (tgt := 197) C0.hx C0.hb dL_isSo_186 (by decide) (fun c_28 => ?_) (fun c_28 => ?_)
                      ·
                        refine lv_iconst (v := nI 0) C0.hx C0.hb dL_isSo_197 (by decide) ?_
                        exact J198 (nI 0) _ _ ls ⟨⟨rfl, rfl, (by rw [rsP, if_pos c_28])⟩, (lv_sub hl [1, 2, 3, 4, 5, 6, 7, 8, 9, 10, 11, 12, 0, 13, 14, 15, 16] rfl)⟩
                      ·
                        refine lv_iload C0.hx C0.hb dL_isSo_189 (lv_at hl 15 rfl) ?_
                        refine lv_bipush (v := nI 7) C0.hx C0.hb dL_isSo_191 (by decide) ?_
                        refine lv_idiv C0.hx C0.hb dL_isSo_193 (nI_ne0 (by omega) (by omega)) ?_
                        refine lv_goto (tgt := 198) C0.hx C0.hb dL_isSo_194 (by decide) ?_
                        exact J198 ((rsP (τ 39 0 n) q) / (nI 7)) _ _ ls ⟨⟨rfl, rfl, (by rw [rsP, if_neg c_28])⟩, (lv_sub hl [1, 2, 3, 4, 5, 6, 7, 8, 9, 10, 11, 12, 0, 13, 14, 15, 16] rfl)⟩
                ·
                  refine lv_iload C0.hx C0.hb dL_isSo_158 (lv_at hl 15 rfl) ?_
                  refine lv_if_le (tgt := 173) C0.hx C0.hb dL_isSo_160 (by decide) (fun c_29 => ?_) (fun c_29 => ?_)
                  ·
                    refine lv_iconst (v := -1) C0.hx C0.hb dL_isSo_173 (by decide) ?_
                    exact J174 (-1) _ _ ls ⟨⟨rfl, rfl, (by unfold mtP; rw [if_pos c_29])⟩, (lv_sub hl [0, 1, 2, 3, 4, 5, 6, 7, 8, 9, 10, 11, 12, 13, 14, 15, 16] rfl)⟩
                  ·
                    refine lv_iload C0.hx C0.hb dL_isSo_163 (lv_at hl 15 rfl) ?_
                    refine lv_bipush (v := nI 7) C0.hx C0.hb dL_isSo_165 (by decide) ?_
                    refine lv_irem C0.hx C0.hb dL_isSo_167 (nI_ne0 (by omega) (by omega)) ?_
                    refine lv_iconst (v := nI 1) C0.hx C0.hb dL_isSo_168 (by decide) ?_
                    refine lv_isub C0.hx C0.hb dL_isSo_169 ?_
                    refine lv_goto (tgt := 174) C0.hx C0.hb dL_isSo_170 (by decide) ?_
                    exact J174 (((rsP (τ 39 0 n) q) - (rsP (τ 39 0 n) q) / (nI 7) * (nI 7)) - (nI 1)) _ _ ls ⟨⟨rfl, rfl, (by unfold mtP; rw [if_neg c_29])⟩, (lv_sub hl [0, 1, 2, 3, 4, 5, 6, 7, 8, 9, 10, 11, 12, 13, 14, 15, 16] rfl)⟩
        ·
          refine lv_iload C0.hx C0.hb dL_isSo_73 (lv_at hl 14 rfl) ?_
          refine x_join (α := Nat) 99 (fun z H' locs' ls => (H' = H ∧ locs' = locs ∧ z = (if τ 39 0 (12 + i) = τ 39 0 (12 + n) then 1 else 0)) ∧ lv_has ls 17 [(0, .ref (a 0 0)), (1, .ref (a 30 0)), (2, .ref (a 31 0)), (3, .ref (a 32 0)), (4, .ref (a 33 0)), (5, .ref (a 34 0)), (6, .ref (a 35 0)), (7, .ref (a 36 0)), (8, .ref (a 37 0)), (9, .ref (a 38 0)), (10, .ref (a 39 0)), (11, .int (nI (bkP τ n))), (12, .int (nI 1)), (13, .int (nI n)), (14, .int (nI (szP τ n i))), (15, .int (τ 39 0 n)), (16, .int (nI i))]) (fun z => [.int (nI z), .int (nI (szP τ n i))]) ?_ (fun J99 => ?_)
          · rintro z H locs ls ⟨⟨rfl, rfl, hz⟩, hl⟩
            subst hz
            refine lv_iadd C0.hx C0.hb dL_isSo_99 ?_
            refine x_top (nI_add (szP τ n i) (if τ 39 0 (12 + i) = τ 39 0 (12 + n) then 1 else 0)) ?_
            refine lv_istore (lv' := [(14, .int (nI ((szP τ n i) + (if τ 39 0 (12 + i) = τ 39 0 (12 + n) then 1 else 0)))), (0, .ref (a 0 0)), (1, .ref (a 30 0)), (2, .ref (a 31 0)), (3, .ref (a 32 0)), (4, .ref (a 33 0)), (5, .ref (a 34 0)), (6, .ref (a 35 0)), (7, .ref (a 36 0)), (8, .ref (a 37 0)), (9, .ref (a 38 0)), (10, .ref (a 39 0)), (11, .int (nI (bkP τ n))), (12, .int (nI 1)), (13, .int (nI n)), (15, .int (τ 39 0 n)), (16, .int (nI i))]) C0.hx C0.hb dL_isSo_100 hl (by decide) rfl (fun ls hl => ?_)
            refine lv_iinc (v := nI (i + 1)) (lv' := [(16, .int (nI (i + 1))), (14, .int (nI ((szP τ n i) + (if τ 39 0 (12 + i) = τ 39 0 (12 + n) then 1 else 0)))), (0, .ref (a 0 0)), (1, .ref (a 30 0)), (2, .ref (a 31 0)), (3, .ref (a 32 0)), (4, .ref (a 33 0)), (5, .ref (a 34 0)), (6, .ref (a 35 0)), (7, .ref (a 36 0)), (8, .ref (a 37 0)), (9, .ref (a 38 0)), (10, .ref (a 39 0)), (11, .int (nI (bkP τ n))), (12, .int (nI 1)), (13, .int (nI n)), (15, .int (τ 39 0 n))]) C0.hx C0.hb dL_isSo_102 hl (k := 16) rfl (nI_1 i) (by decide) rfl (fun ls hl => ?_)
            refine lv_goto (tgt := 65) C0.hx C0.hb dL_isSo_105 (by decide) ?_
            exact ih65 ((i + 1)) ls ⟨(by omega), (lv_sub hl [2, 3, 4, 5, 6, 7, 8, 9, 10, 11, 12, 13, 14, 15, 1, 16, 0] rfl)⟩ (by omega)
          ·
            refine lv_aload C0.hx C0.hb dL_isSo_75 (lv_at hl 10 rfl) ?_
            refine lv_bipush (v := nI 12) C0.hx C0.hb dL_isSo_77 (by decide) ?_
            refine lv_iload C0.hx C0.hb dL_isSo_79 (lv_at hl 16 rfl) ?_
            refine lv_iadd C0.hx C0.hb dL_isSo_81 ?_
            refine x_top (nI_add 12 i) ?_
            refine x_iald C0 hP 39 (12 + i) 24 (NLA_M _ (mM_n rfl rfl)) rfl (by omega) (by decide) dL_isSo_82 ?_
            refine lv_aload C0.hx C0.hb dL_isSo_83 (lv_at hl 10 rfl) ?_
            refine lv_bipush (v := nI 12) C0.hx C0.hb dL_isSo_85 (by decide) ?_
            refine lv_iload C0.hx C0.hb dL_isSo_87 (lv_at hl 13 rfl) ?_
            refine lv_iadd C0.hx C0.hb dL_isSo_89 ?_
            refine x_top (nI_add 12 n) ?_
            refine x_iald C0 hP 39 (12 + n) 24 (NLA_M _ (mM_n rfl rfl)) rfl (by omega) (by decide) dL_isSo_90 ?_
            refine lv_icmp_ne (tgt := 98) C0.hx C0.hb dL_isSo_91 (by decide) (fun c_30 => ?_) (fun c_30 => ?_)
            ·
              refine lv_iconst (v := nI 0) C0.hx C0.hb dL_isSo_98 (by decide) ?_
              exact J99 0 _ _ ls ⟨⟨rfl, rfl, (by simp [c_30])⟩, (lv_sub hl [0, 1, 2, 3, 4, 5, 6, 7, 8, 9, 10, 11, 12, 13, 14, 15, 16] rfl)⟩
            ·
              refine lv_iconst (v := nI 1) C0.hx C0.hb dL_isSo_94 (by decide) ?_
              refine lv_goto (tgt := 99) C0.hx C0.hb dL_isSo_95 (by decide) ?_
              exact J99 1 _ _ ls ⟨⟨rfl, rfl, (by simp [c_30])⟩, (lv_sub hl [0, 1, 2, 3, 4, 5, 6, 7, 8, 9, 10, 11, 12, 13, 14, 15, 16] rfl)⟩

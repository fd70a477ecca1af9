set_option maxHeartbeats 4000000 in
set_option maxRecDepth 100000 in
/-- the law from where its arrays stand, for what an I keeps -/
theorem law_run {p : Program} {l : Launch} {e : Env} {s : State} {m : MethodId} {below : List Frame} {meth : Method} {c : Code} {g : xG} {a : xAd} {b L : Nat} {xs : Nat → Int32} {I : xS → Prop} {σ : xS} (hL9 : LawH I) (hI0 : I (mLP σ 6)) (C0 : xC p s m #[Value.ref b] c cL_law 18 wsL_law RL NLA g a (fun q => s.heap.size ≤ q)) (hr : meth.sig.returnType = ret) (hlocks : meth.locks = false) (hfl : l.stackTraces = false) (hT : xZt s) (hZ : xZh (fun q => s.heap.size ≤ q) s s.heap) (hV : va_X b L xs s s.heap) (hbl : b < s.heap.size) (hL : L ≤ 260) {H : Heap} {locs : List Loc} {ls : Array Slot} {cells slots : Nat} (hcn : cells ≤ 1000) (hsn : slots ≤ 10000) (hP : va_P g.1 vwCl (xw NLA g a σ) H) (hS : va_S (fun q => s.heap.size ≤ q) s.heap H locs) (hl : lv_has ls 18 [(0, .ref b), (1, .ref (a 0 0)), (2, .ref (a 30 0)), (3, .ref (a 31 0)), (4, .ref (a 32 0)), (5, .ref (a 33 0)), (6, .ref (a 34 0)), (7, .ref (a 35 0)), (8, .ref (a 36 0)), (9, .ref (a 37 0)), (10, .ref (a 38 0)), (11, .ref (a 39 0))]) : W p l e room_1 s m #[Value.ref b] below meth c H locs cells slots (lw_Z below #[Value.ref b] s) (F0 m 65 ls []) := by
  have hbA : ¬ (fun q : Nat => s.heap.size ≤ q) b := Nat.not_le.mpr hbl
  have k_0 : Cond.constant RL 123 (1000001 : Int32) ∈ wsL_law := by decide +kernel
  refine lv_aload_n C0.hx C0.hb dL_law_65 rfl (lv_at hl 2 rfl) ?_
  refine lv_iconst (v := nI 1) C0.hx C0.hb dL_law_66 (by decide) ?_
  refine lv_iconst (v := nI 2) C0.hx C0.hb dL_law_67 (by decide) ?_
  refine x_iast C0 hP hS 30 1 3 (v := nI 2) (NLA_M _ (mM_n rfl rfl)) (fun _ => rfl) (by omega) (by decide) dL_law_68 (fun H locs hP hS => ?_)
  refine lv_aload_n C0.hx C0.hb dL_law_69 rfl (lv_at hl 2 rfl) ?_
  refine lv_iconst (v := nI 2) C0.hx C0.hb dL_law_70 (by decide) ?_
  refine lv_bipush (v := nI 100) C0.hx C0.hb dL_law_71 (by decide) ?_
  refine x_iast C0 hP hS 30 2 3 (v := nI 100) (NLA_M _ (mM_n rfl rfl)) (fun _ => rfl) (by omega) (by decide) dL_law_73 (fun H locs hP hS => ?_)
  refine lv_iconst (v := nI 0) C0.hx C0.hb dL_law_74 (by decide) ?_
  refine lv_istore (lv' := [(12, .int (nI 0)), (0, .ref b), (1, .ref (a 0 0)), (2, .ref (a 30 0)), (3, .ref (a 31 0)), (4, .ref (a 32 0)), (5, .ref (a 33 0)), (6, .ref (a 34 0)), (7, .ref (a 35 0)), (8, .ref (a 36 0)), (9, .ref (a 37 0)), (10, .ref (a 38 0)), (11, .ref (a 39 0))]) C0.hx C0.hb dL_law_75 hl (by decide) rfl (fun ls hl => ?_)
  refine x_loopW (α := Nat) (fun k => 6 - k) (fun k H locs ls => va_P g.1 vwCl (xw NLA g a (mLP σ k)) H ∧ va_S (fun q : Nat => s.heap.size ≤ q) s.heap H locs ∧ k ≤ 6 ∧ lv_has ls 18 [(0, .ref b), (1, .ref (a 0 0)), (2, .ref (a 30 0)), (3, .ref (a 31 0)), (4, .ref (a 32 0)), (5, .ref (a 33 0)), (6, .ref (a 34 0)), (7, .ref (a 35 0)), (8, .ref (a 36 0)), (9, .ref (a 37 0)), (10, .ref (a 38 0)), (11, .ref (a 39 0)), (12, .int (nI k))]) ?_ 0 ⟨hP, hS, (by omega), (lv_sub hl [1, 2, 3, 4, 5, 6, 7, 8, 9, 10, 11, 12, 0] rfl)⟩
  rintro k H locs ls ⟨hP, hS, hk6, hl⟩ ih77
  refine lv_iload C0.hx C0.hb dL_law_77 (lv_at hl 12 rfl) ?_
  refine lv_bipush (v := nI 6) C0.hx C0.hb dL_law_79 (by decide) ?_
  refine x_icmp_ge (tgt := 99) C0.hx C0.hb (by omega) (by omega) dL_law_81 (by decide) (fun c_1 => ?_) (fun c_1 => ?_)
  ·
    obtain rfl : k = 6 := by omega
    refine lv_iconst (v := nI 0) C0.hx C0.hb dL_law_99 (by decide) ?_
    refine lv_istore (lv' := [(12, .int (nI 0)), (0, .ref b), (1, .ref (a 0 0)), (2, .ref (a 30 0)), (3, .ref (a 31 0)), (4, .ref (a 32 0)), (5, .ref (a 33 0)), (6, .ref (a 34 0)), (7, .ref (a 35 0)), (8, .ref (a 36 0)), (9, .ref (a 37 0)), (10, .ref (a 38 0)), (11, .ref (a 39 0))]) C0.hx C0.hb dL_law_100 hl (by decide) rfl (fun ls hl => ?_)
    refine W.widen (k := cells + 0 + 1310 * 0) (n := slots + 0 + 7860 * 0) (by omega) (by omega) ?_
    refine x_loopC (α := Nat × xS) (fun u => 70 - u.1) (fun ⟨n, ρ⟩ => cells + 0 + 1310 * n) (fun ⟨n, ρ⟩ => slots + 0 + 7860 * n) (fun ⟨n, ρ⟩ H locs ls => va_P g.1 vwCl (xw NLA g a ρ) H ∧ va_S (fun q : Nat => s.heap.size ≤ q) s.heap H locs ∧ n ≤ 70 ∧ I ρ ∧ lv_has ls 18 [(0, .ref b), (1, .ref (a 0 0)), (2, .ref (a 30 0)), (3, .ref (a 31 0)), (4, .ref (a 32 0)), (5, .ref (a 33 0)), (6, .ref (a 34 0)), (7, .ref (a 35 0)), (8, .ref (a 36 0)), (9, .ref (a 37 0)), (10, .ref (a 38 0)), (11, .ref (a 39 0)), (12, .int (nI n))]) ?_ ((0, mLP σ 6)) ⟨hP, hS, (by omega), hI0, (lv_sub hl [1, 2, 3, 4, 5, 6, 7, 8, 9, 10, 11, 12, 0] rfl)⟩
    rintro ⟨n, ρ⟩ H locs ls ⟨hP, hS, hn70, hI, hl⟩ ih102
    have ok := (hL9.1 ρ hI).2.2
    have hn13 := ok.n.2
    refine W.widen (k := cells + 0 + 1310 * n) (n := slots + 0 + 7860 * n) (Nat.le_refl _) (Nat.le_refl _) ?_
    refine lv_iload C0.hx C0.hb dL_law_102 (lv_at hl 12 rfl) ?_
    refine lv_bipush (v := nI 70) C0.hx C0.hb dL_law_104 (by decide) ?_
    refine x_icmp_ge (tgt := 402) C0.hx C0.hb (by omega) (by omega) dL_law_106 (by decide) (fun c_2 => ?_) (fun c_2 => ?_)
    ·
      refine lv_iconst (v := nI 1) C0.hx C0.hb dL_law_402 (by decide) ?_
      refine va_forget hS.2.2 ?_
      exact W.widen (by omega) (by omega) (lw_ret C0.hx C0.hb hr hlocks dL_law_403)
    ·
      refine lv_aload_n C0.hx C0.hb dL_law_109 rfl (lv_at hl 0 rfl) ?_
      refine lv_iload C0.hx C0.hb dL_law_110 (lv_at hl 12 rfl) ?_
      refine vp_callSi ((va_runS (g := F0 m 112 ls [.int (nI n), .ref b]) (As := [.ref b, .int (nI n)]) (rest := []) C0.1 (mtL_cell l g a ρ b L xs hL n (by omega)) (va_cwS 2 C0.hts gL_law_L_cell rfl rfl rfl (by decide +kernel) ⟨Nat.le_of_ble_eq_true rfl, Nat.le_of_ble_eq_true rfl⟩) ⟨xFBc, fun U hU hW => ⟨rfl, ⟨by rw [hU]; exact xP0 ρ, va_K.moved hW.alike C0.hK, xN.warm hW C0.2.2.1, xDj0⟩, by rw [hU]; exact va_X.moved9 hW.alike (hV.kept (hS.2.1 b hbl hbA))⟩⟩ rfl rfl hl.1 rfl (lv_room (Nat.le_of_ble_eq_true rfl)) dL_law_112 ⟨by show _ ≤ 600074; omega, by show _ ≤ 7301550; omega⟩).run) (fun z _ => ?_)
      refine lv_istore (lv' := [(13, .int z), (0, .ref b), (1, .ref (a 0 0)), (2, .ref (a 30 0)), (3, .ref (a 31 0)), (4, .ref (a 32 0)), (5, .ref (a 33 0)), (6, .ref (a 34 0)), (7, .ref (a 35 0)), (8, .ref (a 36 0)), (9, .ref (a 37 0)), (10, .ref (a 38 0)), (11, .ref (a 39 0)), (12, .int (nI n))]) C0.hx C0.hb dL_law_115 hl (by decide) rfl (fun ls hl => ?_)
      refine lv_iload C0.hx C0.hb dL_law_117 (lv_at hl 0 rfl) ?_
      refine lv_bipush (v := nI 14) C0.hx C0.hb dL_law_119 (by decide) ?_
      have hlow121 : loN z 14 < 14 := lo_lt z (by omega) (by omega)
      refine x_Si (As := [.int z, .int (nI 14)]) (rest := []) C0 (mtL_low l g a ρ z 14 (by omega) (by omega)) (xP0 _) xDj0 (va_cwS 2 C0.hts gL_law_L_low rfl rfl rfl (by decide +kernel) ⟨Nat.le_of_ble_eq_true rfl, Nat.le_of_ble_eq_true rfl⟩) rfl hl rfl (Nat.le_of_ble_eq_true rfl) (by show _ ≤ 600074; omega) (by show _ ≤ 7301550; omega) dL_law_121 ?_
      refine x_top (show loI z 14 = nI (loN z 14) from lo_e z (by omega) (by omega)) ?_
      refine lv_istore (lv' := [(14, .int (nI (loN z 14))), (13, .int z), (0, .ref b), (1, .ref (a 0 0)), (2, .ref (a 30 0)), (3, .ref (a 31 0)), (4, .ref (a 32 0)), (5, .ref (a 33 0)), (6, .ref (a 34 0)), (7, .ref (a 35 0)), (8, .ref (a 36 0)), (9, .ref (a 37 0)), (10, .ref (a 38 0)), (11, .ref (a 39 0)), (12, .int (nI n))]) C0.hx C0.hb dL_law_124 hl (by decide) rfl (fun ls hl => ?_)
      refine lv_iconst (v := nI 1) C0.hx C0.hb dL_law_126 (by decide) ?_
      refine lv_istore (lv' := [(15, .int (nI 1)), (14, .int (nI (loN z 14))), (13, .int z), (0, .ref b), (1, .ref (a 0 0)), (2, .ref (a 30 0)), (3, .ref (a 31 0)), (4, .ref (a 32 0)), (5, .ref (a 33 0)), (6, .ref (a 34 0)), (7, .ref (a 35 0)), (8, .ref (a 36 0)), (9, .ref (a 37 0)), (10, .ref (a 38 0)), (11, .ref (a 39 0)), (12, .int (nI n))]) C0.hx C0.hb dL_law_127 hl (by decide) rfl (fun ls hl => ?_)
      refine x_joinC (k2 := cells + 0 + 1310 * n + 3) (n2 := slots + 0 + 7860 * n + 18) (α := xS) 364 (fun ρ2 H' locs' ls => (va_P g.1 vwCl (xw NLA g a ρ2) H' ∧ va_S (fun q : Nat => s.heap.size ≤ q) s.heap H' locs' ∧ I ρ2) ∧ lv_has ls 18 [(0, .ref b), (1, .ref (a 0 0)), (2, .ref (a 30 0)), (3, .ref (a 31 0)), (4, .ref (a 32 0)), (5, .ref (a 33 0)), (6, .ref (a 34 0)), (7, .ref (a 35 0)), (8, .ref (a 36 0)), (9, .ref (a 37 0)), (10, .ref (a 38 0)), (11, .ref (a 39 0)), (12, .int (nI n)), (13, .int z), (15, .int (nI 1))]) (fun ρ2 => []) ?_ (fun J364 => ?_)
      · rintro ρ2 H locs ls ⟨⟨hP, hS, hI2⟩, hl⟩
        refine lv_iload C0.hx C0.hb dL_law_364 (lv_at hl 14 rfl) ?_
        refine x_ifeqn (tgt := 394) C0.hx C0.hb (by omega) dL_law_366 (by decide) (fun c_3 => ?_) (fun c_3 => ?_)
        ·
          exact absurd c_3 (by decide)
        ·
          refine lv_aload_n C0.hx C0.hb dL_law_369 rfl (lv_at hl 1 rfl) ?_
          refine lv_aload_n C0.hx C0.hb dL_law_370 rfl (lv_at hl 2 rfl) ?_
          refine lv_aload_n C0.hx C0.hb dL_law_371 rfl (lv_at hl 3 rfl) ?_
          refine lv_aload C0.hx C0.hb dL_law_372 (lv_at hl 4 rfl) ?_
          refine lv_aload C0.hx C0.hb dL_law_374 (lv_at hl 5 rfl) ?_
          refine lv_aload C0.hx C0.hb dL_law_376 (lv_at hl 6 rfl) ?_
          refine lv_aload C0.hx C0.hb dL_law_378 (lv_at hl 7 rfl) ?_
          refine lv_aload C0.hx C0.hb dL_law_380 (lv_at hl 8 rfl) ?_
          refine lv_aload C0.hx C0.hb dL_law_382 (lv_at hl 9 rfl) ?_
          refine lv_aload C0.hx C0.hb dL_law_384 (lv_at hl 10 rfl) ?_
          refine lv_aload C0.hx C0.hb dL_law_386 (lv_at hl 11 rfl) ?_
          refine x_LS (As := [.ref (a 0 0), .ref (a 30 0), .ref (a 31 0), .ref (a 32 0), .ref (a 33 0), .ref (a 34 0), .ref (a 35 0), .ref (a 36 0), .ref (a 37 0), .ref (a 38 0), .ref (a 39 0)]) (rest := []) C0 (mtL_isSo l hfl g a ρ2 (hL9.1 ρ2 hI2).1 (hL9.1 ρ2 hI2).2.2 (hL9.2.2.2.2.2.2 ρ2 hI2).1) hP hS hT hZ (va_cwS 11 C0.hts gL_law_L_isSo rfl rfl rfl (by decide +kernel) ⟨Nat.le_of_ble_eq_true rfl, Nat.le_of_ble_eq_true rfl⟩) rfl hl rfl (Nat.le_of_ble_eq_true rfl) (by show _ ≤ 600074; omega) (by show _ ≤ 7301550; omega) dL_law_388 (fun H locs hP hS => ?_)
          refine x_ifnen (tgt := 396) C0.hx C0.hb (by omega) dL_law_391 (by decide) (fun c_4 => ?_) (fun c_4 => ?_)
          ·
            refine lv_iinc (v := nI (n + 1)) (lv' := [(12, .int (nI (n + 1))), (0, .ref b), (1, .ref (a 0 0)), (2, .ref (a 30 0)), (3, .ref (a 31 0)), (4, .ref (a 32 0)), (5, .ref (a 33 0)), (6, .ref (a 34 0)), (7, .ref (a 35 0)), (8, .ref (a 36 0)), (9, .ref (a 37 0)), (10, .ref (a 38 0)), (11, .ref (a 39 0)), (13, .int z), (15, .int (nI 1))]) C0.hx C0.hb dL_law_396 hl (k := 12) rfl (nI_1 n) (by decide) rfl (fun ls hl => ?_)
            refine lv_goto (tgt := 102) C0.hx C0.hb dL_law_399 (by decide) ?_
            refine W.widen (k := cells + 0 + 1310 * (n + 1)) (n := slots + 0 + 7860 * (n + 1)) (by omega) (by omega) ?_
            exact ih102 ((n + 1, nsS ρ2)) H locs ls ⟨hP, hS, (by omega), (hL9.2.2.2.2.2.2 ρ2 hI2).2, (lv_sub hl [1, 2, 3, 4, 5, 6, 7, 8, 9, 10, 11, 12, 0] rfl)⟩ (by show 70 - (n + 1) < 70 - n; omega)
          ·
            exact absurd c_4 (by decide)
      ·
        refine x_join (α := Unit) 165 (fun _ H' locs' ls => (H' = H ∧ locs' = locs ∧ True) ∧ lv_has ls 18 [(0, .ref b), (1, .ref (a 0 0)), (2, .ref (a 30 0)), (3, .ref (a 31 0)), (4, .ref (a 32 0)), (5, .ref (a 33 0)), (6, .ref (a 34 0)), (7, .ref (a 35 0)), (8, .ref (a 36 0)), (9, .ref (a 37 0)), (10, .ref (a 38 0)), (11, .ref (a 39 0)), (12, .int (nI n)), (13, .int z), (14, .int (nI (loN z 14))), (15, .int (nI 1))]) (fun _ => []) ?_ (fun J165 => ?_)
        · rintro _ H locs ls ⟨⟨rfl, rfl, -⟩, hl⟩
          refine lv_iload C0.hx C0.hb dL_law_165 (lv_at hl 14 rfl) ?_
          refine lv_bipush (v := nI 7) C0.hx C0.hb dL_law_167 (by decide) ?_
          refine x_icmp_ge (tgt := 192) C0.hx C0.hb (by omega) (by omega) dL_law_169 (by decide) (fun c_5 => ?_) (fun c_5 => ?_)
          ·
            refine lv_iload C0.hx C0.hb dL_law_192 (lv_at hl 14 rfl) ?_
            refine lv_bipush (v := nI 10) C0.hx C0.hb dL_law_194 (by decide) ?_
            refine x_icmp_ge (tgt := 214) C0.hx C0.hb (by omega) (by omega) dL_law_196 (by decide) (fun c_6 => ?_) (fun c_6 => ?_)
            ·
              refine x_join (α := Unit) 227 (fun _ H' locs' ls => (H' = H ∧ locs' = locs ∧ True) ∧ lv_has ls 18 [(0, .ref b), (1, .ref (a 0 0)), (2, .ref (a 30 0)), (3, .ref (a 31 0)), (4, .ref (a 32 0)), (5, .ref (a 33 0)), (6, .ref (a 34 0)), (7, .ref (a 35 0)), (8, .ref (a 36 0)), (9, .ref (a 37 0)), (10, .ref (a 38 0)), (11, .ref (a 39 0)), (12, .int (nI n)), (13, .int z), (14, .int (nI (loN z 14))), (15, .int (nI 1))]) (fun _ => []) ?_ (fun J227 => ?_)
              · rintro _ H locs ls ⟨⟨rfl, rfl, -⟩, hl⟩
                have hH := hL9.2.2.2.2.1 ρ z hI
                refine lv_iload C0.hx C0.hb dL_law_227 (lv_at hl 13 rfl) ?_
                refine lv_iconst (v := nI 4) C0.hx C0.hb dL_law_229 (by decide) ?_
                refine lv_ishr C0.hx C0.hb dL_law_230 ?_
                refine lv_iconst (v := nI 4) C0.hx C0.hb dL_law_231 (by decide) ?_
                have hlow232 : seV z < 4 := lo_lt (z >>> ((nI 4) &&& 31)) (by omega) (by omega)
                refine x_Si (As := [.int (z >>> ((nI 4) &&& 31)), .int (nI 4)]) (rest := []) C0 (mtL_low l g a ρ (z >>> ((nI 4) &&& 31)) 4 (by omega) (by omega)) (xP0 _) xDj0 (va_cwS 2 C0.hts gL_law_L_low rfl rfl rfl (by decide +kernel) ⟨Nat.le_of_ble_eq_true rfl, Nat.le_of_ble_eq_true rfl⟩) rfl hl rfl (Nat.le_of_ble_eq_true rfl) (by show _ ≤ 600074; omega) (by show _ ≤ 7301550; omega) dL_law_232 ?_
                refine x_top (show loI (z >>> ((nI 4) &&& 31)) 4 = nI (seV z) from lo_e (z >>> ((nI 4) &&& 31)) (by omega) (by omega)) ?_
                refine lv_istore (lv' := [(16, .int (nI (seV z))), (0, .ref b), (1, .ref (a 0 0)), (2, .ref (a 30 0)), (3, .ref (a 31 0)), (4, .ref (a 32 0)), (5, .ref (a 33 0)), (6, .ref (a 34 0)), (7, .ref (a 35 0)), (8, .ref (a 36 0)), (9, .ref (a 37 0)), (10, .ref (a 38 0)), (11, .ref (a 39 0)), (12, .int (nI n)), (13, .int z), (14, .int (nI (loN z 14))), (15, .int (nI 1))]) C0.hx C0.hb dL_law_235 hl (by decide) rfl (fun ls hl => ?_)
                refine lv_aload_n C0.hx C0.hb dL_law_237 rfl (lv_at hl 4 rfl) ?_
                refine lv_iconst (v := nI 4) C0.hx C0.hb dL_law_238 (by decide) ?_
                refine lv_iload C0.hx C0.hb dL_law_239 (lv_at hl 0 rfl) ?_
                refine lv_iadd C0.hx C0.hb dL_law_241 ?_
                refine x_top (nI_add 4 (seV z)) ?_
                refine x_iald C0 hP 31 (4 + (seV z)) 20 (NLA_M _ (mM_n rfl rfl)) rfl (by omega) (by decide) dL_law_242 ?_
                obtain ⟨e_7, b_8⟩ := (ok.ses (by omega) : inR (ρ 31 0 (4 + (seV z))) _)
                refine x_top e_7 ?_
                refine lv_istore (lv' := [(17, .int (nI (nv (ρ 31 0 (4 + (seV z)))))), (16, .int (nI (seV z))), (0, .ref b), (1, .ref (a 0 0)), (2, .ref (a 30 0)), (3, .ref (a 31 0)), (4, .ref (a 32 0)), (5, .ref (a 33 0)), (6, .ref (a 34 0)), (7, .ref (a 35 0)), (8, .ref (a 36 0)), (9, .ref (a 37 0)), (10, .ref (a 38 0)), (11, .ref (a 39 0)), (12, .int (nI n)), (13, .int z), (14, .int (nI (loN z 14))), (15, .int (nI 1))]) C0.hx C0.hb dL_law_243 hl (by decide) rfl (fun ls hl => ?_)
                refine lv_aload_n C0.hx C0.hb dL_law_245 rfl (lv_at hl 5 rfl) ?_
                refine lv_iconst (v := nI 4) C0.hx C0.hb dL_law_246 (by decide) ?_
                refine lv_iload C0.hx C0.hb dL_law_247 (lv_at hl 1 rfl) ?_
                refine lv_iadd C0.hx C0.hb dL_law_249 ?_
                refine x_top (nI_add 4 (seV z)) ?_
                refine lv_iload C0.hx C0.hb dL_law_250 (lv_at hl 15 rfl) ?_
                refine lv_bipush (v := nI 6) C0.hx C0.hb dL_law_252 (by decide) ?_
                refine lv_ishr C0.hx C0.hb dL_law_254 ?_
                refine lv_iload C0.hx C0.hb dL_law_255 (lv_at hl 15 rfl) ?_
                refine lv_bipush (v := nI 13) C0.hx C0.hb dL_law_257 (by decide) ?_
                refine lv_ishr C0.hx C0.hb dL_law_259 ?_
                refine lv_iconst (v := nI 4) C0.hx C0.hb dL_law_260 (by decide) ?_
                have hlow261 : loN (shr z 13) 4 < 4 := lo_lt (z >>> ((nI 13) &&& 31)) (by omega) (by omega)
                refine x_Si (As := [.int (z >>> ((nI 13) &&& 31)), .int (nI 4)]) (rest := [.int (z >>> ((nI 6) &&& 31)), .int (nI (4 + (seV z))), .ref (a 31 0)]) C0 (mtL_low l g a ρ (z >>> ((nI 13) &&& 31)) 4 (by omega) (by omega)) (xP0 _) xDj0 (va_cwS 2 C0.hts gL_law_L_low rfl rfl rfl (by decide +kernel) ⟨Nat.le_of_ble_eq_true rfl, Nat.le_of_ble_eq_true rfl⟩) rfl hl rfl (Nat.le_of_ble_eq_true rfl) (by show _ ≤ 600074; omega) (by show _ ≤ 7301550; omega) dL_law_261 ?_
                refine x_top (show loI (z >>> ((nI 13) &&& 31)) 4 = nI (loN (shr z 13) 4) from lo_e (z >>> ((nI 13) &&& 31)) (by omega) (by omega)) ?_
                refine x_join (α := Nat) 275 (fun z9 H' locs' ls => (H' = H ∧ locs' = locs ∧ z9 = (if loN (shr z 13) 4 = 0 then 1000001 else 200)) ∧ lv_has ls 18 [(0, .ref b), (1, .ref (a 0 0)), (2, .ref (a 30 0)), (3, .ref (a 31 0)), (4, .ref (a 32 0)), (5, .ref (a 33 0)), (6, .ref (a 34 0)), (7, .ref (a 35 0)), (8, .ref (a 36 0)), (9, .ref (a 37 0)), (10, .ref (a 38 0)), (11, .ref (a 39 0)), (12, .int (nI n)), (13, .int z), (14, .int (nI (loN z 14))), (15, .int (nI 1)), (16, .int (nI (seV z))), (17, .int (nI (nv (ρ 31 0 (4 + (seV z))))))]) (fun z9 => [.int (nI z9), .int (z >>> (nI 6 &&& 31)), .int (nI (4 + seV z)), .ref (a 31 0)]) ?_ (fun J275 => ?_)
                · rintro z9 H locs ls ⟨⟨rfl, rfl, hz⟩, hl⟩
                  subst hz
                  have hlow275 : loN (shr z 6) (if loN (shr z 13) 4 = 0 then 1000001 else 200) < (if loN (shr z 13) 4 = 0 then 1000001 else 200) := lo_lt (z >>> (nI 6 &&& 31)) (by split <;> omega) (by split <;> omega)
                  refine x_Si (As := [.int (z >>> (nI 6 &&& 31)), .int (nI (if loN (shr z 13) 4 = 0 then 1000001 else 200))]) (rest := [.int (nI (4 + seV z)), .ref (a 31 0)]) C0 (mtL_low l g a ρ (z >>> (nI 6 &&& 31)) (if loN (shr z 13) 4 = 0 then 1000001 else 200) (by split <;> omega) (by split <;> omega)) (xP0 _) xDj0 (va_cwS 2 C0.hts gL_law_L_low rfl rfl rfl (by decide +kernel) ⟨Nat.le_of_ble_eq_true rfl, Nat.le_of_ble_eq_true rfl⟩) rfl hl rfl (Nat.le_of_ble_eq_true rfl) (by show _ ≤ 600074; omega) (by show _ ≤ 7301550; omega) dL_law_275 ?_
                  refine x_top (show loI (z >>> (nI 6 &&& 31)) (if loN (shr z 13) 4 = 0 then 1000001 else 200) = nI (loN (shr z 6) (if loN (shr z 13) 4 = 0 then 1000001 else 200)) from lo_e (z >>> (nI 6 &&& 31)) (by split <;> omega) (by split <;> omega)) ?_
                  refine x_iast C0 hP hS 31 (4 + seV z) 20 (v := nI (loN (shr z 6) (if loN (shr z 13) 4 = 0 then 1000001 else 200))) (NLA_M _ (mM_n rfl rfl)) (fun _ => rfl) (by omega) (by decide) dL_law_278 (fun H locs hP hS => ?_)
                  have hP : va_P g.1 vwCl (xw NLA g a (seS ρ z)) H := hP
                  refine lv_aload_n C0.hx C0.hb dL_law_279 rfl (lv_at hl 1 rfl) ?_
                  refine lv_iload C0.hx C0.hb dL_law_280 (lv_at hl 16 rfl) ?_
                  refine lv_aload_n C0.hx C0.hb dL_law_282 rfl (lv_at hl 3 rfl) ?_
                  refine lv_iconst (v := nI 4) C0.hx C0.hb dL_law_283 (by decide) ?_
                  refine lv_iload C0.hx C0.hb dL_law_284 (lv_at hl 16 rfl) ?_
                  refine lv_iadd C0.hx C0.hb dL_law_286 ?_
                  refine x_top (nI_add 4 (seV z)) ?_
                  refine x_iald C0 hP 31 (4 + (seV z)) 20 (NLA_M _ (mM_n rfl rfl)) rfl (by omega) (by decide) dL_law_287 ?_
                  refine x_VXN (As := [.int (nI (seV z)), .int ((seS ρ z) 31 0 (4 + (seV z)))]) (rest := []) C0 (mtX4_setSessions l hfl g a (seS ρ z) (nI (seV z)) (seS ρ z 31 0 (4 + seV z)) hH.1.1) (fun _ h => chEx_no hH.1.2.1 h) hP hS hT hZ (cwV 2 C0.hts gL_law_X4_setSessions rfl rfl rfl (by decide +kernel) ⟨Nat.le_of_ble_eq_true rfl, Nat.le_of_ble_eq_true rfl⟩) (x_recv C0 hP 0 (NLA_X _ (mX_n rfl)) rfl rfl) rfl hl rfl (Nat.le_of_ble_eq_true rfl) (by show _ ≤ 600074; omega) (by show _ ≤ 7301550; omega) dL_law_288 (fun H locs hP hS => ?_)
                  refine lv_iload C0.hx C0.hb dL_law_291 (lv_at hl 17 rfl) ?_
                  refine lv_icmp_ne (tgt := 300) C0.hx C0.hb dL_law_293 (by decide) (fun c_9 => ?_) (fun c_9 => ?_)
                  ·
                    exact absurd hH.1.2.2 c_9
                  ·
                    refine lv_iconst (v := nI 1) C0.hx C0.hb dL_law_296 (by decide) ?_
                    refine lv_goto (tgt := 301) C0.hx C0.hb dL_law_297 (by decide) ?_
                    refine lv_istore (lv' := [(15, .int (nI 1)), (0, .ref b), (1, .ref (a 0 0)), (2, .ref (a 30 0)), (3, .ref (a 31 0)), (4, .ref (a 32 0)), (5, .ref (a 33 0)), (6, .ref (a 34 0)), (7, .ref (a 35 0)), (8, .ref (a 36 0)), (9, .ref (a 37 0)), (10, .ref (a 38 0)), (11, .ref (a 39 0)), (12, .int (nI n)), (13, .int z), (14, .int (nI (loN z 14))), (16, .int (nI (seV z))), (17, .int (nI (nv (ρ 31 0 (4 + (seV z))))))]) C0.hx C0.hb dL_law_301 hl (by decide) rfl (fun ls hl => ?_)
                    refine lv_goto (tgt := 364) C0.hx C0.hb dL_law_303 (by decide) ?_
                    refine W.widen (k := cells + 0 + 1310 * n + 3) (n := slots + 0 + 7860 * n + 18) (by omega) (by omega) ?_
                    exact J364 (seE ρ z) _ _ ls ⟨⟨hP, hS, hH.2⟩, (lv_sub hl [1, 2, 3, 4, 5, 6, 7, 8, 9, 10, 11, 12, 13, 14, 0] rfl)⟩
                ·
                  refine x_ifnen (tgt := 272) C0.hx C0.hb (by omega) dL_law_264 (by decide) (fun c_10 => ?_) (fun c_10 => ?_)
                  ·
                    refine lv_sipush (v := nI 200) C0.hx C0.hb dL_law_272 (by decide) ?_
                    exact J275 200 _ _ ls ⟨⟨rfl, rfl, (by simp [c_10])⟩, (lv_sub hl [2, 3, 4, 5, 6, 7, 8, 9, 10, 11, 12, 13, 14, 15, 16, 17, 1, 0] rfl)⟩
                  ·
                    refine lv_ldc C0.hx C0.hb C0.1.2.2.2.1 (C0.hts _ k_0) dL_law_267 ?_
                    refine lv_goto (tgt := 275) C0.hx C0.hb dL_law_269 (by decide) ?_
                    exact J275 1000001 _ _ ls ⟨⟨rfl, rfl, (by simp [c_10])⟩, (lv_sub hl [2, 3, 4, 5, 6, 7, 8, 9, 10, 11, 12, 13, 14, 15, 16, 17, 1, 0] rfl)⟩
              ·
                refine lv_iload C0.hx C0.hb dL_law_214 (lv_at hl 14 rfl) ?_
                refine lv_bipush (v := nI 12) C0.hx C0.hb dL_law_216 (by decide) ?_
                refine x_icmp_lt (tgt := 227) C0.hx C0.hb (by omega) (by omega) dL_law_218 (by decide) (fun c_11 => ?_) (fun c_11 => ?_)
                ·
                  exact J227 () _ _ ls ⟨⟨rfl, rfl, trivial⟩, (lv_sub hl [0, 1, 2, 3, 4, 5, 6, 7, 8, 9, 10, 11, 12, 13, 14, 15] rfl)⟩
                ·
                  refine lv_aload_n C0.hx C0.hb dL_law_221 rfl (lv_at hl 2 rfl) ?_
                  refine lv_iconst (v := nI 0) C0.hx C0.hb dL_law_222 (by decide) ?_
                  refine x_iald C0 hP 30 0 3 (NLA_M _ (mM_n rfl rfl)) rfl (by omega) (by decide) dL_law_223 ?_
                  obtain ⟨e_12, b_13⟩ := (ok.n : inR (ρ 30 0 0) _)
                  refine x_top e_12 ?_
                  refine x_ifnen (tgt := 306) C0.hx C0.hb (by omega) dL_law_224 (by decide) (fun c_14 => ?_) (fun c_14 => ?_)
                  ·
                    have hH := hL9.2.2.2.2.2.1 ρ z hI c_14
                    have hqp : 0 < nv (ρ 30 0 0) := by omega
                    refine lv_iload C0.hx C0.hb dL_law_306 (lv_at hl 13 rfl) ?_
                    refine lv_iconst (v := nI 4) C0.hx C0.hb dL_law_308 (by decide) ?_
                    refine lv_ishr C0.hx C0.hb dL_law_309 ?_
                    refine lv_aload_n C0.hx C0.hb dL_law_310 rfl (lv_at hl 2 rfl) ?_
                    refine lv_iconst (v := nI 0) C0.hx C0.hb dL_law_311 (by decide) ?_
                    refine x_iald C0 hP 30 0 3 (NLA_M _ (mM_n rfl rfl)) rfl (by omega) (by decide) dL_law_312 ?_
                    obtain ⟨e_15, b_16⟩ := (ok.n : inR (ρ 30 0 0) _)
                    refine x_top e_15 ?_
                    have hlow313 : fiN ρ z < (nv (ρ 30 0 0)) := lo_lt (z >>> ((nI 4) &&& 31)) (by omega) (by omega)
                    refine x_Si (As := [.int (z >>> ((nI 4) &&& 31)), .int (nI (nv (ρ 30 0 0)))]) (rest := []) C0 (mtL_low l g a ρ (z >>> ((nI 4) &&& 31)) (nv (ρ 30 0 0)) (by omega) (by omega)) (xP0 _) xDj0 (va_cwS 2 C0.hts gL_law_L_low rfl rfl rfl (by decide +kernel) ⟨Nat.le_of_ble_eq_true rfl, Nat.le_of_ble_eq_true rfl⟩) rfl hl rfl (Nat.le_of_ble_eq_true rfl) (by show _ ≤ 600074; omega) (by show _ ≤ 7301550; omega) dL_law_313 ?_
                    refine x_top (show loI (z >>> ((nI 4) &&& 31)) (nv (ρ 30 0 0)) = nI (fiN ρ z) from lo_e (z >>> ((nI 4) &&& 31)) (by omega) (by omega)) ?_
                    refine lv_istore (lv' := [(16, .int (nI (fiN ρ z))), (0, .ref b), (1, .ref (a 0 0)), (2, .ref (a 30 0)), (3, .ref (a 31 0)), (4, .ref (a 32 0)), (5, .ref (a 33 0)), (6, .ref (a 34 0)), (7, .ref (a 35 0)), (8, .ref (a 36 0)), (9, .ref (a 37 0)), (10, .ref (a 38 0)), (11, .ref (a 39 0)), (12, .int (nI n)), (13, .int z), (14, .int (nI (loN z 14))), (15, .int (nI 1))]) C0.hx C0.hb dL_law_316 hl (by decide) rfl (fun ls hl => ?_)
                    refine lv_aload C0.hx C0.hb dL_law_318 (lv_at hl 11 rfl) ?_
                    refine lv_iload C0.hx C0.hb dL_law_320 (lv_at hl 0 rfl) ?_
                    refine x_iald C0 hP 38 (fiN ρ z) 12 (NLA_M _ (mM_n rfl rfl)) rfl (by omega) (by decide) dL_law_322 ?_
                    refine lv_istore (lv' := [(17, .int (ρ 38 0 (fiN ρ z))), (16, .int (nI (fiN ρ z))), (0, .ref b), (1, .ref (a 0 0)), (2, .ref (a 30 0)), (3, .ref (a 31 0)), (4, .ref (a 32 0)), (5, .ref (a 33 0)), (6, .ref (a 34 0)), (7, .ref (a 35 0)), (8, .ref (a 36 0)), (9, .ref (a 37 0)), (10, .ref (a 38 0)), (11, .ref (a 39 0)), (12, .int (nI n)), (13, .int z), (14, .int (nI (loN z 14))), (15, .int (nI 1))]) C0.hx C0.hb dL_law_323 hl (by decide) rfl (fun ls hl => ?_)
                    refine lv_aload C0.hx C0.hb dL_law_325 (lv_at hl 12 rfl) ?_
                    refine lv_iload C0.hx C0.hb dL_law_327 (lv_at hl 1 rfl) ?_
                    refine lv_iconst (v := nI 1) C0.hx C0.hb dL_law_329 (by decide) ?_
                    refine lv_iload C0.hx C0.hb dL_law_330 (lv_at hl 15 rfl) ?_
                    refine lv_bipush (v := nI 9) C0.hx C0.hb dL_law_332 (by decide) ?_
                    refine lv_ishr C0.hx C0.hb dL_law_334 ?_
                    refine lv_iconst (v := nI 3) C0.hx C0.hb dL_law_335 (by decide) ?_
                    have hlow336 : loN (shr z 9) 3 < 3 := lo_lt (z >>> ((nI 9) &&& 31)) (by omega) (by omega)
                    refine x_Si (As := [.int (z >>> ((nI 9) &&& 31)), .int (nI 3)]) (rest := [.int (nI 1), .int (nI (fiN ρ z)), .ref (a 38 0)]) C0 (mtL_low l g a ρ (z >>> ((nI 9) &&& 31)) 3 (by omega) (by omega)) (xP0 _) xDj0 (va_cwS 2 C0.hts gL_law_L_low rfl rfl rfl (by decide +kernel) ⟨Nat.le_of_ble_eq_true rfl, Nat.le_of_ble_eq_true rfl⟩) rfl hl rfl (Nat.le_of_ble_eq_true rfl) (by show _ ≤ 600074; omega) (by show _ ≤ 7301550; omega) dL_law_336 ?_
                    refine x_top (show loI (z >>> ((nI 9) &&& 31)) 3 = nI (loN (shr z 9) 3) from lo_e (z >>> ((nI 9) &&& 31)) (by omega) (by omega)) ?_
                    refine lv_iadd C0.hx C0.hb dL_law_339 ?_
                    refine x_top (nI_add 1 (loN (shr z 9) 3)) ?_
                    refine x_iast C0 hP hS 38 (fiN ρ z) 12 (v := nI (1 + (loN (shr z 9) 3))) (NLA_M _ (mM_n rfl rfl)) (fun _ => rfl) (by omega) (by decide) dL_law_340 (fun H locs hP hS => ?_)
                    have hP : va_P g.1 vwCl (xw NLA g a (fiS ρ z)) H := hP
                    refine lv_aload_n C0.hx C0.hb dL_law_341 rfl (lv_at hl 3 rfl) ?_
                    refine lv_iload C0.hx C0.hb dL_law_342 (lv_at hl 1 rfl) ?_
                    refine lv_aload C0.hx C0.hb dL_law_344 (lv_at hl 12 rfl) ?_
                    refine lv_iload C0.hx C0.hb dL_law_346 (lv_at hl 1 rfl) ?_
                    refine x_iald C0 hP 38 (fiN ρ z) 12 (NLA_M _ (mM_n rfl rfl)) rfl (by omega) (by decide) dL_law_348 ?_
                    refine x_VXN (As := [.int (nI (fiN ρ z)), .int ((fiS ρ z) 38 0 (fiN ρ z))]) (rest := []) C0 (mtX4_fix l hfl g a (fiS ρ z) (nI (fiN ρ z)) (fiS ρ z 38 0 (fiN ρ z)) hH.1.1) (fun _ h => chEx_no hH.1.2.1 h) hP hS hT hZ (cwV 2 C0.hts gL_law_X4_fix rfl rfl rfl (by decide +kernel) ⟨Nat.le_of_ble_eq_true rfl, Nat.le_of_ble_eq_true rfl⟩) (x_recv C0 hP 0 (NLA_X _ (mX_n rfl)) rfl rfl) rfl hl rfl (Nat.le_of_ble_eq_true rfl) (by show _ ≤ 600074; omega) (by show _ ≤ 7301550; omega) dL_law_349 (fun H locs hP hS => ?_)
                    refine lv_iload C0.hx C0.hb dL_law_352 (lv_at hl 0 rfl) ?_
                    refine lv_icmp_ne (tgt := 361) C0.hx C0.hb dL_law_354 (by decide) (fun c_17 => ?_) (fun c_17 => ?_)
                    ·
                      exact absurd hH.1.2.2 c_17
                    ·
                      refine lv_iconst (v := nI 1) C0.hx C0.hb dL_law_357 (by decide) ?_
                      refine lv_goto (tgt := 362) C0.hx C0.hb dL_law_358 (by decide) ?_
                      refine lv_istore (lv' := [(15, .int (nI 1)), (17, .int (ρ 38 0 (fiN ρ z))), (16, .int (nI (fiN ρ z))), (0, .ref b), (1, .ref (a 0 0)), (2, .ref (a 30 0)), (3, .ref (a 31 0)), (4, .ref (a 32 0)), (5, .ref (a 33 0)), (6, .ref (a 34 0)), (7, .ref (a 35 0)), (8, .ref (a 36 0)), (9, .ref (a 37 0)), (10, .ref (a 38 0)), (11, .ref (a 39 0)), (12, .int (nI n)), (13, .int z), (14, .int (nI (loN z 14)))]) C0.hx C0.hb dL_law_362 hl (by decide) rfl (fun ls hl => ?_)
                      refine W.widen (k := cells + 0 + 1310 * n + 3) (n := slots + 0 + 7860 * n + 18) (by omega) (by omega) ?_
                      exact J364 (fiE ρ z) _ _ ls ⟨⟨hP, hS, hH.2⟩, (lv_sub hl [3, 4, 5, 6, 7, 8, 9, 10, 11, 12, 13, 14, 15, 16, 0] rfl)⟩
                  ·
                    exact J227 () _ _ ls ⟨⟨rfl, rfl, trivial⟩, (lv_sub hl [0, 1, 2, 3, 4, 5, 6, 7, 8, 9, 10, 11, 12, 13, 14, 15] rfl)⟩
            ·
              have hH := hL9.2.2.2.1 ρ (z >>> (nI 4 &&& 31)) hI
              refine lv_aload_n C0.hx C0.hb dL_law_199 rfl (lv_at hl 1 rfl) ?_
              refine lv_iload C0.hx C0.hb dL_law_200 (lv_at hl 13 rfl) ?_
              refine lv_iconst (v := nI 4) C0.hx C0.hb dL_law_202 (by decide) ?_
              refine lv_ishr C0.hx C0.hb dL_law_203 ?_
              refine lv_aload_n C0.hx C0.hb dL_law_204 rfl (lv_at hl 2 rfl) ?_
              refine lv_aload_n C0.hx C0.hb dL_law_205 rfl (lv_at hl 3 rfl) ?_
              refine x_LS (As := [.ref (a 0 0), .int (z >>> ((nI 4) &&& 31)), .ref (a 30 0), .ref (a 31 0)]) (rest := []) C0 (mtL_rules l hfl g a ρ (z >>> ((nI 4) &&& 31)) ok hH.1) hP hS hT hZ (va_cwS 4 C0.hts gL_law_L_rules rfl rfl rfl (by decide +kernel) ⟨Nat.le_of_ble_eq_true rfl, Nat.le_of_ble_eq_true rfl⟩) rfl hl rfl (Nat.le_of_ble_eq_true rfl) (by show _ ≤ 600074; omega) (by show _ ≤ 7301550; omega) dL_law_206 (fun H locs hP hS => ?_)
              refine lv_istore (lv' := [(15, .int (nI 1)), (0, .ref b), (1, .ref (a 0 0)), (2, .ref (a 30 0)), (3, .ref (a 31 0)), (4, .ref (a 32 0)), (5, .ref (a 33 0)), (6, .ref (a 34 0)), (7, .ref (a 35 0)), (8, .ref (a 36 0)), (9, .ref (a 37 0)), (10, .ref (a 38 0)), (11, .ref (a 39 0)), (12, .int (nI n)), (13, .int z), (14, .int (nI (loN z 14)))]) C0.hx C0.hb dL_law_209 hl (by decide) rfl (fun ls hl => ?_)
              refine lv_goto (tgt := 364) C0.hx C0.hb dL_law_211 (by decide) ?_
              refine W.widen (k := cells + 0 + 1310 * n + 3) (n := slots + 0 + 7860 * n + 18) (by omega) (by omega) ?_
              exact J364 (ruE ρ (z >>> ((nI 4) &&& 31))) _ _ ls ⟨⟨hP, hS, hH.2⟩, (lv_sub hl [1, 2, 3, 4, 5, 6, 7, 8, 9, 10, 11, 12, 13, 14, 0] rfl)⟩
          ·
            have hH := hL9.2.2.1 ρ (z >>> (nI 4 &&& 31)) hI
            refine lv_aload_n C0.hx C0.hb dL_law_172 rfl (lv_at hl 1 rfl) ?_
            refine lv_iload C0.hx C0.hb dL_law_173 (lv_at hl 13 rfl) ?_
            refine lv_iconst (v := nI 4) C0.hx C0.hb dL_law_175 (by decide) ?_
            refine lv_ishr C0.hx C0.hb dL_law_176 ?_
            refine lv_aload_n C0.hx C0.hb dL_law_177 rfl (lv_at hl 3 rfl) ?_
            refine lv_aload C0.hx C0.hb dL_law_178 (lv_at hl 4 rfl) ?_
            refine lv_aload C0.hx C0.hb dL_law_180 (lv_at hl 5 rfl) ?_
            refine lv_aload C0.hx C0.hb dL_law_182 (lv_at hl 6 rfl) ?_
            refine x_LS (As := [.ref (a 0 0), .int (z >>> ((nI 4) &&& 31)), .ref (a 31 0), .ref (a 32 0), .ref (a 33 0), .ref (a 34 0)]) (rest := []) C0 (mtL_ranges l hfl g a ρ (z >>> ((nI 4) &&& 31)) hH.1.1 hH.1.2.1 ok hH.1.2.2.1 hH.1.2.2.2.1 hH.1.2.2.2.2) hP hS hT hZ (va_cwS 6 C0.hts gL_law_L_ranges rfl rfl rfl (by decide +kernel) ⟨Nat.le_of_ble_eq_true rfl, Nat.le_of_ble_eq_true rfl⟩) rfl hl rfl (Nat.le_of_ble_eq_true rfl) (by show _ ≤ 600074; omega) (by show _ ≤ 7301550; omega) dL_law_184 (fun H locs hP hS => ?_)
            refine lv_istore (lv' := [(15, .int (nI 1)), (0, .ref b), (1, .ref (a 0 0)), (2, .ref (a 30 0)), (3, .ref (a 31 0)), (4, .ref (a 32 0)), (5, .ref (a 33 0)), (6, .ref (a 34 0)), (7, .ref (a 35 0)), (8, .ref (a 36 0)), (9, .ref (a 37 0)), (10, .ref (a 38 0)), (11, .ref (a 39 0)), (12, .int (nI n)), (13, .int z), (14, .int (nI (loN z 14)))]) C0.hx C0.hb dL_law_187 hl (by decide) rfl (fun ls hl => ?_)
            refine lv_goto (tgt := 364) C0.hx C0.hb dL_law_189 (by decide) ?_
            refine W.widen (k := cells + 0 + 1310 * n + 3) (n := slots + 0 + 7860 * n + 18) (by omega) (by omega) ?_
            exact J364 (rgE ρ (z >>> ((nI 4) &&& 31))) _ _ ls ⟨⟨hP, hS, hH.2⟩, (lv_sub hl [1, 2, 3, 4, 5, 6, 7, 8, 9, 10, 11, 12, 13, 14, 0] rfl)⟩
        ·
          refine lv_iload C0.hx C0.hb dL_law_129 (lv_at hl 1 rfl) ?_
          refine lv_iconst (v := nI 4) C0.hx C0.hb dL_law_131 (by decide) ?_
          refine x_icmp_ge (tgt := 165) C0.hx C0.hb (by omega) (by omega) dL_law_132 (by decide) (fun c_18 => ?_) (fun c_18 => ?_)
          ·
            exact J165 () _ _ ls ⟨⟨rfl, rfl, trivial⟩, (lv_sub hl [3, 4, 5, 6, 7, 8, 9, 10, 11, 12, 13, 14, 15, 2, 1, 0] rfl)⟩
          ·
            refine lv_aload_n C0.hx C0.hb dL_law_135 rfl (lv_at hl 5 rfl) ?_
            refine lv_iconst (v := nI 0) C0.hx C0.hb dL_law_136 (by decide) ?_
            refine x_iald C0 hP 30 0 3 (NLA_M _ (mM_n rfl rfl)) rfl (by omega) (by decide) dL_law_137 ?_
            obtain ⟨e_19, b_20⟩ := (ok.n : inR (ρ 30 0 0) _)
            refine x_top e_19 ?_
            refine lv_bipush (v := nI 12) C0.hx C0.hb dL_law_138 (by decide) ?_
            refine x_icmp_ge (tgt := 165) C0.hx C0.hb (by omega) (by omega) dL_law_140 (by decide) (fun c_21 => ?_) (fun c_21 => ?_)
            ·
              exact J165 () _ _ ls ⟨⟨rfl, rfl, trivial⟩, (lv_sub hl [3, 4, 5, 6, 7, 8, 9, 10, 11, 12, 13, 14, 15, 2, 1, 0] rfl)⟩
            ·
              have hH := hL9.2.1 ρ (z >>> (nI 4 &&& 31)) (nv (ρ 30 0 0)) hI rfl (by omega)
              refine lv_aload_n C0.hx C0.hb dL_law_143 rfl (lv_at hl 4 rfl) ?_
              refine lv_iload C0.hx C0.hb dL_law_144 (lv_at hl 2 rfl) ?_
              refine lv_iconst (v := nI 4) C0.hx C0.hb dL_law_146 (by decide) ?_
              refine lv_ishr C0.hx C0.hb dL_law_147 ?_
              refine lv_aload_n C0.hx C0.hb dL_law_148 rfl (lv_at hl 5 rfl) ?_
              refine lv_aload C0.hx C0.hb dL_law_149 (lv_at hl 10 rfl) ?_
              refine lv_aload C0.hx C0.hb dL_law_151 (lv_at hl 11 rfl) ?_
              refine lv_aload C0.hx C0.hb dL_law_153 (lv_at hl 12 rfl) ?_
              refine lv_aload C0.hx C0.hb dL_law_155 (lv_at hl 13 rfl) ?_
              refine x_LS (As := [.ref (a 0 0), .int (z >>> ((nI 4) &&& 31)), .ref (a 30 0), .ref (a 35 0), .ref (a 36 0), .ref (a 37 0), .ref (a 38 0)]) (rest := []) C0 (mtL_report l hfl g a ρ (z >>> ((nI 4) &&& 31)) (nv (ρ 30 0 0)) rfl (by omega) ok hH.1.1 hH.1.2.1 hH.1.2.2.1 hH.1.2.2.2) hP hS hT hZ (va_cwS 7 C0.hts gL_law_L_report rfl rfl rfl (by decide +kernel) ⟨Nat.le_of_ble_eq_true rfl, Nat.le_of_ble_eq_true rfl⟩) rfl hl rfl (Nat.le_of_ble_eq_true rfl) (by show _ ≤ 600074; omega) (by show _ ≤ 7301550; omega) dL_law_157 (fun H locs hP hS => ?_)
              refine lv_istore (lv' := [(15, .int (nI 1)), (14, .int (nI (loN z 14))), (13, .int z), (0, .ref b), (1, .ref (a 0 0)), (2, .ref (a 30 0)), (3, .ref (a 31 0)), (4, .ref (a 32 0)), (5, .ref (a 33 0)), (6, .ref (a 34 0)), (7, .ref (a 35 0)), (8, .ref (a 36 0)), (9, .ref (a 37 0)), (10, .ref (a 38 0)), (11, .ref (a 39 0)), (12, .int (nI n))]) C0.hx C0.hb dL_law_160 hl (by decide) rfl (fun ls hl => ?_)
              refine lv_goto (tgt := 364) C0.hx C0.hb dL_law_162 (by decide) ?_
              refine W.widen (k := cells + 0 + 1310 * n + 3) (n := slots + 0 + 7860 * n + 18) (by omega) (by omega) ?_
              exact J364 (rpE ρ (z >>> ((nI 4) &&& 31)) (nv (ρ 30 0 0))) _ _ ls ⟨⟨hP, hS, hH.2⟩, (lv_sub hl [3, 4, 5, 6, 7, 8, 9, 10, 11, 12, 13, 14, 15, 2, 0] rfl)⟩
  ·
    refine lv_aload_n C0.hx C0.hb dL_law_84 rfl (lv_at hl 3 rfl) ?_
    refine lv_bipush (v := nI 14) C0.hx C0.hb dL_law_85 (by decide) ?_
    refine lv_iload C0.hx C0.hb dL_law_87 (lv_at hl 12 rfl) ?_
    refine lv_iadd C0.hx C0.hb dL_law_89 ?_
    refine x_top (nI_add 14 k) ?_
    refine lv_iload C0.hx C0.hb dL_law_90 (lv_at hl 12 rfl) ?_
    refine x_iast C0 hP hS 31 (14 + k) 20 (v := nI k) (NLA_M _ (mM_n rfl rfl)) (fun _ => rfl) (by omega) (by decide) dL_law_92 (fun H locs hP hS => ?_)
    refine lv_iinc (v := nI (k + 1)) (lv' := [(12, .int (nI (k + 1))), (0, .ref b), (1, .ref (a 0 0)), (2, .ref (a 30 0)), (3, .ref (a 31 0)), (4, .ref (a 32 0)), (5, .ref (a 33 0)), (6, .ref (a 34 0)), (7, .ref (a 35 0)), (8, .ref (a 36 0)), (9, .ref (a 37 0)), (10, .ref (a 38 0)), (11, .ref (a 39 0))]) C0.hx C0.hb dL_law_93 hl (k := 12) rfl (nI_1 k) (by decide) rfl (fun ls hl => ?_)
    refine lv_goto (tgt := 77) C0.hx C0.hb dL_law_96 (by decide) ?_
    exact ih77 ((k + 1)) H locs ls ⟨hP, hS, (by omega), (lv_sub hl [1, 2, 3, 4, 5, 6, 7, 8, 9, 10, 11, 12, 0] rfl)⟩ (by omega)

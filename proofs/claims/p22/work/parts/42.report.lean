set_option maxHeartbeats 4000000 in
set_option maxRecDepth 100000 in
theorem mtL_report (l : Launch) (hfl : l.stackTraces = false) (g : xG) (a : xAd) (σ : xS) (z : Int32) (n : Nat) (hn : n = nv (σ 30 0 0)) (hn12 : n < 12) (ok : okP σ) (okx : okX (rpQ σ z n)) (okf : okF (rpQ σ z n)) (hok : chOk (rpA (rpQ σ z n) n)) (hn3 : nv (rpQ σ z n 3 0 0) = n) : xMl l yL_report wsL_report ({ frames := 8, cells := 3, slots := 18, locals := 129 }) 3 18  g a σ [.ref (a 0 0), .int z, .ref (a 30 0), .ref (a 35 0), .ref (a 36 0), .ref (a 37 0), .ref (a 38 0)] (nI 1) (rpE σ z n) := by
  intro sz
  refine Met.ofW (cc := cL_report) (maxL := 10) (ret := (some .boolean)) (by decide) rfl ?_
  intro p e s m args below meth c s₁ B hml hv
  obtain ⟨rfl, hsz, ⟨hP, hK, hN, hj⟩, hT, hZ⟩ := hv
  subst hsz
  have hr := B.returns
  have hlocks := B.notSynchronized
  have C0 : xC p s m _ c cL_report 10 wsL_report RL NLA g a (xA NLA a s.heap.size) := ⟨⟨B.exec, B.bytes, hml, findClass_of_methodNamed B.named, atoms_spec (ws := wsL_report) B.pre⟩, hK, hN, hj, fun n h => Or.inl ⟨n, h, rfl⟩, fun q h => Or.inr h⟩
  have hS : va_S (xA NLA a s.heap.size) s.heap s.heap [] := va_S.rf
  have hl := lv_entry ([.ref (a 0 0), .int z, .ref (a 30 0), .ref (a 35 0), .ref (a 36 0), .ref (a 37 0), .ref (a 38 0)]) (n := 10) (Nat.le_of_ble_eq_true rfl)
  rw [lg_entry_eq]
  generalize (lg_sl ([.ref (a 0 0), .int z, .ref (a 30 0), .ref (a 35 0), .ref (a 36 0), .ref (a 37 0), .ref (a 38 0)]) ++ List.replicate (10 - (lg_sl ([.ref (a 0 0), .int z, .ref (a 30 0), .ref (a 35 0), .ref (a 36 0), .ref (a 37 0), .ref (a 38 0)])).length) Slot.unset).toArray = ls at hl ⊢
  have hl : lv_has ls 10 [(0, .ref (a 0 0)), (1, .int z), (2, .ref (a 30 0)), (3, .ref (a 35 0)), (4, .ref (a 36 0)), (5, .ref (a 37 0)), (6, .ref (a 38 0))] := hl
  refine lv_aload_n C0.hx C0.hb dL_report_0 rfl (lv_at hl 2 rfl) ?_
  refine lv_iconst (v := nI 0) C0.hx C0.hb dL_report_1 (by decide) ?_
  refine x_iald C0 hP 30 0 3 (NLA_M _ (mM_n rfl rfl)) rfl (by omega) (by decide) dL_report_2 ?_
  obtain ⟨e_1, b_2⟩ := (ok.n : inR (σ 30 0 0) _)
  refine x_top e_1 ?_
  rw [← hn]
  refine lv_istore (lv' := [(7, .int (nI n)), (0, .ref (a 0 0)), (1, .int z), (2, .ref (a 30 0)), (3, .ref (a 35 0)), (4, .ref (a 36 0)), (5, .ref (a 37 0)), (6, .ref (a 38 0))]) C0.hx C0.hb dL_report_3 hl (by decide) rfl (fun ls hl => ?_)
  refine lv_iconst (v := nI 1) C0.hx C0.hb dL_report_5 (by decide) ?_
  refine lv_iload_n C0.hx C0.hb dL_report_6 rfl (lv_at hl 2 rfl) ?_
  refine lv_iconst (v := nI 4) C0.hx C0.hb dL_report_7 (by decide) ?_
  have hlow8 : loN z 4 < 4 := lo_lt z (by omega) (by omega)
  refine x_Si (As := [.int z, .int (nI 4)]) (rest := [.int (nI 1)]) C0 (mtL_low l g a σ z 4 (by omega) (by omega)) (xP0 _) xDj0 (va_cwS 2 C0.hts gL_report_L_low rfl rfl rfl (by decide +kernel) ⟨Nat.le_of_ble_eq_true rfl, Nat.le_of_ble_eq_true rfl⟩) rfl hl rfl (Nat.le_of_ble_eq_true rfl) (by show _ ≤ 3; omega) (by show _ ≤ 18; omega) dL_report_8 ?_
  refine x_top (show loI z 4 = nI (loN z 4) from lo_e z (by omega) (by omega)) ?_
  refine lv_iadd C0.hx C0.hb dL_report_11 ?_
  refine x_top (nI_add 1 (loN z 4)) ?_
  refine lv_istore (lv' := [(8, .int (nI (1 + (loN z 4)))), (7, .int (nI n)), (0, .ref (a 0 0)), (1, .int z), (2, .ref (a 30 0)), (3, .ref (a 35 0)), (4, .ref (a 36 0)), (5, .ref (a 37 0)), (6, .ref (a 38 0))]) C0.hx C0.hb dL_report_12 hl (by decide) rfl (fun ls hl => ?_)
  refine lv_aload_n C0.hx C0.hb dL_report_14 rfl (lv_at hl 5 rfl) ?_
  refine lv_iload C0.hx C0.hb dL_report_15 (lv_at hl 1 rfl) ?_
  refine lv_iload_n C0.hx C0.hb dL_report_17 rfl (lv_at hl 3 rfl) ?_
  refine lv_iconst (v := nI 2) C0.hx C0.hb dL_report_18 (by decide) ?_
  refine lv_ishr C0.hx C0.hb dL_report_19 ?_
  refine lv_iconst (v := nI 4) C0.hx C0.hb dL_report_20 (by decide) ?_
  have hlow21 : loN (shr z 2) 4 < 4 := lo_lt (z >>> ((nI 2) &&& 31)) (by omega) (by omega)
  refine x_Si (As := [.int (z >>> ((nI 2) &&& 31)), .int (nI 4)]) (rest := [.int (nI n), .ref (a 35 0)]) C0 (mtL_low l g a σ (z >>> ((nI 2) &&& 31)) 4 (by omega) (by omega)) (xP0 _) xDj0 (va_cwS 2 C0.hts gL_report_L_low rfl rfl rfl (by decide +kernel) ⟨Nat.le_of_ble_eq_true rfl, Nat.le_of_ble_eq_true rfl⟩) rfl hl rfl (Nat.le_of_ble_eq_true rfl) (by show _ ≤ 3; omega) (by show _ ≤ 18; omega) dL_report_21 ?_
  refine x_top (show loI (z >>> ((nI 2) &&& 31)) 4 = nI (loN (shr z 2) 4) from lo_e (z >>> ((nI 2) &&& 31)) (by omega) (by omega)) ?_
  refine x_iast C0 hP hS 35 n 12 (v := nI (loN (shr z 2) 4)) (NLA_M _ (mM_n rfl rfl)) (fun _ => rfl) (by omega) (by decide) dL_report_24 (fun H locs hP hS => ?_)
  refine lv_aload C0.hx C0.hb dL_report_25 (lv_at hl 6 rfl) ?_
  refine lv_iload C0.hx C0.hb dL_report_27 (lv_at hl 1 rfl) ?_
  refine lv_iload_n C0.hx C0.hb dL_report_29 rfl (lv_at hl 3 rfl) ?_
  refine lv_iconst (v := nI 4) C0.hx C0.hb dL_report_30 (by decide) ?_
  refine lv_ishr C0.hx C0.hb dL_report_31 ?_
  refine lv_bipush (v := nI 20) C0.hx C0.hb dL_report_32 (by decide) ?_
  have hlow34 : loN (shr z 4) 20 < 20 := lo_lt (z >>> ((nI 4) &&& 31)) (by omega) (by omega)
  refine x_Si (As := [.int (z >>> ((nI 4) &&& 31)), .int (nI 20)]) (rest := [.int (nI n), .ref (a 36 0)]) C0 (mtL_low l g a (up3 σ 35 0 n (nI (loN (shr z 2) 4))) (z >>> ((nI 4) &&& 31)) 20 (by omega) (by omega)) (xP0 _) xDj0 (va_cwS 2 C0.hts gL_report_L_low rfl rfl rfl (by decide +kernel) ⟨Nat.le_of_ble_eq_true rfl, Nat.le_of_ble_eq_true rfl⟩) rfl hl rfl (Nat.le_of_ble_eq_true rfl) (by show _ ≤ 3; omega) (by show _ ≤ 18; omega) dL_report_34 ?_
  refine x_top (show loI (z >>> ((nI 4) &&& 31)) 20 = nI (loN (shr z 4) 20) from lo_e (z >>> ((nI 4) &&& 31)) (by omega) (by omega)) ?_
  refine x_iast C0 hP hS 36 n 12 (v := nI (loN (shr z 4) 20)) (NLA_M _ (mM_n rfl rfl)) (fun _ => rfl) (by omega) (by decide) dL_report_37 (fun H locs hP hS => ?_)
  refine lv_iconst (v := nI 0) C0.hx C0.hb dL_report_38 (by decide) ?_
  refine lv_istore (lv' := [(9, .int (nI 0)), (8, .int (nI (1 + (loN z 4)))), (7, .int (nI n)), (0, .ref (a 0 0)), (1, .int z), (2, .ref (a 30 0)), (3, .ref (a 35 0)), (4, .ref (a 36 0)), (5, .ref (a 37 0)), (6, .ref (a 38 0))]) C0.hx C0.hb dL_report_39 hl (by decide) rfl (fun ls hl => ?_)
  refine x_loopW (α := Nat) (fun q => 4 - q) (fun q H locs ls => va_P g.1 vwCl (xw NLA g a (rpK σ z n q)) H ∧ va_S (xA NLA a s.heap.size) s.heap H locs ∧ q ≤ 4 ∧ lv_has ls 10 [(0, .ref (a 0 0)), (1, .int z), (2, .ref (a 30 0)), (3, .ref (a 35 0)), (4, .ref (a 36 0)), (5, .ref (a 37 0)), (6, .ref (a 38 0)), (7, .int (nI n)), (8, .int (nI (1 + (loN z 4)))), (9, .int (nI q))]) ?_ 0 ⟨hP, hS, (by omega), (lv_sub hl [3, 4, 5, 6, 7, 8, 9, 2, 1, 0] rfl)⟩
  rintro q H locs ls ⟨hP, hS, hq4, hl⟩ ih41
  refine lv_iload C0.hx C0.hb dL_report_41 (lv_at hl 9 rfl) ?_
  refine lv_iconst (v := nI 4) C0.hx C0.hb dL_report_43 (by decide) ?_
  refine x_icmp_ge (tgt := 103) C0.hx C0.hb (by omega) (by omega) dL_report_44 (by decide) (fun c_3 => ?_) (fun c_3 => ?_)
  ·
    obtain rfl : q = 4 := by omega
    refine lv_aload C0.hx C0.hb dL_report_103 (lv_at hl 6 rfl) ?_
    refine lv_iload C0.hx C0.hb dL_report_105 (lv_at hl 7 rfl) ?_
    refine lv_iconst (v := -1) C0.hx C0.hb dL_report_107 (by decide) ?_
    refine x_iast C0 hP hS 38 n 12 (v := -1) (NLA_M _ (mM_n rfl rfl)) (fun _ => rfl) (by omega) (by decide) dL_report_108 (fun H locs hP hS => ?_)
    have h300 : up3 (rpK σ z n 4) 38 0 n (-1) 30 0 0 = nI n := by rw [up3_ne (fun y => absurd y.1 (by decide)), rpK_ne (by decide) (by decide) (by decide), hn]; exact ok.n.1
    refine lv_aload_n C0.hx C0.hb dL_report_109 rfl (lv_at hl 2 rfl) ?_
    refine lv_iconst (v := nI 0) C0.hx C0.hb dL_report_110 (by decide) ?_
    refine lv_dup2_11 C0.hx C0.hb dL_report_111 rfl rfl ?_
    refine x_iald C0 hP 30 0 3 (NLA_M _ (mM_n rfl rfl)) rfl (by omega) (by decide) dL_report_112 ?_
    refine x_top h300 ?_
    refine lv_iconst (v := nI 1) C0.hx C0.hb dL_report_113 (by decide) ?_
    refine lv_iadd C0.hx C0.hb dL_report_114 ?_
    refine x_top (nI_add n 1) ?_
    refine x_iast C0 hP hS 30 0 3 (v := nI (n + 1)) (NLA_M _ (mM_n rfl rfl)) (fun _ => rfl) (by omega) (by decide) dL_report_115 (fun H locs hP hS => ?_)
    have hP : va_P g.1 vwCl (xw NLA g a (rpQ σ z n)) H := hP
    refine lv_aload_n C0.hx C0.hb dL_report_116 rfl (lv_at hl 0 rfl) ?_
    refine lv_aload_n C0.hx C0.hb dL_report_117 rfl (lv_at hl 3 rfl) ?_
    refine lv_iload C0.hx C0.hb dL_report_118 (lv_at hl 7 rfl) ?_
    refine x_iald C0 hP 35 n 12 (NLA_M _ (mM_n rfl rfl)) rfl (by omega) (by decide) dL_report_120 ?_
    refine lv_aload C0.hx C0.hb dL_report_121 (lv_at hl 4 rfl) ?_
    refine lv_iload C0.hx C0.hb dL_report_123 (lv_at hl 7 rfl) ?_
    refine x_iald C0 hP 36 n 12 (NLA_M _ (mM_n rfl rfl)) rfl (by omega) (by decide) dL_report_125 ?_
    refine lv_aload C0.hx C0.hb dL_report_126 (lv_at hl 5 rfl) ?_
    refine lv_iconst (v := nI 4) C0.hx C0.hb dL_report_128 (by decide) ?_
    refine lv_iload C0.hx C0.hb dL_report_129 (lv_at hl 7 rfl) ?_
    refine lv_imul C0.hx C0.hb dL_report_131 ?_
    refine x_top (pk_mul 4 n) ?_
    refine x_iald C0 hP 37 (4 * n) 48 (NLA_M _ (mM_n rfl rfl)) rfl (by omega) (by decide) dL_report_132 ?_
    refine lv_aload C0.hx C0.hb dL_report_133 (lv_at hl 5 rfl) ?_
    refine lv_iconst (v := nI 4) C0.hx C0.hb dL_report_135 (by decide) ?_
    refine lv_iload C0.hx C0.hb dL_report_136 (lv_at hl 7 rfl) ?_
    refine lv_imul C0.hx C0.hb dL_report_138 ?_
    refine x_top (pk_mul 4 n) ?_
    refine lv_iconst (v := nI 1) C0.hx C0.hb dL_report_139 (by decide) ?_
    refine lv_iadd C0.hx C0.hb dL_report_140 ?_
    refine x_top (nI_add (4 * n) 1) ?_
    refine x_iald C0 hP 37 ((4 * n) + 1) 48 (NLA_M _ (mM_n rfl rfl)) rfl (by omega) (by decide) dL_report_141 ?_
    refine lv_aload C0.hx C0.hb dL_report_142 (lv_at hl 5 rfl) ?_
    refine lv_iconst (v := nI 4) C0.hx C0.hb dL_report_144 (by decide) ?_
    refine lv_iload C0.hx C0.hb dL_report_145 (lv_at hl 7 rfl) ?_
    refine lv_imul C0.hx C0.hb dL_report_147 ?_
    refine x_top (pk_mul 4 n) ?_
    refine lv_iconst (v := nI 2) C0.hx C0.hb dL_report_148 (by decide) ?_
    refine lv_iadd C0.hx C0.hb dL_report_149 ?_
    refine x_top (nI_add (4 * n) 2) ?_
    refine x_iald C0 hP 37 ((4 * n) + 2) 48 (NLA_M _ (mM_n rfl rfl)) rfl (by omega) (by decide) dL_report_150 ?_
    refine lv_aload C0.hx C0.hb dL_report_151 (lv_at hl 5 rfl) ?_
    refine lv_iconst (v := nI 4) C0.hx C0.hb dL_report_153 (by decide) ?_
    refine lv_iload C0.hx C0.hb dL_report_154 (lv_at hl 7 rfl) ?_
    refine lv_imul C0.hx C0.hb dL_report_156 ?_
    refine x_top (pk_mul 4 n) ?_
    refine lv_iconst (v := nI 3) C0.hx C0.hb dL_report_157 (by decide) ?_
    refine lv_iadd C0.hx C0.hb dL_report_158 ?_
    refine x_top (nI_add (4 * n) 3) ?_
    refine x_iald C0 hP 37 ((4 * n) + 3) 48 (NLA_M _ (mM_n rfl rfl)) rfl (by omega) (by decide) dL_report_159 ?_
    refine x_VXN (As := [.int ((rpQ σ z n) 35 0 n), .int ((rpQ σ z n) 36 0 n), .int ((rpQ σ z n) 37 0 (4 * n)), .int ((rpQ σ z n) 37 0 ((4 * n) + 1)), .int ((rpQ σ z n) 37 0 ((4 * n) + 2)), .int ((rpQ σ z n) 37 0 ((4 * n) + 3))]) (rest := []) C0 (mtX4_report l hfl g a (rpQ σ z n) ((rpQ σ z n) 35 0 n) ((rpQ σ z n) 36 0 n) ((rpQ σ z n) 37 0 (4 * n)) ((rpQ σ z n) 37 0 (4 * n + 1)) ((rpQ σ z n) 37 0 (4 * n + 2)) ((rpQ σ z n) 37 0 (4 * n + 3)) okx okf) (fun _ h => chEx_no hok h) hP hS hT hZ (cwV 6 C0.hts gL_report_X4_report rfl rfl rfl (by decide +kernel) ⟨Nat.le_of_ble_eq_true rfl, Nat.le_of_ble_eq_true rfl⟩) (x_recv C0 hP 0 (NLA_X _ (mX_n rfl)) rfl rfl) rfl hl rfl (Nat.le_of_ble_eq_true rfl) (by show _ ≤ 3; omega) (by show _ ≤ 18; omega) dL_report_160 (fun H locs hP hS => ?_)
    refine lv_iload C0.hx C0.hb dL_report_163 (lv_at hl 7 rfl) ?_
    refine lv_icmp_ne (tgt := 172) C0.hx C0.hb dL_report_165 (by decide) (fun c_4 => ?_) (fun c_4 => ?_)
    ·
      exact absurd (by rw [hn3]) c_4
    ·
      refine lv_iconst (v := nI 1) C0.hx C0.hb dL_report_168 (by decide) ?_
      refine lv_goto (tgt := 173) C0.hx C0.hb dL_report_169 (by decide) ?_
      refine W.widen (k := 3) (n := 18) (by omega) (by omega) ?_
      exact W.zret (v := nI 1) C0.hx C0.hb hr rfl (fun t ht hW => ⟨⟨_, oM (rpQ σ z n) (rpN (rpQ σ z n) n), rfl, ⟨rfl, rfl⟩, x_end ht hP⟩, hS.F ht⟩) hS.2.2 dL_report_173
  ·
    refine lv_aload C0.hx C0.hb dL_report_47 (lv_at hl 5 rfl) ?_
    refine lv_iconst (v := nI 4) C0.hx C0.hb dL_report_49 (by decide) ?_
    refine lv_iload C0.hx C0.hb dL_report_50 (lv_at hl 7 rfl) ?_
    refine lv_imul C0.hx C0.hb dL_report_52 ?_
    refine x_top (pk_mul 4 n) ?_
    refine lv_iload C0.hx C0.hb dL_report_53 (lv_at hl 9 rfl) ?_
    refine lv_iadd C0.hx C0.hb dL_report_55 ?_
    refine x_top (nI_add (4 * n) q) ?_
    refine x_join (α := Int32) 96 (fun z9 H' locs' ls => (H' = H ∧ locs' = locs ∧ z9 = rpX z q) ∧ lv_has ls 10 [(0, .ref (a 0 0)), (1, .int z), (2, .ref (a 30 0)), (3, .ref (a 35 0)), (4, .ref (a 36 0)), (5, .ref (a 37 0)), (6, .ref (a 38 0)), (7, .int (nI n)), (8, .int (nI (1 + (loN z 4)))), (9, .int (nI q))]) (fun z9 => [.int z9, .int (nI (4 * n + q)), .ref (a 37 0)]) ?_ (fun J96 => ?_)
    · rintro z9 H locs ls ⟨⟨rfl, rfl, hz⟩, hl⟩
      subst hz
      refine x_iast C0 hP hS 37 (4 * n + q) 48 (v := rpX z q) (NLA_M _ (mM_n rfl rfl)) (fun _ => rfl) (by omega) (by decide) dL_report_96 (fun H locs hP hS => ?_)
      refine lv_iinc (v := nI (q + 1)) (lv' := [(9, .int (nI (q + 1))), (0, .ref (a 0 0)), (1, .int z), (2, .ref (a 30 0)), (3, .ref (a 35 0)), (4, .ref (a 36 0)), (5, .ref (a 37 0)), (6, .ref (a 38 0)), (7, .int (nI n)), (8, .int (nI (1 + (loN z 4))))]) C0.hx C0.hb dL_report_97 hl (k := 9) rfl (nI_1 q) (by decide) rfl (fun ls hl => ?_)
      refine lv_goto (tgt := 41) C0.hx C0.hb dL_report_100 (by decide) ?_
      exact ih41 ((q + 1)) H locs ls ⟨hP, hS, (by omega), (lv_sub hl [1, 2, 3, 4, 5, 6, 7, 8, 9, 0] rfl)⟩ (by omega)
    ·
      refine lv_iload C0.hx C0.hb dL_report_56 (lv_at hl 9 rfl) ?_
      refine lv_iload C0.hx C0.hb dL_report_58 (lv_at hl 8 rfl) ?_
      refine x_icmp_ge (tgt := 95) C0.hx C0.hb (by omega) (by omega) dL_report_60 (by decide) (fun c_5 => ?_) (fun c_5 => ?_)
      ·
        refine lv_iconst (v := -1) C0.hx C0.hb dL_report_95 (by decide) ?_
        exact J96 (-1) _ _ ls ⟨⟨rfl, rfl, (by unfold rpX; rw [if_neg (show ¬ q < 1 + loN z 4 by omega)])⟩, (lv_sub hl [0, 1, 2, 3, 4, 5, 6, 7, 8, 9] rfl)⟩
      ·
        refine lv_iload_n C0.hx C0.hb dL_report_63 rfl (lv_at hl 1 rfl) ?_
        refine lv_iconst (v := nI 5) C0.hx C0.hb dL_report_64 (by decide) ?_
        refine lv_iload C0.hx C0.hb dL_report_65 (lv_at hl 9 rfl) ?_
        refine lv_iadd C0.hx C0.hb dL_report_67 ?_
        refine x_top (nI_add 5 q) ?_
        refine lv_ishr C0.hx C0.hb dL_report_68 ?_
        refine lv_iload_n C0.hx C0.hb dL_report_69 rfl (lv_at hl 1 rfl) ?_
        refine lv_bipush (v := nI 14) C0.hx C0.hb dL_report_70 (by decide) ?_
        refine lv_ishr C0.hx C0.hb dL_report_72 ?_
        refine lv_iconst (v := nI 5) C0.hx C0.hb dL_report_73 (by decide) ?_
        have hlow74 : loN (shr z 14) 5 < 5 := lo_lt (z >>> ((nI 14) &&& 31)) (by omega) (by omega)
        refine x_Si (As := [.int (z >>> ((nI 14) &&& 31)), .int (nI 5)]) (rest := [.int (z >>> ((nI (5 + q)) &&& 31)), .int (nI ((4 * n) + q)), .ref (a 37 0)]) C0 (mtL_low l g a (rpK σ z n q) (z >>> ((nI 14) &&& 31)) 5 (by omega) (by omega)) (xP0 _) xDj0 (va_cwS 2 C0.hts gL_report_L_low rfl rfl rfl (by decide +kernel) ⟨Nat.le_of_ble_eq_true rfl, Nat.le_of_ble_eq_true rfl⟩) rfl hl rfl (Nat.le_of_ble_eq_true rfl) (by show _ ≤ 3; omega) (by show _ ≤ 18; omega) dL_report_74 ?_
        refine x_top (show loI (z >>> ((nI 14) &&& 31)) 5 = nI (loN (shr z 14) 5) from lo_e (z >>> ((nI 14) &&& 31)) (by omega) (by omega)) ?_
        refine x_join (α := Nat) 89 (fun z9 H' locs' ls => (H' = H ∧ locs' = locs ∧ z9 = (if loN (shr z 14) 5 = 0 then 10000 else 130)) ∧ lv_has ls 10 [(0, .ref (a 0 0)), (1, .int z), (2, .ref (a 30 0)), (3, .ref (a 35 0)), (4, .ref (a 36 0)), (5, .ref (a 37 0)), (6, .ref (a 38 0)), (7, .int (nI n)), (8, .int (nI (1 + (loN z 4)))), (9, .int (nI q))]) (fun z9 => [.int (nI z9), .int (z >>> (nI (5 + q) &&& 31)), .int (nI (4 * n + q)), .ref (a 37 0)]) ?_ (fun J89 => ?_)
        · rintro z9 H locs ls ⟨⟨rfl, rfl, hz⟩, hl⟩
          subst hz
          have hlow89 : loN (z >>> (nI (5 + q) &&& 31)) (if loN (shr z 14) 5 = 0 then 10000 else 130) < (if loN (shr z 14) 5 = 0 then 10000 else 130) := lo_lt (z >>> (nI (5 + q) &&& 31)) (by split <;> omega) (by split <;> omega)
          refine x_Si (As := [.int (z >>> (nI (5 + q) &&& 31)), .int (nI (if loN (shr z 14) 5 = 0 then 10000 else 130))]) (rest := [.int (nI (4 * n + q)), .ref (a 37 0)]) C0 (mtL_low l g a (rpK σ z n q) (z >>> (nI (5 + q) &&& 31)) (if loN (shr z 14) 5 = 0 then 10000 else 130) (by split <;> omega) (by split <;> omega)) (xP0 _) xDj0 (va_cwS 2 C0.hts gL_report_L_low rfl rfl rfl (by decide +kernel) ⟨Nat.le_of_ble_eq_true rfl, Nat.le_of_ble_eq_true rfl⟩) rfl hl rfl (Nat.le_of_ble_eq_true rfl) (by show _ ≤ 3; omega) (by show _ ≤ 18; omega) dL_report_89 ?_
          refine x_top (show loI (z >>> (nI (5 + q) &&& 31)) (if loN (shr z 14) 5 = 0 then 10000 else 130) = nI (loN (z >>> (nI (5 + q) &&& 31)) (if loN (shr z 14) 5 = 0 then 10000 else 130)) from lo_e (z >>> (nI (5 + q) &&& 31)) (by split <;> omega) (by split <;> omega)) ?_
          refine lv_goto (tgt := 96) C0.hx C0.hb dL_report_92 (by decide) ?_
          exact J96 (nI (loN (z >>> (nI (5 + q) &&& 31)) (if loN (shr z 14) 5 = 0 then 10000 else 130))) _ _ ls ⟨⟨rfl, rfl, (by unfold rpX; rw [if_pos (show q < 1 + loN z 4 by omega)])⟩, (lv_sub hl [0, 1, 2, 3, 4, 5, 6, 7, 8, 9] rfl)⟩
        ·
          refine x_ifnen (tgt := 86) C0.hx C0.hb (by omega) dL_report_77 (by decide) (fun c_6 => ?_) (fun c_6 => ?_)
          ·
            refine lv_sipush (v := nI 130) C0.hx C0.hb dL_report_86 (by decide) ?_
            exact J89 130 _ _ ls ⟨⟨rfl, rfl, (by simp [c_6])⟩, (lv_sub hl [0, 1, 2, 3, 4, 5, 6, 7, 8, 9] rfl)⟩
          ·
            refine lv_sipush (v := nI 10000) C0.hx C0.hb dL_report_80 (by decide) ?_
            refine lv_goto (tgt := 89) C0.hx C0.hb dL_report_83 (by decide) ?_
            exact J89 10000 _ _ ls ⟨⟨rfl, rfl, (by simp [c_6])⟩, (lv_sub hl [0, 1, 2, 3, 4, 5, 6, 7, 8, 9] rfl)⟩

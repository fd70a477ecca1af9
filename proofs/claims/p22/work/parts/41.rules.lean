set_option maxHeartbeats 4000000 in
set_option maxRecDepth 100000 in
theorem mtL_rules (l : Launch) (hfl : l.stackTraces = false) (g : xG) (a : xAd) (σ : xS) (z : Int32) (ok : okP σ) (hR : RuH σ z) : xMl l yL_rules wsL_rules ({ frames := 9, cells := 3, slots := 18, locals := 176 }) 3 18  g a σ [.ref (a 0 0), .int z, .ref (a 30 0), .ref (a 31 0)] (nI 1) (ruE σ z) := by
  intro sz
  refine Met.ofW (cc := cL_rules) (maxL := 10) (ret := (some .boolean)) (by decide) rfl ?_
  intro p e s m args below meth c s₁ B hml hv
  obtain ⟨rfl, hsz, ⟨hP, hK, hN, hj⟩, hT, hZ⟩ := hv
  subst hsz
  have hr := B.returns
  have hlocks := B.notSynchronized
  have C0 : xC p s m _ c cL_rules 10 wsL_rules RL NLA g a (xA NLA a s.heap.size) := ⟨⟨B.exec, B.bytes, hml, findClass_of_methodNamed B.named, atoms_spec (ws := wsL_rules) B.pre⟩, hK, hN, hj, fun n h => Or.inl ⟨n, h, rfl⟩, fun q h => Or.inr h⟩
  have hS : va_S (xA NLA a s.heap.size) s.heap s.heap [] := va_S.rf
  have hl := lv_entry ([.ref (a 0 0), .int z, .ref (a 30 0), .ref (a 31 0)]) (n := 10) (Nat.le_of_ble_eq_true rfl)
  rw [lg_entry_eq]
  generalize (lg_sl ([.ref (a 0 0), .int z, .ref (a 30 0), .ref (a 31 0)]) ++ List.replicate (10 - (lg_sl ([.ref (a 0 0), .int z, .ref (a 30 0), .ref (a 31 0)])).length) Slot.unset).toArray = ls at hl ⊢
  have hl : lv_has ls 10 [(0, .ref (a 0 0)), (1, .int z), (2, .ref (a 30 0)), (3, .ref (a 31 0))] := hl
  refine lv_iload_n C0.hx C0.hb dL_rules_0 rfl (lv_at hl 1 rfl) ?_
  refine lv_iconst (v := nI 4) C0.hx C0.hb dL_rules_1 (by decide) ?_
  have hlow2 : loN z 4 < 4 := lo_lt z (by omega) (by omega)
  refine x_Si (As := [.int z, .int (nI 4)]) (rest := []) C0 (mtL_low l g a σ z 4 (by omega) (by omega)) (xP0 _) xDj0 (va_cwS 2 C0.hts gL_rules_L_low rfl rfl rfl (by decide +kernel) ⟨Nat.le_of_ble_eq_true rfl, Nat.le_of_ble_eq_true rfl⟩) rfl hl rfl (Nat.le_of_ble_eq_true rfl) (by show _ ≤ 3; omega) (by show _ ≤ 18; omega) dL_rules_2 ?_
  refine x_top (show loI z 4 = nI (loN z 4) from lo_e z (by omega) (by omega)) ?_
  refine lv_istore (lv' := [(4, .int (nI (loN z 4))), (0, .ref (a 0 0)), (1, .int z), (2, .ref (a 30 0)), (3, .ref (a 31 0))]) C0.hx C0.hb dL_rules_5 hl (by decide) rfl (fun ls hl => ?_)
  refine lv_iload_n C0.hx C0.hb dL_rules_7 rfl (lv_at hl 2 rfl) ?_
  refine lv_iconst (v := nI 2) C0.hx C0.hb dL_rules_8 (by decide) ?_
  refine lv_ishr C0.hx C0.hb dL_rules_9 ?_
  refine lv_bipush (v := nI 6) C0.hx C0.hb dL_rules_10 (by decide) ?_
  have hlow12 : ruF z < 6 := lo_lt (z >>> ((nI 2) &&& 31)) (by omega) (by omega)
  refine x_Si (As := [.int (z >>> ((nI 2) &&& 31)), .int (nI 6)]) (rest := []) C0 (mtL_low l g a σ (z >>> ((nI 2) &&& 31)) 6 (by omega) (by omega)) (xP0 _) xDj0 (va_cwS 2 C0.hts gL_rules_L_low rfl rfl rfl (by decide +kernel) ⟨Nat.le_of_ble_eq_true rfl, Nat.le_of_ble_eq_true rfl⟩) rfl hl rfl (Nat.le_of_ble_eq_true rfl) (by show _ ≤ 3; omega) (by show _ ≤ 18; omega) dL_rules_12 ?_
  refine x_top (show loI (z >>> ((nI 2) &&& 31)) 6 = nI (ruF z) from lo_e (z >>> ((nI 2) &&& 31)) (by omega) (by omega)) ?_
  refine lv_istore (lv' := [(5, .int (nI (ruF z))), (4, .int (nI (loN z 4))), (0, .ref (a 0 0)), (1, .int z), (2, .ref (a 30 0)), (3, .ref (a 31 0))]) C0.hx C0.hb dL_rules_15 hl (by decide) rfl (fun ls hl => ?_)
  refine lv_iload C0.hx C0.hb dL_rules_17 (lv_at hl 1 rfl) ?_
  refine x_ifnen (tgt := 95) C0.hx C0.hb (by omega) dL_rules_19 (by decide) (fun c_1 => ?_) (fun c_1 => ?_)
  ·
    have hhow0 := c_1
    refine lv_iload C0.hx C0.hb dL_rules_95 (lv_at hl 1 rfl) ?_
    refine lv_iconst (v := nI 1) C0.hx C0.hb dL_rules_97 (by decide) ?_
    refine x_icmp_ne (tgt := 247) C0.hx C0.hb (by omega) (by omega) dL_rules_98 (by decide) (fun c_2 => ?_) (fun c_2 => ?_)
    ·
      have hhow1 := c_2
      refine lv_iload C0.hx C0.hb dL_rules_247 (lv_at hl 1 rfl) ?_
      refine lv_iconst (v := nI 2) C0.hx C0.hb dL_rules_249 (by decide) ?_
      refine x_icmp_ne (tgt := 288) C0.hx C0.hb (by omega) (by omega) dL_rules_250 (by decide) (fun c_3 => ?_) (fun c_3 => ?_)
      ·
        have hH := hR.2.2.2 hhow0 hhow1 c_3
        have hhow := c_3
        refine lv_aload_n C0.hx C0.hb dL_rules_288 rfl (lv_at hl 4 rfl) ?_
        refine lv_iconst (v := nI 2) C0.hx C0.hb dL_rules_289 (by decide) ?_
        refine x_iald C0 hP 30 2 3 (NLA_M _ (mM_n rfl rfl)) rfl (by omega) (by decide) dL_rules_290 ?_
        obtain ⟨e_4, b_5⟩ := (ok.lim : inR (σ 30 0 2) _)
        refine x_top e_4 ?_
        refine lv_istore (lv' := [(6, .int (nI (nv (σ 30 0 2)))), (5, .int (nI (ruF z))), (4, .int (nI (loN z 4))), (0, .ref (a 0 0)), (1, .int z), (2, .ref (a 30 0)), (3, .ref (a 31 0))]) C0.hx C0.hb dL_rules_291 hl (by decide) rfl (fun ls hl => ?_)
        refine lv_aload_n C0.hx C0.hb dL_rules_293 rfl (lv_at hl 5 rfl) ?_
        refine lv_iconst (v := nI 2) C0.hx C0.hb dL_rules_294 (by decide) ?_
        refine lv_iconst (v := nI 1) C0.hx C0.hb dL_rules_295 (by decide) ?_
        refine lv_iload_n C0.hx C0.hb dL_rules_296 rfl (lv_at hl 4 rfl) ?_
        refine lv_iconst (v := nI 5) C0.hx C0.hb dL_rules_297 (by decide) ?_
        refine lv_ishr C0.hx C0.hb dL_rules_298 ?_
        refine lv_sipush (v := nI 900) C0.hx C0.hb dL_rules_299 (by decide) ?_
        have hlow302 : loN (shr z 5) 900 < 900 := lo_lt (z >>> ((nI 5) &&& 31)) (by omega) (by omega)
        refine x_Si (As := [.int (z >>> ((nI 5) &&& 31)), .int (nI 900)]) (rest := [.int (nI 1), .int (nI 2), .ref (a 30 0)]) C0 (mtL_low l g a σ (z >>> ((nI 5) &&& 31)) 900 (by omega) (by omega)) (xP0 _) xDj0 (va_cwS 2 C0.hts gL_rules_L_low rfl rfl rfl (by decide +kernel) ⟨Nat.le_of_ble_eq_true rfl, Nat.le_of_ble_eq_true rfl⟩) rfl hl rfl (Nat.le_of_ble_eq_true rfl) (by show _ ≤ 3; omega) (by show _ ≤ 18; omega) dL_rules_302 ?_
        refine x_top (show loI (z >>> ((nI 5) &&& 31)) 900 = nI (loN (shr z 5) 900) from lo_e (z >>> ((nI 5) &&& 31)) (by omega) (by omega)) ?_
        refine lv_iadd C0.hx C0.hb dL_rules_305 ?_
        refine x_top (nI_add 1 (loN (shr z 5) 900)) ?_
        refine x_iast C0 hP hS 30 2 3 (v := nI (1 + (loN (shr z 5) 900))) (NLA_M _ (mM_n rfl rfl)) (fun _ => rfl) (by omega) (by decide) dL_rules_306 (fun H locs hP hS => ?_)
        have hP : va_P g.1 vwCl (xw NLA g a (r3S σ z)) H := hP
        refine lv_aload_n C0.hx C0.hb dL_rules_307 rfl (lv_at hl 3 rfl) ?_
        refine lv_aload_n C0.hx C0.hb dL_rules_308 rfl (lv_at hl 5 rfl) ?_
        refine lv_iconst (v := nI 2) C0.hx C0.hb dL_rules_309 (by decide) ?_
        refine x_iald C0 hP 30 2 3 (NLA_M _ (mM_n rfl rfl)) rfl (by omega) (by decide) dL_rules_310 ?_
        refine x_VXN (As := [.int ((r3S σ z) 30 0 2)]) (rest := []) C0 (mtX4_setLimit l hfl g a (r3S σ z) (r3S σ z 30 0 2)) (fun _ h => chEx_no hH.1 h) hP hS hT hZ (cwV 1 C0.hts gL_rules_X4_setLimit rfl rfl rfl (by decide +kernel) ⟨Nat.le_of_ble_eq_true rfl, Nat.le_of_ble_eq_true rfl⟩) (x_recv C0 hP 0 (NLA_X _ (mX_n rfl)) rfl rfl) rfl hl rfl (Nat.le_of_ble_eq_true rfl) (by show _ ≤ 3; omega) (by show _ ≤ 18; omega) dL_rules_311 (fun H locs hP hS => ?_)
        refine lv_iload C0.hx C0.hb dL_rules_314 (lv_at hl 0 rfl) ?_
        refine lv_icmp_ne (tgt := 323) C0.hx C0.hb dL_rules_316 (by decide) (fun c_6 => ?_) (fun c_6 => ?_)
        ·
          exact absurd hH.2 c_6
        ·
          refine lv_iconst (v := nI 1) C0.hx C0.hb dL_rules_319 (by decide) ?_
          refine lv_goto (tgt := 324) C0.hx C0.hb dL_rules_320 (by decide) ?_
          refine W.widen (k := 3) (n := 18) (by omega) (by omega) ?_
          exact W.zret (v := nI 1) C0.hx C0.hb hr rfl (fun t ht hW => ⟨⟨_, oM (r3S σ z) (slS (r3S σ z) (r3S σ z 30 0 2)), rfl, ⟨rfl, (by unfold ruE; rw [if_neg hhow0, if_neg hhow1, if_neg hhow]; rfl)⟩, x_end ht hP⟩, hS.F ht⟩) hS.2.2 dL_rules_324
      ·
        have hH := hR.2.2.1 c_3
        have hhow := c_3
        refine lv_aload_n C0.hx C0.hb dL_rules_253 rfl (lv_at hl 4 rfl) ?_
        refine lv_iconst (v := nI 1) C0.hx C0.hb dL_rules_254 (by decide) ?_
        refine x_iald C0 hP 30 1 3 (NLA_M _ (mM_n rfl rfl)) rfl (by omega) (by decide) dL_rules_255 ?_
        obtain ⟨e_7, b_8⟩ := (ok.dep : inR (σ 30 0 1) _)
        refine x_top e_7 ?_
        refine lv_istore (lv' := [(6, .int (nI (nv (σ 30 0 1)))), (5, .int (nI (ruF z))), (4, .int (nI (loN z 4))), (0, .ref (a 0 0)), (1, .int z), (2, .ref (a 30 0)), (3, .ref (a 31 0))]) C0.hx C0.hb dL_rules_256 hl (by decide) rfl (fun ls hl => ?_)
        refine lv_aload_n C0.hx C0.hb dL_rules_258 rfl (lv_at hl 5 rfl) ?_
        refine lv_iconst (v := nI 1) C0.hx C0.hb dL_rules_259 (by decide) ?_
        refine lv_iconst (v := nI 1) C0.hx C0.hb dL_rules_260 (by decide) ?_
        refine lv_iload_n C0.hx C0.hb dL_rules_261 rfl (lv_at hl 4 rfl) ?_
        refine lv_iconst (v := nI 5) C0.hx C0.hb dL_rules_262 (by decide) ?_
        refine lv_ishr C0.hx C0.hb dL_rules_263 ?_
        refine lv_iconst (v := nI 4) C0.hx C0.hb dL_rules_264 (by decide) ?_
        have hlow265 : loN (shr z 5) 4 < 4 := lo_lt (z >>> ((nI 5) &&& 31)) (by omega) (by omega)
        refine x_Si (As := [.int (z >>> ((nI 5) &&& 31)), .int (nI 4)]) (rest := [.int (nI 1), .int (nI 1), .ref (a 30 0)]) C0 (mtL_low l g a σ (z >>> ((nI 5) &&& 31)) 4 (by omega) (by omega)) (xP0 _) xDj0 (va_cwS 2 C0.hts gL_rules_L_low rfl rfl rfl (by decide +kernel) ⟨Nat.le_of_ble_eq_true rfl, Nat.le_of_ble_eq_true rfl⟩) rfl hl rfl (Nat.le_of_ble_eq_true rfl) (by show _ ≤ 3; omega) (by show _ ≤ 18; omega) dL_rules_265 ?_
        refine x_top (show loI (z >>> ((nI 5) &&& 31)) 4 = nI (loN (shr z 5) 4) from lo_e (z >>> ((nI 5) &&& 31)) (by omega) (by omega)) ?_
        refine lv_iadd C0.hx C0.hb dL_rules_268 ?_
        refine x_top (nI_add 1 (loN (shr z 5) 4)) ?_
        refine x_iast C0 hP hS 30 1 3 (v := nI (1 + (loN (shr z 5) 4))) (NLA_M _ (mM_n rfl rfl)) (fun _ => rfl) (by omega) (by decide) dL_rules_269 (fun H locs hP hS => ?_)
        have hP : va_P g.1 vwCl (xw NLA g a (r2S σ z)) H := hP
        refine lv_aload_n C0.hx C0.hb dL_rules_270 rfl (lv_at hl 3 rfl) ?_
        refine lv_aload_n C0.hx C0.hb dL_rules_271 rfl (lv_at hl 5 rfl) ?_
        refine lv_iconst (v := nI 1) C0.hx C0.hb dL_rules_272 (by decide) ?_
        refine x_iald C0 hP 30 1 3 (NLA_M _ (mM_n rfl rfl)) rfl (by omega) (by decide) dL_rules_273 ?_
        refine x_VXN (As := [.int ((r2S σ z) 30 0 1)]) (rest := []) C0 (mtX4_setDepth l hfl g a (r2S σ z) (r2S σ z 30 0 1) hH.1 hH.2.1) (fun _ h => chEx_no hH.2.2.1 h) hP hS hT hZ (cwV 1 C0.hts gL_rules_X4_setDepth rfl rfl rfl (by decide +kernel) ⟨Nat.le_of_ble_eq_true rfl, Nat.le_of_ble_eq_true rfl⟩) (x_recv C0 hP 0 (NLA_X _ (mX_n rfl)) rfl rfl) rfl hl rfl (Nat.le_of_ble_eq_true rfl) (by show _ ≤ 3; omega) (by show _ ≤ 18; omega) dL_rules_274 (fun H locs hP hS => ?_)
        refine lv_iload C0.hx C0.hb dL_rules_277 (lv_at hl 0 rfl) ?_
        refine lv_icmp_ne (tgt := 286) C0.hx C0.hb dL_rules_279 (by decide) (fun c_9 => ?_) (fun c_9 => ?_)
        ·
          exact absurd hH.2.2.2 c_9
        ·
          refine lv_iconst (v := nI 1) C0.hx C0.hb dL_rules_282 (by decide) ?_
          refine lv_goto (tgt := 287) C0.hx C0.hb dL_rules_283 (by decide) ?_
          refine W.widen (k := 3) (n := 18) (by omega) (by omega) ?_
          exact W.zret (v := nI 1) C0.hx C0.hb hr rfl (fun t ht hW => ⟨⟨_, oM (r2S σ z) (sdS (r2S σ z) (r2S σ z 30 0 1)), rfl, ⟨rfl, (by unfold ruE; rw [if_neg hhow0, if_neg hhow1, if_pos hhow]; rfl)⟩, x_end ht hP⟩, hS.F ht⟩) hS.2.2 dL_rules_287
    ·
      have hH := hR.2.1 c_2
      have hhow := c_2
      refine lv_iload_n C0.hx C0.hb dL_rules_101 rfl (lv_at hl 3 rfl) ?_
      refine lv_iconst (v := nI 5) C0.hx C0.hb dL_rules_102 (by decide) ?_
      refine lv_ishr C0.hx C0.hb dL_rules_103 ?_
      refine lv_bipush (v := nI 6) C0.hx C0.hb dL_rules_104 (by decide) ?_
      have hlow106 : ruO z < 6 := lo_lt (z >>> ((nI 5) &&& 31)) (by omega) (by omega)
      refine x_Si (As := [.int (z >>> ((nI 5) &&& 31)), .int (nI 6)]) (rest := []) C0 (mtL_low l g a σ (z >>> ((nI 5) &&& 31)) 6 (by omega) (by omega)) (xP0 _) xDj0 (va_cwS 2 C0.hts gL_rules_L_low rfl rfl rfl (by decide +kernel) ⟨Nat.le_of_ble_eq_true rfl, Nat.le_of_ble_eq_true rfl⟩) rfl hl rfl (Nat.le_of_ble_eq_true rfl) (by show _ ≤ 3; omega) (by show _ ≤ 18; omega) dL_rules_106 ?_
      refine x_top (show loI (z >>> ((nI 5) &&& 31)) 6 = nI (ruO z) from lo_e (z >>> ((nI 5) &&& 31)) (by omega) (by omega)) ?_
      refine lv_istore (lv' := [(6, .int (nI (ruO z))), (5, .int (nI (ruF z))), (4, .int (nI (loN z 4))), (0, .ref (a 0 0)), (1, .int z), (2, .ref (a 30 0)), (3, .ref (a 31 0))]) C0.hx C0.hb dL_rules_109 hl (by decide) rfl (fun ls hl => ?_)
      refine lv_iload C0.hx C0.hb dL_rules_111 (lv_at hl 0 rfl) ?_
      refine lv_istore (lv' := [(7, .int (nI (ruO z))), (6, .int (nI (ruO z))), (5, .int (nI (ruF z))), (4, .int (nI (loN z 4))), (0, .ref (a 0 0)), (1, .int z), (2, .ref (a 30 0)), (3, .ref (a 31 0))]) C0.hx C0.hb dL_rules_113 hl (by decide) rfl (fun ls hl => ?_)
      refine x_join (α := Bool) 134 (fun b9 H' locs' ls => (H' = s.heap ∧ locs' = [] ∧ b9 = (rdP σ (ruF z) (ruO z) 0)) ∧ lv_has ls 10 [(0, .ref (a 0 0)), (1, .int z), (2, .ref (a 30 0)), (3, .ref (a 31 0)), (4, .int (nI (loN z 4))), (5, .int (nI (ruF z))), (6, .int (nI (ruO z))), (7, .int (nI (ruO z)))]) (fun b9 => [.int (bI b9)]) ?_ (fun J134 => ?_)
      · rintro b9 _ _ ls ⟨⟨rfl, rfl, hb9⟩, hl⟩
        subst hb9
        refine lv_istore (lv' := [(8, .int (bI (rdP σ (ruF z) (ruO z) 0))), (0, .ref (a 0 0)), (1, .int z), (2, .ref (a 30 0)), (3, .ref (a 31 0)), (4, .int (nI (loN z 4))), (5, .int (nI (ruF z))), (6, .int (nI (ruO z))), (7, .int (nI (ruO z)))]) C0.hx C0.hb dL_rules_134 hl (by decide) rfl (fun ls hl => ?_)
        refine lv_iconst (v := nI 0) C0.hx C0.hb dL_rules_136 (by decide) ?_
        refine lv_istore (lv' := [(9, .int (nI 0)), (8, .int (bI (rdP σ (ruF z) (ruO z) 0))), (0, .ref (a 0 0)), (1, .int z), (2, .ref (a 30 0)), (3, .ref (a 31 0)), (4, .int (nI (loN z 4))), (5, .int (nI (ruF z))), (6, .int (nI (ruO z))), (7, .int (nI (ruO z)))]) C0.hx C0.hb dL_rules_137 hl (by decide) rfl (fun ls hl => ?_)
        refine x_loopR (α := Nat) (fun n => 6 - n) (fun n ls => n ≤ 6 ∧ lv_has ls 10 [(0, .ref (a 0 0)), (1, .int z), (2, .ref (a 30 0)), (3, .ref (a 31 0)), (4, .int (nI (loN z 4))), (5, .int (nI (ruF z))), (6, .int (nI (ruO z))), (7, .int (nI (atP σ (ruO z) n))), (8, .int (bI (rdP σ (ruF z) (ruO z) n))), (9, .int (nI n))]) ?_ 0 ⟨(by omega), (lv_sub hl [2, 3, 4, 5, 6, 7, 8, 9, 1, 0] rfl)⟩
        rintro n ls ⟨hn6, hl⟩ ih139
        refine lv_iload C0.hx C0.hb dL_rules_139 (lv_at hl 9 rfl) ?_
        refine lv_bipush (v := nI 6) C0.hx C0.hb dL_rules_141 (by decide) ?_
        refine x_icmp_ge (tgt := 187) C0.hx C0.hb (by omega) (by omega) dL_rules_143 (by decide) (fun c_10 => ?_) (fun c_10 => ?_)
        ·
          obtain rfl : n = 6 := by omega
          refine lv_aload_n C0.hx C0.hb dL_rules_187 rfl (lv_at hl 3 rfl) ?_
          refine lv_bipush (v := nI 14) C0.hx C0.hb dL_rules_188 (by decide) ?_
          refine lv_iload C0.hx C0.hb dL_rules_190 (lv_at hl 5 rfl) ?_
          refine lv_iadd C0.hx C0.hb dL_rules_192 ?_
          refine x_top (nI_add 14 (ruF z)) ?_
          refine x_iald C0 hP 31 (14 + (ruF z)) 20 (NLA_M _ (mM_n rfl rfl)) rfl (by omega) (by decide) dL_rules_193 ?_
          obtain ⟨e_11, b_12⟩ := (ok.std (by omega) : inR (σ 31 0 (14 + (ruF z))) _)
          refine x_top e_11 ?_
          refine lv_istore (lv' := [(9, .int (nI (nv (σ 31 0 (14 + (ruF z)))))), (0, .ref (a 0 0)), (1, .int z), (2, .ref (a 30 0)), (3, .ref (a 31 0)), (4, .int (nI (loN z 4))), (5, .int (nI (ruF z))), (6, .int (nI (ruO z))), (7, .int (nI (atP σ (ruO z) 6))), (8, .int (bI (rdP σ (ruF z) (ruO z) 6)))]) C0.hx C0.hb dL_rules_194 hl (by decide) rfl (fun ls hl => ?_)
          refine lv_aload_n C0.hx C0.hb dL_rules_196 rfl (lv_at hl 4 rfl) ?_
          refine lv_bipush (v := nI 14) C0.hx C0.hb dL_rules_197 (by decide) ?_
          refine lv_iload C0.hx C0.hb dL_rules_199 (lv_at hl 6 rfl) ?_
          refine lv_iadd C0.hx C0.hb dL_rules_201 ?_
          refine x_top (nI_add 14 (ruF z)) ?_
          refine x_join (α := Nat) 214 (fun z9 H' locs' ls => (H' = s.heap ∧ locs' = [] ∧ z9 = (if rdP σ (ruF z) (ruO z) 6 = true then nv (σ 31 0 (14 + ruF z)) else ruO z)) ∧ lv_has ls 10 [(0, .ref (a 0 0)), (1, .int z), (2, .ref (a 30 0)), (3, .ref (a 31 0)), (4, .int (nI (loN z 4))), (5, .int (nI (ruF z))), (6, .int (nI (ruO z))), (7, .int (nI (atP σ (ruO z) 6))), (8, .int (bI (rdP σ (ruF z) (ruO z) 6))), (9, .int (nI (nv (σ 31 0 (14 + (ruF z))))))]) (fun z9 => [.int (nI z9), .int (nI (14 + ruF z)), .ref (a 31 0)]) ?_ (fun J214 => ?_)
          · rintro z9 _ _ ls ⟨⟨rfl, rfl, hz⟩, hl⟩
            subst hz
            refine x_iast C0 hP hS 31 (14 + ruF z) 20 (v := nI (if rdP σ (ruF z) (ruO z) 6 = true then nv (σ 31 0 (14 + ruF z)) else ruO z)) (NLA_M _ (mM_n rfl rfl)) (fun _ => rfl) (by omega) (by decide) dL_rules_214 (fun H locs hP hS => ?_)
            have hP : va_P g.1 vwCl (xw NLA g a (r1S σ z)) H := hP
            refine lv_aload_n C0.hx C0.hb dL_rules_215 rfl (lv_at hl 0 rfl) ?_
            refine lv_iconst (v := nI 1) C0.hx C0.hb dL_rules_216 (by decide) ?_
            refine lv_iload C0.hx C0.hb dL_rules_217 (lv_at hl 5 rfl) ?_
            refine lv_iload C0.hx C0.hb dL_rules_219 (lv_at hl 6 rfl) ?_
            refine lv_iconst (v := nI 0) C0.hx C0.hb dL_rules_221 (by decide) ?_
            refine lv_iconst (v := nI 0) C0.hx C0.hb dL_rules_222 (by decide) ?_
            refine x_LSW (As := [.ref (a 0 0), .int (nI 1), .int (nI (ruF z)), .int (nI (ruO z)), .int (nI 0), .int (nI 0)]) (rest := []) C0 (mtL_calls1 l hfl g a (r1S σ z) (nI (ruF z)) (nI (ruO z)) hH.1 hH.2.1 hH.2.2.1) hP hS hT hZ (vx_cwSW 6 C0.hts gL_rules_L_calls rfl rfl rfl (by decide +kernel) ⟨Nat.le_of_ble_eq_true rfl, Nat.le_of_ble_eq_true rfl⟩) rfl hl rfl (Nat.le_of_ble_eq_true rfl) (by show _ ≤ 3; omega) (by show _ ≤ 18; omega) dL_rules_223 (fun H locs hP hS => ?_)
            refine lv_iload C0.hx C0.hb dL_rules_226 (lv_at hl 8 rfl) ?_
            refine x_ifeq (tgt := 236) C0.hx C0.hb dL_rules_228 (by decide) (fun c_13 => ?_) (fun c_13 => ?_)
            ·
              have hcc := c_13
              refine lv_iload C0.hx C0.hb dL_rules_236 (lv_at hl 9 rfl) ?_
              refine lv_icmp_ne (tgt := 245) C0.hx C0.hb dL_rules_238 (by decide) (fun c_14 => ?_) (fun c_14 => ?_)
              ·
                exact absurd (by first | exact hH.2.2.2.1 hcc | exact hH.2.2.2.2 hcc) c_14
              ·
                refine lv_iconst (v := nI 1) C0.hx C0.hb dL_rules_241 (by decide) ?_
                refine lv_goto (tgt := 246) C0.hx C0.hb dL_rules_242 (by decide) ?_
                refine W.widen (k := 3) (n := 18) (by omega) (by omega) ?_
                exact W.zret (v := nI 1) C0.hx C0.hb hr rfl (fun t ht hW => ⟨⟨_, caS (r1L σ z) (r1S σ z) (sfS (r1S σ z) (nI (ruF z)) (nI (ruO z))), rfl, ⟨rfl, (by unfold ruE; rw [if_neg hhow0, if_pos hhow]; rfl)⟩, x_end ht hP⟩, hS.F ht⟩) hS.2.2 dL_rules_246
            ·
              have hcc := c_13
              refine lv_bipush (v := -3) C0.hx C0.hb dL_rules_231 (by decide) ?_
              refine lv_goto (tgt := 238) C0.hx C0.hb dL_rules_233 (by decide) ?_
              refine lv_icmp_ne (tgt := 245) C0.hx C0.hb dL_rules_238 (by decide) (fun c_15 => ?_) (fun c_15 => ?_)
              ·
                exact absurd (by first | exact hH.2.2.2.1 hcc | exact hH.2.2.2.2 hcc) c_15
              ·
                refine lv_iconst (v := nI 1) C0.hx C0.hb dL_rules_241 (by decide) ?_
                refine lv_goto (tgt := 246) C0.hx C0.hb dL_rules_242 (by decide) ?_
                refine W.widen (k := 3) (n := 18) (by omega) (by omega) ?_
                exact W.zret (v := nI 1) C0.hx C0.hb hr rfl (fun t ht hW => ⟨⟨_, caS (r1L σ z) (r1S σ z) (sfS (r1S σ z) (nI (ruF z)) (nI (ruO z))), rfl, ⟨rfl, (by unfold ruE; rw [if_neg hhow0, if_pos hhow]; rfl)⟩, x_end ht hP⟩, hS.F ht⟩) hS.2.2 dL_rules_246
          ·
            refine lv_iload C0.hx C0.hb dL_rules_202 (lv_at hl 9 rfl) ?_
            refine x_ifeq (tgt := 212) C0.hx C0.hb dL_rules_204 (by decide) (fun c_16 => ?_) (fun c_16 => ?_)
            ·
              refine lv_iload C0.hx C0.hb dL_rules_212 (lv_at hl 7 rfl) ?_
              exact J214 (ruO z) _ _ ls ⟨⟨rfl, rfl, (by simp [c_16])⟩, (lv_sub hl [1, 2, 3, 4, 5, 6, 7, 8, 9, 0] rfl)⟩
            ·
              refine lv_iload C0.hx C0.hb dL_rules_207 (lv_at hl 0 rfl) ?_
              refine lv_goto (tgt := 214) C0.hx C0.hb dL_rules_209 (by decide) ?_
              exact J214 (nv (σ 31 0 (14 + (ruF z)))) _ _ ls ⟨⟨rfl, rfl, (by simp [c_16])⟩, (lv_sub hl [1, 2, 3, 4, 5, 6, 7, 8, 9, 0] rfl)⟩
        ·
          have hat := atP_lt ok (show ruO z < 6 from hlow106) n
          refine lv_aload_n C0.hx C0.hb dL_rules_146 rfl (lv_at hl 3 rfl) ?_
          refine lv_bipush (v := nI 14) C0.hx C0.hb dL_rules_147 (by decide) ?_
          refine lv_iload C0.hx C0.hb dL_rules_149 (lv_at hl 7 rfl) ?_
          refine lv_iadd C0.hx C0.hb dL_rules_151 ?_
          refine x_top (nI_add 14 (atP σ (ruO z) n)) ?_
          refine x_iald C0 hP 31 (14 + (atP σ (ruO z) n)) 20 (NLA_M _ (mM_n rfl rfl)) rfl (by omega) (by decide) dL_rules_152 ?_
          obtain ⟨e_17, b_18⟩ := (ok.std (by omega) : inR (σ 31 0 (14 + (atP σ (ruO z) n))) _)
          refine x_top e_17 ?_
          refine lv_istore (lv' := [(7, .int (nI (nv (σ 31 0 (14 + (atP σ (ruO z) n)))))), (0, .ref (a 0 0)), (1, .int z), (2, .ref (a 30 0)), (3, .ref (a 31 0)), (4, .int (nI (loN z 4))), (5, .int (nI (ruF z))), (6, .int (nI (ruO z))), (8, .int (bI (rdP σ (ruF z) (ruO z) n))), (9, .int (nI n))]) C0.hx C0.hb dL_rules_153 hl (by decide) rfl (fun ls hl => ?_)
          refine x_join (α := Bool) 179 (fun b9 H' locs' ls => (H' = s.heap ∧ locs' = [] ∧ b9 = (rdP σ (ruF z) (ruO z) (n + 1))) ∧ lv_has ls 10 [(0, .ref (a 0 0)), (1, .int z), (2, .ref (a 30 0)), (3, .ref (a 31 0)), (4, .int (nI (loN z 4))), (5, .int (nI (ruF z))), (6, .int (nI (ruO z))), (7, .int (nI (nv (σ 31 0 (14 + (atP σ (ruO z) n)))))), (8, .int (bI (rdP σ (ruF z) (ruO z) n))), (9, .int (nI n))]) (fun b9 => [.int (bI b9)]) ?_ (fun J179 => ?_)
          · rintro b9 _ _ ls ⟨⟨rfl, rfl, hb9⟩, hl⟩
            subst hb9
            refine lv_istore (lv' := [(8, .int (bI (rdP σ (ruF z) (ruO z) (n + 1)))), (0, .ref (a 0 0)), (1, .int z), (2, .ref (a 30 0)), (3, .ref (a 31 0)), (4, .int (nI (loN z 4))), (5, .int (nI (ruF z))), (6, .int (nI (ruO z))), (7, .int (nI (nv (σ 31 0 (14 + (atP σ (ruO z) n)))))), (9, .int (nI n))]) C0.hx C0.hb dL_rules_179 hl (by decide) rfl (fun ls hl => ?_)
            refine lv_iinc (v := nI (n + 1)) (lv' := [(9, .int (nI (n + 1))), (8, .int (bI (rdP σ (ruF z) (ruO z) (n + 1)))), (0, .ref (a 0 0)), (1, .int z), (2, .ref (a 30 0)), (3, .ref (a 31 0)), (4, .int (nI (loN z 4))), (5, .int (nI (ruF z))), (6, .int (nI (ruO z))), (7, .int (nI (nv (σ 31 0 (14 + (atP σ (ruO z) n))))))]) C0.hx C0.hb dL_rules_181 hl (k := 9) rfl (nI_1 n) (by decide) rfl (fun ls hl => ?_)
            refine lv_goto (tgt := 139) C0.hx C0.hb dL_rules_184 (by decide) ?_
            exact ih139 ((n + 1)) ls ⟨(by omega), (lv_sub hl [2, 3, 4, 5, 6, 7, 8, 9, 1, 0] rfl)⟩ (by omega)
          ·
            refine lv_iload C0.hx C0.hb dL_rules_155 (lv_at hl 8 rfl) ?_
            refine x_ifne (tgt := 174) C0.hx C0.hb dL_rules_157 (by decide) (fun c_19 => ?_) (fun c_19 => ?_)
            ·
              refine lv_iconst (v := nI 1) C0.hx C0.hb dL_rules_174 (by decide) ?_
              refine lv_goto (tgt := 179) C0.hx C0.hb dL_rules_175 (by decide) ?_
              exact J179 true _ _ ls ⟨⟨rfl, rfl, (by rw [rdP, c_19]; rfl)⟩, (lv_sub hl [1, 2, 3, 4, 5, 6, 7, 0, 8, 9] rfl)⟩
            ·
              refine lv_iload C0.hx C0.hb dL_rules_160 (lv_at hl 7 rfl) ?_
              refine lv_iload C0.hx C0.hb dL_rules_162 (lv_at hl 6 rfl) ?_
              refine x_icmp_eq (tgt := 178) C0.hx C0.hb (by omega) (by omega) dL_rules_164 (by decide) (fun c_20 => ?_) (fun c_20 => ?_)
              ·
                refine lv_iconst (v := nI 0) C0.hx C0.hb dL_rules_178 (by decide) ?_
                exact J179 false _ _ ls ⟨⟨rfl, rfl, (by rw [rdP, c_19, decide_eq_false (fun h => h c_20)]; rfl)⟩, (lv_sub hl [1, 2, 3, 4, 5, 6, 7, 0, 8, 9] rfl)⟩
              ·
                refine lv_iload C0.hx C0.hb dL_rules_167 (lv_at hl 0 rfl) ?_
                refine lv_iload C0.hx C0.hb dL_rules_169 (lv_at hl 6 rfl) ?_
                refine x_icmp_ne (tgt := 178) C0.hx C0.hb (by omega) (by omega) dL_rules_171 (by decide) (fun c_21 => ?_) (fun c_21 => ?_)
                ·
                  refine lv_iconst (v := nI 0) C0.hx C0.hb dL_rules_178 (by decide) ?_
                  exact J179 false _ _ ls ⟨⟨rfl, rfl, (by rw [rdP, c_19, decide_eq_false (show ¬ atP σ (ruO z) (n + 1) = ruF z from c_21), Bool.and_false]; rfl)⟩, (lv_sub hl [1, 2, 3, 4, 5, 6, 7, 0, 8, 9] rfl)⟩
                ·
                  refine lv_iconst (v := nI 1) C0.hx C0.hb dL_rules_174 (by decide) ?_
                  refine lv_goto (tgt := 179) C0.hx C0.hb dL_rules_175 (by decide) ?_
                  exact J179 true _ _ ls ⟨⟨rfl, rfl, (by rw [rdP, c_19, decide_eq_true c_20, decide_eq_true (show atP σ (ruO z) (n + 1) = ruF z from c_21)]; rfl)⟩, (lv_sub hl [1, 2, 3, 4, 5, 6, 7, 0, 8, 9] rfl)⟩
      ·
        refine lv_iload C0.hx C0.hb dL_rules_115 (lv_at hl 1 rfl) ?_
        refine lv_iload C0.hx C0.hb dL_rules_117 (lv_at hl 2 rfl) ?_
        refine x_icmp_eq (tgt := 133) C0.hx C0.hb (by omega) (by omega) dL_rules_119 (by decide) (fun c_22 => ?_) (fun c_22 => ?_)
        ·
          refine lv_iconst (v := nI 0) C0.hx C0.hb dL_rules_133 (by decide) ?_
          exact J134 false _ _ ls ⟨⟨rfl, rfl, (by simp [rdP, c_22])⟩, (lv_sub hl [4, 5, 6, 7, 3, 2, 1, 0] rfl)⟩
        ·
          refine lv_iload C0.hx C0.hb dL_rules_122 (lv_at hl 0 rfl) ?_
          refine lv_iload C0.hx C0.hb dL_rules_124 (lv_at hl 2 rfl) ?_
          refine x_icmp_ne (tgt := 133) C0.hx C0.hb (by omega) (by omega) dL_rules_126 (by decide) (fun c_23 => ?_) (fun c_23 => ?_)
          ·
            refine lv_iconst (v := nI 0) C0.hx C0.hb dL_rules_133 (by decide) ?_
            exact J134 false _ _ ls ⟨⟨rfl, rfl, (by simp [rdP, c_23, c_22])⟩, (lv_sub hl [4, 5, 6, 7, 3, 2, 1, 0] rfl)⟩
          ·
            refine lv_iconst (v := nI 1) C0.hx C0.hb dL_rules_129 (by decide) ?_
            refine lv_goto (tgt := 134) C0.hx C0.hb dL_rules_130 (by decide) ?_
            exact J134 true _ _ ls ⟨⟨rfl, rfl, (absurd c_23 c_22)⟩, (lv_sub hl [4, 5, 6, 7, 3, 2, 1, 0] rfl)⟩
  ·
    have hH := hR.1 c_1
    have hhow := c_1
    refine x_join (α := Bool) 38 (fun b9 H' locs' ls => (H' = s.heap ∧ locs' = [] ∧ b9 = (decide (nv (σ 31 0 (8 + ruF z)) = 1))) ∧ lv_has ls 10 [(0, .ref (a 0 0)), (1, .int z), (2, .ref (a 30 0)), (3, .ref (a 31 0)), (4, .int (nI (loN z 4))), (5, .int (nI (ruF z)))]) (fun b9 => [.int (bI b9)]) ?_ (fun J38 => ?_)
    · rintro b9 _ _ ls ⟨⟨rfl, rfl, hb9⟩, hl⟩
      subst hb9
      refine lv_istore (lv' := [(6, .int (bI (decide (nv (σ 31 0 (8 + ruF z)) = 1)))), (0, .ref (a 0 0)), (1, .int z), (2, .ref (a 30 0)), (3, .ref (a 31 0)), (4, .int (nI (loN z 4))), (5, .int (nI (ruF z)))]) C0.hx C0.hb dL_rules_38 hl (by decide) rfl (fun ls hl => ?_)
      refine lv_aload_n C0.hx C0.hb dL_rules_40 rfl (lv_at hl 4 rfl) ?_
      refine lv_bipush (v := nI 8) C0.hx C0.hb dL_rules_41 (by decide) ?_
      refine lv_iload C0.hx C0.hb dL_rules_43 (lv_at hl 6 rfl) ?_
      refine lv_iadd C0.hx C0.hb dL_rules_45 ?_
      refine x_top (nI_add 8 (ruF z)) ?_
      refine lv_iload_n C0.hx C0.hb dL_rules_46 rfl (lv_at hl 2 rfl) ?_
      refine lv_iconst (v := nI 5) C0.hx C0.hb dL_rules_47 (by decide) ?_
      refine lv_ishr C0.hx C0.hb dL_rules_48 ?_
      refine lv_iconst (v := nI 3) C0.hx C0.hb dL_rules_49 (by decide) ?_
      have hlow50 : loN (shr z 5) 3 < 3 := lo_lt (z >>> ((nI 5) &&& 31)) (by omega) (by omega)
      refine x_Si (As := [.int (z >>> ((nI 5) &&& 31)), .int (nI 3)]) (rest := [.int (nI (8 + (ruF z))), .ref (a 31 0)]) C0 (mtL_low l g a σ (z >>> ((nI 5) &&& 31)) 3 (by omega) (by omega)) (xP0 _) xDj0 (va_cwS 2 C0.hts gL_rules_L_low rfl rfl rfl (by decide +kernel) ⟨Nat.le_of_ble_eq_true rfl, Nat.le_of_ble_eq_true rfl⟩) rfl hl rfl (Nat.le_of_ble_eq_true rfl) (by show _ ≤ 3; omega) (by show _ ≤ 18; omega) dL_rules_50 ?_
      refine x_top (show loI (z >>> ((nI 5) &&& 31)) 3 = nI (loN (shr z 5) 3) from lo_e (z >>> ((nI 5) &&& 31)) (by omega) (by omega)) ?_
      refine x_join (α := Nat) 61 (fun z9 H' locs' ls => (H' = s.heap ∧ locs' = [] ∧ z9 = (if ruB z = true then 1 else 0)) ∧ lv_has ls 10 [(0, .ref (a 0 0)), (1, .int z), (2, .ref (a 30 0)), (3, .ref (a 31 0)), (4, .int (nI (loN z 4))), (5, .int (nI (ruF z))), (6, .int (bI (decide (nv (σ 31 0 (8 + ruF z)) = 1))))]) (fun z9 => [.int (nI z9), .int (nI (8 + ruF z)), .ref (a 31 0)]) ?_ (fun J61 => ?_)
      · rintro z9 _ _ ls ⟨⟨rfl, rfl, hz⟩, hl⟩
        subst hz
        refine x_iast C0 hP hS 31 (8 + ruF z) 20 (v := nI (if ruB z = true then 1 else 0)) (NLA_M _ (mM_n rfl rfl)) (fun _ => rfl) (by omega) (by decide) dL_rules_61 (fun H locs hP hS => ?_)
        have hP : va_P g.1 vwCl (xw NLA g a (r0S σ z)) H := hP
        refine lv_aload_n C0.hx C0.hb dL_rules_62 rfl (lv_at hl 0 rfl) ?_
        refine lv_iload C0.hx C0.hb dL_rules_63 (lv_at hl 5 rfl) ?_
        refine x_join (α := Bool) 81 (fun b9 H' locs' ls => (H' = H ∧ locs' = locs ∧ b9 = (ruB z)) ∧ lv_has ls 10 [(0, .ref (a 0 0)), (1, .int z), (2, .ref (a 30 0)), (3, .ref (a 31 0)), (4, .int (nI (loN z 4))), (5, .int (nI (ruF z))), (6, .int (bI (decide (nv (σ 31 0 (8 + ruF z)) = 1))))]) (fun b9 => [.int (bI b9), .int (nI (ruF z)), .ref (a 0 0)]) ?_ (fun J81 => ?_)
        · rintro b9 H locs ls ⟨⟨rfl, rfl, hb9⟩, hl⟩
          subst hb9
          refine x_VXN (As := [.int (nI (ruF z)), .int (bI (ruB z))]) (rest := []) C0 (mtX4_ignore l hfl g a (r0S σ z) (nI (ruF z)) (ruB z) hH.1 hH.2.1) (fun _ h => chEx_no (L := igC (nI (ruF z))) ⟨ibX_ok (by omega) (by decide), trivial⟩ h) hP hS hT hZ (cwV 2 C0.hts gL_rules_X4_ignore rfl rfl rfl (by decide +kernel) ⟨Nat.le_of_ble_eq_true rfl, Nat.le_of_ble_eq_true rfl⟩) (x_recv C0 hP 0 (NLA_X _ (mX_n rfl)) rfl rfl) rfl hl rfl (Nat.le_of_ble_eq_true rfl) (by show _ ≤ 3; omega) (by show _ ≤ 18; omega) dL_rules_81 (fun H locs hP hS => ?_)
          refine lv_iload C0.hx C0.hb dL_rules_84 (lv_at hl 6 rfl) ?_
          refine lv_icmp_ne (tgt := 93) C0.hx C0.hb dL_rules_86 (by decide) (fun c_24 => ?_) (fun c_24 => ?_)
          ·
            exact absurd (by rw [show nv (nI (ruF z)) = ruF z from nv_nI (by omega)]; exact hH.2.2) c_24
          ·
            refine lv_iconst (v := nI 1) C0.hx C0.hb dL_rules_89 (by decide) ?_
            refine lv_goto (tgt := 94) C0.hx C0.hb dL_rules_90 (by decide) ?_
            refine W.widen (k := 3) (n := 18) (by omega) (by omega) ?_
            exact W.zret (v := nI 1) C0.hx C0.hb hr rfl (fun t ht hW => ⟨⟨_, oM (r0S σ z) (igS (r0S σ z) (nI (ruF z)) (ruB z)), rfl, ⟨rfl, (by unfold ruE; rw [if_pos hhow]; rfl)⟩, x_end ht hP⟩, hS.F ht⟩) hS.2.2 dL_rules_94
        ·
          refine lv_aload_n C0.hx C0.hb dL_rules_65 rfl (lv_at hl 3 rfl) ?_
          refine lv_bipush (v := nI 8) C0.hx C0.hb dL_rules_66 (by decide) ?_
          refine lv_iload C0.hx C0.hb dL_rules_68 (lv_at hl 5 rfl) ?_
          refine lv_iadd C0.hx C0.hb dL_rules_70 ?_
          refine x_top (nI_add 8 (ruF z)) ?_
          refine x_iald C0 hP 31 (8 + (ruF z)) 20 (NLA_M _ (mM_n rfl rfl)) rfl (by omega) (by decide) dL_rules_71 ?_
          refine x_top (show r0S σ z 31 0 (8 + ruF z) = _ from up3_self) ?_
          refine lv_iconst (v := nI 1) C0.hx C0.hb dL_rules_72 (by decide) ?_
          refine lv_icmp_ne (tgt := 80) C0.hx C0.hb dL_rules_73 (by decide) (fun c_25 => ?_) (fun c_25 => ?_)
          ·
            refine lv_iconst (v := nI 0) C0.hx C0.hb dL_rules_80 (by decide) ?_
            exact J81 false _ _ ls ⟨⟨rfl, rfl, (by cases h9 : ruB z <;> rw [h9] at c_25 <;> first | rfl | exact absurd c_25 (by decide) | exact absurd rfl c_25)⟩, (lv_sub hl [0, 1, 2, 3, 4, 5, 6] rfl)⟩
          ·
            refine lv_iconst (v := nI 1) C0.hx C0.hb dL_rules_76 (by decide) ?_
            refine lv_goto (tgt := 81) C0.hx C0.hb dL_rules_77 (by decide) ?_
            exact J81 true _ _ ls ⟨⟨rfl, rfl, (by cases h9 : ruB z <;> rw [h9] at c_25 <;> first | rfl | exact absurd c_25 (by decide) | exact absurd rfl c_25)⟩, (lv_sub hl [0, 1, 2, 3, 4, 5, 6] rfl)⟩
      ·
        refine x_ifnen (tgt := 60) C0.hx C0.hb (by omega) dL_rules_53 (by decide) (fun c_26 => ?_) (fun c_26 => ?_)
        ·
          refine lv_iconst (v := nI 0) C0.hx C0.hb dL_rules_60 (by decide) ?_
          exact J61 0 _ _ ls ⟨⟨rfl, rfl, (by simp [ruB, c_26])⟩, (lv_sub hl [1, 2, 3, 4, 5, 6, 0] rfl)⟩
        ·
          refine lv_iconst (v := nI 1) C0.hx C0.hb dL_rules_56 (by decide) ?_
          refine lv_goto (tgt := 61) C0.hx C0.hb dL_rules_57 (by decide) ?_
          exact J61 1 _ _ ls ⟨⟨rfl, rfl, (by simp [ruB, c_26])⟩, (lv_sub hl [1, 2, 3, 4, 5, 6, 0] rfl)⟩
    ·
      refine lv_aload_n C0.hx C0.hb dL_rules_22 rfl (lv_at hl 5 rfl) ?_
      refine lv_bipush (v := nI 8) C0.hx C0.hb dL_rules_23 (by decide) ?_
      refine lv_iload C0.hx C0.hb dL_rules_25 (lv_at hl 0 rfl) ?_
      refine lv_iadd C0.hx C0.hb dL_rules_27 ?_
      refine x_top (nI_add 8 (ruF z)) ?_
      refine x_iald C0 hP 31 (8 + (ruF z)) 20 (NLA_M _ (mM_n rfl rfl)) rfl (by omega) (by decide) dL_rules_28 ?_
      obtain ⟨e_27, b_28⟩ := (ok.ign (by omega) : inR (σ 31 0 (8 + (ruF z))) _)
      refine x_top e_27 ?_
      refine lv_iconst (v := nI 1) C0.hx C0.hb dL_rules_29 (by decide) ?_
      refine x_icmp_ne (tgt := 37) C0.hx C0.hb (by omega) (by omega) dL_rules_30 (by decide) (fun c_29 => ?_) (fun c_29 => ?_)
      ·
        refine lv_iconst (v := nI 0) C0.hx C0.hb dL_rules_37 (by decide) ?_
        exact J38 false _ _ ls ⟨⟨rfl, rfl, (by simp [c_29])⟩, (lv_sub hl [2, 3, 4, 5, 1, 0] rfl)⟩
      ·
        refine lv_iconst (v := nI 1) C0.hx C0.hb dL_rules_33 (by decide) ?_
        refine lv_goto (tgt := 38) C0.hx C0.hb dL_rules_34 (by decide) ?_
        exact J38 true _ _ ls ⟨⟨rfl, rfl, (by simp [c_29])⟩, (lv_sub hl [2, 3, 4, 5, 1, 0] rfl)⟩

set_option maxHeartbeats 4000000 in
set_option maxRecDepth 100000 in
theorem mtL_ranges (l : Launch) (hfl : l.stackTraces = false) (g : xG) (a : xAd) (σ : xS) (z : Int32) (okx : okX (rgS σ z)) (okf : okF (rgS σ z)) (ok : okP σ) (hE9 : ∀ E, chEx (rgL σ z) E → E = eIS) (hR1 : rgC σ z = true → nv (σ 31 0 (rgV z)) ≠ 6 → caV (rgL σ z) (rgN σ z 6 0 (nv (nI (rgV z)))) = nI (nv (σ 31 0 (rgV z)) + 1)) (hR0 : rgC σ z = false → caV (rgL σ z) (rgN σ z 6 0 (nv (nI (rgV z)))) = -3) : xMl l yL_ranges wsL_ranges ({ frames := 9, cells := 3, slots := 18, locals := 176 }) 3 18  g a σ [.ref (a 0 0), .int z, .ref (a 31 0), .ref (a 32 0), .ref (a 33 0), .ref (a 34 0)] (nI 1) (rgE σ z) := by
  intro sz
  refine Met.ofW (cc := cL_ranges) (maxL := 12) (ret := (some .boolean)) (by decide) rfl ?_
  intro p e s m args below meth c s₁ B hml hv
  obtain ⟨rfl, hsz, ⟨hP, hK, hN, hj⟩, hT, hZ⟩ := hv
  subst hsz
  have hr := B.returns
  have hlocks := B.notSynchronized
  have C0 : xC p s m _ c cL_ranges 12 wsL_ranges RL NLA g a (xA NLA a s.heap.size) := ⟨⟨B.exec, B.bytes, hml, findClass_of_methodNamed B.named, atoms_spec (ws := wsL_ranges) B.pre⟩, hK, hN, hj, fun n h => Or.inl ⟨n, h, rfl⟩, fun q h => Or.inr h⟩
  have hS : va_S (xA NLA a s.heap.size) s.heap s.heap [] := va_S.rf
  have hl := lv_entry ([.ref (a 0 0), .int z, .ref (a 31 0), .ref (a 32 0), .ref (a 33 0), .ref (a 34 0)]) (n := 12) (Nat.le_of_ble_eq_true rfl)
  rw [lg_entry_eq]
  generalize (lg_sl ([.ref (a 0 0), .int z, .ref (a 31 0), .ref (a 32 0), .ref (a 33 0), .ref (a 34 0)]) ++ List.replicate (12 - (lg_sl ([.ref (a 0 0), .int z, .ref (a 31 0), .ref (a 32 0), .ref (a 33 0), .ref (a 34 0)])).length) Slot.unset).toArray = ls at hl ⊢
  have hl : lv_has ls 12 [(0, .ref (a 0 0)), (1, .int z), (2, .ref (a 31 0)), (3, .ref (a 32 0)), (4, .ref (a 33 0)), (5, .ref (a 34 0))] := hl
  refine lv_iload_n C0.hx C0.hb dL_ranges_0 rfl (lv_at hl 1 rfl) ?_
  refine lv_iconst (v := nI 4) C0.hx C0.hb dL_ranges_1 (by decide) ?_
  have hlow2 : rgV z < 4 := lo_lt z (by omega) (by omega)
  refine x_Si (As := [.int z, .int (nI 4)]) (rest := []) C0 (mtL_low l g a σ z 4 (by omega) (by omega)) (xP0 _) xDj0 (va_cwS 2 C0.hts gL_ranges_L_low rfl rfl rfl (by decide +kernel) ⟨Nat.le_of_ble_eq_true rfl, Nat.le_of_ble_eq_true rfl⟩) rfl hl rfl (Nat.le_of_ble_eq_true rfl) (by show _ ≤ 3; omega) (by show _ ≤ 18; omega) dL_ranges_2 ?_
  refine x_top (show loI z 4 = nI (rgV z) from lo_e z (by omega) (by omega)) ?_
  refine lv_istore (lv' := [(6, .int (nI (rgV z))), (0, .ref (a 0 0)), (1, .int z), (2, .ref (a 31 0)), (3, .ref (a 32 0)), (4, .ref (a 33 0)), (5, .ref (a 34 0))]) C0.hx C0.hb dL_ranges_5 hl (by decide) rfl (fun ls hl => ?_)
  refine lv_iload_n C0.hx C0.hb dL_ranges_7 rfl (lv_at hl 2 rfl) ?_
  refine lv_iconst (v := nI 2) C0.hx C0.hb dL_ranges_8 (by decide) ?_
  refine lv_ishr C0.hx C0.hb dL_ranges_9 ?_
  refine lv_bipush (v := nI 12) C0.hx C0.hb dL_ranges_10 (by decide) ?_
  have hlow12 : loN (shr z 2) 12 < 12 := lo_lt (z >>> ((nI 2) &&& 31)) (by omega) (by omega)
  refine x_Si (As := [.int (z >>> ((nI 2) &&& 31)), .int (nI 12)]) (rest := []) C0 (mtL_low l g a σ (z >>> ((nI 2) &&& 31)) 12 (by omega) (by omega)) (xP0 _) xDj0 (va_cwS 2 C0.hts gL_ranges_L_low rfl rfl rfl (by decide +kernel) ⟨Nat.le_of_ble_eq_true rfl, Nat.le_of_ble_eq_true rfl⟩) rfl hl rfl (Nat.le_of_ble_eq_true rfl) (by show _ ≤ 3; omega) (by show _ ≤ 18; omega) dL_ranges_12 ?_
  refine x_top (show loI (z >>> ((nI 2) &&& 31)) 12 = nI (loN (shr z 2) 12) from lo_e (z >>> ((nI 2) &&& 31)) (by omega) (by omega)) ?_
  refine lv_bipush (v := nI 10) C0.hx C0.hb dL_ranges_15 (by decide) ?_
  refine lv_imul C0.hx C0.hb dL_ranges_17 ?_
  refine x_top (pk_mul (loN (shr z 2) 12) 10) ?_
  refine x_top rfl ?_
  refine lv_istore (lv' := [(7, .int (nI (rgF z))), (6, .int (nI (rgV z))), (0, .ref (a 0 0)), (1, .int z), (2, .ref (a 31 0)), (3, .ref (a 32 0)), (4, .ref (a 33 0)), (5, .ref (a 34 0))]) C0.hx C0.hb dL_ranges_18 hl (by decide) rfl (fun ls hl => ?_)
  have hx110 : rgF z ≤ 110 := by unfold rgF; omega
  refine lv_iload C0.hx C0.hb dL_ranges_20 (lv_at hl 0 rfl) ?_
  refine lv_iload_n C0.hx C0.hb dL_ranges_22 rfl (lv_at hl 3 rfl) ?_
  refine lv_bipush (v := nI 6) C0.hx C0.hb dL_ranges_23 (by decide) ?_
  refine lv_ishr C0.hx C0.hb dL_ranges_25 ?_
  refine lv_iload_n C0.hx C0.hb dL_ranges_26 rfl (lv_at hl 3 rfl) ?_
  refine lv_bipush (v := nI 13) C0.hx C0.hb dL_ranges_27 (by decide) ?_
  refine lv_ishr C0.hx C0.hb dL_ranges_29 ?_
  refine lv_iconst (v := nI 3) C0.hx C0.hb dL_ranges_30 (by decide) ?_
  have hlow31 : loN (shr z 13) 3 < 3 := lo_lt (z >>> ((nI 13) &&& 31)) (by omega) (by omega)
  refine x_Si (As := [.int (z >>> ((nI 13) &&& 31)), .int (nI 3)]) (rest := [.int (z >>> ((nI 6) &&& 31)), .int (nI (rgF z))]) C0 (mtL_low l g a σ (z >>> ((nI 13) &&& 31)) 3 (by omega) (by omega)) (xP0 _) xDj0 (va_cwS 2 C0.hts gL_ranges_L_low rfl rfl rfl (by decide +kernel) ⟨Nat.le_of_ble_eq_true rfl, Nat.le_of_ble_eq_true rfl⟩) rfl hl rfl (Nat.le_of_ble_eq_true rfl) (by show _ ≤ 3; omega) (by show _ ≤ 18; omega) dL_ranges_31 ?_
  refine x_top (show loI (z >>> ((nI 13) &&& 31)) 3 = nI (loN (shr z 13) 3) from lo_e (z >>> ((nI 13) &&& 31)) (by omega) (by omega)) ?_
  refine x_join (α := Nat) 44 (fun z9 H' locs' ls => (H' = s.heap ∧ locs' = [] ∧ z9 = rgK z ∧ 0 < rgK z ∧ rgK z ≤ 40) ∧ lv_has ls 12 [(0, .ref (a 0 0)), (1, .int z), (2, .ref (a 31 0)), (3, .ref (a 32 0)), (4, .ref (a 33 0)), (5, .ref (a 34 0)), (6, .int (nI (rgV z))), (7, .int (nI (rgF z)))]) (fun z9 => [.int (nI z9), .int (z >>> (nI 6 &&& 31)), .int (nI (rgF z))]) ?_ (fun J44 => ?_)
  · rintro z9 _ _ ls ⟨⟨rfl, rfl, hz, hk40⟩, hl⟩
    subst hz
    have hlow44 : loN (shr z 6) (rgK z) < (rgK z) := lo_lt (z >>> (nI 6 &&& 31)) (by omega) (by omega)
    refine x_Si (As := [.int (z >>> (nI 6 &&& 31)), .int (nI (rgK z))]) (rest := [.int (nI (rgF z))]) C0 (mtL_low l g a σ (z >>> (nI 6 &&& 31)) (rgK z) (by omega) (by omega)) (xP0 _) xDj0 (va_cwS 2 C0.hts gL_ranges_L_low rfl rfl rfl (by decide +kernel) ⟨Nat.le_of_ble_eq_true rfl, Nat.le_of_ble_eq_true rfl⟩) rfl hl rfl (Nat.le_of_ble_eq_true rfl) (by show _ ≤ 3; omega) (by show _ ≤ 18; omega) dL_ranges_44 ?_
    refine x_top (show loI (z >>> (nI 6 &&& 31)) (rgK z) = nI (loN (shr z 6) (rgK z)) from lo_e (z >>> (nI 6 &&& 31)) (by omega) (by omega)) ?_
    refine lv_iadd C0.hx C0.hb dL_ranges_47 ?_
    refine x_top (nI_add (rgF z) (loN (shr z 6) (rgK z))) ?_
    refine x_top rfl ?_
    refine lv_istore (lv' := [(8, .int (nI (rgT z))), (0, .ref (a 0 0)), (1, .int z), (2, .ref (a 31 0)), (3, .ref (a 32 0)), (4, .ref (a 33 0)), (5, .ref (a 34 0)), (6, .int (nI (rgV z))), (7, .int (nI (rgF z)))]) C0.hx C0.hb dL_ranges_48 hl (by decide) rfl (fun ls hl => ?_)
    refine lv_iload_n C0.hx C0.hb dL_ranges_50 rfl (lv_at hl 2 rfl) ?_
    refine lv_bipush (v := nI 9) C0.hx C0.hb dL_ranges_51 (by decide) ?_
    refine lv_ishr C0.hx C0.hb dL_ranges_53 ?_
    refine lv_bipush (v := nI 6) C0.hx C0.hb dL_ranges_54 (by decide) ?_
    have hlow56 : rgO z < 6 := lo_lt (z >>> ((nI 9) &&& 31)) (by omega) (by omega)
    refine x_Si (As := [.int (z >>> ((nI 9) &&& 31)), .int (nI 6)]) (rest := []) C0 (mtL_low l g a σ (z >>> ((nI 9) &&& 31)) 6 (by omega) (by omega)) (xP0 _) xDj0 (va_cwS 2 C0.hts gL_ranges_L_low rfl rfl rfl (by decide +kernel) ⟨Nat.le_of_ble_eq_true rfl, Nat.le_of_ble_eq_true rfl⟩) rfl hl rfl (Nat.le_of_ble_eq_true rfl) (by show _ ≤ 3; omega) (by show _ ≤ 18; omega) dL_ranges_56 ?_
    refine x_top (show loI (z >>> ((nI 9) &&& 31)) 6 = nI (rgO z) from lo_e (z >>> ((nI 9) &&& 31)) (by omega) (by omega)) ?_
    refine lv_istore (lv' := [(9, .int (nI (rgO z))), (8, .int (nI (rgT z))), (0, .ref (a 0 0)), (1, .int z), (2, .ref (a 31 0)), (3, .ref (a 32 0)), (4, .ref (a 33 0)), (5, .ref (a 34 0)), (6, .int (nI (rgV z))), (7, .int (nI (rgF z)))]) C0.hx C0.hb dL_ranges_59 hl (by decide) rfl (fun ls hl => ?_)
    refine lv_iconst (v := nI 1) C0.hx C0.hb dL_ranges_61 (by decide) ?_
    refine lv_istore (lv' := [(10, .int (nI 1)), (9, .int (nI (rgO z))), (8, .int (nI (rgT z))), (0, .ref (a 0 0)), (1, .int z), (2, .ref (a 31 0)), (3, .ref (a 32 0)), (4, .ref (a 33 0)), (5, .ref (a 34 0)), (6, .int (nI (rgV z))), (7, .int (nI (rgF z)))]) C0.hx C0.hb dL_ranges_62 hl (by decide) rfl (fun ls hl => ?_)
    have hy150 : rgT z ≤ 150 := by unfold rgT; omega
    refine lv_bipush (v := nI 6) C0.hx C0.hb dL_ranges_64 (by decide) ?_
    refine lv_iload C0.hx C0.hb dL_ranges_66 (lv_at hl 9 rfl) ?_
    refine lv_imul C0.hx C0.hb dL_ranges_68 ?_
    refine x_top (pk_mul 6 (rgV z)) ?_
    refine lv_istore (lv' := [(11, .int (nI (6 * (rgV z)))), (10, .int (nI 1)), (9, .int (nI (rgO z))), (8, .int (nI (rgT z))), (0, .ref (a 0 0)), (1, .int z), (2, .ref (a 31 0)), (3, .ref (a 32 0)), (4, .ref (a 33 0)), (5, .ref (a 34 0)), (6, .int (nI (rgV z))), (7, .int (nI (rgF z)))]) C0.hx C0.hb dL_ranges_69 hl (by decide) rfl (fun ls hl => ?_)
    refine x_loopR (α := Nat) (fun j => 6 - j) (fun j ls => j ≤ nv (σ 31 0 (rgV z)) ∧ lv_has ls 12 [(0, .ref (a 0 0)), (1, .int z), (2, .ref (a 31 0)), (3, .ref (a 32 0)), (4, .ref (a 33 0)), (5, .ref (a 34 0)), (6, .int (nI (rgV z))), (7, .int (nI (rgF z))), (8, .int (nI (rgT z))), (9, .int (nI (rgO z))), (10, .int (bI (caP σ (rgV z) (rgF z) (rgT z) j))), (11, .int (nI (6 * rgV z + j)))]) ?_ 0 ⟨(by omega), (lv_sub hl [4, 5, 6, 7, 8, 9, 10, 11, 3, 2, 1, 0] rfl)⟩
    rintro j ls ⟨hj, hl⟩ ih71
    have hc7 := (ok.cnt hlow2).2
    refine lv_iload C0.hx C0.hb dL_ranges_71 (lv_at hl 11 rfl) ?_
    refine lv_bipush (v := nI 6) C0.hx C0.hb dL_ranges_73 (by decide) ?_
    refine lv_iload C0.hx C0.hb dL_ranges_75 (lv_at hl 6 rfl) ?_
    refine lv_imul C0.hx C0.hb dL_ranges_77 ?_
    refine x_top (pk_mul 6 (rgV z)) ?_
    refine lv_aload_n C0.hx C0.hb dL_ranges_78 rfl (lv_at hl 2 rfl) ?_
    refine lv_iload C0.hx C0.hb dL_ranges_79 (lv_at hl 6 rfl) ?_
    refine x_iald C0 hP 31 (rgV z) 20 (NLA_M _ (mM_n rfl rfl)) rfl (by omega) (by decide) dL_ranges_81 ?_
    obtain ⟨e_1, b_2⟩ := (ok.cnt (by omega) : inR (σ 31 0 (rgV z)) _)
    refine x_top e_1 ?_
    refine lv_iadd C0.hx C0.hb dL_ranges_82 ?_
    refine x_top (nI_add (6 * (rgV z)) (nv (σ 31 0 (rgV z)))) ?_
    refine x_icmp_ge (tgt := 123) C0.hx C0.hb (by omega) (by omega) dL_ranges_83 (by decide) (fun c_3 => ?_) (fun c_3 => ?_)
    ·
      obtain rfl : j = nv (σ 31 0 (rgV z)) := by omega
      have hl : lv_has ls 12 [(0, .ref (a 0 0)), (1, .int z), (2, .ref (a 31 0)), (3, .ref (a 32 0)), (4, .ref (a 33 0)), (5, .ref (a 34 0)), (6, .int (nI (rgV z))), (7, .int (nI (rgF z))), (8, .int (nI (rgT z))), (9, .int (nI (rgO z))), (10, .int (bI (rgC σ z))), (11, .int (nI (6 * rgV z + nv (σ 31 0 (rgV z)))))] := hl
      refine x_join (α := Unit) 139 (fun _ H' locs' ls => (H' = s.heap ∧ locs' = [] ∧ ¬ (rgC σ z = true ∧ nv (σ 31 0 (rgV z)) = 6)) ∧ lv_has ls 12 [(0, .ref (a 0 0)), (1, .int z), (2, .ref (a 31 0)), (3, .ref (a 32 0)), (4, .ref (a 33 0)), (5, .ref (a 34 0)), (6, .int (nI (rgV z))), (7, .int (nI (rgF z))), (8, .int (nI (rgT z))), (9, .int (nI (rgO z))), (10, .int (bI (rgC σ z))), (11, .int (nI (6 * rgV z + nv (σ 31 0 (rgV z)))))]) (fun _ => []) ?_ (fun J139 => ?_)
      · rintro _ _ _ ls ⟨⟨rfl, rfl, hno6⟩, hl⟩
        refine x_join (α := Unit) 184 (fun _ H' locs' ls => (va_P g.1 vwCl (xw NLA g a (rgS σ z)) H' ∧ va_S (xA NLA a s.heap.size) s.heap H' locs' ∧ True) ∧ lv_has ls 12 [(0, .ref (a 0 0)), (1, .int z), (2, .ref (a 31 0)), (3, .ref (a 32 0)), (4, .ref (a 33 0)), (5, .ref (a 34 0)), (6, .int (nI (rgV z))), (7, .int (nI (rgF z))), (8, .int (nI (rgT z))), (9, .int (nI (rgO z))), (10, .int (bI (rgC σ z)))]) (fun _ => []) ?_ (fun J184 => ?_)
        · rintro _ H locs ls ⟨⟨hP, hS, -⟩, hl⟩
          refine lv_aload_n C0.hx C0.hb dL_ranges_184 rfl (lv_at hl 0 rfl) ?_
          refine lv_iconst (v := nI 0) C0.hx C0.hb dL_ranges_185 (by decide) ?_
          refine lv_iload C0.hx C0.hb dL_ranges_186 (lv_at hl 6 rfl) ?_
          refine lv_iload C0.hx C0.hb dL_ranges_188 (lv_at hl 7 rfl) ?_
          refine lv_iload C0.hx C0.hb dL_ranges_190 (lv_at hl 8 rfl) ?_
          refine lv_iload C0.hx C0.hb dL_ranges_192 (lv_at hl 9 rfl) ?_
          refine x_LSW (As := [.ref (a 0 0), .int (nI 0), .int (nI (rgV z)), .int (nI (rgF z)), .int (nI (rgT z)), .int (nI (rgO z))]) (rest := []) C0 (mtL_calls0 l hfl g a (rgS σ z) (nI (rgV z)) (nI (rgF z)) (nI (rgT z)) (nI (rgO z)) okx okf hE9) hP hS hT hZ (vx_cwSW 6 C0.hts gL_ranges_L_calls rfl rfl rfl (by decide +kernel) ⟨Nat.le_of_ble_eq_true rfl, Nat.le_of_ble_eq_true rfl⟩) rfl hl rfl (Nat.le_of_ble_eq_true rfl) (by show _ ≤ 3; omega) (by show _ ≤ 18; omega) dL_ranges_194 (fun H locs hP hS => ?_)
          refine lv_iload C0.hx C0.hb dL_ranges_197 (lv_at hl 10 rfl) ?_
          refine x_ifeq (tgt := 209) C0.hx C0.hb dL_ranges_199 (by decide) (fun c_4 => ?_) (fun c_4 => ?_)
          ·
            have hcc := c_4
            refine lv_bipush (v := -3) C0.hx C0.hb dL_ranges_209 (by decide) ?_
            refine lv_icmp_ne (tgt := 218) C0.hx C0.hb dL_ranges_211 (by decide) (fun c_5 => ?_) (fun c_5 => ?_)
            ·
              exact absurd (by first | exact hR1 hcc (fun y => hno6 ⟨hcc, y⟩) | exact hR0 hcc) c_5
            ·
              refine lv_iconst (v := nI 1) C0.hx C0.hb dL_ranges_214 (by decide) ?_
              refine lv_goto (tgt := 219) C0.hx C0.hb dL_ranges_215 (by decide) ?_
              refine W.widen (k := 3) (n := 18) (by omega) (by omega) ?_
              exact W.zret (v := nI 1) C0.hx C0.hb hr rfl (fun t ht hW => ⟨⟨_, caS (rgL σ z) (rgS σ z) (rgN σ z), rfl, ⟨rfl, (by unfold rgE; rw [if_neg hno6])⟩, x_end ht hP⟩, hS.F ht⟩) hS.2.2 dL_ranges_219
          ·
            have hcc := c_4
            have hm1 : caS (rgL σ z) (rgS σ z) (rgN σ z) 31 0 (rgV z) = nI (nv (σ 31 0 (rgV z)) + 1) := by rw [caS_ge (by decide)]; unfold rgS; rw [if_pos c_4]; exact up3_self
            refine lv_aload_n C0.hx C0.hb dL_ranges_202 rfl (lv_at hl 2 rfl) ?_
            refine lv_iload C0.hx C0.hb dL_ranges_203 (lv_at hl 6 rfl) ?_
            refine x_iald C0 hP 31 (rgV z) 20 (NLA_M _ (mM_n rfl rfl)) rfl (by omega) (by decide) dL_ranges_205 ?_
            refine x_top hm1 ?_
            refine lv_goto (tgt := 211) C0.hx C0.hb dL_ranges_206 (by decide) ?_
            refine lv_icmp_ne (tgt := 218) C0.hx C0.hb dL_ranges_211 (by decide) (fun c_6 => ?_) (fun c_6 => ?_)
            ·
              exact absurd (by first | exact hR1 hcc (fun y => hno6 ⟨hcc, y⟩) | exact hR0 hcc) c_6
            ·
              refine lv_iconst (v := nI 1) C0.hx C0.hb dL_ranges_214 (by decide) ?_
              refine lv_goto (tgt := 219) C0.hx C0.hb dL_ranges_215 (by decide) ?_
              refine W.widen (k := 3) (n := 18) (by omega) (by omega) ?_
              exact W.zret (v := nI 1) C0.hx C0.hb hr rfl (fun t ht hW => ⟨⟨_, caS (rgL σ z) (rgS σ z) (rgN σ z), rfl, ⟨rfl, (by unfold rgE; rw [if_neg hno6])⟩, x_end ht hP⟩, hS.F ht⟩) hS.2.2 dL_ranges_219
        ·
          refine lv_iload C0.hx C0.hb dL_ranges_139 (lv_at hl 10 rfl) ?_
          refine x_ifeq (tgt := 184) C0.hx C0.hb dL_ranges_141 (by decide) (fun c_7 => ?_) (fun c_7 => ?_)
          ·
            exact J184 () _ _ ls ⟨⟨(by unfold rgS; rw [if_neg (by rw [c_7]; decide)]; exact hP), hS, trivial⟩, (lv_sub hl [0, 1, 2, 3, 4, 5, 6, 7, 8, 9, 10] rfl)⟩
          ·
            have hn6 : nv (σ 31 0 (rgV z)) ≠ 6 := fun y => hno6 ⟨c_7, y⟩
            refine lv_bipush (v := nI 6) C0.hx C0.hb dL_ranges_144 (by decide) ?_
            refine lv_iload C0.hx C0.hb dL_ranges_146 (lv_at hl 6 rfl) ?_
            refine lv_imul C0.hx C0.hb dL_ranges_148 ?_
            refine x_top (pk_mul 6 (rgV z)) ?_
            refine lv_aload_n C0.hx C0.hb dL_ranges_149 rfl (lv_at hl 2 rfl) ?_
            refine lv_iload C0.hx C0.hb dL_ranges_150 (lv_at hl 6 rfl) ?_
            refine x_iald C0 hP 31 (rgV z) 20 (NLA_M _ (mM_n rfl rfl)) rfl (by omega) (by decide) dL_ranges_152 ?_
            obtain ⟨e_8, b_9⟩ := (ok.cnt (by omega) : inR (σ 31 0 (rgV z)) _)
            refine x_top e_8 ?_
            refine lv_iadd C0.hx C0.hb dL_ranges_153 ?_
            refine x_top (nI_add (6 * (rgV z)) (nv (σ 31 0 (rgV z)))) ?_
            refine lv_istore (lv' := [(11, .int (nI ((6 * (rgV z)) + (nv (σ 31 0 (rgV z)))))), (0, .ref (a 0 0)), (1, .int z), (2, .ref (a 31 0)), (3, .ref (a 32 0)), (4, .ref (a 33 0)), (5, .ref (a 34 0)), (6, .int (nI (rgV z))), (7, .int (nI (rgF z))), (8, .int (nI (rgT z))), (9, .int (nI (rgO z))), (10, .int (bI (rgC σ z)))]) C0.hx C0.hb dL_ranges_154 hl (by decide) rfl (fun ls hl => ?_)
            refine lv_aload_n C0.hx C0.hb dL_ranges_156 rfl (lv_at hl 4 rfl) ?_
            refine lv_iload C0.hx C0.hb dL_ranges_157 (lv_at hl 0 rfl) ?_
            refine lv_iload C0.hx C0.hb dL_ranges_159 (lv_at hl 8 rfl) ?_
            refine x_iast C0 hP hS 32 ((6 * (rgV z)) + (nv (σ 31 0 (rgV z)))) 24 (v := nI (rgF z)) (NLA_M _ (mM_n rfl rfl)) (fun _ => rfl) (by omega) (by decide) dL_ranges_161 (fun H locs hP hS => ?_)
            refine lv_aload C0.hx C0.hb dL_ranges_162 (lv_at hl 5 rfl) ?_
            refine lv_iload C0.hx C0.hb dL_ranges_164 (lv_at hl 0 rfl) ?_
            refine lv_iload C0.hx C0.hb dL_ranges_166 (lv_at hl 9 rfl) ?_
            refine x_iast C0 hP hS 33 ((6 * (rgV z)) + (nv (σ 31 0 (rgV z)))) 24 (v := nI (rgT z)) (NLA_M _ (mM_n rfl rfl)) (fun _ => rfl) (by omega) (by decide) dL_ranges_168 (fun H locs hP hS => ?_)
            refine lv_aload C0.hx C0.hb dL_ranges_169 (lv_at hl 6 rfl) ?_
            refine lv_iload C0.hx C0.hb dL_ranges_171 (lv_at hl 0 rfl) ?_
            refine lv_iload C0.hx C0.hb dL_ranges_173 (lv_at hl 10 rfl) ?_
            refine x_iast C0 hP hS 34 ((6 * (rgV z)) + (nv (σ 31 0 (rgV z)))) 24 (v := nI (rgO z)) (NLA_M _ (mM_n rfl rfl)) (fun _ => rfl) (by omega) (by decide) dL_ranges_175 (fun H locs hP hS => ?_)
            refine lv_aload_n C0.hx C0.hb dL_ranges_176 rfl (lv_at hl 3 rfl) ?_
            refine lv_iload C0.hx C0.hb dL_ranges_177 (lv_at hl 7 rfl) ?_
            refine lv_dup2_11 C0.hx C0.hb dL_ranges_179 rfl rfl ?_
            refine x_iald C0 hP 31 (rgV z) 20 (NLA_M _ (mM_n rfl rfl)) rfl (by omega) (by decide) dL_ranges_180 ?_
            refine x_top (show _ = nI (nv (σ 31 0 (rgV z))) from (ok.cnt hlow2).1) ?_
            refine lv_iconst (v := nI 1) C0.hx C0.hb dL_ranges_181 (by decide) ?_
            refine lv_iadd C0.hx C0.hb dL_ranges_182 ?_
            refine x_top (nI_add (nv (σ 31 0 (rgV z))) 1) ?_
            refine x_iast C0 hP hS 31 (rgV z) 20 (v := nI ((nv (σ 31 0 (rgV z))) + 1)) (NLA_M _ (mM_n rfl rfl)) (fun _ => rfl) (by omega) (by decide) dL_ranges_183 (fun H locs hP hS => ?_)
            exact J184 () _ _ ls ⟨⟨(by unfold rgS; rw [if_pos c_7]; exact hP), hS, trivial⟩, (lv_sub hl [1, 2, 3, 4, 5, 6, 7, 8, 9, 10, 11] rfl)⟩
      ·
        refine lv_iload C0.hx C0.hb dL_ranges_123 (lv_at hl 10 rfl) ?_
        refine x_ifeq (tgt := 139) C0.hx C0.hb dL_ranges_125 (by decide) (fun c_10 => ?_) (fun c_10 => ?_)
        ·
          exact J139 () _ _ ls ⟨⟨rfl, rfl, (by rintro ⟨y1, y2⟩; first | omega | (rw [c_10] at y1; cases y1))⟩, (lv_sub hl [0, 1, 2, 3, 4, 5, 6, 7, 8, 9, 10, 11] rfl)⟩
        ·
          refine lv_aload_n C0.hx C0.hb dL_ranges_128 rfl (lv_at hl 2 rfl) ?_
          refine lv_iload C0.hx C0.hb dL_ranges_129 (lv_at hl 6 rfl) ?_
          refine x_iald C0 hP 31 (rgV z) 20 (NLA_M _ (mM_n rfl rfl)) rfl (by omega) (by decide) dL_ranges_131 ?_
          obtain ⟨e_11, b_12⟩ := (ok.cnt (by omega) : inR (σ 31 0 (rgV z)) _)
          refine x_top e_11 ?_
          refine lv_bipush (v := nI 6) C0.hx C0.hb dL_ranges_132 (by decide) ?_
          refine x_icmp_ne (tgt := 139) C0.hx C0.hb (by omega) (by omega) dL_ranges_134 (by decide) (fun c_13 => ?_) (fun c_13 => ?_)
          ·
            exact J139 () _ _ ls ⟨⟨rfl, rfl, (by rintro ⟨y1, y2⟩; first | omega | (rw [c_13] at y1; cases y1))⟩, (lv_sub hl [0, 1, 2, 3, 4, 5, 6, 7, 8, 9, 10, 11] rfl)⟩
          ·
            refine lv_iconst (v := nI 1) C0.hx C0.hb dL_ranges_137 (by decide) ?_
            refine W.widen (k := 3) (n := 18) (by omega) (by omega) ?_
            exact W.zret (v := nI 1) C0.hx C0.hb hr rfl (fun t ht hW => ⟨⟨_, σ, rfl, ⟨rfl, (by unfold rgE; rw [if_pos ⟨c_10, c_13⟩])⟩, x_end ht hP⟩, hS.F ht⟩) hS.2.2 dL_ranges_138
    ·
      refine x_join (α := Bool) 115 (fun b9 H' locs' ls => (H' = s.heap ∧ locs' = [] ∧ b9 = caP σ (rgV z) (rgF z) (rgT z) (j + 1)) ∧ lv_has ls 12 [(0, .ref (a 0 0)), (1, .int z), (2, .ref (a 31 0)), (3, .ref (a 32 0)), (4, .ref (a 33 0)), (5, .ref (a 34 0)), (6, .int (nI (rgV z))), (7, .int (nI (rgF z))), (8, .int (nI (rgT z))), (9, .int (nI (rgO z))), (10, .int (bI (caP σ (rgV z) (rgF z) (rgT z) j))), (11, .int (nI (6 * rgV z + j)))]) (fun b9 => [.int (bI b9)]) ?_ (fun J115 => ?_)
      · rintro b9 _ _ ls ⟨⟨rfl, rfl, hb9⟩, hl⟩
        subst hb9
        refine lv_istore (lv' := [(10, .int (bI (caP σ (rgV z) (rgF z) (rgT z) (j + 1)))), (0, .ref (a 0 0)), (1, .int z), (2, .ref (a 31 0)), (3, .ref (a 32 0)), (4, .ref (a 33 0)), (5, .ref (a 34 0)), (6, .int (nI (rgV z))), (7, .int (nI (rgF z))), (8, .int (nI (rgT z))), (9, .int (nI (rgO z))), (11, .int (nI (6 * rgV z + j)))]) C0.hx C0.hb dL_ranges_115 hl (by decide) rfl (fun ls hl => ?_)
        refine lv_iinc (v := nI (6 * rgV z + j + 1)) (lv' := [(11, .int (nI (6 * rgV z + j + 1))), (10, .int (bI (caP σ (rgV z) (rgF z) (rgT z) (j + 1)))), (0, .ref (a 0 0)), (1, .int z), (2, .ref (a 31 0)), (3, .ref (a 32 0)), (4, .ref (a 33 0)), (5, .ref (a 34 0)), (6, .int (nI (rgV z))), (7, .int (nI (rgF z))), (8, .int (nI (rgT z))), (9, .int (nI (rgO z)))]) C0.hx C0.hb dL_ranges_117 hl (k := 11) rfl (nI_1 (6 * rgV z + j)) (by decide) rfl (fun ls hl => ?_)
        refine lv_goto (tgt := 71) C0.hx C0.hb dL_ranges_120 (by decide) ?_
        exact ih71 ((j + 1)) ls ⟨(by omega), (lv_sub hl [2, 3, 4, 5, 6, 7, 8, 9, 10, 11, 1, 0] rfl)⟩ (by omega)
      ·
        refine lv_iload C0.hx C0.hb dL_ranges_86 (lv_at hl 10 rfl) ?_
        refine x_ifeq (tgt := 114) C0.hx C0.hb dL_ranges_88 (by decide) (fun c_14 => ?_) (fun c_14 => ?_)
        ·
          refine lv_iconst (v := nI 0) C0.hx C0.hb dL_ranges_114 (by decide) ?_
          exact J115 false _ _ ls ⟨⟨rfl, rfl, (by simp [caP, c_14])⟩, (lv_sub hl [0, 1, 2, 3, 4, 5, 6, 7, 8, 9, 10, 11] rfl)⟩
        ·
          refine lv_iload C0.hx C0.hb dL_ranges_91 (lv_at hl 8 rfl) ?_
          refine lv_aload_n C0.hx C0.hb dL_ranges_93 rfl (lv_at hl 3 rfl) ?_
          refine lv_iload C0.hx C0.hb dL_ranges_94 (lv_at hl 11 rfl) ?_
          refine x_iald C0 hP 32 (6 * rgV z + j) 24 (NLA_M _ (mM_n rfl rfl)) rfl (by omega) (by decide) dL_ranges_96 ?_
          refine lv_icmp_lt (tgt := 110) C0.hx C0.hb dL_ranges_97 (by decide) (fun c_15 => ?_) (fun c_15 => ?_)
          ·
            refine lv_iconst (v := nI 1) C0.hx C0.hb dL_ranges_110 (by decide) ?_
            refine lv_goto (tgt := 115) C0.hx C0.hb dL_ranges_111 (by decide) ?_
            exact J115 true _ _ ls ⟨⟨rfl, rfl, (by simp [caP, c_15, c_14])⟩, (lv_sub hl [0, 1, 2, 3, 4, 5, 6, 7, 8, 9, 10, 11] rfl)⟩
          ·
            refine lv_iload C0.hx C0.hb dL_ranges_100 (lv_at hl 7 rfl) ?_
            refine lv_aload C0.hx C0.hb dL_ranges_102 (lv_at hl 4 rfl) ?_
            refine lv_iload C0.hx C0.hb dL_ranges_104 (lv_at hl 11 rfl) ?_
            refine x_iald C0 hP 33 (6 * rgV z + j) 24 (NLA_M _ (mM_n rfl rfl)) rfl (by omega) (by decide) dL_ranges_106 ?_
            refine lv_icmp_le (tgt := 114) C0.hx C0.hb dL_ranges_107 (by decide) (fun c_16 => ?_) (fun c_16 => ?_)
            ·
              have c_16 := i32_nlt c_16
              refine lv_iconst (v := nI 0) C0.hx C0.hb dL_ranges_114 (by decide) ?_
              exact J115 false _ _ ls ⟨⟨rfl, rfl, (by simp [caP, c_16, c_15, c_14])⟩, (lv_sub hl [0, 1, 2, 3, 4, 5, 6, 7, 8, 9, 10, 11] rfl)⟩
            ·
              have c_16 := i32_lt c_16
              refine lv_iconst (v := nI 1) C0.hx C0.hb dL_ranges_110 (by decide) ?_
              refine lv_goto (tgt := 115) C0.hx C0.hb dL_ranges_111 (by decide) ?_
              exact J115 true _ _ ls ⟨⟨rfl, rfl, (by simp [caP, c_16, c_15, c_14])⟩, (lv_sub hl [0, 1, 2, 3, 4, 5, 6, 7, 8, 9, 10, 11] rfl)⟩
  ·
    refine x_ifnen (tgt := 42) C0.hx C0.hb (by omega) dL_ranges_34 (by decide) (fun c_17 => ?_) (fun c_17 => ?_)
    ·
      refine lv_bipush (v := nI 10) C0.hx C0.hb dL_ranges_42 (by decide) ?_
      exact J44 10 _ _ ls ⟨⟨rfl, rfl, (by unfold rgK; rw [if_neg c_17]), (by unfold rgK; split <;> omega)⟩, (lv_sub hl [2, 3, 4, 5, 6, 7, 1, 0] rfl)⟩
    ·
      refine lv_bipush (v := nI 40) C0.hx C0.hb dL_ranges_37 (by decide) ?_
      refine lv_goto (tgt := 44) C0.hx C0.hb dL_ranges_39 (by decide) ?_
      exact J44 40 _ _ ls ⟨⟨rfl, rfl, (by unfold rgK; rw [if_pos c_17]), (by unfold rgK; split <;> omega)⟩, (lv_sub hl [2, 3, 4, 5, 6, 7, 1, 0] rfl)⟩

set_option maxHeartbeats 4000000 in
set_option maxRecDepth 100000 in
theorem mtX4_gate (l : Launch) (hfl : l.stackTraces = false) (g : xG) (a : xAd) (σ : xS) (v : Int32) (ok : okX σ) : xMxi l yX4_gate wsX4_gate ({ frames := 7, cells := 1, slots := 6, locals := 102 }) 1 6 NLX g a σ [.ref (a 0 0), .int v] (chOk (v1C v)) (gaX σ (nv v)) σ (chEx (v1C v)) := by
  intro sz
  refine vx_ofW (cc := cX4_gate) (maxL := 6) (ret := (some .int)) (by decide) rfl ?_
  intro p e s m args below meth c s₁ B hml hex hv
  obtain ⟨rfl, hsz, ⟨hP, hK, hN, hj⟩, hT, hZ⟩ := hv
  subst hsz
  have hr := B.returns
  have hlocks := B.notSynchronized
  have C0 : xC p s m _ c cX4_gate 6 wsX4_gate RX4 NLX g a (xA NLX a s.heap.size) := ⟨⟨B.exec, B.bytes, hml, findClass_of_methodNamed B.named, atoms_spec (ws := wsX4_gate) B.pre⟩, hK, hN, hj, fun n h => Or.inl ⟨n, h, rfl⟩, fun q h => Or.inr h⟩
  have hS : va_S (xA NLX a s.heap.size) s.heap s.heap [] := va_S.rf
  have hl := lv_entry ([.ref (a 0 0), .int v]) (n := 6) (Nat.le_of_ble_eq_true rfl)
  rw [lg_entry_eq]
  generalize (lg_sl ([.ref (a 0 0), .int v]) ++ List.replicate (6 - (lg_sl ([.ref (a 0 0), .int v])).length) Slot.unset).toArray = ls at hl ⊢
  have hl : lv_has ls 6 [(0, .ref (a 0 0)), (1, .int v)] := hl
  have k_0 : Cond.fieldLink RX4 37 RX4 (TX4 4).2.1 (TX4 4).2.2.1 ∈ wsX4_gate := by decide +kernel
  have i_X4 : ∀ w ∈ wsX40, w ∈ wsX4_gate := by decide +kernel
  have k_2 : Cond.fieldLink RX4 26 RX4 (TX4 2).2.1 (TX4 2).2.2.1 ∈ wsX4_gate := by decide +kernel
  have q_3 : Cond.fieldLinkNest RX4 103 RX2 (TX2 0).2.1 (TX2 0).2.2.1 RX4 ∈ xNs := by decide +kernel
  have i_X2 : ∀ w ∈ wsX20, w ∈ wsX4_gate := by decide +kernel
  have k_5 : Cond.fieldLink RX4 33 RX4 (TX4 3).2.1 (TX4 3).2.2.1 ∈ wsX4_gate := by decide +kernel
  have m_6 : (RX4, 136, yX1_isName) ∈ xMs := by decide +kernel
  have k_7 : Cond.initialized yX1_isName.cls ∈ wsX4_gate := by decide +kernel
  have k_8 : Cond.instanceMethod yX1_isName ∈ wsX4_gate := by decide +kernel
  have k_9 : Cond.selects RX1 yX1_isName yX1_isName ∈ wsX4_gate := by decide +kernel
  have k_10 : Cond.fieldLink RX4 41 RX4 (TX4 5).2.1 (TX4 5).2.2.1 ∈ wsX4_gate := by decide +kernel
  refine lv_iload_n C0.hx C0.hb dX4_gate_0 rfl (lv_at hl 1 rfl) ?_
  refine lv_iconst (v := nI 4) C0.hx C0.hb dX4_gate_1 (by decide) ?_
  refine x_Si (As := [.int v, .int (nI 4)]) (rest := []) C0 (mtX4_isBelow l g a σ v (nI 4)) (xP0 _) xDj0 (va_cwS 2 C0.hts gX4_gate_X4_isBelow rfl rfl rfl (by decide +kernel) ⟨Nat.le_of_ble_eq_true rfl, Nat.le_of_ble_eq_true rfl⟩) rfl hl rfl (Nat.le_of_ble_eq_true rfl) (Nat.le_of_ble_eq_true rfl) (Nat.le_of_ble_eq_true rfl) dX4_gate_2 ?_
  refine x_SX0 (As := [.int (bI (ibX v (nI 4)))]) (rest := []) C0 (mtX4_checkArgument l hfl g a σ (ibX v (nI 4))) hP hS hT hZ (va_cwS 1 C0.hts gX4_gate_X4_checkArgument rfl rfl rfl (by decide +kernel) ⟨Nat.le_of_ble_eq_true rfl, Nat.le_of_ble_eq_true rfl⟩) rfl hl rfl (Nat.le_of_ble_eq_true rfl) (Nat.le_of_ble_eq_true rfl) (Nat.le_of_ble_eq_true rfl) dX4_gate_5 (fun E ce q H1 locs1 hE hP hS hq hv hcl => x_out hex hlocks hP hS hq hv hcl (Or.inl hE) (Nat.le_of_ble_eq_true rfl) (Nat.le_of_ble_eq_true rfl)) (fun H locs hk_1 hP hS => ?_)
  obtain ⟨v, hv, rfl⟩ := ibX_nat (by decide) hk_1
  have ev : nv (nI v) = v := nv_nI (by omega)
  refine lv_aload_n C0.hx C0.hb dX4_gate_8 rfl (lv_at hl 0 rfl) ?_
  refine x_get C0 hP 0 (mX_n rfl) rfl rfl 4 (by decide) i_X4 k_0 rfl rfl dX4_gate_9 ?_
  refine lv_iload_n C0.hx C0.hb dX4_gate_12 rfl (lv_at hl 1 rfl) ?_
  refine x_iald C0 hP 5 v 4 (mX_n rfl) rfl (by omega) (by decide) dX4_gate_13 ?_
  obtain ⟨e_2, b_3⟩ := (ok.ses (by omega) : inR (σ 5 0 v) _)
  refine x_top e_2 ?_
  refine x_join (α := Bool) 24 (fun j H' locs' ls => (H' = H ∧ locs' = locs ∧ j = decide (50 ≤ nv (σ 5 0 v))) ∧ lv_has ls 6 [(0, .ref (a 0 0)), (1, .int (nI v))]) (fun j => [.int (bI j)]) ?_ (fun J24 => ?_)
  · rintro j H locs ls ⟨⟨rfl, rfl, hj⟩, hl⟩
    refine lv_istore_n (lv' := [(2, .int (bI j)), (0, .ref (a 0 0)), (1, .int (nI v))]) C0.hx C0.hb dX4_gate_24 rfl hl (by decide) rfl (fun ls hl => ?_)
    refine x_join (α := Bool) 34 (fun b0 H' locs' ls => (H' = H ∧ locs' = locs ∧ b0 = !decide (50 ≤ nv (σ 5 0 v))) ∧ lv_has ls 6 [(0, .ref (a 0 0)), (1, .int (nI v)), (2, .int (bI j))]) (fun b0 => [.int (bI b0)]) ?_ (fun J34 => ?_)
    · rintro b0 H locs ls ⟨⟨rfl, rfl, hb0⟩, hl⟩
      refine lv_istore_n (lv' := [(3, .int (bI b0)), (0, .ref (a 0 0)), (1, .int (nI v)), (2, .int (bI j))]) C0.hx C0.hb dX4_gate_34 rfl hl (by decide) rfl (fun ls hl => ?_)
      refine lv_iconst (v := nI 0) C0.hx C0.hb dX4_gate_35 (by decide) ?_
      refine lv_istore (lv' := [(4, .int (nI 0)), (3, .int (bI b0)), (0, .ref (a 0 0)), (1, .int (nI v)), (2, .int (bI j))]) C0.hx C0.hb dX4_gate_36 hl (by decide) rfl (fun ls hl => ?_)
      refine x_loopR (α := Nat × Nat × Bool) (fun u => u.1) (fun ⟨n, k, b⟩ ls => k + n = nv (σ 3 0 0) ∧ gaL σ v n k b = gaX σ v ∧ lv_has ls 6 [(0, .ref (a 0 0)), (1, .int (nI v)), (2, .int (bI j)), (3, .int (bI b)), (4, .int (nI k))]) ?_ ((nv (σ 3 0 0), 0, b0)) ⟨(by omega), (by rw [hb0]; rfl), (lv_sub hl [2, 3, 4, 1, 0] rfl)⟩
      rintro ⟨n, k, b⟩ ls ⟨hn, hG, hl⟩ ih38
      have hn60 := ok.n.2
      refine lv_iload C0.hx C0.hb dX4_gate_38 (lv_at hl 4 rfl) ?_
      refine lv_aload_n C0.hx C0.hb dX4_gate_40 rfl (lv_at hl 0 rfl) ?_
      refine x_get C0 hP 0 (mX_n rfl) rfl rfl 2 (by decide) i_X4 k_2 rfl rfl dX4_gate_41 ?_
      refine x_getN C0 hP 3 (mX_n rfl) rfl rfl 0 (by decide) i_X2 q_3 rfl rfl dX4_gate_44 ?_
      obtain ⟨e_4, b_5⟩ := (ok.n : inR (σ 3 0 0) _)
      refine x_top e_4 ?_
      refine x_icmp_ge (tgt := 124) C0.hx C0.hb (by omega) (by omega) dX4_gate_47 (by decide) (fun c_6 => ?_) (fun c_6 => ?_)
      ·
        refine lv_iload_n C0.hx C0.hb dX4_gate_124 rfl (lv_at hl 3 rfl) ?_
        refine x_join (α := Int32) 133 (fun z H' locs' ls => (H' = H ∧ locs' = locs ∧ z = if b = true then nI 1 else nI 0) ∧ lv_has ls 6 [(0, .ref (a 0 0)), (1, .int (nI v)), (2, .int (bI j)), (3, .int (bI b)), (4, .int (nI k))]) (fun z => [.int z]) ?_ (fun J133 => ?_)
        · rintro z H locs ls ⟨⟨rfl, rfl, hz⟩, hl⟩
          refine vx_ret ?_
          refine W.widen (k := 1) (n := 6) (Nat.le_of_ble_eq_true rfl) (Nat.le_of_ble_eq_true rfl) ?_
          exact W.iret (v := z) C0.hx C0.hb hr (fun t ht hW => ⟨⟨_, σ, rfl, ⟨⟨⟨hk_1, trivial⟩, (by rw [ev, hz, ← hG, show n = 0 by omega]; rfl)⟩, rfl⟩, x_end ht hP⟩, hS.F ht⟩) hS.2.2 dX4_gate_133
        ·
          refine x_ifeq (tgt := 132) C0.hx C0.hb dX4_gate_125 (by decide) (fun c_7 => ?_) (fun c_7 => ?_)
          ·
            refine lv_iconst (v := nI 0) C0.hx C0.hb dX4_gate_132 (by decide) ?_
            exact J133 (nI 0) _ _ ls ⟨⟨rfl, rfl, (by simp [c_7])⟩, (lv_sub hl [0, 1, 2, 3, 4] rfl)⟩
          ·
            refine lv_iconst (v := nI 1) C0.hx C0.hb dX4_gate_128 (by decide) ?_
            refine lv_goto (tgt := 133) C0.hx C0.hb dX4_gate_129 (by decide) ?_
            exact J133 (nI 1) _ _ ls ⟨⟨rfl, rfl, (by simp [c_7])⟩, (lv_sub hl [0, 1, 2, 3, 4] rfl)⟩
      ·
        obtain ⟨n, rfl⟩ : ∃ z, n = z + 1 := ⟨n - 1, by omega⟩
        rw [gaL] at hG
        refine lv_aload_n C0.hx C0.hb dX4_gate_50 rfl (lv_at hl 0 rfl) ?_
        refine x_get C0 hP 0 (mX_n rfl) rfl rfl 3 (by decide) i_X4 k_5 rfl rfl dX4_gate_51 ?_
        refine lv_iload C0.hx C0.hb dX4_gate_54 (lv_at hl 4 rfl) ?_
        refine x_VNi (As := [.int (nI k)]) (rest := []) C0 (mtX1_isName l g a σ k (by omega)) hP C0.2.2.2.1 (va_cnB 1 C0.hts gX4_gate_X1_isName_n136 rfl rfl rfl (C0.2.2.1.2 _ m_6) (C0.hts _ k_7) (by decide +kernel) ⟨Nat.le_of_ble_eq_true rfl, Nat.le_of_ble_eq_true rfl⟩) (C0.hts _ k_8) (C0.hts _ k_9) (x_recv C0 hP 4 (mX_n rfl) rfl rfl) rfl hl rfl (Nat.le_of_ble_eq_true rfl) (Nat.le_of_ble_eq_true rfl) (Nat.le_of_ble_eq_true rfl) dX4_gate_56 ?_
        refine x_join (α := Bool) 118 (fun b3 H' locs' ls => (H' = H ∧ locs' = locs ∧ gaL σ v n (k + 1) b3 = gaX σ v) ∧ lv_has ls 6 [(0, .ref (a 0 0)), (1, .int (nI v)), (2, .int (bI j)), (4, .int (nI k)), (3, .int (bI b3))]) (fun b3 => []) ?_ (fun J118 => ?_)
        · rintro b3 H locs ls ⟨⟨rfl, rfl, hR⟩, hl⟩
          refine lv_iinc (v := nI (k + 1)) (lv' := [(4, .int (nI (k + 1))), (0, .ref (a 0 0)), (1, .int (nI v)), (2, .int (bI j)), (3, .int (bI b3))]) C0.hx C0.hb dX4_gate_118 hl (k := 3) rfl (nI_1 k) (by decide) rfl (fun ls hl => ?_)
          refine lv_goto (tgt := 38) C0.hx C0.hb dX4_gate_121 (by decide) ?_
          exact ih38 ((n, k + 1, b3)) ls ⟨(by omega), hR, (lv_sub hl [1, 2, 3, 4, 0] rfl)⟩ (Nat.lt_succ_self _)
        ·
          refine x_ifeq (tgt := 118) C0.hx C0.hb dX4_gate_59 (by decide) (fun c_8 => ?_) (fun c_8 => ?_)
          ·
            exact J118 b _ _ ls ⟨⟨rfl, rfl, (by rw [← hG, if_neg (by simpa using c_8)])⟩, (lv_sub hl [0, 1, 2, 4, 3] rfl)⟩
          ·
            rw [if_pos (by simpa using c_8)] at hG
            refine lv_aload_n C0.hx C0.hb dX4_gate_62 rfl (lv_at hl 0 rfl) ?_
            refine lv_iload C0.hx C0.hb dX4_gate_63 (lv_at hl 4 rfl) ?_
            refine lv_iload_n C0.hx C0.hb dX4_gate_65 rfl (lv_at hl 1 rfl) ?_
            refine x_Vi (As := [.int (nI k), .int (nI v)]) (rest := []) C0 (mtX4_rateOf l g a σ (nI k) v (by omega) ok) hP C0.2.2.2.1 (cwV 2 C0.hts gX4_gate_X4_rateOf rfl rfl rfl (by decide +kernel) ⟨Nat.le_of_ble_eq_true rfl, Nat.le_of_ble_eq_true rfl⟩) (x_recv C0 hP 0 (mX_n rfl) rfl rfl) rfl hl rfl (Nat.le_of_ble_eq_true rfl) (Nat.le_of_ble_eq_true rfl) (Nat.le_of_ble_eq_true rfl) dX4_gate_66 ?_
            have hrt := rtX_le (nm := nI k) (v := v) ok
            refine lv_istore (lv' := [(5, .int (nI (rtX σ (nI k) v))), (0, .ref (a 0 0)), (1, .int (nI v)), (2, .int (bI j)), (3, .int (bI b)), (4, .int (nI k))]) C0.hx C0.hb dX4_gate_69 hl (by decide) rfl (fun ls hl => ?_)
            refine lv_iload_n C0.hx C0.hb dX4_gate_71 rfl (lv_at hl 3 rfl) ?_
            refine x_join (α := Unit) 97 (fun _ H' locs' ls => (H' = H ∧ locs' = locs ∧ ¬ (50 ≤ nv (σ 5 0 v) ∧ ¬ nI (rtX σ (nI k) v) < σ 0 0 0 ∧ ¬ ucX σ (nI k) v < nI 2)) ∧ lv_has ls 6 [(0, .ref (a 0 0)), (1, .int (nI v)), (2, .int (bI j)), (3, .int (bI b)), (4, .int (nI k)), (5, .int (nI (rtX σ (nI k) v)))]) (fun _ => []) ?_ (fun J97 => ?_)
            · rintro _ H locs ls ⟨⟨rfl, rfl, hno⟩, hl⟩
              refine lv_iload_n C0.hx C0.hb dX4_gate_97 rfl (lv_at hl 3 rfl) ?_
              refine x_join (α := Bool) 117 (fun b2 H' locs' ls => (H' = H ∧ locs' = locs ∧ b2 = (b || decide (¬ nI (2 * rtX σ (nI k) v) < σ 0 0 0))) ∧ lv_has ls 6 [(0, .ref (a 0 0)), (1, .int (nI v)), (2, .int (bI j)), (3, .int (bI b)), (4, .int (nI k)), (5, .int (nI (rtX σ (nI k) v)))]) (fun b2 => [.int (bI b2)]) ?_ (fun J117 => ?_)
              · rintro b2 H locs ls ⟨⟨rfl, rfl, hb2⟩, hl⟩
                refine lv_istore_n (lv' := [(3, .int (bI b2)), (0, .ref (a 0 0)), (1, .int (nI v)), (2, .int (bI j)), (4, .int (nI k)), (5, .int (nI (rtX σ (nI k) v)))]) C0.hx C0.hb dX4_gate_117 rfl hl (by decide) rfl (fun ls hl => ?_)
                exact J118 b2 _ _ ls ⟨⟨rfl, rfl, (by rw [hb2, ← hG, if_neg hno])⟩, (lv_sub hl [1, 2, 3, 4, 0] rfl)⟩
              ·
                refine x_ifne (tgt := 112) C0.hx C0.hb dX4_gate_98 (by decide) (fun c_9 => ?_) (fun c_9 => ?_)
                ·
                  refine lv_iconst (v := nI 1) C0.hx C0.hb dX4_gate_112 (by decide) ?_
                  refine lv_goto (tgt := 117) C0.hx C0.hb dX4_gate_113 (by decide) ?_
                  exact J117 true _ _ ls ⟨⟨rfl, rfl, (by simp [c_9])⟩, (lv_sub hl [0, 1, 2, 3, 4, 5] rfl)⟩
                ·
                  refine lv_iconst (v := nI 2) C0.hx C0.hb dX4_gate_101 (by decide) ?_
                  refine lv_iload C0.hx C0.hb dX4_gate_102 (lv_at hl 5 rfl) ?_
                  refine lv_imul C0.hx C0.hb dX4_gate_104 ?_
                  refine x_top (pk_mul 2 (rtX σ (nI k) v)) ?_
                  refine lv_aload_n C0.hx C0.hb dX4_gate_105 rfl (lv_at hl 0 rfl) ?_
                  refine x_get C0 hP 0 (mX_n rfl) rfl rfl 5 (by decide) i_X4 k_10 rfl rfl dX4_gate_106 ?_
                  refine lv_icmp_lt (tgt := 116) C0.hx C0.hb dX4_gate_109 (by decide) (fun c_10 => ?_) (fun c_10 => ?_)
                  ·
                    refine lv_iconst (v := nI 0) C0.hx C0.hb dX4_gate_116 (by decide) ?_
                    exact J117 false _ _ ls ⟨⟨rfl, rfl, (by simp [c_10, c_9])⟩, (lv_sub hl [0, 1, 2, 3, 4, 5] rfl)⟩
                  ·
                    refine lv_iconst (v := nI 1) C0.hx C0.hb dX4_gate_112 (by decide) ?_
                    refine lv_goto (tgt := 117) C0.hx C0.hb dX4_gate_113 (by decide) ?_
                    exact J117 true _ _ ls ⟨⟨rfl, rfl, (by simp [c_10, c_9])⟩, (lv_sub hl [0, 1, 2, 3, 4, 5] rfl)⟩
            ·
              refine x_ifeq (tgt := 97) C0.hx C0.hb dX4_gate_72 (by decide) (fun c_11 => ?_) (fun c_11 => ?_)
              ·
                exact J97 () _ _ ls ⟨⟨rfl, rfl, (by intro z; first | exact z.2.1 c_11 | exact z.2.2 c_11 | (rw [hj] at c_11; simp at c_11; omega))⟩, (lv_sub hl [1, 2, 3, 4, 5, 0] rfl)⟩
              ·
                refine lv_iload C0.hx C0.hb dX4_gate_75 (lv_at hl 0 rfl) ?_
                refine lv_aload_n C0.hx C0.hb dX4_gate_77 rfl (lv_at hl 1 rfl) ?_
                refine x_get C0 hP 0 (mX_n rfl) rfl rfl 5 (by decide) i_X4 k_10 rfl rfl dX4_gate_78 ?_
                refine lv_icmp_lt (tgt := 97) C0.hx C0.hb dX4_gate_81 (by decide) (fun c_12 => ?_) (fun c_12 => ?_)
                ·
                  exact J97 () _ _ ls ⟨⟨rfl, rfl, (by intro z; first | exact z.2.1 c_12 | exact z.2.2 c_12 | (rw [hj] at c_12; simp at c_12; omega))⟩, (lv_sub hl [1, 2, 3, 4, 5, 0] rfl)⟩
                ·
                  refine lv_aload_n C0.hx C0.hb dX4_gate_84 rfl (lv_at hl 1 rfl) ?_
                  refine lv_iload C0.hx C0.hb dX4_gate_85 (lv_at hl 5 rfl) ?_
                  refine lv_iload_n C0.hx C0.hb dX4_gate_87 rfl (lv_at hl 2 rfl) ?_
                  refine x_Vi (As := [.int (nI k), .int (nI v)]) (rest := []) C0 (mtX4_usersOf l g a σ (nI k) v (by omega) ok) hP C0.2.2.2.1 (cwV 2 C0.hts gX4_gate_X4_usersOf rfl rfl rfl (by decide +kernel) ⟨Nat.le_of_ble_eq_true rfl, Nat.le_of_ble_eq_true rfl⟩) (x_recv C0 hP 0 (mX_n rfl) rfl rfl) rfl hl rfl (Nat.le_of_ble_eq_true rfl) (Nat.le_of_ble_eq_true rfl) (Nat.le_of_ble_eq_true rfl) dX4_gate_88 ?_
                  refine lv_iconst (v := nI 2) C0.hx C0.hb dX4_gate_91 (by decide) ?_
                  refine lv_icmp_lt (tgt := 97) C0.hx C0.hb dX4_gate_92 (by decide) (fun c_13 => ?_) (fun c_13 => ?_)
                  ·
                    exact J97 () _ _ ls ⟨⟨rfl, rfl, (by intro z; first | exact z.2.1 c_13 | exact z.2.2 c_13 | (rw [hj] at c_13; simp at c_13; omega))⟩, (lv_sub hl [1, 2, 3, 4, 5, 0] rfl)⟩
                  ·
                    refine lv_iconst (v := nI 2) C0.hx C0.hb dX4_gate_95 (by decide) ?_
                    refine vx_ret ?_
                    refine W.widen (k := 1) (n := 6) (Nat.le_of_ble_eq_true rfl) (Nat.le_of_ble_eq_true rfl) ?_
                    exact W.iret (v := nI 2) C0.hx C0.hb hr (fun t ht hW => ⟨⟨_, σ, rfl, ⟨⟨⟨hk_1, trivial⟩, (by rw [ev, ← hG, if_pos ⟨by rw [hj] at c_11; simpa using c_11, c_12, c_13⟩])⟩, rfl⟩, x_end ht hP⟩, hS.F ht⟩) hS.2.2 dX4_gate_96
    ·
      refine lv_iload_n C0.hx C0.hb dX4_gate_25 rfl (lv_at hl 0 rfl) ?_
      refine x_ifne (tgt := 33) C0.hx C0.hb dX4_gate_26 (by decide) (fun c_14 => ?_) (fun c_14 => ?_)
      ·
        refine lv_iconst (v := nI 0) C0.hx C0.hb dX4_gate_33 (by decide) ?_
        exact J34 false _ _ ls ⟨⟨rfl, rfl, (by rw [← hj, c_14]; rfl)⟩, (lv_sub hl [1, 2, 0] rfl)⟩
      ·
        refine lv_iconst (v := nI 1) C0.hx C0.hb dX4_gate_29 (by decide) ?_
        refine lv_goto (tgt := 34) C0.hx C0.hb dX4_gate_30 (by decide) ?_
        exact J34 true _ _ ls ⟨⟨rfl, rfl, (by rw [← hj, c_14]; rfl)⟩, (lv_sub hl [1, 2, 0] rfl)⟩
  ·
    refine lv_bipush (v := nI 50) C0.hx C0.hb dX4_gate_14 (by decide) ?_
    refine x_icmp_lt (tgt := 23) C0.hx C0.hb (by omega) (by omega) dX4_gate_16 (by decide) (fun c_15 => ?_) (fun c_15 => ?_)
    ·
      refine lv_iconst (v := nI 0) C0.hx C0.hb dX4_gate_23 (by decide) ?_
      exact J24 false _ _ ls ⟨⟨rfl, rfl, (by simp only [true_eq_decide_iff, false_eq_decide_iff]; omega)⟩, (lv_sub hl [0, 1] rfl)⟩
    ·
      refine lv_iconst (v := nI 1) C0.hx C0.hb dX4_gate_19 (by decide) ?_
      refine lv_goto (tgt := 24) C0.hx C0.hb dX4_gate_20 (by decide) ?_
      exact J24 true _ _ ls ⟨⟨rfl, rfl, (by simp only [true_eq_decide_iff, false_eq_decide_iff]; omega)⟩, (lv_sub hl [0, 1] rfl)⟩

set_option maxHeartbeats 4000000 in
set_option maxRecDepth 100000 in
theorem mtX4_worst (l : Launch) (hfl : l.stackTraces = false) (g : xG) (a : xAd) (σ : xS) (v : Int32) (ok : okX σ) : xMxi l yX4_worst wsX4_worst ({ frames := 7, cells := 1, slots := 6, locals := 102 }) 1 6 NLX g a σ [.ref (a 0 0), .int v] (chOk (v1C v)) (woX σ (nv v)) σ (chEx (v1C v)) := by
  intro sz
  refine vx_ofW (cc := cX4_worst) (maxL := 6) (ret := (some .int)) (by decide) rfl ?_
  intro p e s m args below meth c s₁ B hml hex hv
  obtain ⟨rfl, hsz, ⟨hP, hK, hN, hj⟩, hT, hZ⟩ := hv
  subst hsz
  have hr := B.returns
  have hlocks := B.notSynchronized
  have C0 : xC p s m _ c cX4_worst 6 wsX4_worst RX4 NLX g a (xA NLX a s.heap.size) := ⟨⟨B.exec, B.bytes, hml, findClass_of_methodNamed B.named, atoms_spec (ws := wsX4_worst) B.pre⟩, hK, hN, hj, fun n h => Or.inl ⟨n, h, rfl⟩, fun q h => Or.inr h⟩
  have hS : va_S (xA NLX a s.heap.size) s.heap s.heap [] := va_S.rf
  have hl := lv_entry ([.ref (a 0 0), .int v]) (n := 6) (Nat.le_of_ble_eq_true rfl)
  rw [lg_entry_eq]
  generalize (lg_sl ([.ref (a 0 0), .int v]) ++ List.replicate (6 - (lg_sl ([.ref (a 0 0), .int v])).length) Slot.unset).toArray = ls at hl ⊢
  have hl : lv_has ls 6 [(0, .ref (a 0 0)), (1, .int v)] := hl
  have k_0 : Cond.fieldLink RX4 26 RX4 (TX4 2).2.1 (TX4 2).2.2.1 ∈ wsX4_worst := by decide +kernel
  have i_X4 : ∀ w ∈ wsX40, w ∈ wsX4_worst := by decide +kernel
  have q_2 : Cond.fieldLinkNest RX4 103 RX2 (TX2 0).2.1 (TX2 0).2.2.1 RX4 ∈ xNs := by decide +kernel
  have i_X2 : ∀ w ∈ wsX20, w ∈ wsX4_worst := by decide +kernel
  have k_4 : Cond.fieldLink RX4 33 RX4 (TX4 3).2.1 (TX4 3).2.2.1 ∈ wsX4_worst := by decide +kernel
  have m_5 : (RX4, 136, yX1_isName) ∈ xMs := by decide +kernel
  have k_6 : Cond.initialized yX1_isName.cls ∈ wsX4_worst := by decide +kernel
  have k_7 : Cond.instanceMethod yX1_isName ∈ wsX4_worst := by decide +kernel
  have k_8 : Cond.selects RX1 yX1_isName yX1_isName ∈ wsX4_worst := by decide +kernel
  refine lv_iload_n C0.hx C0.hb dX4_worst_0 rfl (lv_at hl 1 rfl) ?_
  refine lv_iconst (v := nI 4) C0.hx C0.hb dX4_worst_1 (by decide) ?_
  refine x_Si (As := [.int v, .int (nI 4)]) (rest := []) C0 (mtX4_isBelow l g a σ v (nI 4)) (xP0 _) xDj0 (va_cwS 2 C0.hts gX4_worst_X4_isBelow rfl rfl rfl (by decide +kernel) ⟨Nat.le_of_ble_eq_true rfl, Nat.le_of_ble_eq_true rfl⟩) rfl hl rfl (Nat.le_of_ble_eq_true rfl) (Nat.le_of_ble_eq_true rfl) (Nat.le_of_ble_eq_true rfl) dX4_worst_2 ?_
  refine x_SX0 (As := [.int (bI (ibX v (nI 4)))]) (rest := []) C0 (mtX4_checkArgument l hfl g a σ (ibX v (nI 4))) hP hS hT hZ (va_cwS 1 C0.hts gX4_worst_X4_checkArgument rfl rfl rfl (by decide +kernel) ⟨Nat.le_of_ble_eq_true rfl, Nat.le_of_ble_eq_true rfl⟩) rfl hl rfl (Nat.le_of_ble_eq_true rfl) (Nat.le_of_ble_eq_true rfl) (Nat.le_of_ble_eq_true rfl) dX4_worst_5 (fun E ce q H1 locs1 hE hP hS hq hv hcl => x_out hex hlocks hP hS hq hv hcl (Or.inl hE) (Nat.le_of_ble_eq_true rfl) (Nat.le_of_ble_eq_true rfl)) (fun H locs hk_1 hP hS => ?_)
  obtain ⟨v, hv, rfl⟩ := ibX_nat (by decide) hk_1
  have ev : nv (nI v) = v := nv_nI (by omega)
  refine lv_iconst (v := -1) C0.hx C0.hb dX4_worst_8 (by decide) ?_
  refine lv_istore_n (lv' := [(2, .int (-1)), (0, .ref (a 0 0)), (1, .int (nI v))]) C0.hx C0.hb dX4_worst_9 rfl hl (by decide) rfl (fun ls hl => ?_)
  refine lv_iconst (v := nI 0) C0.hx C0.hb dX4_worst_10 (by decide) ?_
  refine lv_istore_n (lv' := [(3, .int (nI 0)), (2, .int (-1)), (0, .ref (a 0 0)), (1, .int (nI v))]) C0.hx C0.hb dX4_worst_11 rfl hl (by decide) rfl (fun ls hl => ?_)
  refine lv_iconst (v := nI 0) C0.hx C0.hb dX4_worst_12 (by decide) ?_
  refine lv_istore (lv' := [(4, .int (nI 0)), (3, .int (nI 0)), (2, .int (-1)), (0, .ref (a 0 0)), (1, .int (nI v))]) C0.hx C0.hb dX4_worst_13 hl (by decide) rfl (fun ls hl => ?_)
  refine x_loopR (α := Nat × Nat × Int32 × Nat) (fun u => u.1) (fun ⟨n, k, w, t⟩ ls => k + n = nv (σ 3 0 0) ∧ t ≤ 600000 ∧ woL σ v n k w t = woX σ v ∧ lv_has ls 6 [(0, .ref (a 0 0)), (1, .int (nI v)), (2, .int w), (3, .int (nI t)), (4, .int (nI k))]) ?_ ((nv (σ 3 0 0), 0, -1, 0)) ⟨(by omega), (by omega), rfl, (lv_sub hl [3, 4, 2, 1, 0] rfl)⟩
  rintro ⟨n, k, w, t⟩ ls ⟨hn, ht600, hG, hl⟩ ih15
  have hn60 := ok.n.2
  have hrt := rtX_le (nm := nI k) (v := v) ok
  refine lv_iload C0.hx C0.hb dX4_worst_15 (lv_at hl 4 rfl) ?_
  refine lv_aload_n C0.hx C0.hb dX4_worst_17 rfl (lv_at hl 0 rfl) ?_
  refine x_get C0 hP 0 (mX_n rfl) rfl rfl 2 (by decide) i_X4 k_0 rfl rfl dX4_worst_18 ?_
  refine x_getN C0 hP 3 (mX_n rfl) rfl rfl 0 (by decide) i_X2 q_2 rfl rfl dX4_worst_21 ?_
  obtain ⟨e_2, b_3⟩ := (ok.n : inR (σ 3 0 0) _)
  refine x_top e_2 ?_
  refine x_icmp_ge (tgt := 66) C0.hx C0.hb (by omega) (by omega) dX4_worst_24 (by decide) (fun c_4 => ?_) (fun c_4 => ?_)
  ·
    refine lv_iload_n C0.hx C0.hb dX4_worst_66 rfl (lv_at hl 2 rfl) ?_
    refine vx_ret ?_
    refine W.widen (k := 1) (n := 6) (Nat.le_of_ble_eq_true rfl) (Nat.le_of_ble_eq_true rfl) ?_
    exact W.iret (v := w) C0.hx C0.hb hr (fun t ht hW => ⟨⟨_, σ, rfl, ⟨⟨⟨hk_1, trivial⟩, (by rw [ev, ← hG, show n = 0 by omega]; rfl)⟩, rfl⟩, x_end ht hP⟩, hS.F ht⟩) hS.2.2 dX4_worst_67
  ·
    obtain ⟨n, rfl⟩ : ∃ z, n = z + 1 := ⟨n - 1, by omega⟩
    rw [woL] at hG
    refine lv_aload_n C0.hx C0.hb dX4_worst_27 rfl (lv_at hl 0 rfl) ?_
    refine x_get C0 hP 0 (mX_n rfl) rfl rfl 3 (by decide) i_X4 k_4 rfl rfl dX4_worst_28 ?_
    refine lv_iload C0.hx C0.hb dX4_worst_31 (lv_at hl 4 rfl) ?_
    refine x_VNi (As := [.int (nI k)]) (rest := []) C0 (mtX1_isName l g a σ k (by omega)) hP C0.2.2.2.1 (va_cnB 1 C0.hts gX4_worst_X1_isName_n136 rfl rfl rfl (C0.2.2.1.2 _ m_5) (C0.hts _ k_6) (by decide +kernel) ⟨Nat.le_of_ble_eq_true rfl, Nat.le_of_ble_eq_true rfl⟩) (C0.hts _ k_7) (C0.hts _ k_8) (x_recv C0 hP 4 (mX_n rfl) rfl rfl) rfl hl rfl (Nat.le_of_ble_eq_true rfl) (Nat.le_of_ble_eq_true rfl) (Nat.le_of_ble_eq_true rfl) dX4_worst_33 ?_
    refine x_join (α := Int32 × Nat) 60 (fun ⟨w2, t2⟩ H' locs' ls => (H' = H ∧ locs' = locs ∧ t2 ≤ 600000 ∧ woL σ v n (k + 1) w2 t2 = woX σ v) ∧ lv_has ls 6 [(0, .ref (a 0 0)), (1, .int (nI v)), (4, .int (nI k)), (2, .int w2), (3, .int (nI t2))]) (fun ⟨w2, t2⟩ => []) ?_ (fun J60 => ?_)
    · rintro ⟨w2, t2⟩ H locs ls ⟨⟨rfl, rfl, ht2, hR⟩, hl⟩
      refine lv_iinc (v := nI (k + 1)) (lv' := [(4, .int (nI (k + 1))), (0, .ref (a 0 0)), (1, .int (nI v)), (2, .int w2), (3, .int (nI t2))]) C0.hx C0.hb dX4_worst_60 hl (k := 2) rfl (nI_1 k) (by decide) rfl (fun ls hl => ?_)
      refine lv_goto (tgt := 15) C0.hx C0.hb dX4_worst_63 (by decide) ?_
      exact ih15 ((n, k + 1, w2, t2)) ls ⟨(by omega), ht2, hR, (lv_sub hl [1, 2, 3, 4, 0] rfl)⟩ (Nat.lt_succ_self _)
    ·
      refine x_ifeq (tgt := 60) C0.hx C0.hb dX4_worst_36 (by decide) (fun c_5 => ?_) (fun c_5 => ?_)
      ·
        exact J60 (w, t) _ _ ls ⟨⟨rfl, rfl, (by omega), (by rw [← hG, if_neg (by rintro ⟨z1, z2⟩; first | omega | exact absurd z1 (by simpa using c_5))])⟩, (lv_sub hl [0, 1, 4, 2, 3] rfl)⟩
      ·
        refine lv_aload_n C0.hx C0.hb dX4_worst_39 rfl (lv_at hl 0 rfl) ?_
        refine lv_iload C0.hx C0.hb dX4_worst_40 (lv_at hl 4 rfl) ?_
        refine lv_iload_n C0.hx C0.hb dX4_worst_42 rfl (lv_at hl 1 rfl) ?_
        refine x_Vi (As := [.int (nI k), .int (nI v)]) (rest := []) C0 (mtX4_rateOf l g a σ (nI k) v (by omega) ok) hP C0.2.2.2.1 (cwV 2 C0.hts gX4_worst_X4_rateOf rfl rfl rfl (by decide +kernel) ⟨Nat.le_of_ble_eq_true rfl, Nat.le_of_ble_eq_true rfl⟩) (x_recv C0 hP 0 (mX_n rfl) rfl rfl) rfl hl rfl (Nat.le_of_ble_eq_true rfl) (Nat.le_of_ble_eq_true rfl) (Nat.le_of_ble_eq_true rfl) dX4_worst_43 ?_
        refine lv_istore (lv' := [(5, .int (nI (rtX σ (nI k) v))), (0, .ref (a 0 0)), (1, .int (nI v)), (2, .int w), (3, .int (nI t)), (4, .int (nI k))]) C0.hx C0.hb dX4_worst_46 hl (by decide) rfl (fun ls hl => ?_)
        refine lv_iload C0.hx C0.hb dX4_worst_48 (lv_at hl 0 rfl) ?_
        refine lv_iload_n C0.hx C0.hb dX4_worst_50 rfl (lv_at hl 4 rfl) ?_
        refine x_icmp_le (tgt := 60) C0.hx C0.hb (by omega) (by omega) dX4_worst_51 (by decide) (fun c_6 => ?_) (fun c_6 => ?_)
        ·
          exact J60 (w, t) _ _ ls ⟨⟨rfl, rfl, (by omega), (by rw [← hG, if_neg (by rintro ⟨z1, z2⟩; first | omega | exact absurd z1 (by simpa using c_6))])⟩, (lv_sub hl [1, 2, 5, 3, 4] rfl)⟩
        ·
          refine lv_iload C0.hx C0.hb dX4_worst_54 (lv_at hl 5 rfl) ?_
          refine lv_istore_n (lv' := [(2, .int (nI k)), (5, .int (nI (rtX σ (nI k) v))), (0, .ref (a 0 0)), (1, .int (nI v)), (3, .int (nI t)), (4, .int (nI k))]) C0.hx C0.hb dX4_worst_56 rfl hl (by decide) rfl (fun ls hl => ?_)
          refine lv_iload C0.hx C0.hb dX4_worst_57 (lv_at hl 1 rfl) ?_
          refine lv_istore_n (lv' := [(3, .int (nI (rtX σ (nI k) v))), (2, .int (nI k)), (5, .int (nI (rtX σ (nI k) v))), (0, .ref (a 0 0)), (1, .int (nI v)), (4, .int (nI k))]) C0.hx C0.hb dX4_worst_59 rfl hl (by decide) rfl (fun ls hl => ?_)
          exact J60 ((nI k, rtX σ (nI k) v)) _ _ ls ⟨⟨rfl, rfl, (by omega), (by rw [← hG, if_pos ⟨by simpa using c_5, c_6⟩])⟩, (lv_sub hl [3, 4, 5, 1, 0] rfl)⟩

set_option maxHeartbeats 4000000 in
set_option maxRecDepth 100000 in
theorem mtX4_fix (l : Launch) (hfl : l.stackTraces = false) (g : xG) (a : xAd) (σ : xS) (r v : Int32) (ok : okX σ) : xMxi l yX4_fix wsX4_fix ({ frames := 7, cells := 2, slots := 12, locals := 103 }) 2 12 NLX g a σ [.ref (a 0 0), .int r, .int v] (chOk (fxC σ r v)) (σ 15 0 (nv r)) (fxS σ r v) (chEx (fxC σ r v)) := by
  intro sz
  refine vx_ofW (cc := cX4_fix) (maxL := 4) (ret := (some .int)) (by decide) rfl ?_
  intro p e s m args below meth c s₁ B hml hex hv
  obtain ⟨rfl, hsz, ⟨hP, hK, hN, hj⟩, hT, hZ⟩ := hv
  subst hsz
  have hr := B.returns
  have hlocks := B.notSynchronized
  have C0 : xC p s m _ c cX4_fix 4 wsX4_fix RX4 NLX g a (xA NLX a s.heap.size) := ⟨⟨B.exec, B.bytes, hml, findClass_of_methodNamed B.named, atoms_spec (ws := wsX4_fix) B.pre⟩, hK, hN, hj, fun n h => Or.inl ⟨n, h, rfl⟩, fun q h => Or.inr h⟩
  have hS : va_S (xA NLX a s.heap.size) s.heap s.heap [] := va_S.rf
  have hl := lv_entry ([.ref (a 0 0), .int r, .int v]) (n := 4) (Nat.le_of_ble_eq_true rfl)
  rw [lg_entry_eq]
  generalize (lg_sl ([.ref (a 0 0), .int r, .int v]) ++ List.replicate (4 - (lg_sl ([.ref (a 0 0), .int r, .int v])).length) Slot.unset).toArray = ls at hl ⊢
  have hl : lv_has ls 4 [(0, .ref (a 0 0)), (1, .int r), (2, .int v)] := hl
  have k_0 : Cond.fieldLink RX4 26 RX4 (TX4 2).2.1 (TX4 2).2.2.1 ∈ wsX4_fix := by decide +kernel
  have i_X4 : ∀ w ∈ wsX40, w ∈ wsX4_fix := by decide +kernel
  have q_2 : Cond.fieldLinkNest RX4 149 RX2 (TX2 4).2.1 (TX2 4).2.2.1 RX4 ∈ xNs := by decide +kernel
  have i_X2 : ∀ w ∈ wsX20, w ∈ wsX4_fix := by decide +kernel
  refine lv_aload_n C0.hx C0.hb dX4_fix_0 rfl (lv_at hl 0 rfl) ?_
  refine lv_iload_n C0.hx C0.hb dX4_fix_1 rfl (lv_at hl 1 rfl) ?_
  refine x_VXv (As := [.int r]) (rest := []) C0 (mtX4_checkReport l hfl g a σ r ok) hP hS hT hZ (cwV 1 C0.hts gX4_fix_X4_checkReport rfl rfl rfl (by decide +kernel) ⟨Nat.le_of_ble_eq_true rfl, Nat.le_of_ble_eq_true rfl⟩) (x_recv C0 hP 0 (mX_n rfl) rfl rfl) rfl hl rfl (Nat.le_of_ble_eq_true rfl) (Nat.le_of_ble_eq_true rfl) (Nat.le_of_ble_eq_true rfl) dX4_fix_2 (fun E ce q H1 locs1 hE hP hS hq hv hcl => x_out hex hlocks hP hS hq hv hcl (Or.inl hE) (Nat.le_of_ble_eq_true rfl) (Nat.le_of_ble_eq_true rfl)) (fun H locs hk_1 hP hS => ?_)
  obtain ⟨r, hr0, rfl⟩ := crX_nat ok hk_1
  have er : nv (nI r) = r := nv_nI (by omega)
  refine x_join (α := Bool) 23 (fun b H' locs' ls => (H' = H ∧ locs' = locs ∧ b = (decide (¬ v < nI 1) && ibX v (nI 4))) ∧ lv_has ls 4 [(0, .ref (a 0 0)), (1, .int (nI r)), (2, .int v)]) (fun b => [.int (bI b)]) ?_ (fun J23 => ?_)
  · rintro b H locs ls ⟨⟨rfl, rfl, hb23⟩, hl⟩
    subst hb23
    refine x_SX0 (As := [.int (bI (decide (¬ v < nI 1) && ibX v (nI 4)))]) (rest := []) C0 (mtX4_checkArgument l hfl g a σ (decide (¬ v < nI 1) && ibX v (nI 4))) hP hS hT hZ (va_cwS 1 C0.hts gX4_fix_X4_checkArgument rfl rfl rfl (by decide +kernel) ⟨Nat.le_of_ble_eq_true rfl, Nat.le_of_ble_eq_true rfl⟩) rfl hl rfl (Nat.le_of_ble_eq_true rfl) (Nat.le_of_ble_eq_true rfl) (Nat.le_of_ble_eq_true rfl) dX4_fix_23 (fun E ce q H1 locs1 hE hP hS hq hv hcl => x_out hex hlocks hP hS hq hv hcl (Or.inr ⟨hk_1, Or.inl hE⟩) (Nat.le_of_ble_eq_true rfl) (Nat.le_of_ble_eq_true rfl)) (fun H locs hk_2 hP hS => ?_)
    refine lv_aload_n C0.hx C0.hb dX4_fix_26 rfl (lv_at hl 0 rfl) ?_
    refine x_get C0 hP 0 (mX_n rfl) rfl rfl 2 (by decide) i_X4 k_0 rfl rfl dX4_fix_27 ?_
    refine x_getN C0 hP 3 (mX_n rfl) rfl rfl 4 (by decide) i_X2 q_2 rfl rfl dX4_fix_30 ?_
    refine lv_iload_n C0.hx C0.hb dX4_fix_33 rfl (lv_at hl 1 rfl) ?_
    refine x_iald C0 hP 15 r 60 (mX_n rfl) rfl (by omega) (by decide) dX4_fix_34 ?_
    refine lv_istore_n (lv' := [(3, .int (σ 15 0 r)), (0, .ref (a 0 0)), (1, .int (nI r)), (2, .int v)]) C0.hx C0.hb dX4_fix_35 rfl hl (by decide) rfl (fun ls hl => ?_)
    refine lv_aload_n C0.hx C0.hb dX4_fix_36 rfl (lv_at hl 1 rfl) ?_
    refine x_get C0 hP 0 (mX_n rfl) rfl rfl 2 (by decide) i_X4 k_0 rfl rfl dX4_fix_37 ?_
    refine x_getN C0 hP 3 (mX_n rfl) rfl rfl 4 (by decide) i_X2 q_2 rfl rfl dX4_fix_40 ?_
    refine lv_iload_n C0.hx C0.hb dX4_fix_43 rfl (lv_at hl 2 rfl) ?_
    refine lv_iload_n C0.hx C0.hb dX4_fix_44 rfl (lv_at hl 3 rfl) ?_
    refine x_iast C0 hP hS 15 r 60 (v := v) (mX_n rfl) (fun _ => rfl) (by omega) (by decide) dX4_fix_45 (fun H locs hP hS => ?_)
    refine lv_iload_n C0.hx C0.hb dX4_fix_46 rfl (lv_at hl 0 rfl) ?_
    refine vx_ret ?_
    refine W.widen (k := 2) (n := 12) (Nat.le_of_ble_eq_true rfl) (Nat.le_of_ble_eq_true rfl) ?_
    exact W.iret (v := σ 15 0 r) C0.hx C0.hb hr (fun t ht hW => ⟨⟨_, up3 σ 15 0 r v, rfl, ⟨⟨⟨hk_1, hk_2, trivial⟩, (by rw [er])⟩, (by unfold fxS; rw [er])⟩, x_end ht hP⟩, hS.F ht⟩) hS.2.2 dX4_fix_47
  ·
    refine lv_iload_n C0.hx C0.hb dX4_fix_5 rfl (lv_at hl 2 rfl) ?_
    refine lv_iconst (v := nI 1) C0.hx C0.hb dX4_fix_6 (by decide) ?_
    refine lv_icmp_lt (tgt := 22) C0.hx C0.hb dX4_fix_7 (by decide) (fun c_3 => ?_) (fun c_3 => ?_)
    ·
      refine lv_iconst (v := nI 0) C0.hx C0.hb dX4_fix_22 (by decide) ?_
      exact J23 false _ _ ls ⟨⟨rfl, rfl, (by simp [c_3])⟩, (lv_sub hl [0, 1, 2] rfl)⟩
    ·
      refine lv_iload_n C0.hx C0.hb dX4_fix_10 rfl (lv_at hl 2 rfl) ?_
      refine lv_iconst (v := nI 4) C0.hx C0.hb dX4_fix_11 (by decide) ?_
      refine x_Si (As := [.int v, .int (nI 4)]) (rest := []) C0 (mtX4_isBelow l g a σ v (nI 4)) (xP0 _) xDj0 (va_cwS 2 C0.hts gX4_fix_X4_isBelow rfl rfl rfl (by decide +kernel) ⟨Nat.le_of_ble_eq_true rfl, Nat.le_of_ble_eq_true rfl⟩) rfl hl rfl (Nat.le_of_ble_eq_true rfl) (Nat.le_of_ble_eq_true rfl) (Nat.le_of_ble_eq_true rfl) dX4_fix_12 ?_
      refine x_ifeq (tgt := 22) C0.hx C0.hb dX4_fix_15 (by decide) (fun c_4 => ?_) (fun c_4 => ?_)
      ·
        refine lv_iconst (v := nI 0) C0.hx C0.hb dX4_fix_22 (by decide) ?_
        exact J23 false _ _ ls ⟨⟨rfl, rfl, (by simp [c_4, c_3])⟩, (lv_sub hl [0, 1, 2] rfl)⟩
      ·
        refine lv_iconst (v := nI 1) C0.hx C0.hb dX4_fix_18 (by decide) ?_
        refine lv_goto (tgt := 23) C0.hx C0.hb dX4_fix_19 (by decide) ?_
        exact J23 true _ _ ls ⟨⟨rfl, rfl, (by simp [c_4, c_3])⟩, (lv_sub hl [0, 1, 2] rfl)⟩

set_option maxHeartbeats 4000000 in
set_option maxRecDepth 100000 in
theorem mtX4_holds (l : Launch) (hfl : l.stackTraces = false) (g : xG) (a : xAd) (σ : xS) (r : Int32) (ok : okX σ) : xMxi l yX4_holds wsX4_holds ({ frames := 7, cells := 2, slots := 12, locals := 103 }) 2 12 NLX g a σ [.ref (a 0 0), .int r] (chOk (hoC σ r)) (bI (hoX σ (nv r))) σ (chEx (hoC σ r)) := by
  intro sz
  refine vx_ofW (cc := cX4_holds) (maxL := 6) (ret := (some .boolean)) (by decide) rfl ?_
  intro p e s m args below meth c s₁ B hml hex hv
  obtain ⟨rfl, hsz, ⟨hP, hK, hN, hj⟩, hT, hZ⟩ := hv
  subst hsz
  have hr := B.returns
  have hlocks := B.notSynchronized
  have C0 : xC p s m _ c cX4_holds 6 wsX4_holds RX4 NLX g a (xA NLX a s.heap.size) := ⟨⟨B.exec, B.bytes, hml, findClass_of_methodNamed B.named, atoms_spec (ws := wsX4_holds) B.pre⟩, hK, hN, hj, fun n h => Or.inl ⟨n, h, rfl⟩, fun q h => Or.inr h⟩
  have hS : va_S (xA NLX a s.heap.size) s.heap s.heap [] := va_S.rf
  have hl := lv_entry ([.ref (a 0 0), .int r]) (n := 6) (Nat.le_of_ble_eq_true rfl)
  rw [lg_entry_eq]
  generalize (lg_sl ([.ref (a 0 0), .int r]) ++ List.replicate (6 - (lg_sl ([.ref (a 0 0), .int r])).length) Slot.unset).toArray = ls at hl ⊢
  have hl : lv_has ls 6 [(0, .ref (a 0 0)), (1, .int r)] := hl
  have k_0 : Cond.fieldLink RX4 26 RX4 (TX4 2).2.1 (TX4 2).2.2.1 ∈ wsX4_holds := by decide +kernel
  have i_X4 : ∀ w ∈ wsX40, w ∈ wsX4_holds := by decide +kernel
  have q_2 : Cond.fieldLinkNest RX4 149 RX2 (TX2 4).2.1 (TX2 4).2.2.1 RX4 ∈ xNs := by decide +kernel
  have i_X2 : ∀ w ∈ wsX20, w ∈ wsX4_holds := by decide +kernel
  have k_4 : Cond.fieldLink RX4 33 RX4 (TX4 3).2.1 (TX4 3).2.2.1 ∈ wsX4_holds := by decide +kernel
  have q_5 : Cond.fieldLinkNest RX4 133 RX1 (TX1 3).2.1 (TX1 3).2.2.1 RX4 ∈ xNs := by decide +kernel
  have i_X1 : ∀ w ∈ wsX10, w ∈ wsX4_holds := by decide +kernel
  have k_7 : Cond.fieldLink RX4 37 RX4 (TX4 4).2.1 (TX4 4).2.2.1 ∈ wsX4_holds := by decide +kernel
  have k_8 : Cond.classLink RX4 57 eIS ∈ wsX4_holds := by decide +kernel
  have k_9 : Cond.initialized eIS ∈ wsX4_holds := by decide +kernel
  have t_eIS : ∀ w ∈ (vx_atS RX4 61 eIS xNm).filter goodWord, w ∈ wsX4_holds := fun w h => List.mem_cons_of_mem _ (List.mem_append_left _ (List.mem_append_right _ h))
  refine lv_aload_n C0.hx C0.hb dX4_holds_0 rfl (lv_at hl 0 rfl) ?_
  refine lv_iload_n C0.hx C0.hb dX4_holds_1 rfl (lv_at hl 1 rfl) ?_
  refine x_VXv (As := [.int r]) (rest := []) C0 (mtX4_checkReport l hfl g a σ r ok) hP hS hT hZ (cwV 1 C0.hts gX4_holds_X4_checkReport rfl rfl rfl (by decide +kernel) ⟨Nat.le_of_ble_eq_true rfl, Nat.le_of_ble_eq_true rfl⟩) (x_recv C0 hP 0 (mX_n rfl) rfl rfl) rfl hl rfl (Nat.le_of_ble_eq_true rfl) (Nat.le_of_ble_eq_true rfl) (Nat.le_of_ble_eq_true rfl) dX4_holds_2 (fun E ce q H1 locs1 hE hP hS hq hv hcl => x_out hex hlocks hP hS hq hv hcl (Or.inl hE) (Nat.le_of_ble_eq_true rfl) (Nat.le_of_ble_eq_true rfl)) (fun H locs hk_1 hP hS => ?_)
  obtain ⟨r, hr0, rfl⟩ := crX_nat ok hk_1
  have er : nv (nI r) = r := nv_nI (by omega)
  refine lv_aload_n C0.hx C0.hb dX4_holds_5 rfl (lv_at hl 0 rfl) ?_
  refine x_get C0 hP 0 (mX_n rfl) rfl rfl 2 (by decide) i_X4 k_0 rfl rfl dX4_holds_6 ?_
  refine x_getN C0 hP 3 (mX_n rfl) rfl rfl 4 (by decide) i_X2 q_2 rfl rfl dX4_holds_9 ?_
  refine lv_iload_n C0.hx C0.hb dX4_holds_12 rfl (lv_at hl 1 rfl) ?_
  refine x_iald C0 hP 15 r 60 (mX_n rfl) rfl (by omega) (by decide) dX4_holds_13 ?_
  refine lv_istore_n (lv' := [(2, .int (σ 15 0 r)), (0, .ref (a 0 0)), (1, .int (nI r))]) C0.hx C0.hb dX4_holds_14 rfl hl (by decide) rfl (fun ls hl => ?_)
  refine lv_iload_n C0.hx C0.hb dX4_holds_15 rfl (lv_at hl 0 rfl) ?_
  refine lv_iconst (v := -1) C0.hx C0.hb dX4_holds_16 (by decide) ?_
  refine lv_icmp_ne (tgt := 30) C0.hx C0.hb dX4_holds_17 (by decide) (fun c_2 => ?_) (fun c_2 => ?_)
  ·
    obtain ⟨ef, bf⟩ := (ok.fix (r := r) (by omega)).resolve_left c_2
    have hfx := c_2
    have hgr := grX_le (nm := σ 19 0 r) ok (nv (σ 15 0 r))
    refine lv_aload_n C0.hx C0.hb dX4_holds_30 rfl (lv_at hl 1 rfl) ?_
    refine x_get C0 hP 0 (mX_n rfl) rfl rfl 3 (by decide) i_X4 k_4 rfl rfl dX4_holds_31 ?_
    refine x_getN C0 hP 4 (mX_n rfl) rfl rfl 3 (by decide) i_X1 q_5 rfl rfl dX4_holds_34 ?_
    refine lv_iload_n C0.hx C0.hb dX4_holds_37 rfl (lv_at hl 2 rfl) ?_
    refine x_iald C0 hP 19 r 60 (mX_n rfl) rfl (by omega) (by decide) dX4_holds_38 ?_
    refine lv_istore_n (lv' := [(3, .int (σ 19 0 r)), (2, .int (σ 15 0 r)), (0, .ref (a 0 0)), (1, .int (nI r))]) C0.hx C0.hb dX4_holds_39 rfl hl (by decide) rfl (fun ls hl => ?_)
    refine lv_aload_n C0.hx C0.hb dX4_holds_40 rfl (lv_at hl 2 rfl) ?_
    refine lv_iload_n C0.hx C0.hb dX4_holds_41 rfl (lv_at hl 0 rfl) ?_
    refine lv_iload_n C0.hx C0.hb dX4_holds_42 rfl (lv_at hl 1 rfl) ?_
    refine x_top ef ?_
    refine x_Vi (As := [.int (σ 19 0 r), .int (nI (nv (σ 15 0 r)))]) (rest := []) C0 (mtX4_greatestRateBefore l g a σ (σ 19 0 r) (nv (σ 15 0 r)) (by omega) ok) hP C0.2.2.2.1 (cwV 2 C0.hts gX4_holds_X4_greatestRateBefore rfl rfl rfl (by decide +kernel) ⟨Nat.le_of_ble_eq_true rfl, Nat.le_of_ble_eq_true rfl⟩) (x_recv C0 hP 0 (mX_n rfl) rfl rfl) rfl hl rfl (Nat.le_of_ble_eq_true rfl) (Nat.le_of_ble_eq_true rfl) (Nat.le_of_ble_eq_true rfl) dX4_holds_43 ?_
    refine lv_istore (lv' := [(4, .int (nI (grX σ (σ 19 0 r) (nv (σ 15 0 r))))), (3, .int (σ 19 0 r)), (2, .int (σ 15 0 r)), (0, .ref (a 0 0)), (1, .int (nI r))]) C0.hx C0.hb dX4_holds_46 hl (by decide) rfl (fun ls hl => ?_)
    refine lv_iload_n C0.hx C0.hb dX4_holds_48 rfl (lv_at hl 2 rfl) ?_
    refine x_top ef ?_
    refine lv_istore (lv' := [(5, .int (nI (nv (σ 15 0 r)))), (4, .int (nI (grX σ (σ 19 0 r) (nv (σ 15 0 r))))), (3, .int (σ 19 0 r)), (2, .int (σ 15 0 r)), (0, .ref (a 0 0)), (1, .int (nI r))]) C0.hx C0.hb dX4_holds_49 hl (by decide) rfl (fun ls hl => ?_)
    refine x_loopR (α := Nat × Nat) (fun u => u.1) (fun ⟨n, k⟩ ls => k + n = 4 ∧ hoL σ (σ 19 0 r) (grX σ (σ 19 0 r) (nv (σ 15 0 r))) n k = hoX σ r ∧ lv_has ls 6 [(0, .ref (a 0 0)), (1, .int (nI r)), (2, .int (σ 15 0 r)), (3, .int (σ 19 0 r)), (4, .int (nI (grX σ (σ 19 0 r) (nv (σ 15 0 r))))), (5, .int (nI k))]) ?_ ((4 - nv (σ 15 0 r), nv (σ 15 0 r))) ⟨(by omega), rfl, (lv_sub hl [4, 5, 3, 2, 1, 0] rfl)⟩
    rintro ⟨n, k⟩ ls ⟨hn, hG, hl⟩ ih51
    have hrt := rtX_le (nm := σ 19 0 r) (v := k) ok
    refine lv_iload C0.hx C0.hb dX4_holds_51 (lv_at hl 5 rfl) ?_
    refine lv_iconst (v := nI 4) C0.hx C0.hb dX4_holds_53 (by decide) ?_
    refine x_icmp_ge (tgt := 89) C0.hx C0.hb (by omega) (by omega) dX4_holds_54 (by decide) (fun c_3 => ?_) (fun c_3 => ?_)
    ·
      refine lv_iconst (v := nI 1) C0.hx C0.hb dX4_holds_89 (by decide) ?_
      refine vx_ret ?_
      refine W.widen (k := 2) (n := 12) (Nat.le_of_ble_eq_true rfl) (Nat.le_of_ble_eq_true rfl) ?_
      exact W.zret (v := nI 1) C0.hx C0.hb hr rfl (fun t ht hW => ⟨⟨_, σ, rfl, ⟨⟨⟨hk_1, by rw [er]; simp [hfx], trivial⟩, (by rw [er, ← hG, show n = 0 by omega]; rfl)⟩, rfl⟩, x_end ht hP⟩, hS.F ht⟩) hS.2.2 dX4_holds_90
    ·
      obtain ⟨n, rfl⟩ : ∃ z, n = z + 1 := ⟨n - 1, by omega⟩
      rw [hoL] at hG
      refine lv_aload_n C0.hx C0.hb dX4_holds_57 rfl (lv_at hl 0 rfl) ?_
      refine x_get C0 hP 0 (mX_n rfl) rfl rfl 4 (by decide) i_X4 k_7 rfl rfl dX4_holds_58 ?_
      refine lv_iload C0.hx C0.hb dX4_holds_61 (lv_at hl 5 rfl) ?_
      refine x_iald C0 hP 5 k 4 (mX_n rfl) rfl (by omega) (by decide) dX4_holds_63 ?_
      obtain ⟨e_4, b_5⟩ := (ok.ses (by omega) : inR (σ 5 0 k) _)
      refine x_top e_4 ?_
      refine x_join (α := Unit) 83 (fun _ H' locs' ls => (H' = H ∧ locs' = locs ∧ ¬ (¬ nv (σ 5 0 k) = 0 ∧ ¬ 2 * rtX σ (σ 19 0 r) k ≤ grX σ (σ 19 0 r) (nv (σ 15 0 r)))) ∧ lv_has ls 6 [(0, .ref (a 0 0)), (1, .int (nI r)), (2, .int (σ 15 0 r)), (3, .int (σ 19 0 r)), (4, .int (nI (grX σ (σ 19 0 r) (nv (σ 15 0 r))))), (5, .int (nI k))]) (fun _ => []) ?_ (fun J83 => ?_)
      · rintro _ H locs ls ⟨⟨rfl, rfl, hno⟩, hl⟩
        refine lv_iinc (v := nI (k + 1)) (lv' := [(5, .int (nI (k + 1))), (0, .ref (a 0 0)), (1, .int (nI r)), (2, .int (σ 15 0 r)), (3, .int (σ 19 0 r)), (4, .int (nI (grX σ (σ 19 0 r) (nv (σ 15 0 r)))))]) C0.hx C0.hb dX4_holds_83 hl (k := 5) rfl (nI_1 k) (by decide) rfl (fun ls hl => ?_)
        refine lv_goto (tgt := 51) C0.hx C0.hb dX4_holds_86 (by decide) ?_
        exact ih51 ((n, k + 1)) ls ⟨(by omega), (by rw [← hG, if_neg hno]), (lv_sub hl [1, 2, 3, 4, 5, 0] rfl)⟩ (Nat.lt_succ_self _)
      ·
        refine x_ifle (tgt := 83) C0.hx C0.hb (by omega) dX4_holds_64 (by decide) (fun c_6 => ?_) (fun c_6 => ?_)
        ·
          exact J83 () _ _ ls ⟨⟨rfl, rfl, (by omega)⟩, (lv_sub hl [0, 1, 2, 3, 4, 5] rfl)⟩
        ·
          refine lv_iconst (v := nI 2) C0.hx C0.hb dX4_holds_67 (by decide) ?_
          refine lv_aload_n C0.hx C0.hb dX4_holds_68 rfl (lv_at hl 0 rfl) ?_
          refine lv_iload_n C0.hx C0.hb dX4_holds_69 rfl (lv_at hl 3 rfl) ?_
          refine lv_iload C0.hx C0.hb dX4_holds_70 (lv_at hl 5 rfl) ?_
          refine x_Vi (As := [.int (σ 19 0 r), .int (nI k)]) (rest := [.int (nI 2)]) C0 (mtX4_rateOf l g a σ (σ 19 0 r) k (by omega) ok) hP C0.2.2.2.1 (cwV 2 C0.hts gX4_holds_X4_rateOf rfl rfl rfl (by decide +kernel) ⟨Nat.le_of_ble_eq_true rfl, Nat.le_of_ble_eq_true rfl⟩) (x_recv C0 hP 0 (mX_n rfl) rfl rfl) rfl hl rfl (Nat.le_of_ble_eq_true rfl) (Nat.le_of_ble_eq_true rfl) (Nat.le_of_ble_eq_true rfl) dX4_holds_72 ?_
          refine lv_imul C0.hx C0.hb dX4_holds_75 ?_
          refine x_top (pk_mul 2 (rtX σ (σ 19 0 r) k)) ?_
          refine lv_iload C0.hx C0.hb dX4_holds_76 (lv_at hl 4 rfl) ?_
          refine x_icmp_le (tgt := 83) C0.hx C0.hb (by omega) (by omega) dX4_holds_78 (by decide) (fun c_7 => ?_) (fun c_7 => ?_)
          ·
            exact J83 () _ _ ls ⟨⟨rfl, rfl, (by omega)⟩, (lv_sub hl [0, 1, 2, 3, 4, 5] rfl)⟩
          ·
            refine lv_iconst (v := nI 0) C0.hx C0.hb dX4_holds_81 (by decide) ?_
            refine vx_ret ?_
            refine W.widen (k := 2) (n := 12) (Nat.le_of_ble_eq_true rfl) (Nat.le_of_ble_eq_true rfl) ?_
            exact W.zret (v := nI 0) C0.hx C0.hb hr rfl (fun t ht hW => ⟨⟨_, σ, rfl, ⟨⟨⟨hk_1, by rw [er]; simp [hfx], trivial⟩, (by rw [er, ← hG, if_pos ⟨by omega, by omega⟩]; rfl)⟩, rfl⟩, x_end ht hP⟩, hS.F ht⟩) hS.2.2 dX4_holds_82
  ·
    exact x_throw C0 hfl hex hlocks hP hS hT hZ hl (cls := eIS) (is := 152) (ic := 61) (text := "the report has no fix") (by decide +kernel) k_8 k_9 (by decide +kernel) t_eIS (tw_eIS).1 (tw_eIS).2 dX4_holds_20 dX4_holds_23 dX4_holds_24 dX4_holds_26 dX4_holds_29 (Nat.le_of_ble_eq_true rfl) (Nat.le_of_ble_eq_true rfl) (Nat.le_of_ble_eq_true rfl) (Nat.le_of_ble_eq_true rfl) (Or.inr ⟨hk_1, Or.inl ⟨by rw [er]; simp [c_2], rfl⟩⟩) (Nat.le_of_ble_eq_true rfl) (Nat.le_of_ble_eq_true rfl)

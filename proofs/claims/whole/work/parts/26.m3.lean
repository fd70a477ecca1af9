set_option maxHeartbeats 4000000 in
set_option maxRecDepth 100000 in
theorem mtX5_gate (l : Launch) (g : xG) (a : xAd) (σ : xS) (v : Int32) (ok : okM σ) (ac : acM σ) : xMw l yX5_gate wsX5_gate ({ frames := 3, cells := 0, slots := 0, locals := 71 }) NLM g a σ [.ref (a 30 0), .int v] (gaMV σ v) (gaMS σ v) := by
  intro sz
  refine Met.ofW (cc := cX5_gate) (maxL := 6) (ret := (some .int)) (by decide) rfl ?_
  intro p e s m args below meth c s₁ B hml hv
  obtain ⟨rfl, hsz, hP, hK, hN, hj⟩ := hv
  subst hsz
  have hr := B.returns
  have hlocks := B.notSynchronized
  have C0 : xC p s m _ c cX5_gate 6 wsX5_gate RX5 NLM g a (xA NLM a s.heap.size) := ⟨⟨B.exec, B.bytes, hml, findClass_of_methodNamed B.named, atoms_spec (ws := wsX5_gate) B.pre⟩, hK, hN, hj, fun n h => Or.inl ⟨n, h, rfl⟩, fun q h => Or.inr h⟩
  have hS : va_S (xA NLM a s.heap.size) s.heap s.heap [] := va_S.rf
  have hl := lv_entry ([.ref (a 30 0), .int v]) (n := 6) (Nat.le_of_ble_eq_true rfl)
  rw [lg_entry_eq]
  generalize (lg_sl ([.ref (a 30 0), .int v]) ++ List.replicate (6 - (lg_sl ([.ref (a 30 0), .int v])).length) Slot.unset).toArray = ls at hl ⊢
  have hl : lv_has ls 6 [(0, .ref (a 30 0)), (1, .int v)] := hl
  have k_0 : Cond.fieldLink RX5 60 RX5 (TX5 0).2.1 (TX5 0).2.2.1 ∈ wsX5_gate := by decide +kernel
  have i_X5 : ∀ w ∈ wsX50, w ∈ wsX5_gate := by decide +kernel
  have k_2 : Cond.fieldLink RX5 67 RX5 (TX5 8).2.1 (TX5 8).2.2.1 ∈ wsX5_gate := by decide +kernel
  have k_3 : Cond.fieldLink RX5 51 RX5 (TX5 15).2.1 (TX5 15).2.2.1 ∈ wsX5_gate := by decide +kernel
  have k_4 : Cond.fieldLink RX5 48 RX5 (TX5 14).2.1 (TX5 14).2.2.1 ∈ wsX5_gate := by decide +kernel
  have k_5 : Cond.fieldLink RX5 45 RX5 (TX5 13).2.1 (TX5 13).2.2.1 ∈ wsX5_gate := by decide +kernel
  refine lv_aload_n C0.hx C0.hb dX5_gate_0 rfl (lv_at hl 0 rfl) ?_
  refine lv_iconst (v := nI 0) C0.hx C0.hb dX5_gate_1 (by decide) ?_
  refine x_put C0 hP hS 30 (mM_n rfl rfl) rfl rfl tyX5 tyX5_ok nmX5 0 (by decide) i_X5 k_0 rfl rfl 0 rfl (Nat.le_of_ble_eq_true rfl) rfl dX5_gate_2 (fun H locs hP hS => ?_)
  have hP : va_P g.1 vwCl (xw NLM g a (m0 σ)) H := hP
  have okm : okM (m0 σ) := m0_ok ok
  refine lv_iload_n C0.hx C0.hb dX5_gate_5 rfl (lv_at hl 1 rfl) ?_
  refine x_Si (As := [.int v]) (rest := []) C0 (mtX5_isVersion l g a (m0 σ) v) (xP0 _) xDj0 (va_cwS 1 C0.hts gX5_gate_X5_isVersion rfl rfl rfl (by decide +kernel) ⟨Nat.le_of_ble_eq_true rfl, Nat.le_of_ble_eq_true rfl⟩) rfl hl rfl (Nat.le_of_ble_eq_true rfl) (Nat.zero_le _) (Nat.zero_le _) dX5_gate_6 ?_
  refine x_ifne (tgt := 18) C0.hx C0.hb dX5_gate_9 (by decide) (fun c_1 => ?_) (fun c_1 => ?_)
  ·
    have hv9 := c_1
    have hv0 := c_1
    obtain ⟨v, hv, rfl⟩ := inX_nat (by decide) c_1
    have ev : nv (nI v) = v := nv_nI (by omega)
    refine lv_aload_n C0.hx C0.hb dX5_gate_18 rfl (lv_at hl 0 rfl) ?_
    refine x_Vv (As := []) (rest := []) C0 (mtX5_names l g a (m0 σ) okm (m0_ac ac)) hP hS (cwV 0 C0.hts gX5_gate_X5_names rfl rfl rfl (by decide +kernel) ⟨Nat.le_of_ble_eq_true rfl, Nat.le_of_ble_eq_true rfl⟩) (x_recv C0 hP 30 (mM_n rfl rfl) rfl rfl) rfl hl rfl (Nat.le_of_ble_eq_true rfl) (Nat.zero_le _) (Nat.zero_le _) dX5_gate_19 (fun H locs hP hS => ?_)
    obtain ⟨υ, hυ⟩ : ∃ z : xS, z = nm0 σ := ⟨_, rfl⟩
    have hP : va_P g.1 vwCl (xw NLM g a υ) H := by rw [hυ]; exact hP
    have oku : okM υ := by rw [hυ]; exact nm0_ok ok
    refine lv_iconst (v := nI 0) C0.hx C0.hb dX5_gate_22 (by decide) ?_
    refine lv_istore_n (lv' := [(2, .int (nI 0)), (0, .ref (a 30 0)), (1, .int (nI v))]) C0.hx C0.hb dX5_gate_23 rfl hl (by decide) rfl (fun ls hl => ?_)
    refine x_join (α := Bool) 40 (fun b40 H' locs' ls => (H' = H ∧ locs' = locs ∧ b40 = (decide (nv (υ 41 0 v) < 50))) ∧ lv_has ls 6 [(0, .ref (a 30 0)), (1, .int (nI v)), (2, .int (nI 0))]) (fun b40 => [.int (bI b40)]) ?_ (fun J40 => ?_)
    · rintro b40 H locs ls ⟨⟨rfl, rfl, hb40⟩, hl⟩
      subst hb40
      refine lv_istore_n (lv' := [(3, .int (bI (decide (nv (υ 41 0 v) < 50)))), (0, .ref (a 30 0)), (1, .int (nI v)), (2, .int (nI 0))]) C0.hx C0.hb dX5_gate_40 rfl hl (by decide) rfl (fun ls hl => ?_)
      refine lv_iconst (v := nI 0) C0.hx C0.hb dX5_gate_41 (by decide) ?_
      refine lv_istore (lv' := [(4, .int (nI 0)), (3, .int (bI (decide (nv (υ 41 0 v) < 50)))), (0, .ref (a 30 0)), (1, .int (nI v)), (2, .int (nI 0))]) C0.hx C0.hb dX5_gate_42 hl (by decide) rfl (fun ls hl => ?_)
      refine x_loopW (α := Nat × Nat × Bool × Bool × xS) (fun u => u.1) (fun ⟨n, k, h, b, τ⟩ H locs ls => va_P g.1 vwCl (xw NLM g a τ) H ∧ va_S (xA NLM a s.heap.size) s.heap H locs ∧ k + n = nv (υ 30 0 2) ∧ okM τ ∧ nv (τ 30 0 2) = nv (υ 30 0 2) ∧ nv (τ 41 0 v) = nv (υ 41 0 v) ∧ gmL v n k h b τ = gmX υ v ∧ lv_has ls 6 [(0, .ref (a 30 0)), (1, .int (nI v)), (2, .int (bI h)), (3, .int (bI b)), (4, .int (nI k))]) ?_ ((nv (υ 30 0 2), 0, false, decide (nv (υ 41 0 v) < 50), υ)) ⟨hP, hS, (by omega), oku, rfl, rfl, rfl, (lv_sub hl [2, 3, 4, 1, 0] rfl)⟩
      rintro ⟨n, k, h, b, τ⟩ H locs ls ⟨hP, hS, hn, ok1, hN1, hN2, hG, hl⟩ ih44
      have hn60 := oku.n.2
      refine lv_iload C0.hx C0.hb dX5_gate_44 (lv_at hl 4 rfl) ?_
      refine lv_aload_n C0.hx C0.hb dX5_gate_46 rfl (lv_at hl 0 rfl) ?_
      refine x_get C0 hP 30 (mM_n rfl rfl) rfl rfl 8 (by decide) i_X5 k_2 rfl rfl dX5_gate_47 ?_
      obtain ⟨e_2, b_3⟩ := (ok1.n : inR (τ 30 0 2) _)
      refine x_top e_2 ?_
      refine x_icmp_ge (tgt := 142) C0.hx C0.hb (by omega) (by omega) dX5_gate_50 (by decide) (fun c_4 => ?_) (fun c_4 => ?_)
      ·
        have hE : ((h, b), τ) = gmX υ v := by rw [← hG, show n = 0 by omega]; rfl
        refine x_join (α := Int32) 159 (fun z H' locs' ls => (H' = H ∧ locs' = locs ∧ z = gmV ((h, b), τ)) ∧ lv_has ls 6 [(0, .ref (a 30 0)), (1, .int (nI v)), (2, .int (bI h)), (3, .int (bI b)), (4, .int (nI k))]) (fun z => [.int z]) ?_ (fun J159 => ?_)
        · rintro z H locs ls ⟨⟨rfl, rfl, hz⟩, hl⟩
          exact W.iret (v := z) C0.hx C0.hb hr (fun t ht hW => ⟨⟨_, τ, rfl, ⟨(by unfold gaMV; rw [if_pos hv9, ev, ← hυ, ← hE, hz]), (by unfold gaMS; rw [if_pos hv9, ev, ← hυ, ← hE])⟩, x_end ht hP⟩, hS.F ht⟩) hS.2.2 dX5_gate_159
        ·
          refine lv_iload_n C0.hx C0.hb dX5_gate_142 rfl (lv_at hl 2 rfl) ?_
          refine x_ifeq (tgt := 150) C0.hx C0.hb dX5_gate_143 (by decide) (fun c_5 => ?_) (fun c_5 => ?_)
          ·
            refine lv_iload_n C0.hx C0.hb dX5_gate_150 rfl (lv_at hl 3 rfl) ?_
            refine x_ifeq (tgt := 158) C0.hx C0.hb dX5_gate_151 (by decide) (fun c_6 => ?_) (fun c_6 => ?_)
            ·
              refine lv_iconst (v := nI 0) C0.hx C0.hb dX5_gate_158 (by decide) ?_
              exact J159 (nI 0) _ _ ls ⟨⟨rfl, rfl, (by unfold gmV; simp [c_6, c_5])⟩, (lv_sub hl [0, 1, 2, 3, 4] rfl)⟩
            ·
              refine lv_iconst (v := nI 1) C0.hx C0.hb dX5_gate_154 (by decide) ?_
              refine lv_goto (tgt := 159) C0.hx C0.hb dX5_gate_155 (by decide) ?_
              exact J159 (nI 1) _ _ ls ⟨⟨rfl, rfl, (by unfold gmV; simp [c_6, c_5])⟩, (lv_sub hl [0, 1, 2, 3, 4] rfl)⟩
          ·
            refine lv_iconst (v := nI 2) C0.hx C0.hb dX5_gate_146 (by decide) ?_
            refine lv_goto (tgt := 159) C0.hx C0.hb dX5_gate_147 (by decide) ?_
            exact J159 (nI 2) _ _ ls ⟨⟨rfl, rfl, (by unfold gmV; simp [c_5])⟩, (lv_sub hl [0, 1, 2, 3, 4] rfl)⟩
      ·
        obtain ⟨n, rfl⟩ : ∃ z, n = z + 1 := ⟨n - 1, by omega⟩
        rw [gmL] at hG
        refine lv_aload_n C0.hx C0.hb dX5_gate_53 rfl (lv_at hl 0 rfl) ?_
        refine x_get C0 hP 30 (mM_n rfl rfl) rfl rfl 15 (by decide) i_X5 k_3 rfl rfl dX5_gate_54 ?_
        refine lv_iload C0.hx C0.hb dX5_gate_57 (lv_at hl 4 rfl) ?_
        refine x_iald C0 hP 42 k 60 (mM_n rfl rfl) rfl (by omega) (by decide) dX5_gate_59 ?_
        refine lv_iload C0.hx C0.hb dX5_gate_60 (lv_at hl 4 rfl) ?_
        refine x_join (α := Bool × Bool × xS) 136 (fun ⟨h3, b3, τ3⟩ H' locs' ls => (va_P g.1 vwCl (xw NLM g a τ3) H' ∧ va_S (xA NLM a s.heap.size) s.heap H' locs' ∧ okM τ3 ∧ nv (τ3 30 0 2) = nv (υ 30 0 2) ∧ nv (τ3 41 0 v) = nv (υ 41 0 v) ∧ gmL v n (k + 1) h3 b3 τ3 = gmX υ v) ∧ lv_has ls 6 [(0, .ref (a 30 0)), (1, .int (nI v)), (4, .int (nI k)), (2, .int (bI h3)), (3, .int (bI b3))]) (fun ⟨h3, b3, τ3⟩ => []) ?_ (fun J136 => ?_)
        · rintro ⟨h3, b3, τ3⟩ H locs ls ⟨⟨hP, hS, ok3, hN3, hN4, hR⟩, hl⟩
          refine lv_iinc (v := nI (k + 1)) (lv' := [(4, .int (nI (k + 1))), (0, .ref (a 30 0)), (1, .int (nI v)), (2, .int (bI h3)), (3, .int (bI b3))]) C0.hx C0.hb dX5_gate_136 hl (k := 2) rfl (nI_1 k) (by decide) rfl (fun ls hl => ?_)
          refine lv_goto (tgt := 44) C0.hx C0.hb dX5_gate_139 (by decide) ?_
          exact ih44 ((n, k + 1, h3, b3, τ3)) H locs ls ⟨hP, hS, (by omega), ok3, hN3, hN4, hR, (lv_sub hl [1, 2, 3, 4, 0] rfl)⟩ (Nat.lt_succ_self _)
        ·
          refine lv_icmp_ne (tgt := 136) C0.hx C0.hb dX5_gate_62 (by decide) (fun c_7 => ?_) (fun c_7 => ?_)
          ·
            exact J136 (h, b, τ) _ _ ls ⟨⟨hP, hS, ok1, hN1, hN2, (by rw [← hG, if_neg c_7])⟩, (lv_sub hl [0, 1, 4, 2, 3] rfl)⟩
          ·
            rw [if_pos c_7] at hG
            refine lv_aload_n C0.hx C0.hb dX5_gate_65 rfl (lv_at hl 0 rfl) ?_
            refine lv_iload C0.hx C0.hb dX5_gate_66 (lv_at hl 4 rfl) ?_
            refine lv_iload_n C0.hx C0.hb dX5_gate_68 rfl (lv_at hl 1 rfl) ?_
            refine x_Vi (As := [.int (nI k), .int (nI v)]) (rest := []) C0 (mtX5_rateOf l g a τ (nI k) v (by omega) ok1) hP C0.2.2.2.1 (cwV 2 C0.hts gX5_gate_X5_rateOf rfl rfl rfl (by decide +kernel) ⟨Nat.le_of_ble_eq_true rfl, Nat.le_of_ble_eq_true rfl⟩) (x_recv C0 hP 30 (mM_n rfl rfl) rfl rfl) rfl hl rfl (Nat.le_of_ble_eq_true rfl) (Nat.zero_le _) (Nat.zero_le _) dX5_gate_69 ?_
            have hrt := rtM_le (nm := nI k) (v := v) ok1
            refine lv_istore (lv' := [(5, .int (nI (rtM τ (nI k) v))), (0, .ref (a 30 0)), (1, .int (nI v)), (2, .int (bI h)), (3, .int (bI b)), (4, .int (nI k))]) C0.hx C0.hb dX5_gate_72 hl (by decide) rfl (fun ls hl => ?_)
            refine x_join (α := Bool × xS) 114 (fun ⟨h2, τ2⟩ H' locs' ls => (va_P g.1 vwCl (xw NLM g a τ2) H' ∧ va_S (xA NLM a s.heap.size) s.heap H' locs' ∧ okM τ2 ∧ nv (τ2 30 0 2) = nv (υ 30 0 2) ∧ nv (τ2 41 0 v) = nv (υ 41 0 v) ∧ τ2 30 0 3 = τ 30 0 3 ∧ gmL v n (k + 1) h2 (b || decide (¬ nI (2 * rtM τ (nI k) v) < τ 30 0 3)) τ2 = gmX υ v) ∧ lv_has ls 6 [(0, .ref (a 30 0)), (1, .int (nI v)), (2, .int (bI h)), (3, .int (bI b)), (4, .int (nI k)), (5, .int (nI (rtM τ (nI k) v)))]) (fun ⟨h2, τ2⟩ => [.int (bI h2)]) ?_ (fun J114 => ?_)
            · rintro ⟨h2, τ2⟩ H locs ls ⟨⟨hP, hS, ok2, hN5, hN6, hL, hR⟩, hl⟩
              refine lv_istore_n (lv' := [(2, .int (bI h2)), (0, .ref (a 30 0)), (1, .int (nI v)), (3, .int (bI b)), (4, .int (nI k)), (5, .int (nI (rtM τ (nI k) v)))]) C0.hx C0.hb dX5_gate_114 rfl hl (by decide) rfl (fun ls hl => ?_)
              refine x_join (α := Bool) 135 (fun b2 H' locs' ls => (H' = H ∧ locs' = locs ∧ b2 = (b || decide (¬ nI (2 * rtM τ (nI k) v) < τ 30 0 3))) ∧ lv_has ls 6 [(0, .ref (a 30 0)), (1, .int (nI v)), (2, .int (bI h2)), (3, .int (bI b)), (4, .int (nI k)), (5, .int (nI (rtM τ (nI k) v)))]) (fun b2 => [.int (bI b2)]) ?_ (fun J135 => ?_)
              · rintro b2 H locs ls ⟨⟨rfl, rfl, hb2⟩, hl⟩
                subst hb2
                refine lv_istore_n (lv' := [(3, .int (bI ((b || decide (¬ nI (2 * rtM τ (nI k) v) < τ 30 0 3))))), (0, .ref (a 30 0)), (1, .int (nI v)), (2, .int (bI h2)), (4, .int (nI k)), (5, .int (nI (rtM τ (nI k) v)))]) C0.hx C0.hb dX5_gate_135 rfl hl (by decide) rfl (fun ls hl => ?_)
                exact J136 ((h2, (b || decide (¬ nI (2 * rtM τ (nI k) v) < τ 30 0 3)), τ2)) _ _ ls ⟨⟨hP, hS, ok2, hN5, hN6, hR⟩, (lv_sub hl [1, 2, 4, 3, 0] rfl)⟩
              ·
                refine lv_iload_n C0.hx C0.hb dX5_gate_115 rfl (lv_at hl 3 rfl) ?_
                refine x_ifne (tgt := 130) C0.hx C0.hb dX5_gate_116 (by decide) (fun c_8 => ?_) (fun c_8 => ?_)
                ·
                  refine lv_iconst (v := nI 1) C0.hx C0.hb dX5_gate_130 (by decide) ?_
                  refine lv_goto (tgt := 135) C0.hx C0.hb dX5_gate_131 (by decide) ?_
                  exact J135 true _ _ ls ⟨⟨rfl, rfl, (by (try rw [hL] at c_8); simp [c_8])⟩, (lv_sub hl [1, 2, 0, 3, 4, 5] rfl)⟩
                ·
                  refine lv_iconst (v := nI 2) C0.hx C0.hb dX5_gate_119 (by decide) ?_
                  refine lv_iload C0.hx C0.hb dX5_gate_120 (lv_at hl 5 rfl) ?_
                  refine lv_imul C0.hx C0.hb dX5_gate_122 ?_
                  refine x_top (pk_mul 2 (rtM τ (nI k) v)) ?_
                  refine lv_aload_n C0.hx C0.hb dX5_gate_123 rfl (lv_at hl 1 rfl) ?_
                  refine x_get C0 hP 30 (mM_n rfl rfl) rfl rfl 14 (by decide) i_X5 k_4 rfl rfl dX5_gate_124 ?_
                  refine lv_icmp_lt (tgt := 134) C0.hx C0.hb dX5_gate_127 (by decide) (fun c_9 => ?_) (fun c_9 => ?_)
                  ·
                    refine lv_iconst (v := nI 0) C0.hx C0.hb dX5_gate_134 (by decide) ?_
                    exact J135 false _ _ ls ⟨⟨rfl, rfl, (by (try rw [hL] at c_9); simp [c_9, c_8])⟩, (lv_sub hl [1, 2, 0, 3, 4, 5] rfl)⟩
                  ·
                    refine lv_iconst (v := nI 1) C0.hx C0.hb dX5_gate_130 (by decide) ?_
                    refine lv_goto (tgt := 135) C0.hx C0.hb dX5_gate_131 (by decide) ?_
                    exact J135 true _ _ ls ⟨⟨rfl, rfl, (by (try rw [hL] at c_9); simp [c_9, c_8])⟩, (lv_sub hl [1, 2, 0, 3, 4, 5] rfl)⟩
            ·
              refine lv_iload_n C0.hx C0.hb dX5_gate_74 rfl (lv_at hl 3 rfl) ?_
              refine x_ifne (tgt := 109) C0.hx C0.hb dX5_gate_75 (by decide) (fun c_10 => ?_) (fun c_10 => ?_)
              ·
                refine lv_iconst (v := nI 1) C0.hx C0.hb dX5_gate_109 (by decide) ?_
                refine lv_goto (tgt := 114) C0.hx C0.hb dX5_gate_110 (by decide) ?_
                exact J114 (true, τ) _ _ ls ⟨⟨hP, hS, ok1, hN1, hN2, rfl, (by rw [← hG, if_pos c_10])⟩, (lv_sub hl [1, 2, 3, 4, 5, 0] rfl)⟩
              ·
                refine lv_aload_n C0.hx C0.hb dX5_gate_78 rfl (lv_at hl 1 rfl) ?_
                refine x_get C0 hP 30 (mM_n rfl rfl) rfl rfl 13 (by decide) i_X5 k_5 rfl rfl dX5_gate_79 ?_
                refine lv_iload_n C0.hx C0.hb dX5_gate_82 rfl (lv_at hl 2 rfl) ?_
                refine x_iald C0 hP 41 v 4 (mM_n rfl rfl) rfl (by omega) (by decide) dX5_gate_83 ?_
                obtain ⟨e_11, b_12⟩ := (ok1.ses (by omega) : inR (τ 41 0 v) _)
                refine x_top e_11 ?_
                refine lv_bipush (v := nI 50) C0.hx C0.hb dX5_gate_84 (by decide) ?_
                refine x_icmp_lt (tgt := 113) C0.hx C0.hb (by omega) (by omega) dX5_gate_86 (by decide) (fun c_13 => ?_) (fun c_13 => ?_)
                ·
                  refine lv_iconst (v := nI 0) C0.hx C0.hb dX5_gate_113 (by decide) ?_
                  exact J114 (false, τ) _ _ ls ⟨⟨hP, hS, ok1, hN1, hN2, rfl, (by rw [← hG, if_neg (by rw [c_10]; decide), if_neg (by rintro ⟨z1, z2⟩; first | omega | exact z2 c_13)]; (try rw [c_10]))⟩, (lv_sub hl [1, 2, 3, 4, 5, 0] rfl)⟩
                ·
                  refine lv_iload C0.hx C0.hb dX5_gate_89 (lv_at hl 0 rfl) ?_
                  refine lv_aload_n C0.hx C0.hb dX5_gate_91 rfl (lv_at hl 1 rfl) ?_
                  refine x_get C0 hP 30 (mM_n rfl rfl) rfl rfl 14 (by decide) i_X5 k_4 rfl rfl dX5_gate_92 ?_
                  refine lv_icmp_lt (tgt := 113) C0.hx C0.hb dX5_gate_95 (by decide) (fun c_14 => ?_) (fun c_14 => ?_)
                  ·
                    refine lv_iconst (v := nI 0) C0.hx C0.hb dX5_gate_113 (by decide) ?_
                    exact J114 (false, τ) _ _ ls ⟨⟨hP, hS, ok1, hN1, hN2, rfl, (by rw [← hG, if_neg (by rw [c_10]; decide), if_neg (by rintro ⟨z1, z2⟩; first | omega | exact z2 c_14)]; (try rw [c_10]))⟩, (lv_sub hl [1, 2, 3, 4, 5, 0] rfl)⟩
                  ·
                    refine lv_aload_n C0.hx C0.hb dX5_gate_98 rfl (lv_at hl 1 rfl) ?_
                    refine lv_iload C0.hx C0.hb dX5_gate_99 (lv_at hl 5 rfl) ?_
                    refine lv_iload_n C0.hx C0.hb dX5_gate_101 rfl (lv_at hl 2 rfl) ?_
                    refine x_Vw (As := [.int (nI k), .int (nI v)]) (rest := []) C0 (mtX5_usersOf l g a τ (nI k) v (by omega) ok1) hP hS (cwV 2 C0.hts gX5_gate_X5_usersOf rfl rfl rfl (by decide +kernel) ⟨Nat.le_of_ble_eq_true rfl, Nat.le_of_ble_eq_true rfl⟩) (x_recv C0 hP 30 (mM_n rfl rfl) rfl rfl) rfl hl rfl (Nat.le_of_ble_eq_true rfl) (Nat.zero_le _) (Nat.zero_le _) dX5_gate_102 (fun H locs hP hS => ?_)
                    have hN7 : nv ((umX τ (nI k) v).2 30 0 2) = nv (υ 30 0 2) := (congrArg nv (umX_ne (by decide))).trans hN1
                    have hN8 : nv ((umX τ (nI k) v).2 41 0 v) = nv (υ 41 0 v) := (congrArg nv (umX_ne (by decide))).trans hN2
                    have hL7 : (umX τ (nI k) v).2 30 0 3 = τ 30 0 3 := umX_ne (by decide)
                    have huc := umX_le (nm := nI k) (v := v) ok1
                    refine lv_iconst (v := nI 1) C0.hx C0.hb dX5_gate_105 (by decide) ?_
                    refine x_icmp_le (tgt := 113) C0.hx C0.hb (by omega) (by omega) dX5_gate_106 (by decide) (fun c_15 => ?_) (fun c_15 => ?_)
                    ·
                      refine lv_iconst (v := nI 0) C0.hx C0.hb dX5_gate_113 (by decide) ?_
                      exact J114 ((false, (umX τ (nI k) v).2)) _ _ ls ⟨⟨hP, hS, (umX_ok ok1), hN7, hN8, hL7, (by rw [← hG, if_neg (by rw [c_10]; decide), if_pos ⟨by omega, c_14⟩]; rw [show decide (1 < (umX τ (nI k) v).1) = false by simpa using c_15])⟩, (lv_sub hl [1, 2, 3, 4, 5, 0] rfl)⟩
                    ·
                      refine lv_iconst (v := nI 1) C0.hx C0.hb dX5_gate_109 (by decide) ?_
                      refine lv_goto (tgt := 114) C0.hx C0.hb dX5_gate_110 (by decide) ?_
                      exact J114 ((true, (umX τ (nI k) v).2)) _ _ ls ⟨⟨hP, hS, (umX_ok ok1), hN7, hN8, hL7, (by rw [← hG, if_neg (by rw [c_10]; decide), if_pos ⟨by omega, c_14⟩]; rw [show decide (1 < (umX τ (nI k) v).1) = true by simpa using c_15])⟩, (lv_sub hl [1, 2, 3, 4, 5, 0] rfl)⟩
    ·
      refine lv_aload_n C0.hx C0.hb dX5_gate_24 rfl (lv_at hl 1 rfl) ?_
      refine x_get C0 hP 30 (mM_n rfl rfl) rfl rfl 13 (by decide) i_X5 k_5 rfl rfl dX5_gate_25 ?_
      refine lv_iload_n C0.hx C0.hb dX5_gate_28 rfl (lv_at hl 2 rfl) ?_
      refine x_iald C0 hP 41 v 4 (mM_n rfl rfl) rfl (by omega) (by decide) dX5_gate_29 ?_
      obtain ⟨e_16, b_17⟩ := (oku.ses (by omega) : inR (υ 41 0 v) _)
      refine x_top e_16 ?_
      refine lv_bipush (v := nI 50) C0.hx C0.hb dX5_gate_30 (by decide) ?_
      refine x_icmp_ge (tgt := 39) C0.hx C0.hb (by omega) (by omega) dX5_gate_32 (by decide) (fun c_18 => ?_) (fun c_18 => ?_)
      ·
        refine lv_iconst (v := nI 0) C0.hx C0.hb dX5_gate_39 (by decide) ?_
        exact J40 false _ _ ls ⟨⟨rfl, rfl, (by simp only [true_eq_decide_iff, false_eq_decide_iff]; omega)⟩, (lv_sub hl [1, 2, 0] rfl)⟩
      ·
        refine lv_iconst (v := nI 1) C0.hx C0.hb dX5_gate_35 (by decide) ?_
        refine lv_goto (tgt := 40) C0.hx C0.hb dX5_gate_36 (by decide) ?_
        exact J40 true _ _ ls ⟨⟨rfl, rfl, (by simp only [true_eq_decide_iff, false_eq_decide_iff]; omega)⟩, (lv_sub hl [1, 2, 0] rfl)⟩
  ·
    refine lv_aload_n C0.hx C0.hb dX5_gate_12 rfl (lv_at hl 0 rfl) ?_
    refine lv_iconst (v := nI 1) C0.hx C0.hb dX5_gate_13 (by decide) ?_
    refine x_Vw (As := [.int (nI 1)]) (rest := []) C0 (mtX5_fails l g a (m0 σ) 1) hP hS (cwV 1 C0.hts gX5_gate_X5_fails rfl rfl rfl (by decide +kernel) ⟨Nat.le_of_ble_eq_true rfl, Nat.le_of_ble_eq_true rfl⟩) (x_recv C0 hP 30 (mM_n rfl rfl) rfl rfl) rfl hl rfl (Nat.le_of_ble_eq_true rfl) (Nat.zero_le _) (Nat.zero_le _) dX5_gate_14 (fun H locs hP hS => ?_)
    exact W.iret (v := nI 0) C0.hx C0.hb hr (fun t ht hW => ⟨⟨_, up3 (m0 σ) 30 0 0 (nI 1), rfl, ⟨(by unfold gaMV; rw [if_neg (by rw [c_1]; decide)]), (by unfold gaMS; rw [if_neg (by rw [c_1]; decide)]; rfl)⟩, x_end ht hP⟩, hS.F ht⟩) hS.2.2 dX5_gate_17

set_option maxHeartbeats 4000000 in
set_option maxRecDepth 100000 in
theorem mtX5_worst (l : Launch) (g : xG) (a : xAd) (σ : xS) (v : Int32) (ok : okM σ) (ac : acM σ) : xMw l yX5_worst wsX5_worst ({ frames := 3, cells := 0, slots := 0, locals := 71 }) NLM g a σ [.ref (a 30 0), .int v] (woMV σ v) (woMS σ v) := by
  intro sz
  refine Met.ofW (cc := cX5_worst) (maxL := 6) (ret := (some .int)) (by decide) rfl ?_
  intro p e s m args below meth c s₁ B hml hv
  obtain ⟨rfl, hsz, hP, hK, hN, hj⟩ := hv
  subst hsz
  have hr := B.returns
  have hlocks := B.notSynchronized
  have C0 : xC p s m _ c cX5_worst 6 wsX5_worst RX5 NLM g a (xA NLM a s.heap.size) := ⟨⟨B.exec, B.bytes, hml, findClass_of_methodNamed B.named, atoms_spec (ws := wsX5_worst) B.pre⟩, hK, hN, hj, fun n h => Or.inl ⟨n, h, rfl⟩, fun q h => Or.inr h⟩
  have hS : va_S (xA NLM a s.heap.size) s.heap s.heap [] := va_S.rf
  have hl := lv_entry ([.ref (a 30 0), .int v]) (n := 6) (Nat.le_of_ble_eq_true rfl)
  rw [lg_entry_eq]
  generalize (lg_sl ([.ref (a 30 0), .int v]) ++ List.replicate (6 - (lg_sl ([.ref (a 30 0), .int v])).length) Slot.unset).toArray = ls at hl ⊢
  have hl : lv_has ls 6 [(0, .ref (a 30 0)), (1, .int v)] := hl
  have k_0 : Cond.fieldLink RX5 60 RX5 (TX5 0).2.1 (TX5 0).2.2.1 ∈ wsX5_worst := by decide +kernel
  have i_X5 : ∀ w ∈ wsX50, w ∈ wsX5_worst := by decide +kernel
  have k_2 : Cond.fieldLink RX5 67 RX5 (TX5 8).2.1 (TX5 8).2.2.1 ∈ wsX5_worst := by decide +kernel
  have k_3 : Cond.fieldLink RX5 51 RX5 (TX5 15).2.1 (TX5 15).2.2.1 ∈ wsX5_worst := by decide +kernel
  refine lv_aload_n C0.hx C0.hb dX5_worst_0 rfl (lv_at hl 0 rfl) ?_
  refine lv_iconst (v := nI 0) C0.hx C0.hb dX5_worst_1 (by decide) ?_
  refine x_put C0 hP hS 30 (mM_n rfl rfl) rfl rfl tyX5 tyX5_ok nmX5 0 (by decide) i_X5 k_0 rfl rfl 0 rfl (Nat.le_of_ble_eq_true rfl) rfl dX5_worst_2 (fun H locs hP hS => ?_)
  have hP : va_P g.1 vwCl (xw NLM g a (m0 σ)) H := hP
  have okm : okM (m0 σ) := m0_ok ok
  refine lv_iload_n C0.hx C0.hb dX5_worst_5 rfl (lv_at hl 1 rfl) ?_
  refine x_Si (As := [.int v]) (rest := []) C0 (mtX5_isVersion l g a (m0 σ) v) (xP0 _) xDj0 (va_cwS 1 C0.hts gX5_worst_X5_isVersion rfl rfl rfl (by decide +kernel) ⟨Nat.le_of_ble_eq_true rfl, Nat.le_of_ble_eq_true rfl⟩) rfl hl rfl (Nat.le_of_ble_eq_true rfl) (Nat.zero_le _) (Nat.zero_le _) dX5_worst_6 ?_
  refine x_ifne (tgt := 18) C0.hx C0.hb dX5_worst_9 (by decide) (fun c_1 => ?_) (fun c_1 => ?_)
  ·
    have hv9 := c_1
    have hv0 := c_1
    obtain ⟨v, hv, rfl⟩ := inX_nat (by decide) c_1
    have ev : nv (nI v) = v := nv_nI (by omega)
    refine lv_aload_n C0.hx C0.hb dX5_worst_18 rfl (lv_at hl 0 rfl) ?_
    refine x_Vv (As := []) (rest := []) C0 (mtX5_names l g a (m0 σ) okm (m0_ac ac)) hP hS (cwV 0 C0.hts gX5_worst_X5_names rfl rfl rfl (by decide +kernel) ⟨Nat.le_of_ble_eq_true rfl, Nat.le_of_ble_eq_true rfl⟩) (x_recv C0 hP 30 (mM_n rfl rfl) rfl rfl) rfl hl rfl (Nat.le_of_ble_eq_true rfl) (Nat.zero_le _) (Nat.zero_le _) dX5_worst_19 (fun H locs hP hS => ?_)
    obtain ⟨υ, hυ⟩ : ∃ z : xS, z = nm0 σ := ⟨_, rfl⟩
    have hP : va_P g.1 vwCl (xw NLM g a υ) H := by rw [hυ]; exact hP
    have oku : okM υ := by rw [hυ]; exact nm0_ok ok
    refine lv_iconst (v := -1) C0.hx C0.hb dX5_worst_22 (by decide) ?_
    refine lv_istore_n (lv' := [(2, .int (-1)), (0, .ref (a 30 0)), (1, .int (nI v))]) C0.hx C0.hb dX5_worst_23 rfl hl (by decide) rfl (fun ls hl => ?_)
    refine lv_iconst (v := nI 0) C0.hx C0.hb dX5_worst_24 (by decide) ?_
    refine lv_istore_n (lv' := [(3, .int (nI 0)), (2, .int (-1)), (0, .ref (a 30 0)), (1, .int (nI v))]) C0.hx C0.hb dX5_worst_25 rfl hl (by decide) rfl (fun ls hl => ?_)
    refine lv_iconst (v := nI 0) C0.hx C0.hb dX5_worst_26 (by decide) ?_
    refine lv_istore (lv' := [(4, .int (nI 0)), (3, .int (nI 0)), (2, .int (-1)), (0, .ref (a 30 0)), (1, .int (nI v))]) C0.hx C0.hb dX5_worst_27 hl (by decide) rfl (fun ls hl => ?_)
    refine x_loopR (α := Nat × Nat × Int32 × Nat) (fun u => u.1) (fun ⟨n, k, w, t⟩ ls => k + n = nv (υ 30 0 2) ∧ t ≤ 600000 ∧ wmL υ v n k w t = wmX υ v ∧ lv_has ls 6 [(0, .ref (a 30 0)), (1, .int (nI v)), (2, .int w), (3, .int (nI t)), (4, .int (nI k))]) ?_ ((nv (υ 30 0 2), 0, -1, 0)) ⟨(by omega), (by omega), rfl, (lv_sub hl [3, 4, 2, 1, 0] rfl)⟩
    rintro ⟨n, k, w, t⟩ ls ⟨hn, ht6, hG, hl⟩ ih29
    have hn60 := oku.n.2
    have hrt := rtM_le (nm := nI k) (v := v) oku
    refine lv_iload C0.hx C0.hb dX5_worst_29 (lv_at hl 4 rfl) ?_
    refine lv_aload_n C0.hx C0.hb dX5_worst_31 rfl (lv_at hl 0 rfl) ?_
    refine x_get C0 hP 30 (mM_n rfl rfl) rfl rfl 8 (by decide) i_X5 k_2 rfl rfl dX5_worst_32 ?_
    obtain ⟨e_2, b_3⟩ := (oku.n : inR (υ 30 0 2) _)
    refine x_top e_2 ?_
    refine x_icmp_ge (tgt := 95) C0.hx C0.hb (by omega) (by omega) dX5_worst_35 (by decide) (fun c_4 => ?_) (fun c_4 => ?_)
    ·
      have hE : w = wmX υ v := by rw [← hG, show n = 0 by omega]; rfl
      refine lv_iload_n C0.hx C0.hb dX5_worst_95 rfl (lv_at hl 2 rfl) ?_
      exact W.iret (v := w) C0.hx C0.hb hr (fun t ht hW => ⟨⟨_, υ, rfl, ⟨(by unfold woMV; rw [if_pos hv9, ev, ← hυ, ← hE]), (by unfold woMS; rw [if_pos hv9, ← hυ])⟩, x_end ht hP⟩, hS.F ht⟩) hS.2.2 dX5_worst_96
    ·
      obtain ⟨n, rfl⟩ : ∃ z, n = z + 1 := ⟨n - 1, by omega⟩
      rw [wmL] at hG
      refine lv_aload_n C0.hx C0.hb dX5_worst_38 rfl (lv_at hl 0 rfl) ?_
      refine x_get C0 hP 30 (mM_n rfl rfl) rfl rfl 15 (by decide) i_X5 k_3 rfl rfl dX5_worst_39 ?_
      refine lv_iload C0.hx C0.hb dX5_worst_42 (lv_at hl 4 rfl) ?_
      refine x_iald C0 hP 42 k 60 (mM_n rfl rfl) rfl (by omega) (by decide) dX5_worst_44 ?_
      refine lv_iload C0.hx C0.hb dX5_worst_45 (lv_at hl 4 rfl) ?_
      refine x_join (α := Nat) 61 (fun z H' locs' ls => (H' = H ∧ locs' = locs ∧ z = (if υ 42 0 k = nI k then rtM υ (nI k) v else 0) ∧ z ≤ 600000) ∧ lv_has ls 6 [(0, .ref (a 30 0)), (1, .int (nI v)), (2, .int w), (3, .int (nI t)), (4, .int (nI k))]) (fun z => [.int (nI z)]) ?_ (fun J61 => ?_)
      · rintro z H locs ls ⟨⟨rfl, rfl, hz, hz6⟩, hl⟩
        refine lv_istore (lv' := [(5, .int (nI z)), (0, .ref (a 30 0)), (1, .int (nI v)), (2, .int w), (3, .int (nI t)), (4, .int (nI k))]) C0.hx C0.hb dX5_worst_61 hl (by decide) rfl (fun ls hl => ?_)
        refine x_join (α := Int32) 75 (fun w2 H' locs' ls => (H' = H ∧ locs' = locs ∧ w2 = (if t < z then nI k else w)) ∧ lv_has ls 6 [(0, .ref (a 30 0)), (1, .int (nI v)), (2, .int w), (3, .int (nI t)), (4, .int (nI k)), (5, .int (nI z))]) (fun w2 => [.int w2]) ?_ (fun J75 => ?_)
        · rintro w2 H locs ls ⟨⟨rfl, rfl, hw2⟩, hl⟩
          subst hw2
          refine lv_istore_n (lv' := [(2, .int (if t < z then nI k else w)), (0, .ref (a 30 0)), (1, .int (nI v)), (3, .int (nI t)), (4, .int (nI k)), (5, .int (nI z))]) C0.hx C0.hb dX5_worst_75 rfl hl (by decide) rfl (fun ls hl => ?_)
          refine x_join (α := Nat) 88 (fun t2 H' locs' ls => (H' = H ∧ locs' = locs ∧ t2 = (if t < z then z else t)) ∧ lv_has ls 6 [(0, .ref (a 30 0)), (1, .int (nI v)), (2, .int (if t < z then nI k else w)), (3, .int (nI t)), (4, .int (nI k)), (5, .int (nI z))]) (fun t2 => [.int (nI t2)]) ?_ (fun J88 => ?_)
          · rintro t2 H locs ls ⟨⟨rfl, rfl, ht2⟩, hl⟩
            subst ht2
            have hR : wmL υ v n (k + 1) (if t < z then nI k else w) (if t < z then z else t) = wmX υ v := by rw [← hG, hz]; exact wm_step
            refine lv_istore_n (lv' := [(3, .int (nI (if t < z then z else t))), (0, .ref (a 30 0)), (1, .int (nI v)), (2, .int (if t < z then nI k else w)), (4, .int (nI k)), (5, .int (nI z))]) C0.hx C0.hb dX5_worst_88 rfl hl (by decide) rfl (fun ls hl => ?_)
            refine lv_iinc (v := nI (k + 1)) (lv' := [(4, .int (nI (k + 1))), (3, .int (nI (if t < z then z else t))), (0, .ref (a 30 0)), (1, .int (nI v)), (2, .int (if t < z then nI k else w)), (5, .int (nI z))]) C0.hx C0.hb dX5_worst_89 hl (k := 4) rfl (nI_1 k) (by decide) rfl (fun ls hl => ?_)
            refine lv_goto (tgt := 29) C0.hx C0.hb dX5_worst_92 (by decide) ?_
            exact ih29 ((n, k + 1, if t < z then nI k else w, if t < z then z else t)) ls ⟨(by omega), (by split <;> omega), hR, (lv_sub hl [2, 3, 4, 1, 0] rfl)⟩ (Nat.lt_succ_self _)
          ·
            refine lv_iload C0.hx C0.hb dX5_worst_76 (lv_at hl 5 rfl) ?_
            refine lv_iload_n C0.hx C0.hb dX5_worst_78 rfl (lv_at hl 3 rfl) ?_
            refine x_icmp_le (tgt := 87) C0.hx C0.hb (by omega) (by omega) dX5_worst_79 (by decide) (fun c_5 => ?_) (fun c_5 => ?_)
            ·
              refine lv_iload_n C0.hx C0.hb dX5_worst_87 rfl (lv_at hl 3 rfl) ?_
              exact J88 t _ _ ls ⟨⟨rfl, rfl, (by rw [if_neg (by omega)])⟩, (lv_sub hl [1, 2, 0, 3, 4, 5] rfl)⟩
            ·
              refine lv_iload C0.hx C0.hb dX5_worst_82 (lv_at hl 5 rfl) ?_
              refine lv_goto (tgt := 88) C0.hx C0.hb dX5_worst_84 (by decide) ?_
              exact J88 z _ _ ls ⟨⟨rfl, rfl, (by rw [if_pos c_5])⟩, (lv_sub hl [1, 2, 0, 3, 4, 5] rfl)⟩
        ·
          refine lv_iload C0.hx C0.hb dX5_worst_63 (lv_at hl 0 rfl) ?_
          refine lv_iload_n C0.hx C0.hb dX5_worst_65 rfl (lv_at hl 4 rfl) ?_
          refine x_icmp_le (tgt := 74) C0.hx C0.hb (by omega) (by omega) dX5_worst_66 (by decide) (fun c_6 => ?_) (fun c_6 => ?_)
          ·
            refine lv_iload_n C0.hx C0.hb dX5_worst_74 rfl (lv_at hl 3 rfl) ?_
            exact J75 w _ _ ls ⟨⟨rfl, rfl, (by rw [if_neg (by omega)])⟩, (lv_sub hl [1, 2, 3, 4, 5, 0] rfl)⟩
          ·
            refine lv_iload C0.hx C0.hb dX5_worst_69 (lv_at hl 5 rfl) ?_
            refine lv_goto (tgt := 75) C0.hx C0.hb dX5_worst_71 (by decide) ?_
            exact J75 (nI k) _ _ ls ⟨⟨rfl, rfl, (by rw [if_pos c_6])⟩, (lv_sub hl [1, 2, 3, 4, 5, 0] rfl)⟩
      ·
        refine lv_icmp_ne (tgt := 60) C0.hx C0.hb dX5_worst_47 (by decide) (fun c_7 => ?_) (fun c_7 => ?_)
        ·
          refine lv_iconst (v := nI 0) C0.hx C0.hb dX5_worst_60 (by decide) ?_
          exact J61 0 _ _ ls ⟨⟨rfl, rfl, (by simp [c_7]), (by omega)⟩, (lv_sub hl [0, 1, 2, 3, 4] rfl)⟩
        ·
          refine lv_aload_n C0.hx C0.hb dX5_worst_50 rfl (lv_at hl 0 rfl) ?_
          refine lv_iload C0.hx C0.hb dX5_worst_51 (lv_at hl 4 rfl) ?_
          refine lv_iload_n C0.hx C0.hb dX5_worst_53 rfl (lv_at hl 1 rfl) ?_
          refine x_Vi (As := [.int (nI k), .int (nI v)]) (rest := []) C0 (mtX5_rateOf l g a υ (nI k) v (by omega) oku) hP C0.2.2.2.1 (cwV 2 C0.hts gX5_worst_X5_rateOf rfl rfl rfl (by decide +kernel) ⟨Nat.le_of_ble_eq_true rfl, Nat.le_of_ble_eq_true rfl⟩) (x_recv C0 hP 30 (mM_n rfl rfl) rfl rfl) rfl hl rfl (Nat.le_of_ble_eq_true rfl) (Nat.zero_le _) (Nat.zero_le _) dX5_worst_54 ?_
          refine lv_goto (tgt := 61) C0.hx C0.hb dX5_worst_57 (by decide) ?_
          exact J61 (rtM υ (nI k) v) _ _ ls ⟨⟨rfl, rfl, (by simp [c_7]), (by omega)⟩, (lv_sub hl [0, 1, 2, 3, 4] rfl)⟩
  ·
    refine lv_aload_n C0.hx C0.hb dX5_worst_12 rfl (lv_at hl 0 rfl) ?_
    refine lv_iconst (v := nI 1) C0.hx C0.hb dX5_worst_13 (by decide) ?_
    refine x_Vw (As := [.int (nI 1)]) (rest := []) C0 (mtX5_fails l g a (m0 σ) 1) hP hS (cwV 1 C0.hts gX5_worst_X5_fails rfl rfl rfl (by decide +kernel) ⟨Nat.le_of_ble_eq_true rfl, Nat.le_of_ble_eq_true rfl⟩) (x_recv C0 hP 30 (mM_n rfl rfl) rfl rfl) rfl hl rfl (Nat.le_of_ble_eq_true rfl) (Nat.zero_le _) (Nat.zero_le _) dX5_worst_14 (fun H locs hP hS => ?_)
    exact W.iret (v := nI 0) C0.hx C0.hb hr (fun t ht hW => ⟨⟨_, up3 (m0 σ) 30 0 0 (nI 1), rfl, ⟨(by unfold woMV; rw [if_neg (by rw [c_1]; decide)]), (by unfold woMS; rw [if_neg (by rw [c_1]; decide)]; rfl)⟩, x_end ht hP⟩, hS.F ht⟩) hS.2.2 dX5_worst_17

set_option maxHeartbeats 4000000 in
set_option maxRecDepth 100000 in
theorem mtX5_holds (l : Launch) (g : xG) (a : xAd) (σ : xS) (r : Int32) (ok : okM σ) (ac : acM σ) : xMw l yX5_holds wsX5_holds ({ frames := 3, cells := 0, slots := 0, locals := 71 }) NLM g a σ [.ref (a 30 0), .int r] (bI (hoMV σ r)) (hoMS σ r) := by
  intro sz
  refine Met.ofW (cc := cX5_holds) (maxL := 6) (ret := (some .boolean)) (by decide) rfl ?_
  intro p e s m args below meth c s₁ B hml hv
  obtain ⟨rfl, hsz, hP, hK, hN, hj⟩ := hv
  subst hsz
  have hr := B.returns
  have hlocks := B.notSynchronized
  have C0 : xC p s m _ c cX5_holds 6 wsX5_holds RX5 NLM g a (xA NLM a s.heap.size) := ⟨⟨B.exec, B.bytes, hml, findClass_of_methodNamed B.named, atoms_spec (ws := wsX5_holds) B.pre⟩, hK, hN, hj, fun n h => Or.inl ⟨n, h, rfl⟩, fun q h => Or.inr h⟩
  have hS : va_S (xA NLM a s.heap.size) s.heap s.heap [] := va_S.rf
  have hl := lv_entry ([.ref (a 30 0), .int r]) (n := 6) (Nat.le_of_ble_eq_true rfl)
  rw [lg_entry_eq]
  generalize (lg_sl ([.ref (a 30 0), .int r]) ++ List.replicate (6 - (lg_sl ([.ref (a 30 0), .int r])).length) Slot.unset).toArray = ls at hl ⊢
  have hl : lv_has ls 6 [(0, .ref (a 30 0)), (1, .int r)] := hl
  have k_0 : Cond.fieldLink RX5 60 RX5 (TX5 0).2.1 (TX5 0).2.2.1 ∈ wsX5_holds := by decide +kernel
  have i_X5 : ∀ w ∈ wsX50, w ∈ wsX5_holds := by decide +kernel
  have k_2 : Cond.fieldLink RX5 51 RX5 (TX5 15).2.1 (TX5 15).2.2.1 ∈ wsX5_holds := by decide +kernel
  have k_3 : Cond.fieldLink RX5 42 RX5 (TX5 12).2.1 (TX5 12).2.2.1 ∈ wsX5_holds := by decide +kernel
  have k_4 : Cond.fieldLink RX5 45 RX5 (TX5 13).2.1 (TX5 13).2.2.1 ∈ wsX5_holds := by decide +kernel
  refine lv_aload_n C0.hx C0.hb dX5_holds_0 rfl (lv_at hl 0 rfl) ?_
  refine lv_aload_n C0.hx C0.hb dX5_holds_1 rfl (lv_at hl 0 rfl) ?_
  refine lv_iload_n C0.hx C0.hb dX5_holds_2 rfl (lv_at hl 1 rfl) ?_
  refine x_Vi (As := [.int r]) (rest := [.ref (a 30 0)]) C0 (mtX5_isReport l g a σ r ok) hP C0.2.2.2.1 (cwV 1 C0.hts gX5_holds_X5_isReport rfl rfl rfl (by decide +kernel) ⟨Nat.le_of_ble_eq_true rfl, Nat.le_of_ble_eq_true rfl⟩) (x_recv C0 hP 30 (mM_n rfl rfl) rfl rfl) rfl hl rfl (Nat.le_of_ble_eq_true rfl) (Nat.zero_le _) (Nat.zero_le _) dX5_holds_3 ?_
  refine x_join (α := Nat) 28 (fun z H' locs' ls => (H' = s.heap ∧ locs' = [] ∧ z = hoK σ r ∧ z ≤ 2) ∧ lv_has ls 6 [(0, .ref (a 30 0)), (1, .int r)]) (fun z => [.int (nI z), .ref (a 30 0)]) ?_ (fun J28 => ?_)
  · rintro z _ _ ls ⟨⟨rfl, rfl, hz, hz2⟩, hl⟩
    refine x_put C0 hP hS 30 (mM_n rfl rfl) rfl rfl tyX5 tyX5_ok nmX5 0 (by decide) i_X5 k_0 rfl rfl 0 rfl (Nat.le_of_ble_eq_true rfl) rfl dX5_holds_28 (fun H locs hP hS => ?_)
    refine lv_aload_n C0.hx C0.hb dX5_holds_31 rfl (lv_at hl 0 rfl) ?_
    refine x_get C0 hP 30 (mM_n rfl rfl) rfl rfl 0 (by decide) i_X5 k_0 rfl rfl dX5_holds_32 ?_
    refine x_top up3_self ?_
    refine x_ifle (tgt := 40) C0.hx C0.hb (by omega) dX5_holds_35 (by decide) (fun c_1 => ?_) (fun c_1 => ?_)
    ·
      have hK : hoK σ r = 0 := by omega
      rw [c_1] at hP
      have hir : irM σ r = true := by
        by_cases h : irM σ r = true
        · exact h
        · unfold hoK at hK; rw [if_neg h] at hK; cases hK
      obtain ⟨r, hr0, rfl⟩ := irM_nat ok hir
      have er : nv (nI r) = r := nv_nI (by omega)
      refine lv_aload_n C0.hx C0.hb dX5_holds_40 rfl (lv_at hl 0 rfl) ?_
      refine x_Vv (As := []) (rest := []) C0 (mtX5_names l g a (up3 σ 30 0 0 (nI 0)) (ok.th _) (show acM (up3 σ 30 0 0 (nI 0)) from ac)) hP hS (cwV 0 C0.hts gX5_holds_X5_names rfl rfl rfl (by decide +kernel) ⟨Nat.le_of_ble_eq_true rfl, Nat.le_of_ble_eq_true rfl⟩) (x_recv C0 hP 30 (mM_n rfl rfl) rfl rfl) rfl hl rfl (Nat.le_of_ble_eq_true rfl) (Nat.zero_le _) (Nat.zero_le _) dX5_holds_41 (fun H locs hP hS => ?_)
      obtain ⟨υ, hυ⟩ : ∃ w : xS, w = naS (up3 σ 30 0 0 (nI 0)) := ⟨_, rfl⟩
      have hP : va_P g.1 vwCl (xw NLM g a υ) H := by rw [hυ]; exact hP
      have oku : okM υ := by rw [hυ]; exact naS_ok (ok.th _)
      refine lv_iconst (v := nI 0) C0.hx C0.hb dX5_holds_44 (by decide) ?_
      refine lv_istore_n (lv' := [(2, .int (nI 0)), (0, .ref (a 30 0)), (1, .int (nI r))]) C0.hx C0.hb dX5_holds_45 rfl hl (by decide) rfl (fun ls hl => ?_)
      refine lv_iconst (v := nI 1) C0.hx C0.hb dX5_holds_46 (by decide) ?_
      refine lv_istore_n (lv' := [(3, .int (nI 1)), (2, .int (nI 0)), (0, .ref (a 30 0)), (1, .int (nI r))]) C0.hx C0.hb dX5_holds_47 rfl hl (by decide) rfl (fun ls hl => ?_)
      refine lv_iconst (v := nI 0) C0.hx C0.hb dX5_holds_48 (by decide) ?_
      refine lv_istore (lv' := [(4, .int (nI 0)), (3, .int (nI 1)), (2, .int (nI 0)), (0, .ref (a 30 0)), (1, .int (nI r))]) C0.hx C0.hb dX5_holds_49 hl (by decide) rfl (fun ls hl => ?_)
      refine x_loopR (α := Nat × Nat × Nat × Bool) (fun u => u.1) (fun ⟨n, k, t, b⟩ ls => k + n = 4 ∧ t ≤ 600000 ∧ hmL υ r n k t b = hmX υ r ∧ lv_has ls 6 [(0, .ref (a 30 0)), (1, .int (nI r)), (2, .int (nI t)), (3, .int (bI b)), (4, .int (nI k))]) ?_ ((4, 0, 0, true)) ⟨(by omega), (by omega), rfl, (lv_sub hl [3, 4, 2, 1, 0] rfl)⟩
      rintro ⟨n, k, t, b⟩ ls ⟨hn, ht6, hG, hl⟩ ih51
      refine lv_iload C0.hx C0.hb dX5_holds_51 (lv_at hl 4 rfl) ?_
      refine lv_iconst (v := nI 4) C0.hx C0.hb dX5_holds_53 (by decide) ?_
      refine x_icmp_ge (tgt := 140) C0.hx C0.hb (by omega) (by omega) dX5_holds_54 (by decide) (fun c_2 => ?_) (fun c_2 => ?_)
      ·
        have hE : b = hmX υ r := by rw [← hG, show n = 0 by omega]; rfl
        refine lv_iload_n C0.hx C0.hb dX5_holds_140 rfl (lv_at hl 3 rfl) ?_
        exact W.zret (v := bI b) C0.hx C0.hb hr (by first | rfl | exact bI_nar _) (fun t ht hW => ⟨⟨_, υ, rfl, ⟨(by unfold hoMV; rw [if_pos hK, hK, ← hυ, er, hE]), (by unfold hoMS; rw [if_pos hK, hK, ← hυ])⟩, x_end ht hP⟩, hS.F ht⟩) hS.2.2 dX5_holds_141
      ·
        obtain ⟨n, rfl⟩ : ∃ z, n = z + 1 := ⟨n - 1, by omega⟩
        refine lv_aload_n C0.hx C0.hb dX5_holds_57 rfl (lv_at hl 0 rfl) ?_
        refine lv_aload_n C0.hx C0.hb dX5_holds_58 rfl (lv_at hl 0 rfl) ?_
        refine x_get C0 hP 30 (mM_n rfl rfl) rfl rfl 15 (by decide) i_X5 k_2 rfl rfl dX5_holds_59 ?_
        refine lv_iload_n C0.hx C0.hb dX5_holds_62 rfl (lv_at hl 1 rfl) ?_
        refine x_iald C0 hP 42 r 60 (mM_n rfl rfl) rfl (by omega) (by decide) dX5_holds_63 ?_
        refine lv_iload C0.hx C0.hb dX5_holds_64 (lv_at hl 4 rfl) ?_
        refine x_Vi (As := [.int (υ 42 0 r), .int (nI k)]) (rest := []) C0 (mtX5_rateOf l g a υ (υ 42 0 r) k (by omega) oku) hP C0.2.2.2.1 (cwV 2 C0.hts gX5_holds_X5_rateOf rfl rfl rfl (by decide +kernel) ⟨Nat.le_of_ble_eq_true rfl, Nat.le_of_ble_eq_true rfl⟩) (x_recv C0 hP 30 (mM_n rfl rfl) rfl rfl) rfl hl rfl (Nat.le_of_ble_eq_true rfl) (Nat.zero_le _) (Nat.zero_le _) dX5_holds_66 ?_
        have hrt := rtM_le (nm := υ 42 0 r) (v := k) oku
        refine lv_istore (lv' := [(5, .int (nI (rtM υ (υ 42 0 r) k))), (0, .ref (a 30 0)), (1, .int (nI r)), (2, .int (nI t)), (3, .int (bI b)), (4, .int (nI k))]) C0.hx C0.hb dX5_holds_69 hl (by decide) rfl (fun ls hl => ?_)
        refine lv_iload C0.hx C0.hb dX5_holds_71 (lv_at hl 5 rfl) ?_
        refine lv_aload_n C0.hx C0.hb dX5_holds_73 rfl (lv_at hl 1 rfl) ?_
        refine x_get C0 hP 30 (mM_n rfl rfl) rfl rfl 12 (by decide) i_X5 k_3 rfl rfl dX5_holds_74 ?_
        refine lv_iload_n C0.hx C0.hb dX5_holds_77 rfl (lv_at hl 2 rfl) ?_
        refine x_iald C0 hP 40 r 60 (mM_n rfl rfl) rfl (by omega) (by decide) dX5_holds_78 ?_
        refine x_join (α := Nat) 94 (fun t2 H' locs' ls => (H' = H ∧ locs' = locs ∧ t2 = (if nI k < υ 40 0 r ∧ t < rtM υ (υ 42 0 r) k then rtM υ (υ 42 0 r) k else t) ∧ t2 ≤ 600000) ∧ lv_has ls 6 [(0, .ref (a 30 0)), (1, .int (nI r)), (2, .int (nI t)), (3, .int (bI b)), (4, .int (nI k)), (5, .int (nI (rtM υ (υ 42 0 r) k)))]) (fun t2 => [.int (nI t2)]) ?_ (fun J94 => ?_)
        · rintro t2 H locs ls ⟨⟨rfl, rfl, ht2, ht26⟩, hl⟩
          refine lv_istore_n (lv' := [(2, .int (nI t2)), (0, .ref (a 30 0)), (1, .int (nI r)), (3, .int (bI b)), (4, .int (nI k)), (5, .int (nI (rtM υ (υ 42 0 r) k)))]) C0.hx C0.hb dX5_holds_94 rfl hl (by decide) rfl (fun ls hl => ?_)
          refine lv_iload_n C0.hx C0.hb dX5_holds_95 rfl (lv_at hl 3 rfl) ?_
          refine x_join (α := Bool) 133 (fun b2 H' locs' ls => (H' = H ∧ locs' = locs ∧ b2 = (b && (decide (nI k < υ 40 0 r) || (decide (nv (υ 41 0 k) = 0) || decide (2 * rtM υ (υ 42 0 r) k ≤ (if nI k < υ 40 0 r ∧ t < rtM υ (υ 42 0 r) k then rtM υ (υ 42 0 r) k else t)))))) ∧ lv_has ls 6 [(0, .ref (a 30 0)), (1, .int (nI r)), (2, .int (nI t2)), (3, .int (bI b)), (4, .int (nI k)), (5, .int (nI (rtM υ (υ 42 0 r) k)))]) (fun b2 => [.int (bI b2)]) ?_ (fun J133 => ?_)
          · rintro b2 H locs ls ⟨⟨rfl, rfl, hb2⟩, hl⟩
            subst hb2
            refine lv_istore_n (lv' := [(3, .int (bI (b && (decide (nI k < υ 40 0 r) || (decide (nv (υ 41 0 k) = 0) || decide (2 * rtM υ (υ 42 0 r) k ≤ (if nI k < υ 40 0 r ∧ t < rtM υ (υ 42 0 r) k then rtM υ (υ 42 0 r) k else t))))))), (0, .ref (a 30 0)), (1, .int (nI r)), (2, .int (nI t2)), (4, .int (nI k)), (5, .int (nI (rtM υ (υ 42 0 r) k)))]) C0.hx C0.hb dX5_holds_133 rfl hl (by decide) rfl (fun ls hl => ?_)
            refine lv_iinc (v := nI (k + 1)) (lv' := [(4, .int (nI (k + 1))), (3, .int (bI (b && (decide (nI k < υ 40 0 r) || (decide (nv (υ 41 0 k) = 0) || decide (2 * rtM υ (υ 42 0 r) k ≤ (if nI k < υ 40 0 r ∧ t < rtM υ (υ 42 0 r) k then rtM υ (υ 42 0 r) k else t))))))), (0, .ref (a 30 0)), (1, .int (nI r)), (2, .int (nI t2)), (5, .int (nI (rtM υ (υ 42 0 r) k)))]) C0.hx C0.hb dX5_holds_134 hl (k := 4) rfl (nI_1 k) (by decide) rfl (fun ls hl => ?_)
            refine lv_goto (tgt := 51) C0.hx C0.hb dX5_holds_137 (by decide) ?_
            exact ih51 ((n, k + 1, t2, b && (decide (nI k < υ 40 0 r) || (decide (nv (υ 41 0 k) = 0) || decide (2 * rtM υ (υ 42 0 r) k ≤ (if nI k < υ 40 0 r ∧ t < rtM υ (υ 42 0 r) k then rtM υ (υ 42 0 r) k else t)))))) ls ⟨(by omega), ht26, (by rw [← hG, hmL, ← ht2]), (lv_sub hl [2, 3, 4, 1, 0] rfl)⟩ (Nat.lt_succ_self _)
          ·
            refine x_ifeq (tgt := 132) C0.hx C0.hb dX5_holds_96 (by decide) (fun c_3 => ?_) (fun c_3 => ?_)
            ·
              refine lv_iconst (v := nI 0) C0.hx C0.hb dX5_holds_132 (by decide) ?_
              exact J133 false _ _ ls ⟨⟨rfl, rfl, (by rw [← ht2]; simp [c_3])⟩, (lv_sub hl [1, 2, 0, 3, 4, 5] rfl)⟩
            ·
              refine lv_iload C0.hx C0.hb dX5_holds_99 (lv_at hl 4 rfl) ?_
              refine lv_aload_n C0.hx C0.hb dX5_holds_101 rfl (lv_at hl 1 rfl) ?_
              refine x_get C0 hP 30 (mM_n rfl rfl) rfl rfl 12 (by decide) i_X5 k_3 rfl rfl dX5_holds_102 ?_
              refine lv_iload_n C0.hx C0.hb dX5_holds_105 rfl (lv_at hl 2 rfl) ?_
              refine x_iald C0 hP 40 r 60 (mM_n rfl rfl) rfl (by omega) (by decide) dX5_holds_106 ?_
              refine lv_icmp_lt (tgt := 128) C0.hx C0.hb dX5_holds_107 (by decide) (fun c_4 => ?_) (fun c_4 => ?_)
              ·
                refine lv_iconst (v := nI 1) C0.hx C0.hb dX5_holds_128 (by decide) ?_
                refine lv_goto (tgt := 133) C0.hx C0.hb dX5_holds_129 (by decide) ?_
                exact J133 true _ _ ls ⟨⟨rfl, rfl, (by rw [← ht2]; simp [c_4, c_3])⟩, (lv_sub hl [1, 2, 0, 3, 4, 5] rfl)⟩
              ·
                refine lv_aload_n C0.hx C0.hb dX5_holds_110 rfl (lv_at hl 1 rfl) ?_
                refine x_get C0 hP 30 (mM_n rfl rfl) rfl rfl 13 (by decide) i_X5 k_4 rfl rfl dX5_holds_111 ?_
                refine lv_iload C0.hx C0.hb dX5_holds_114 (lv_at hl 4 rfl) ?_
                refine x_iald C0 hP 41 k 4 (mM_n rfl rfl) rfl (by omega) (by decide) dX5_holds_116 ?_
                obtain ⟨e_5, b_6⟩ := (oku.ses (by omega) : inR (υ 41 0 k) _)
                refine x_top e_5 ?_
                refine x_ifeqn (tgt := 128) C0.hx C0.hb (by omega) dX5_holds_117 (by decide) (fun c_7 => ?_) (fun c_7 => ?_)
                ·
                  refine lv_iconst (v := nI 1) C0.hx C0.hb dX5_holds_128 (by decide) ?_
                  refine lv_goto (tgt := 133) C0.hx C0.hb dX5_holds_129 (by decide) ?_
                  exact J133 true _ _ ls ⟨⟨rfl, rfl, (by rw [← ht2]; simp [c_7, c_4, c_3])⟩, (lv_sub hl [1, 2, 0, 3, 4, 5] rfl)⟩
                ·
                  refine lv_iconst (v := nI 2) C0.hx C0.hb dX5_holds_120 (by decide) ?_
                  refine lv_iload C0.hx C0.hb dX5_holds_121 (lv_at hl 5 rfl) ?_
                  refine lv_imul C0.hx C0.hb dX5_holds_123 ?_
                  refine x_top (pk_mul 2 (rtM υ (υ 42 0 r) k)) ?_
                  refine lv_iload_n C0.hx C0.hb dX5_holds_124 rfl (lv_at hl 0 rfl) ?_
                  refine x_icmp_gt (tgt := 132) C0.hx C0.hb (by omega) (by omega) dX5_holds_125 (by decide) (fun c_8 => ?_) (fun c_8 => ?_)
                  ·
                    refine lv_iconst (v := nI 0) C0.hx C0.hb dX5_holds_132 (by decide) ?_
                    exact J133 false _ _ ls ⟨⟨rfl, rfl, (by rw [← ht2]; simp [c_8, c_7, c_4, c_3])⟩, (lv_sub hl [1, 2, 0, 3, 4, 5] rfl)⟩
                  ·
                    refine lv_iconst (v := nI 1) C0.hx C0.hb dX5_holds_128 (by decide) ?_
                    refine lv_goto (tgt := 133) C0.hx C0.hb dX5_holds_129 (by decide) ?_
                    exact J133 true _ _ ls ⟨⟨rfl, rfl, (by rw [← ht2]; simp [c_8, c_7, c_4, c_3])⟩, (lv_sub hl [1, 2, 0, 3, 4, 5] rfl)⟩
        ·
          refine lv_icmp_ge (tgt := 93) C0.hx C0.hb dX5_holds_79 (by decide) (fun c_9 => ?_) (fun c_9 => ?_)
          ·
            refine lv_iload_n C0.hx C0.hb dX5_holds_93 rfl (lv_at hl 3 rfl) ?_
            exact J94 t _ _ ls ⟨⟨rfl, rfl, (by rw [if_neg (by rintro ⟨z1, z2⟩; first | omega | exact i32_nlt c_9 z1)]), (by omega)⟩, (lv_sub hl [1, 2, 3, 4, 5, 0] rfl)⟩
          ·
            refine lv_iload C0.hx C0.hb dX5_holds_82 (lv_at hl 0 rfl) ?_
            refine lv_iload_n C0.hx C0.hb dX5_holds_84 rfl (lv_at hl 3 rfl) ?_
            refine x_icmp_le (tgt := 93) C0.hx C0.hb (by omega) (by omega) dX5_holds_85 (by decide) (fun c_10 => ?_) (fun c_10 => ?_)
            ·
              refine lv_iload_n C0.hx C0.hb dX5_holds_93 rfl (lv_at hl 3 rfl) ?_
              exact J94 t _ _ ls ⟨⟨rfl, rfl, (by rw [if_neg (by rintro ⟨z1, z2⟩; first | omega | exact i32_nlt c_10 z1)]), (by omega)⟩, (lv_sub hl [1, 2, 3, 4, 5, 0] rfl)⟩
            ·
              refine lv_iload C0.hx C0.hb dX5_holds_88 (lv_at hl 0 rfl) ?_
              refine lv_goto (tgt := 94) C0.hx C0.hb dX5_holds_90 (by decide) ?_
              exact J94 (rtM υ (υ 42 0 r) k) _ _ ls ⟨⟨rfl, rfl, (by rw [if_pos ⟨i32_lt c_9, c_10⟩]), (by omega)⟩, (lv_sub hl [1, 2, 3, 4, 5, 0] rfl)⟩
    ·
      refine lv_iconst (v := nI 0) C0.hx C0.hb dX5_holds_38 (by decide) ?_
      exact W.zret (v := nI 0) C0.hx C0.hb hr (by first | rfl | exact bI_nar _) (fun t ht hW => ⟨⟨_, up3 σ 30 0 0 (nI z), rfl, ⟨(by unfold hoMV; rw [if_neg (by omega)]; rfl), (by unfold hoMS; rw [if_neg (by omega), ← hz])⟩, x_end ht hP⟩, hS.F ht⟩) hS.2.2 dX5_holds_39
  ·
    refine x_ifne (tgt := 13) C0.hx C0.hb dX5_holds_6 (by decide) (fun c_11 => ?_) (fun c_11 => ?_)
    ·
      obtain ⟨r, hr0, rfl⟩ := irM_nat ok c_11
      have er : nv (nI r) = r := nv_nI (by omega)
      refine lv_aload_n C0.hx C0.hb dX5_holds_13 rfl (lv_at hl 0 rfl) ?_
      refine x_get C0 hP 30 (mM_n rfl rfl) rfl rfl 12 (by decide) i_X5 k_3 rfl rfl dX5_holds_14 ?_
      refine lv_iload_n C0.hx C0.hb dX5_holds_17 rfl (lv_at hl 1 rfl) ?_
      refine x_iald C0 hP 40 r 60 (mM_n rfl rfl) rfl (by omega) (by decide) dX5_holds_18 ?_
      refine lv_iconst (v := -1) C0.hx C0.hb dX5_holds_19 (by decide) ?_
      refine lv_icmp_ne (tgt := 27) C0.hx C0.hb dX5_holds_20 (by decide) (fun c_12 => ?_) (fun c_12 => ?_)
      ·
        refine lv_iconst (v := nI 0) C0.hx C0.hb dX5_holds_27 (by decide) ?_
        exact J28 0 _ _ ls ⟨⟨rfl, rfl, (by unfold hoK; simp [c_12, c_11, er]), (by omega)⟩, (lv_sub hl [0, 1] rfl)⟩
      ·
        refine lv_iconst (v := nI 2) C0.hx C0.hb dX5_holds_23 (by decide) ?_
        refine lv_goto (tgt := 28) C0.hx C0.hb dX5_holds_24 (by decide) ?_
        exact J28 2 _ _ ls ⟨⟨rfl, rfl, (by unfold hoK; simp [c_12, c_11, er]), (by omega)⟩, (lv_sub hl [0, 1] rfl)⟩
    ·
      refine lv_iconst (v := nI 1) C0.hx C0.hb dX5_holds_9 (by decide) ?_
      refine lv_goto (tgt := 28) C0.hx C0.hb dX5_holds_10 (by decide) ?_
      exact J28 1 _ _ ls ⟨⟨rfl, rfl, (by unfold hoK; simp [c_11]), (by omega)⟩, (lv_sub hl [0, 1] rfl)⟩

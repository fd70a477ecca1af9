set_option maxHeartbeats 4000000 in
set_option maxRecDepth 100000 in
theorem mtX5_addRange (l : Launch) (g : xG) (a : xAd) (σ : xS) (v x y f : Int32) (ok : okM σ) : xMw l yX5_addRange wsX5_addRange ({ frames := 2, cells := 0, slots := 0, locals := 42 }) NLM g a σ [.ref (a 30 0), .int v, .int x, .int y, .int f] (arMV σ v x y f) (arMS σ v x y f) := by
  intro sz
  refine Met.ofW (cc := cX5_addRange) (maxL := 7) (ret := (some .int)) (by decide) rfl ?_
  intro p e s m args below meth c s₁ B hml hv
  obtain ⟨rfl, hsz, hP, hK, hN, hj⟩ := hv
  subst hsz
  have hr := B.returns
  have hlocks := B.notSynchronized
  have C0 : xC p s m _ c cX5_addRange 7 wsX5_addRange RX5 NLM g a (xA NLM a s.heap.size) := ⟨⟨B.exec, B.bytes, hml, findClass_of_methodNamed B.named, atoms_spec (ws := wsX5_addRange) B.pre⟩, hK, hN, hj, fun n h => Or.inl ⟨n, h, rfl⟩, fun q h => Or.inr h⟩
  have hS : va_S (xA NLM a s.heap.size) s.heap s.heap [] := va_S.rf
  have hl := lv_entry ([.ref (a 30 0), .int v, .int x, .int y, .int f]) (n := 7) (Nat.le_of_ble_eq_true rfl)
  rw [lg_entry_eq]
  generalize (lg_sl ([.ref (a 30 0), .int v, .int x, .int y, .int f]) ++ List.replicate (7 - (lg_sl ([.ref (a 30 0), .int v, .int x, .int y, .int f])).length) Slot.unset).toArray = ls at hl ⊢
  have hl : lv_has ls 7 [(0, .ref (a 30 0)), (1, .int v), (2, .int x), (3, .int y), (4, .int f)] := hl
  have k_0 : Cond.fieldLink RX5 60 RX5 (TX5 0).2.1 (TX5 0).2.2.1 ∈ wsX5_addRange := by decide +kernel
  have i_X5 : ∀ w ∈ wsX50, w ∈ wsX5_addRange := by decide +kernel
  have k_2 : Cond.fieldLink RX5 7 RX5 (TX5 1).2.1 (TX5 1).2.2.1 ∈ wsX5_addRange := by decide +kernel
  have k_3 : Cond.fieldLink RX5 13 RX5 (TX5 2).2.1 (TX5 2).2.2.1 ∈ wsX5_addRange := by decide +kernel
  have k_4 : Cond.fieldLink RX5 16 RX5 (TX5 3).2.1 (TX5 3).2.2.1 ∈ wsX5_addRange := by decide +kernel
  have k_5 : Cond.fieldLink RX5 19 RX5 (TX5 4).2.1 (TX5 4).2.2.1 ∈ wsX5_addRange := by decide +kernel
  refine lv_aload_n C0.hx C0.hb dX5_addRange_0 rfl (lv_at hl 0 rfl) ?_
  refine lv_iconst (v := nI 0) C0.hx C0.hb dX5_addRange_1 (by decide) ?_
  refine x_put C0 hP hS 30 (mM_n rfl rfl) rfl rfl tyX5 tyX5_ok nmX5 0 (by decide) i_X5 k_0 rfl rfl 0 rfl (Nat.le_of_ble_eq_true rfl) rfl dX5_addRange_2 (fun H locs hP hS => ?_)
  refine x_join (α := Unit) 38 (fun _ H' locs' ls => (H' = H ∧ locs' = locs ∧ arA v x y f = false) ∧ lv_has ls 7 [(0, .ref (a 30 0)), (1, .int v), (2, .int x), (3, .int y), (4, .int f)]) (fun _ => []) ?_ (fun J38 => ?_)
  · rintro _ H locs ls ⟨⟨rfl, rfl, hbad⟩, hl⟩
    refine lv_aload_n C0.hx C0.hb dX5_addRange_38 rfl (lv_at hl 0 rfl) ?_
    refine lv_iconst (v := nI 1) C0.hx C0.hb dX5_addRange_39 (by decide) ?_
    refine x_Vw (As := [.int (nI 1)]) (rest := []) C0 (mtX5_fails l g a (up3 σ 30 0 0 (nI 0)) 1) hP hS (cwV 1 C0.hts gX5_addRange_X5_fails rfl rfl rfl (by decide +kernel) ⟨Nat.le_of_ble_eq_true rfl, Nat.le_of_ble_eq_true rfl⟩) (x_recv C0 hP 30 (mM_n rfl rfl) rfl rfl) rfl hl rfl (Nat.le_of_ble_eq_true rfl) (Nat.zero_le _) (Nat.zero_le _) dX5_addRange_40 (fun H locs hP hS => ?_)
    exact W.iret (v := nI 0) C0.hx C0.hb hr (fun t ht hW => ⟨⟨_, up3 (up3 σ 30 0 0 (nI 0)) 30 0 0 (nI 1), rfl, ⟨(by unfold arMV; rw [if_neg (by rw [hbad]; decide)]), (by unfold arMS; rw [if_neg (by rw [hbad]; decide)]; rfl)⟩, x_end ht hP⟩, hS.F ht⟩) hS.2.2 dX5_addRange_43
  ·
    have hP : va_P g.1 vwCl (xw NLM g a (m0 σ)) H := hP
    have okm : okM (m0 σ) := m0_ok ok
    refine lv_iload_n C0.hx C0.hb dX5_addRange_5 rfl (lv_at hl 1 rfl) ?_
    refine x_Si (As := [.int v]) (rest := []) C0 (mtX5_isVersion l g a (m0 σ) v) (xP0 _) xDj0 (va_cwS 1 C0.hts gX5_addRange_X5_isVersion rfl rfl rfl (by decide +kernel) ⟨Nat.le_of_ble_eq_true rfl, Nat.le_of_ble_eq_true rfl⟩) rfl hl rfl (Nat.le_of_ble_eq_true rfl) (Nat.zero_le _) (Nat.zero_le _) dX5_addRange_6 ?_
    refine x_ifeq (tgt := 38) C0.hx C0.hb dX5_addRange_9 (by decide) (fun c_1 => ?_) (fun c_1 => ?_)
    ·
      exact J38 () _ _ ls ⟨⟨rfl, rfl, (by simp [arA, c_1])⟩, (lv_sub hl [0, 1, 2, 3, 4] rfl)⟩
    ·
      refine lv_iload_n C0.hx C0.hb dX5_addRange_12 rfl (lv_at hl 2 rfl) ?_
      refine x_Si (As := [.int x]) (rest := []) C0 (mtX5_isAddress l g a (m0 σ) x) (xP0 _) xDj0 (va_cwS 1 C0.hts gX5_addRange_X5_isAddress rfl rfl rfl (by decide +kernel) ⟨Nat.le_of_ble_eq_true rfl, Nat.le_of_ble_eq_true rfl⟩) rfl hl rfl (Nat.le_of_ble_eq_true rfl) (Nat.zero_le _) (Nat.zero_le _) dX5_addRange_13 ?_
      refine x_ifeq (tgt := 38) C0.hx C0.hb dX5_addRange_16 (by decide) (fun c_2 => ?_) (fun c_2 => ?_)
      ·
        exact J38 () _ _ ls ⟨⟨rfl, rfl, (by simp [arA, c_2, c_1])⟩, (lv_sub hl [0, 1, 2, 3, 4] rfl)⟩
      ·
        refine lv_iload_n C0.hx C0.hb dX5_addRange_19 rfl (lv_at hl 3 rfl) ?_
        refine lv_iload_n C0.hx C0.hb dX5_addRange_20 rfl (lv_at hl 2 rfl) ?_
        refine lv_sipush (v := nI 9999) C0.hx C0.hb dX5_addRange_21 (by decide) ?_
        refine x_Si (As := [.int y, .int x, .int (nI 9999)]) (rest := []) C0 (mtX5_in l g a (m0 σ) y x (nI 9999)) (xP0 _) xDj0 (va_cwS 3 C0.hts gX5_addRange_X5_in rfl rfl rfl (by decide +kernel) ⟨Nat.le_of_ble_eq_true rfl, Nat.le_of_ble_eq_true rfl⟩) rfl hl rfl (Nat.le_of_ble_eq_true rfl) (Nat.zero_le _) (Nat.zero_le _) dX5_addRange_24 ?_
        refine x_ifeq (tgt := 38) C0.hx C0.hb dX5_addRange_27 (by decide) (fun c_3 => ?_) (fun c_3 => ?_)
        ·
          exact J38 () _ _ ls ⟨⟨rfl, rfl, (by simp [arA, c_3, c_2, c_1])⟩, (lv_sub hl [0, 1, 2, 3, 4] rfl)⟩
        ·
          refine lv_iload C0.hx C0.hb dX5_addRange_30 (lv_at hl 4 rfl) ?_
          refine x_Si (As := [.int f]) (rest := []) C0 (mtX5_isFunction l g a (m0 σ) f) (xP0 _) xDj0 (va_cwS 1 C0.hts gX5_addRange_X5_isFunction rfl rfl rfl (by decide +kernel) ⟨Nat.le_of_ble_eq_true rfl, Nat.le_of_ble_eq_true rfl⟩) rfl hl rfl (Nat.le_of_ble_eq_true rfl) (Nat.zero_le _) (Nat.zero_le _) dX5_addRange_32 ?_
          refine x_ifne (tgt := 44) C0.hx C0.hb dX5_addRange_35 (by decide) (fun c_4 => ?_) (fun c_4 => ?_)
          ·
            have hgood : arA v x y f = true := by simp [arA, c_4, c_3, c_2, c_1]
            obtain ⟨v, hv, rfl⟩ := inX_nat (n := 3) (by decide) c_1
            have ev : nv (nI v) = v := nv_nI (by omega)
            have hc30 := (okm.cnt (v := v) (by omega)).2
            refine x_join (α := Bool) 60 (fun b60 H' locs' ls => (H' = H ∧ locs' = locs ∧ b60 = (decide (nv (m0 σ 31 0 v) = 30))) ∧ lv_has ls 7 [(0, .ref (a 30 0)), (1, .int (nI v)), (2, .int x), (3, .int y), (4, .int f)]) (fun b60 => [.int (bI b60)]) ?_ (fun J60 => ?_)
            · rintro b60 H locs ls ⟨⟨rfl, rfl, hb60⟩, hl⟩
              subst hb60
              refine lv_istore (lv' := [(5, .int (bI (decide (nv (m0 σ 31 0 v) = 30)))), (0, .ref (a 30 0)), (1, .int (nI v)), (2, .int x), (3, .int y), (4, .int f)]) C0.hx C0.hb dX5_addRange_60 hl (by decide) rfl (fun ls hl => ?_)
              refine lv_bipush (v := nI 30) C0.hx C0.hb dX5_addRange_62 (by decide) ?_
              refine lv_iload_n C0.hx C0.hb dX5_addRange_64 rfl (lv_at hl 2 rfl) ?_
              refine lv_imul C0.hx C0.hb dX5_addRange_65 ?_
              refine x_top (pk_mul 30 v) ?_
              refine lv_istore (lv' := [(6, .int (nI (30 * v))), (5, .int (bI (decide (nv (m0 σ 31 0 v) = 30)))), (0, .ref (a 30 0)), (1, .int (nI v)), (2, .int x), (3, .int y), (4, .int f)]) C0.hx C0.hb dX5_addRange_66 hl (by decide) rfl (fun ls hl => ?_)
              refine x_loopR (α := Nat) (fun j => 31 - j) (fun j ls => j ≤ nv (m0 σ 31 0 v) ∧ lv_has ls 7 [(0, .ref (a 30 0)), (1, .int (nI v)), (2, .int x), (3, .int y), (4, .int f), (5, .int (bI (ovM (m0 σ) v x y (decide (nv (m0 σ 31 0 v) = 30)) j))), (6, .int (nI (30 * v + j)))]) ?_ 0 ⟨(Nat.zero_le _), (lv_sub hl [2, 3, 4, 5, 6, 1, 0] rfl)⟩
              rintro j ls ⟨hj1, hl⟩ ih68
              refine lv_iload C0.hx C0.hb dX5_addRange_68 (lv_at hl 6 rfl) ?_
              refine lv_bipush (v := nI 30) C0.hx C0.hb dX5_addRange_70 (by decide) ?_
              refine lv_iload_n C0.hx C0.hb dX5_addRange_72 rfl (lv_at hl 1 rfl) ?_
              refine lv_imul C0.hx C0.hb dX5_addRange_73 ?_
              refine x_top (pk_mul 30 v) ?_
              refine lv_aload_n C0.hx C0.hb dX5_addRange_74 rfl (lv_at hl 0 rfl) ?_
              refine x_get C0 hP 30 (mM_n rfl rfl) rfl rfl 1 (by decide) i_X5 k_2 rfl rfl dX5_addRange_75 ?_
              refine lv_iload_n C0.hx C0.hb dX5_addRange_78 rfl (lv_at hl 1 rfl) ?_
              refine x_iald C0 hP 31 v 4 (mM_n rfl rfl) rfl (by omega) (by decide) dX5_addRange_79 ?_
              obtain ⟨e_5, b_6⟩ := (okm.cnt (by omega) : inR ((m0 σ) 31 0 v) _)
              refine x_top e_5 ?_
              refine lv_iadd C0.hx C0.hb dX5_addRange_80 ?_
              refine x_top (nI_add (30 * v) (nv ((m0 σ) 31 0 v))) ?_
              refine x_icmp_ge (tgt := 124) C0.hx C0.hb (by omega) (by omega) dX5_addRange_81 (by decide) (fun c_7 => ?_) (fun c_7 => ?_)
              ·
                obtain rfl : j = nv (m0 σ 31 0 v) := by omega
                have hl : lv_has ls 7 [(0, .ref (a 30 0)), (1, .int (nI v)), (2, .int x), (3, .int y), (4, .int f), (5, .int (bI (ovT (m0 σ) v x y))), (6, .int (nI (30 * v + nv (m0 σ 31 0 v))))] := hl
                refine lv_iload C0.hx C0.hb dX5_addRange_124 (lv_at hl 5 rfl) ?_
                refine x_ifeq (tgt := 135) C0.hx C0.hb dX5_addRange_126 (by decide) (fun c_8 => ?_) (fun c_8 => ?_)
                ·
                  have hnf : nv (m0 σ 31 0 v) ≠ 30 := by intro h; have h2 := ovM_of (m0 σ) v x y (decide (nv (m0 σ 31 0 v) = 30)) (by simpa using h) (nv (m0 σ 31 0 v)); unfold ovT at c_8; rw [h2] at c_8; cases c_8
                  refine lv_bipush (v := nI 30) C0.hx C0.hb dX5_addRange_135 (by decide) ?_
                  refine lv_iload_n C0.hx C0.hb dX5_addRange_137 rfl (lv_at hl 1 rfl) ?_
                  refine lv_imul C0.hx C0.hb dX5_addRange_138 ?_
                  refine x_top (pk_mul 30 v) ?_
                  refine lv_aload_n C0.hx C0.hb dX5_addRange_139 rfl (lv_at hl 0 rfl) ?_
                  refine x_get C0 hP 30 (mM_n rfl rfl) rfl rfl 1 (by decide) i_X5 k_2 rfl rfl dX5_addRange_140 ?_
                  refine lv_iload_n C0.hx C0.hb dX5_addRange_143 rfl (lv_at hl 1 rfl) ?_
                  refine x_iald C0 hP 31 v 4 (mM_n rfl rfl) rfl (by omega) (by decide) dX5_addRange_144 ?_
                  obtain ⟨e_9, b_10⟩ := (okm.cnt (by omega) : inR ((m0 σ) 31 0 v) _)
                  refine x_top e_9 ?_
                  refine lv_iadd C0.hx C0.hb dX5_addRange_145 ?_
                  refine x_top (nI_add (30 * v) (nv ((m0 σ) 31 0 v))) ?_
                  refine lv_istore (lv' := [(6, .int (nI ((30 * v) + (nv ((m0 σ) 31 0 v))))), (0, .ref (a 30 0)), (1, .int (nI v)), (2, .int x), (3, .int y), (4, .int f), (5, .int (bI (ovT (m0 σ) v x y)))]) C0.hx C0.hb dX5_addRange_146 hl (by decide) rfl (fun ls hl => ?_)
                  refine lv_aload_n C0.hx C0.hb dX5_addRange_148 rfl (lv_at hl 1 rfl) ?_
                  refine x_get C0 hP 30 (mM_n rfl rfl) rfl rfl 2 (by decide) i_X5 k_3 rfl rfl dX5_addRange_149 ?_
                  refine lv_iload C0.hx C0.hb dX5_addRange_152 (lv_at hl 0 rfl) ?_
                  refine lv_iload_n C0.hx C0.hb dX5_addRange_154 rfl (lv_at hl 3 rfl) ?_
                  refine x_iast C0 hP hS 32 ((30 * v) + (nv ((m0 σ) 31 0 v))) 120 (v := x) (mM_n rfl rfl) (fun _ => rfl) (by omega) (by decide) dX5_addRange_155 (fun H locs hP hS => ?_)
                  refine lv_aload_n C0.hx C0.hb dX5_addRange_156 rfl (lv_at hl 1 rfl) ?_
                  refine x_get C0 hP 30 (mM_n rfl rfl) rfl rfl 3 (by decide) i_X5 k_4 rfl rfl dX5_addRange_157 ?_
                  refine lv_iload C0.hx C0.hb dX5_addRange_160 (lv_at hl 0 rfl) ?_
                  refine lv_iload_n C0.hx C0.hb dX5_addRange_162 rfl (lv_at hl 4 rfl) ?_
                  refine x_iast C0 hP hS 33 ((30 * v) + (nv ((m0 σ) 31 0 v))) 120 (v := y) (mM_n rfl rfl) (fun _ => rfl) (by omega) (by decide) dX5_addRange_163 (fun H locs hP hS => ?_)
                  refine lv_aload_n C0.hx C0.hb dX5_addRange_164 rfl (lv_at hl 1 rfl) ?_
                  refine x_get C0 hP 30 (mM_n rfl rfl) rfl rfl 4 (by decide) i_X5 k_5 rfl rfl dX5_addRange_165 ?_
                  refine lv_iload C0.hx C0.hb dX5_addRange_168 (lv_at hl 0 rfl) ?_
                  refine lv_iload C0.hx C0.hb dX5_addRange_170 (lv_at hl 5 rfl) ?_
                  refine x_iast C0 hP hS 34 ((30 * v) + (nv ((m0 σ) 31 0 v))) 120 (v := f) (mM_n rfl rfl) (fun _ => rfl) (by omega) (by decide) dX5_addRange_172 (fun H locs hP hS => ?_)
                  refine lv_aload_n C0.hx C0.hb dX5_addRange_173 rfl (lv_at hl 1 rfl) ?_
                  refine x_get C0 hP 30 (mM_n rfl rfl) rfl rfl 1 (by decide) i_X5 k_2 rfl rfl dX5_addRange_174 ?_
                  refine lv_iload_n C0.hx C0.hb dX5_addRange_177 rfl (lv_at hl 2 rfl) ?_
                  refine lv_dup2_11 C0.hx C0.hb dX5_addRange_178 rfl rfl ?_
                  refine x_iald C0 hP 31 v 4 (mM_n rfl rfl) rfl (by omega) (by decide) dX5_addRange_179 ?_
                  refine x_top (okm.cnt (v := v) (by omega)).1 ?_
                  refine lv_iconst (v := nI 1) C0.hx C0.hb dX5_addRange_180 (by decide) ?_
                  refine lv_iadd C0.hx C0.hb dX5_addRange_181 ?_
                  refine x_top (nI_add (nv (m0 σ 31 0 v)) 1) ?_
                  refine x_iast C0 hP hS 31 v 4 (v := nI ((nv (m0 σ 31 0 v)) + 1)) (mM_n rfl rfl) (fun _ => rfl) (by omega) (by decide) dX5_addRange_182 (fun H locs hP hS => ?_)
                  refine lv_aload_n C0.hx C0.hb dX5_addRange_183 rfl (lv_at hl 1 rfl) ?_
                  refine x_get C0 hP 30 (mM_n rfl rfl) rfl rfl 1 (by decide) i_X5 k_2 rfl rfl dX5_addRange_184 ?_
                  refine lv_iload_n C0.hx C0.hb dX5_addRange_187 rfl (lv_at hl 2 rfl) ?_
                  refine x_iald C0 hP 31 v 4 (mM_n rfl rfl) rfl (by omega) (by decide) dX5_addRange_188 ?_
                  exact W.iret (v := (up3 (up3 (up3 (up3 (m0 σ) 32 0 ((30 * v) + (nv ((m0 σ) 31 0 v))) x) 33 0 ((30 * v) + (nv ((m0 σ) 31 0 v))) y) 34 0 ((30 * v) + (nv ((m0 σ) 31 0 v))) f) 31 0 v (nI ((nv (m0 σ 31 0 v)) + 1))) 31 0 v) C0.hx C0.hb hr (fun t ht hW => ⟨⟨_, up3 (up3 (up3 (up3 (m0 σ) 32 0 ((30 * v) + (nv ((m0 σ) 31 0 v))) x) 33 0 ((30 * v) + (nv ((m0 σ) 31 0 v))) y) 34 0 ((30 * v) + (nv ((m0 σ) 31 0 v))) f) 31 0 v (nI ((nv (m0 σ 31 0 v)) + 1)), rfl, ⟨(by unfold arMV; rw [if_pos hgood, ev, if_neg (by rw [c_8]; decide)]; exact up3_self), (by unfold arMS; rw [if_pos hgood, ev, if_neg (by rw [c_8]; decide)]; rfl)⟩, x_end ht hP⟩, hS.F ht⟩) hS.2.2 dX5_addRange_189
                ·
                  refine lv_aload_n C0.hx C0.hb dX5_addRange_129 rfl (lv_at hl 0 rfl) ?_
                  refine lv_iconst (v := nI 2) C0.hx C0.hb dX5_addRange_130 (by decide) ?_
                  refine x_Vw (As := [.int (nI 2)]) (rest := []) C0 (mtX5_fails l g a (m0 σ) 2) hP hS (cwV 1 C0.hts gX5_addRange_X5_fails rfl rfl rfl (by decide +kernel) ⟨Nat.le_of_ble_eq_true rfl, Nat.le_of_ble_eq_true rfl⟩) (x_recv C0 hP 30 (mM_n rfl rfl) rfl rfl) rfl hl rfl (Nat.le_of_ble_eq_true rfl) (Nat.zero_le _) (Nat.zero_le _) dX5_addRange_131 (fun H locs hP hS => ?_)
                  exact W.iret (v := nI 0) C0.hx C0.hb hr (fun t ht hW => ⟨⟨_, up3 (m0 σ) 30 0 0 (nI 2), rfl, ⟨(by unfold arMV; rw [if_pos hgood, ev, if_pos c_8]), (by unfold arMS; rw [if_pos hgood, ev, if_pos c_8]; rfl)⟩, x_end ht hP⟩, hS.F ht⟩) hS.2.2 dX5_addRange_134
              ·
                refine x_join (α := Bool) 116 (fun b116 H' locs' ls => (H' = H ∧ locs' = locs ∧ b116 = (ovM (m0 σ) v x y (decide (nv (m0 σ 31 0 v) = 30)) (j + 1))) ∧ lv_has ls 7 [(0, .ref (a 30 0)), (1, .int (nI v)), (2, .int x), (3, .int y), (4, .int f), (5, .int (bI (ovM (m0 σ) v x y (decide (nv (m0 σ 31 0 v) = 30)) j))), (6, .int (nI (30 * v + j)))]) (fun b116 => [.int (bI b116)]) ?_ (fun J116 => ?_)
                · rintro b116 H locs ls ⟨⟨rfl, rfl, hb116⟩, hl⟩
                  subst hb116
                  refine lv_istore (lv' := [(5, .int (bI (ovM (m0 σ) v x y (decide (nv (m0 σ 31 0 v) = 30)) (j + 1)))), (0, .ref (a 30 0)), (1, .int (nI v)), (2, .int x), (3, .int y), (4, .int f), (6, .int (nI (30 * v + j)))]) C0.hx C0.hb dX5_addRange_116 hl (by decide) rfl (fun ls hl => ?_)
                  refine lv_iinc (v := nI (30 * v + j + 1)) (lv' := [(6, .int (nI (30 * v + j + 1))), (5, .int (bI (ovM (m0 σ) v x y (decide (nv (m0 σ 31 0 v) = 30)) (j + 1)))), (0, .ref (a 30 0)), (1, .int (nI v)), (2, .int x), (3, .int y), (4, .int f)]) C0.hx C0.hb dX5_addRange_118 hl (k := 6) rfl (nI_1 (30 * v + j)) (by decide) rfl (fun ls hl => ?_)
                  refine lv_goto (tgt := 68) C0.hx C0.hb dX5_addRange_121 (by decide) ?_
                  exact ih68 ((j + 1)) ls ⟨(by omega), (lv_sub hl [2, 3, 4, 5, 6, 1, 0] rfl)⟩ (by omega)
                ·
                  refine lv_iload C0.hx C0.hb dX5_addRange_84 (lv_at hl 5 rfl) ?_
                  refine x_ifne (tgt := 111) C0.hx C0.hb dX5_addRange_86 (by decide) (fun c_11 => ?_) (fun c_11 => ?_)
                  ·
                    refine lv_iconst (v := nI 1) C0.hx C0.hb dX5_addRange_111 (by decide) ?_
                    refine lv_goto (tgt := 116) C0.hx C0.hb dX5_addRange_112 (by decide) ?_
                    exact J116 true _ _ ls ⟨⟨rfl, rfl, (by simp [ovM, c_11])⟩, (lv_sub hl [0, 1, 2, 3, 4, 5, 6] rfl)⟩
                  ·
                    refine lv_iload_n C0.hx C0.hb dX5_addRange_89 rfl (lv_at hl 2 rfl) ?_
                    refine lv_aload_n C0.hx C0.hb dX5_addRange_90 rfl (lv_at hl 0 rfl) ?_
                    refine x_get C0 hP 30 (mM_n rfl rfl) rfl rfl 3 (by decide) i_X5 k_4 rfl rfl dX5_addRange_91 ?_
                    refine lv_iload C0.hx C0.hb dX5_addRange_94 (lv_at hl 6 rfl) ?_
                    refine x_iald C0 hP 33 (30 * v + j) 120 (mM_n rfl rfl) rfl (by omega) (by decide) dX5_addRange_96 ?_
                    refine lv_icmp_gt (tgt := 115) C0.hx C0.hb dX5_addRange_97 (by decide) (fun c_12 => ?_) (fun c_12 => ?_)
                    ·
                      refine lv_iconst (v := nI 0) C0.hx C0.hb dX5_addRange_115 (by decide) ?_
                      exact J116 false _ _ ls ⟨⟨rfl, rfl, (by simp [ovM, c_12, c_11])⟩, (lv_sub hl [0, 1, 2, 3, 4, 5, 6] rfl)⟩
                    ·
                      refine lv_aload_n C0.hx C0.hb dX5_addRange_100 rfl (lv_at hl 0 rfl) ?_
                      refine x_get C0 hP 30 (mM_n rfl rfl) rfl rfl 2 (by decide) i_X5 k_3 rfl rfl dX5_addRange_101 ?_
                      refine lv_iload C0.hx C0.hb dX5_addRange_104 (lv_at hl 6 rfl) ?_
                      refine x_iald C0 hP 32 (30 * v + j) 120 (mM_n rfl rfl) rfl (by omega) (by decide) dX5_addRange_106 ?_
                      refine lv_iload_n C0.hx C0.hb dX5_addRange_107 rfl (lv_at hl 3 rfl) ?_
                      refine lv_icmp_gt (tgt := 115) C0.hx C0.hb dX5_addRange_108 (by decide) (fun c_13 => ?_) (fun c_13 => ?_)
                      ·
                        refine lv_iconst (v := nI 0) C0.hx C0.hb dX5_addRange_115 (by decide) ?_
                        exact J116 false _ _ ls ⟨⟨rfl, rfl, (by simp [ovM, c_13, c_12, c_11])⟩, (lv_sub hl [0, 1, 2, 3, 4, 5, 6] rfl)⟩
                      ·
                        refine lv_iconst (v := nI 1) C0.hx C0.hb dX5_addRange_111 (by decide) ?_
                        refine lv_goto (tgt := 116) C0.hx C0.hb dX5_addRange_112 (by decide) ?_
                        exact J116 true _ _ ls ⟨⟨rfl, rfl, (by simp [ovM, c_13, c_12, c_11])⟩, (lv_sub hl [0, 1, 2, 3, 4, 5, 6] rfl)⟩
            ·
              refine lv_aload_n C0.hx C0.hb dX5_addRange_44 rfl (lv_at hl 0 rfl) ?_
              refine x_get C0 hP 30 (mM_n rfl rfl) rfl rfl 1 (by decide) i_X5 k_2 rfl rfl dX5_addRange_45 ?_
              refine lv_iload_n C0.hx C0.hb dX5_addRange_48 rfl (lv_at hl 1 rfl) ?_
              refine x_iald C0 hP 31 v 4 (mM_n rfl rfl) rfl (by omega) (by decide) dX5_addRange_49 ?_
              obtain ⟨e_14, b_15⟩ := (okm.cnt (by omega) : inR ((m0 σ) 31 0 v) _)
              refine x_top e_14 ?_
              refine lv_bipush (v := nI 30) C0.hx C0.hb dX5_addRange_50 (by decide) ?_
              refine x_icmp_ne (tgt := 59) C0.hx C0.hb (by omega) (by omega) dX5_addRange_52 (by decide) (fun c_16 => ?_) (fun c_16 => ?_)
              ·
                refine lv_iconst (v := nI 0) C0.hx C0.hb dX5_addRange_59 (by decide) ?_
                exact J60 false _ _ ls ⟨⟨rfl, rfl, (by simp [c_16])⟩, (lv_sub hl [0, 1, 2, 3, 4] rfl)⟩
              ·
                refine lv_iconst (v := nI 1) C0.hx C0.hb dX5_addRange_55 (by decide) ?_
                refine lv_goto (tgt := 60) C0.hx C0.hb dX5_addRange_56 (by decide) ?_
                exact J60 true _ _ ls ⟨⟨rfl, rfl, (by simp [c_16])⟩, (lv_sub hl [0, 1, 2, 3, 4] rfl)⟩
          ·
            exact J38 () _ _ ls ⟨⟨rfl, rfl, (by simp [arA, c_4, c_3, c_2, c_1])⟩, (lv_sub hl [0, 1, 2, 3, 4] rfl)⟩

set_option maxHeartbeats 4000000 in
set_option maxRecDepth 100000 in
theorem mtX5_report (l : Launch) (g : xG) (a : xAd) (σ : xS) (v u x y z w : Int32) (ok : okM σ) : xMw l yX5_report wsX5_report ({ frames := 3, cells := 0, slots := 0, locals := 63 }) NLM g a σ [.ref (a 30 0), .int v, .int u, .int x, .int y, .int z, .int w] (rpMV σ v u x y z w) (rpMS σ v u x y z w) := by
  intro sz
  refine Met.ofW (cc := cX5_report) (maxL := 7) (ret := (some .int)) (by decide) rfl ?_
  intro p e s m args below meth c s₁ B hml hv
  obtain ⟨rfl, hsz, hP, hK, hN, hj⟩ := hv
  subst hsz
  have hr := B.returns
  have hlocks := B.notSynchronized
  have C0 : xC p s m _ c cX5_report 7 wsX5_report RX5 NLM g a (xA NLM a s.heap.size) := ⟨⟨B.exec, B.bytes, hml, findClass_of_methodNamed B.named, atoms_spec (ws := wsX5_report) B.pre⟩, hK, hN, hj, fun n h => Or.inl ⟨n, h, rfl⟩, fun q h => Or.inr h⟩
  have hS : va_S (xA NLM a s.heap.size) s.heap s.heap [] := va_S.rf
  have hl := lv_entry ([.ref (a 30 0), .int v, .int u, .int x, .int y, .int z, .int w]) (n := 7) (Nat.le_of_ble_eq_true rfl)
  rw [lg_entry_eq]
  generalize (lg_sl ([.ref (a 30 0), .int v, .int u, .int x, .int y, .int z, .int w]) ++ List.replicate (7 - (lg_sl ([.ref (a 30 0), .int v, .int u, .int x, .int y, .int z, .int w])).length) Slot.unset).toArray = ls at hl ⊢
  have hl : lv_has ls 7 [(0, .ref (a 30 0)), (1, .int v), (2, .int u), (3, .int x), (4, .int y), (5, .int z), (6, .int w)] := hl
  have k_0 : Cond.fieldLink RX5 60 RX5 (TX5 0).2.1 (TX5 0).2.2.1 ∈ wsX5_report := by decide +kernel
  have i_X5 : ∀ w ∈ wsX50, w ∈ wsX5_report := by decide +kernel
  have k_2 : Cond.fieldLink RX5 67 RX5 (TX5 8).2.1 (TX5 8).2.2.1 ∈ wsX5_report := by decide +kernel
  have k_3 : Cond.fieldLink RX5 33 RX5 (TX5 9).2.1 (TX5 9).2.2.1 ∈ wsX5_report := by decide +kernel
  have k_4 : Cond.fieldLink RX5 36 RX5 (TX5 10).2.1 (TX5 10).2.2.1 ∈ wsX5_report := by decide +kernel
  have k_5 : Cond.fieldLink RX5 39 RX5 (TX5 11).2.1 (TX5 11).2.2.1 ∈ wsX5_report := by decide +kernel
  have k_6 : Cond.fieldLink RX5 42 RX5 (TX5 12).2.1 (TX5 12).2.2.1 ∈ wsX5_report := by decide +kernel
  refine lv_aload_n C0.hx C0.hb dX5_report_0 rfl (lv_at hl 0 rfl) ?_
  refine lv_iconst (v := nI 0) C0.hx C0.hb dX5_report_1 (by decide) ?_
  refine x_put C0 hP hS 30 (mM_n rfl rfl) rfl rfl tyX5 tyX5_ok nmX5 0 (by decide) i_X5 k_0 rfl rfl 0 rfl (Nat.le_of_ble_eq_true rfl) rfl dX5_report_2 (fun H locs hP hS => ?_)
  refine x_join (α := Unit) 58 (fun _ H' locs' ls => (H' = H ∧ locs' = locs ∧ rpA v u x y z w = false) ∧ lv_has ls 7 [(0, .ref (a 30 0)), (1, .int v), (2, .int u), (3, .int x), (4, .int y), (5, .int z), (6, .int w)]) (fun _ => []) ?_ (fun J58 => ?_)
  · rintro _ H locs ls ⟨⟨rfl, rfl, hbad⟩, hl⟩
    refine lv_aload_n C0.hx C0.hb dX5_report_58 rfl (lv_at hl 0 rfl) ?_
    refine lv_iconst (v := nI 1) C0.hx C0.hb dX5_report_59 (by decide) ?_
    refine x_Vw (As := [.int (nI 1)]) (rest := []) C0 (mtX5_fails l g a (up3 σ 30 0 0 (nI 0)) 1) hP hS (cwV 1 C0.hts gX5_report_X5_fails rfl rfl rfl (by decide +kernel) ⟨Nat.le_of_ble_eq_true rfl, Nat.le_of_ble_eq_true rfl⟩) (x_recv C0 hP 30 (mM_n rfl rfl) rfl rfl) rfl hl rfl (Nat.le_of_ble_eq_true rfl) (Nat.zero_le _) (Nat.zero_le _) dX5_report_60 (fun H locs hP hS => ?_)
    exact W.iret (v := nI 0) C0.hx C0.hb hr (fun t ht hW => ⟨⟨_, up3 (up3 σ 30 0 0 (nI 0)) 30 0 0 (nI 1), rfl, ⟨(by unfold rpMV; rw [if_neg (by rw [hbad]; decide)]), (by unfold rpMS; rw [if_neg (by rw [hbad]; decide)]; rfl)⟩, x_end ht hP⟩, hS.F ht⟩) hS.2.2 dX5_report_63
  ·
    have hP : va_P g.1 vwCl (xw NLM g a (m0 σ)) H := hP
    have okm : okM (m0 σ) := m0_ok ok
    refine lv_iload_n C0.hx C0.hb dX5_report_5 rfl (lv_at hl 1 rfl) ?_
    refine x_Si (As := [.int v]) (rest := []) C0 (mtX5_isVersion l g a (m0 σ) v) (xP0 _) xDj0 (va_cwS 1 C0.hts gX5_report_X5_isVersion rfl rfl rfl (by decide +kernel) ⟨Nat.le_of_ble_eq_true rfl, Nat.le_of_ble_eq_true rfl⟩) rfl hl rfl (Nat.le_of_ble_eq_true rfl) (Nat.zero_le _) (Nat.zero_le _) dX5_report_6 ?_
    refine x_ifeq (tgt := 58) C0.hx C0.hb dX5_report_9 (by decide) (fun c_1 => ?_) (fun c_1 => ?_)
    ·
      exact J58 () _ _ ls ⟨⟨rfl, rfl, (by simp [rpA, c_1])⟩, (lv_sub hl [0, 1, 2, 3, 4, 5, 6] rfl)⟩
    ·
      refine lv_iload_n C0.hx C0.hb dX5_report_12 rfl (lv_at hl 2 rfl) ?_
      refine lv_iconst (v := nI 0) C0.hx C0.hb dX5_report_13 (by decide) ?_
      refine lv_bipush (v := nI 19) C0.hx C0.hb dX5_report_14 (by decide) ?_
      refine x_Si (As := [.int u, .int (nI 0), .int (nI 19)]) (rest := []) C0 (mtX5_in l g a (m0 σ) u (nI 0) (nI 19)) (xP0 _) xDj0 (va_cwS 3 C0.hts gX5_report_X5_in rfl rfl rfl (by decide +kernel) ⟨Nat.le_of_ble_eq_true rfl, Nat.le_of_ble_eq_true rfl⟩) rfl hl rfl (Nat.le_of_ble_eq_true rfl) (Nat.zero_le _) (Nat.zero_le _) dX5_report_16 ?_
      refine x_ifeq (tgt := 58) C0.hx C0.hb dX5_report_19 (by decide) (fun c_2 => ?_) (fun c_2 => ?_)
      ·
        exact J58 () _ _ ls ⟨⟨rfl, rfl, (by simp [rpA, c_2, c_1])⟩, (lv_sub hl [0, 1, 2, 3, 4, 5, 6] rfl)⟩
      ·
        refine lv_iload_n C0.hx C0.hb dX5_report_22 rfl (lv_at hl 3 rfl) ?_
        refine x_Si (As := [.int x]) (rest := []) C0 (mtX5_isAddress l g a (m0 σ) x) (xP0 _) xDj0 (va_cwS 1 C0.hts gX5_report_X5_isAddress rfl rfl rfl (by decide +kernel) ⟨Nat.le_of_ble_eq_true rfl, Nat.le_of_ble_eq_true rfl⟩) rfl hl rfl (Nat.le_of_ble_eq_true rfl) (Nat.zero_le _) (Nat.zero_le _) dX5_report_23 ?_
        refine x_ifeq (tgt := 58) C0.hx C0.hb dX5_report_26 (by decide) (fun c_3 => ?_) (fun c_3 => ?_)
        ·
          exact J58 () _ _ ls ⟨⟨rfl, rfl, (by simp [rpA, c_3, c_2, c_1])⟩, (lv_sub hl [0, 1, 2, 3, 4, 5, 6] rfl)⟩
        ·
          refine lv_iload C0.hx C0.hb dX5_report_29 (lv_at hl 4 rfl) ?_
          refine lv_iload_n C0.hx C0.hb dX5_report_31 rfl (lv_at hl 3 rfl) ?_
          refine x_Si (As := [.int y, .int x]) (rest := []) C0 (mtX5_isNext l g a (m0 σ) y x) (xP0 _) xDj0 (va_cwS 2 C0.hts gX5_report_X5_isNext rfl rfl rfl (by decide +kernel) ⟨Nat.le_of_ble_eq_true rfl, Nat.le_of_ble_eq_true rfl⟩) rfl hl rfl (Nat.le_of_ble_eq_true rfl) (Nat.zero_le _) (Nat.zero_le _) dX5_report_32 ?_
          refine x_ifeq (tgt := 58) C0.hx C0.hb dX5_report_35 (by decide) (fun c_4 => ?_) (fun c_4 => ?_)
          ·
            exact J58 () _ _ ls ⟨⟨rfl, rfl, (by simp [rpA, c_4, c_3, c_2, c_1])⟩, (lv_sub hl [0, 1, 2, 3, 4, 5, 6] rfl)⟩
          ·
            refine lv_iload C0.hx C0.hb dX5_report_38 (lv_at hl 5 rfl) ?_
            refine lv_iload C0.hx C0.hb dX5_report_40 (lv_at hl 4 rfl) ?_
            refine x_Si (As := [.int z, .int y]) (rest := []) C0 (mtX5_isNext l g a (m0 σ) z y) (xP0 _) xDj0 (va_cwS 2 C0.hts gX5_report_X5_isNext rfl rfl rfl (by decide +kernel) ⟨Nat.le_of_ble_eq_true rfl, Nat.le_of_ble_eq_true rfl⟩) rfl hl rfl (Nat.le_of_ble_eq_true rfl) (Nat.zero_le _) (Nat.zero_le _) dX5_report_42 ?_
            refine x_ifeq (tgt := 58) C0.hx C0.hb dX5_report_45 (by decide) (fun c_5 => ?_) (fun c_5 => ?_)
            ·
              exact J58 () _ _ ls ⟨⟨rfl, rfl, (by simp [rpA, c_5, c_4, c_3, c_2, c_1])⟩, (lv_sub hl [0, 1, 2, 3, 4, 5, 6] rfl)⟩
            ·
              refine lv_iload C0.hx C0.hb dX5_report_48 (lv_at hl 6 rfl) ?_
              refine lv_iload C0.hx C0.hb dX5_report_50 (lv_at hl 5 rfl) ?_
              refine x_Si (As := [.int w, .int z]) (rest := []) C0 (mtX5_isNext l g a (m0 σ) w z) (xP0 _) xDj0 (va_cwS 2 C0.hts gX5_report_X5_isNext rfl rfl rfl (by decide +kernel) ⟨Nat.le_of_ble_eq_true rfl, Nat.le_of_ble_eq_true rfl⟩) rfl hl rfl (Nat.le_of_ble_eq_true rfl) (Nat.zero_le _) (Nat.zero_le _) dX5_report_52 ?_
              refine x_ifne (tgt := 64) C0.hx C0.hb dX5_report_55 (by decide) (fun c_6 => ?_) (fun c_6 => ?_)
              ·
                have hgood : rpA v u x y z w = true := by simp [rpA, c_6, c_5, c_4, c_3, c_2, c_1]
                have hn60 := ok.n.2
                refine lv_aload_n C0.hx C0.hb dX5_report_64 rfl (lv_at hl 0 rfl) ?_
                refine x_get C0 hP 30 (mM_n rfl rfl) rfl rfl 8 (by decide) i_X5 k_2 rfl rfl dX5_report_65 ?_
                refine x_top ok.n.1 ?_
                refine lv_bipush (v := nI 60) C0.hx C0.hb dX5_report_68 (by decide) ?_
                refine x_icmp_ne (tgt := 79) C0.hx C0.hb (by omega) (by omega) dX5_report_70 (by decide) (fun c_7 => ?_) (fun c_7 => ?_)
                ·
                  have hlt : nv (σ 30 0 2) < 60 := by omega
                  refine lv_aload_n C0.hx C0.hb dX5_report_79 rfl (lv_at hl 0 rfl) ?_
                  refine x_get C0 hP 30 (mM_n rfl rfl) rfl rfl 9 (by decide) i_X5 k_3 rfl rfl dX5_report_80 ?_
                  refine lv_aload_n C0.hx C0.hb dX5_report_83 rfl (lv_at hl 0 rfl) ?_
                  refine x_get C0 hP 30 (mM_n rfl rfl) rfl rfl 8 (by decide) i_X5 k_2 rfl rfl dX5_report_84 ?_
                  refine x_top ok.n.1 ?_
                  refine lv_iload_n C0.hx C0.hb dX5_report_87 rfl (lv_at hl 1 rfl) ?_
                  refine x_iast C0 hP hS 37 (nv (σ 30 0 2)) 60 (v := v) (mM_n rfl rfl) (fun _ => rfl) (by omega) (by decide) dX5_report_88 (fun H locs hP hS => ?_)
                  refine lv_aload_n C0.hx C0.hb dX5_report_89 rfl (lv_at hl 0 rfl) ?_
                  refine x_get C0 hP 30 (mM_n rfl rfl) rfl rfl 10 (by decide) i_X5 k_4 rfl rfl dX5_report_90 ?_
                  refine lv_aload_n C0.hx C0.hb dX5_report_93 rfl (lv_at hl 0 rfl) ?_
                  refine x_get C0 hP 30 (mM_n rfl rfl) rfl rfl 8 (by decide) i_X5 k_2 rfl rfl dX5_report_94 ?_
                  refine x_top ok.n.1 ?_
                  refine lv_iload_n C0.hx C0.hb dX5_report_97 rfl (lv_at hl 2 rfl) ?_
                  refine x_iast C0 hP hS 38 (nv (σ 30 0 2)) 60 (v := u) (mM_n rfl rfl) (fun _ => rfl) (by omega) (by decide) dX5_report_98 (fun H locs hP hS => ?_)
                  refine lv_aload_n C0.hx C0.hb dX5_report_99 rfl (lv_at hl 0 rfl) ?_
                  refine x_get C0 hP 30 (mM_n rfl rfl) rfl rfl 11 (by decide) i_X5 k_5 rfl rfl dX5_report_100 ?_
                  refine lv_iconst (v := nI 4) C0.hx C0.hb dX5_report_103 (by decide) ?_
                  refine lv_aload_n C0.hx C0.hb dX5_report_104 rfl (lv_at hl 0 rfl) ?_
                  refine x_get C0 hP 30 (mM_n rfl rfl) rfl rfl 8 (by decide) i_X5 k_2 rfl rfl dX5_report_105 ?_
                  refine x_top ok.n.1 ?_
                  refine lv_imul C0.hx C0.hb dX5_report_108 ?_
                  refine x_top (pk_mul 4 (nv (σ 30 0 2))) ?_
                  refine lv_iload_n C0.hx C0.hb dX5_report_109 rfl (lv_at hl 3 rfl) ?_
                  refine x_iast C0 hP hS 39 (4 * (nv (σ 30 0 2))) 240 (v := x) (mM_n rfl rfl) (fun _ => rfl) (by omega) (by decide) dX5_report_110 (fun H locs hP hS => ?_)
                  refine lv_aload_n C0.hx C0.hb dX5_report_111 rfl (lv_at hl 0 rfl) ?_
                  refine x_get C0 hP 30 (mM_n rfl rfl) rfl rfl 11 (by decide) i_X5 k_5 rfl rfl dX5_report_112 ?_
                  refine lv_iconst (v := nI 4) C0.hx C0.hb dX5_report_115 (by decide) ?_
                  refine lv_aload_n C0.hx C0.hb dX5_report_116 rfl (lv_at hl 0 rfl) ?_
                  refine x_get C0 hP 30 (mM_n rfl rfl) rfl rfl 8 (by decide) i_X5 k_2 rfl rfl dX5_report_117 ?_
                  refine x_top ok.n.1 ?_
                  refine lv_imul C0.hx C0.hb dX5_report_120 ?_
                  refine x_top (pk_mul 4 (nv (σ 30 0 2))) ?_
                  refine lv_iconst (v := nI 1) C0.hx C0.hb dX5_report_121 (by decide) ?_
                  refine lv_iadd C0.hx C0.hb dX5_report_122 ?_
                  refine x_top (nI_add (4 * (nv (σ 30 0 2))) 1) ?_
                  refine lv_iload C0.hx C0.hb dX5_report_123 (lv_at hl 4 rfl) ?_
                  refine x_iast C0 hP hS 39 ((4 * (nv (σ 30 0 2))) + 1) 240 (v := y) (mM_n rfl rfl) (fun _ => rfl) (by omega) (by decide) dX5_report_125 (fun H locs hP hS => ?_)
                  refine lv_aload_n C0.hx C0.hb dX5_report_126 rfl (lv_at hl 0 rfl) ?_
                  refine x_get C0 hP 30 (mM_n rfl rfl) rfl rfl 11 (by decide) i_X5 k_5 rfl rfl dX5_report_127 ?_
                  refine lv_iconst (v := nI 4) C0.hx C0.hb dX5_report_130 (by decide) ?_
                  refine lv_aload_n C0.hx C0.hb dX5_report_131 rfl (lv_at hl 0 rfl) ?_
                  refine x_get C0 hP 30 (mM_n rfl rfl) rfl rfl 8 (by decide) i_X5 k_2 rfl rfl dX5_report_132 ?_
                  refine x_top ok.n.1 ?_
                  refine lv_imul C0.hx C0.hb dX5_report_135 ?_
                  refine x_top (pk_mul 4 (nv (σ 30 0 2))) ?_
                  refine lv_iconst (v := nI 2) C0.hx C0.hb dX5_report_136 (by decide) ?_
                  refine lv_iadd C0.hx C0.hb dX5_report_137 ?_
                  refine x_top (nI_add (4 * (nv (σ 30 0 2))) 2) ?_
                  refine lv_iload C0.hx C0.hb dX5_report_138 (lv_at hl 5 rfl) ?_
                  refine x_iast C0 hP hS 39 ((4 * (nv (σ 30 0 2))) + 2) 240 (v := z) (mM_n rfl rfl) (fun _ => rfl) (by omega) (by decide) dX5_report_140 (fun H locs hP hS => ?_)
                  refine lv_aload_n C0.hx C0.hb dX5_report_141 rfl (lv_at hl 0 rfl) ?_
                  refine x_get C0 hP 30 (mM_n rfl rfl) rfl rfl 11 (by decide) i_X5 k_5 rfl rfl dX5_report_142 ?_
                  refine lv_iconst (v := nI 4) C0.hx C0.hb dX5_report_145 (by decide) ?_
                  refine lv_aload_n C0.hx C0.hb dX5_report_146 rfl (lv_at hl 0 rfl) ?_
                  refine x_get C0 hP 30 (mM_n rfl rfl) rfl rfl 8 (by decide) i_X5 k_2 rfl rfl dX5_report_147 ?_
                  refine x_top ok.n.1 ?_
                  refine lv_imul C0.hx C0.hb dX5_report_150 ?_
                  refine x_top (pk_mul 4 (nv (σ 30 0 2))) ?_
                  refine lv_iconst (v := nI 3) C0.hx C0.hb dX5_report_151 (by decide) ?_
                  refine lv_iadd C0.hx C0.hb dX5_report_152 ?_
                  refine x_top (nI_add (4 * (nv (σ 30 0 2))) 3) ?_
                  refine lv_iload C0.hx C0.hb dX5_report_153 (lv_at hl 6 rfl) ?_
                  refine x_iast C0 hP hS 39 ((4 * (nv (σ 30 0 2))) + 3) 240 (v := w) (mM_n rfl rfl) (fun _ => rfl) (by omega) (by decide) dX5_report_155 (fun H locs hP hS => ?_)
                  refine lv_aload_n C0.hx C0.hb dX5_report_156 rfl (lv_at hl 0 rfl) ?_
                  refine x_get C0 hP 30 (mM_n rfl rfl) rfl rfl 12 (by decide) i_X5 k_6 rfl rfl dX5_report_157 ?_
                  refine lv_aload_n C0.hx C0.hb dX5_report_160 rfl (lv_at hl 0 rfl) ?_
                  refine x_get C0 hP 30 (mM_n rfl rfl) rfl rfl 8 (by decide) i_X5 k_2 rfl rfl dX5_report_161 ?_
                  refine x_top ok.n.1 ?_
                  refine lv_iconst (v := -1) C0.hx C0.hb dX5_report_164 (by decide) ?_
                  refine x_iast C0 hP hS 40 (nv (σ 30 0 2)) 60 (v := -1) (mM_n rfl rfl) (fun _ => rfl) (by omega) (by decide) dX5_report_165 (fun H locs hP hS => ?_)
                  refine lv_aload_n C0.hx C0.hb dX5_report_166 rfl (lv_at hl 0 rfl) ?_
                  refine lv_dup C0.hx C0.hb dX5_report_167 rfl ?_
                  refine x_get C0 hP 30 (mM_n rfl rfl) rfl rfl 8 (by decide) i_X5 k_2 rfl rfl dX5_report_168 ?_
                  refine x_top ok.n.1 ?_
                  refine lv_iconst (v := nI 1) C0.hx C0.hb dX5_report_171 (by decide) ?_
                  refine lv_iadd C0.hx C0.hb dX5_report_172 ?_
                  refine x_top (nI_add (nv (σ 30 0 2)) 1) ?_
                  refine x_put C0 hP hS 30 (mM_n rfl rfl) rfl rfl tyX5 tyX5_ok nmX5 8 (by decide) i_X5 k_2 rfl rfl 2 rfl (Nat.le_of_ble_eq_true rfl) rfl dX5_report_173 (fun H locs hP hS => ?_)
                  refine lv_aload_n C0.hx C0.hb dX5_report_176 rfl (lv_at hl 0 rfl) ?_
                  refine x_get C0 hP 30 (mM_n rfl rfl) rfl rfl 8 (by decide) i_X5 k_2 rfl rfl dX5_report_177 ?_
                  refine x_top up3_self ?_
                  refine lv_iconst (v := nI 1) C0.hx C0.hb dX5_report_180 (by decide) ?_
                  refine lv_isub C0.hx C0.hb dX5_report_181 ?_
                  refine x_top (nI_pred _) ?_
                  exact W.iret (v := nI (nv (σ 30 0 2))) C0.hx C0.hb hr (fun t ht hW => ⟨⟨_, up3 (up3 (up3 (up3 (up3 (up3 (up3 (up3 (m0 σ) 37 0 (nv (σ 30 0 2)) v) 38 0 (nv (σ 30 0 2)) u) 39 0 (4 * (nv (σ 30 0 2))) x) 39 0 ((4 * (nv (σ 30 0 2))) + 1) y) 39 0 ((4 * (nv (σ 30 0 2))) + 2) z) 39 0 ((4 * (nv (σ 30 0 2))) + 3) w) 40 0 (nv (σ 30 0 2)) (-1)) 30 0 2 (nI ((nv (σ 30 0 2)) + 1)), rfl, ⟨(by unfold rpMV; rw [if_pos hgood, if_neg c_7]), (by unfold rpMS; rw [if_pos hgood, if_neg c_7]; rfl)⟩, x_end ht hP⟩, hS.F ht⟩) hS.2.2 dX5_report_182
                ·
                  refine lv_aload_n C0.hx C0.hb dX5_report_73 rfl (lv_at hl 0 rfl) ?_
                  refine lv_iconst (v := nI 2) C0.hx C0.hb dX5_report_74 (by decide) ?_
                  refine x_Vw (As := [.int (nI 2)]) (rest := []) C0 (mtX5_fails l g a (m0 σ) 2) hP hS (cwV 1 C0.hts gX5_report_X5_fails rfl rfl rfl (by decide +kernel) ⟨Nat.le_of_ble_eq_true rfl, Nat.le_of_ble_eq_true rfl⟩) (x_recv C0 hP 30 (mM_n rfl rfl) rfl rfl) rfl hl rfl (Nat.le_of_ble_eq_true rfl) (Nat.zero_le _) (Nat.zero_le _) dX5_report_75 (fun H locs hP hS => ?_)
                  exact W.iret (v := nI 0) C0.hx C0.hb hr (fun t ht hW => ⟨⟨_, up3 (m0 σ) 30 0 0 (nI 2), rfl, ⟨(by unfold rpMV; rw [if_pos hgood, if_pos c_7]), (by unfold rpMS; rw [if_pos hgood, if_pos c_7]; rfl)⟩, x_end ht hP⟩, hS.F ht⟩) hS.2.2 dX5_report_78
              ·
                exact J58 () _ _ ls ⟨⟨rfl, rfl, (by simp [rpA, c_6, c_5, c_4, c_3, c_2, c_1])⟩, (lv_sub hl [0, 1, 2, 3, 4, 5, 6] rfl)⟩

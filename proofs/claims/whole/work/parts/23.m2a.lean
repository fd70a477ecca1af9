set_option maxHeartbeats 4000000 in
set_option maxRecDepth 100000 in
theorem mtX5_rateOf (l : Launch) (g : xG) (a : xAd) (σ : xS) (nm : Int32) (v : Nat) (hv : v < 4) (ok : okM σ) : xMi l yX5_rateOf wsX5_rateOf ({ frames := 0, cells := 0, slots := 0, locals := 0 }) NLM g a σ [.ref (a 30 0), .int nm, .int (nI v)] (nI (rtM σ nm v)) := by
  unfold xMi
  refine Met.ofW (cc := cX5_rateOf) (maxL := 5) (ret := (some .int)) (by decide) rfl ?_
  intro p e s m args below meth c s₁ B hml hv
  obtain ⟨rfl, hP, hK, hN, hj⟩ := hv
  have hr := B.returns
  have hlocks := B.notSynchronized
  have C0 : xC p s m _ c cX5_rateOf 5 wsX5_rateOf RX5 NLM g a (xA NLM a s.heap.size) := ⟨⟨B.exec, B.bytes, hml, findClass_of_methodNamed B.named, atoms_spec (ws := wsX5_rateOf) B.pre⟩, hK, hN, hj, fun n h => Or.inl ⟨n, h, rfl⟩, fun q h => Or.inr h⟩
  have hS : va_S (xA NLM a s.heap.size) s.heap s.heap [] := va_S.rf
  have hl := lv_entry ([.ref (a 30 0), .int nm, .int (nI v)]) (n := 5) (Nat.le_of_ble_eq_true rfl)
  rw [lg_entry_eq]
  generalize (lg_sl ([.ref (a 30 0), .int nm, .int (nI v)]) ++ List.replicate (5 - (lg_sl ([.ref (a 30 0), .int nm, .int (nI v)])).length) Slot.unset).toArray = ls at hl ⊢
  have hl : lv_has ls 5 [(0, .ref (a 30 0)), (1, .int nm), (2, .int (nI v))] := hl
  have k_0 : Cond.fieldLink RX5 67 RX5 (TX5 8).2.1 (TX5 8).2.2.1 ∈ wsX5_rateOf := by decide +kernel
  have i_X5 : ∀ w ∈ wsX50, w ∈ wsX5_rateOf := by decide +kernel
  have k_2 : Cond.fieldLink RX5 45 RX5 (TX5 13).2.1 (TX5 13).2.2.1 ∈ wsX5_rateOf := by decide +kernel
  have k_3 : Cond.fieldLink RX5 51 RX5 (TX5 15).2.1 (TX5 15).2.2.1 ∈ wsX5_rateOf := by decide +kernel
  have k_4 : Cond.fieldLink RX5 33 RX5 (TX5 9).2.1 (TX5 9).2.2.1 ∈ wsX5_rateOf := by decide +kernel
  refine lv_iconst (v := nI 0) C0.hx C0.hb dX5_rateOf_0 (by decide) ?_
  refine lv_istore_n (lv' := [(3, .int (nI 0)), (0, .ref (a 30 0)), (1, .int nm), (2, .int (nI v))]) C0.hx C0.hb dX5_rateOf_1 rfl hl (by decide) rfl (fun ls hl => ?_)
  refine lv_iconst (v := nI 0) C0.hx C0.hb dX5_rateOf_2 (by decide) ?_
  refine lv_istore (lv' := [(4, .int (nI 0)), (3, .int (nI 0)), (0, .ref (a 30 0)), (1, .int nm), (2, .int (nI v))]) C0.hx C0.hb dX5_rateOf_3 hl (by decide) rfl (fun ls hl => ?_)
  refine x_loopR (α := Nat) (fun k => 60 - k) (fun k ls => k ≤ nv (σ 30 0 2) ∧ lv_has ls 5 [(0, .ref (a 30 0)), (1, .int nm), (2, .int (nI v)), (3, .int (nI (cmL σ nm v k))), (4, .int (nI k))]) ?_ 0 ⟨(by omega), (lv_sub hl [2, 3, 4, 1, 0] rfl)⟩
  rintro k ls ⟨hk, hl⟩ ih5
  have hn := ok.n.2
  have hc := cmL_le (τ := σ) (nm := nm) (v := v) k
  refine lv_iload C0.hx C0.hb dX5_rateOf_5 (lv_at hl 4 rfl) ?_
  refine lv_aload_n C0.hx C0.hb dX5_rateOf_7 rfl (lv_at hl 0 rfl) ?_
  refine x_get C0 hP 30 (mM_n rfl rfl) rfl rfl 8 (by decide) i_X5 k_0 rfl rfl dX5_rateOf_8 ?_
  obtain ⟨e_1, b_2⟩ := (ok.n : inR (σ 30 0 2) _)
  refine x_top e_1 ?_
  refine x_icmp_ge (tgt := 50) C0.hx C0.hb (by omega) (by omega) dX5_rateOf_11 (by decide) (fun c_3 => ?_) (fun c_3 => ?_)
  ·
    have hkn : k = nv (σ 30 0 2) := by omega
    refine x_join (α := Nat) 75 (fun z H' locs' ls => (H' = s.heap ∧ locs' = [] ∧ z = (rtM σ nm v)) ∧ lv_has ls 5 [(0, .ref (a 30 0)), (1, .int nm), (2, .int (nI v)), (3, .int (nI (cmL σ nm v k))), (4, .int (nI k))]) (fun z => [.int (nI z)]) ?_ (fun J75 => ?_)
    · rintro z _ _ ls ⟨⟨rfl, rfl, hz⟩, hl⟩
      subst hz
      exact W.iret (v := nI (rtM σ nm v)) C0.hx C0.hb hr (fun t ht hW => ⟨_, rfl, rfl, ht⟩) (fun q h => nomatch h) dX5_rateOf_75
    ·
      refine lv_aload_n C0.hx C0.hb dX5_rateOf_50 rfl (lv_at hl 0 rfl) ?_
      refine x_get C0 hP 30 (mM_n rfl rfl) rfl rfl 13 (by decide) i_X5 k_2 rfl rfl dX5_rateOf_51 ?_
      refine lv_iload_n C0.hx C0.hb dX5_rateOf_54 rfl (lv_at hl 2 rfl) ?_
      refine x_iald C0 hP 41 v 4 (mM_n rfl rfl) rfl (by omega) (by decide) dX5_rateOf_55 ?_
      obtain ⟨e_4, b_5⟩ := (ok.ses (by omega) : inR (σ 41 0 v) _)
      refine x_top e_4 ?_
      refine x_ifnen (tgt := 63) C0.hx C0.hb (by omega) dX5_rateOf_56 (by decide) (fun c_6 => ?_) (fun c_6 => ?_)
      ·
        refine lv_sipush (v := nI 10000) C0.hx C0.hb dX5_rateOf_63 (by decide) ?_
        refine lv_iload_n C0.hx C0.hb dX5_rateOf_66 rfl (lv_at hl 3 rfl) ?_
        refine lv_imul C0.hx C0.hb dX5_rateOf_67 ?_
        refine x_top (pk_mul 10000 (cmL σ nm v k)) ?_
        refine lv_aload_n C0.hx C0.hb dX5_rateOf_68 rfl (lv_at hl 0 rfl) ?_
        refine x_get C0 hP 30 (mM_n rfl rfl) rfl rfl 13 (by decide) i_X5 k_2 rfl rfl dX5_rateOf_69 ?_
        refine lv_iload_n C0.hx C0.hb dX5_rateOf_72 rfl (lv_at hl 2 rfl) ?_
        refine x_iald C0 hP 41 v 4 (mM_n rfl rfl) rfl (by omega) (by decide) dX5_rateOf_73 ?_
        obtain ⟨e_7, b_8⟩ := (ok.ses (by omega) : inR (σ 41 0 v) _)
        refine x_top e_7 ?_
        refine lv_idiv C0.hx C0.hb dX5_rateOf_74 (nI_ne0 (by omega) (by omega)) ?_
        refine x_top (pk_div (by omega) (by omega) (by omega)) ?_
        exact J75 ((10000 * (cmL σ nm v k)) / (nv (σ 41 0 v))) _ _ ls ⟨⟨rfl, rfl, (by unfold rtM; rw [← hkn])⟩, (lv_sub hl [0, 1, 2, 3, 4] rfl)⟩
      ·
        refine lv_iconst (v := nI 0) C0.hx C0.hb dX5_rateOf_59 (by decide) ?_
        refine lv_goto (tgt := 75) C0.hx C0.hb dX5_rateOf_60 (by decide) ?_
        exact J75 0 _ _ ls ⟨⟨rfl, rfl, (by unfold rtM; rw [c_6, Nat.div_zero])⟩, (lv_sub hl [0, 1, 2, 3, 4] rfl)⟩
  ·
    refine lv_iload_n C0.hx C0.hb dX5_rateOf_14 rfl (lv_at hl 3 rfl) ?_
    refine x_join (α := Nat) 42 (fun z H' locs' ls => (H' = s.heap ∧ locs' = [] ∧ z = (if σ 42 0 k = nm ∧ nv (σ 37 0 k) = v then 1 else 0)) ∧ lv_has ls 5 [(0, .ref (a 30 0)), (1, .int nm), (2, .int (nI v)), (3, .int (nI (cmL σ nm v k))), (4, .int (nI k))]) (fun z => [.int (nI z), .int (nI (cmL σ nm v k))]) ?_ (fun J42 => ?_)
    · rintro z _ _ ls ⟨⟨rfl, rfl, hz⟩, hl⟩
      subst hz
      refine lv_iadd C0.hx C0.hb dX5_rateOf_42 ?_
      refine x_top (nI_add (cmL σ nm v k) (if σ 42 0 k = nm ∧ nv (σ 37 0 k) = v then 1 else 0)) ?_
      refine lv_istore_n (lv' := [(3, .int (nI ((cmL σ nm v k) + (if σ 42 0 k = nm ∧ nv (σ 37 0 k) = v then 1 else 0)))), (0, .ref (a 30 0)), (1, .int nm), (2, .int (nI v)), (4, .int (nI k))]) C0.hx C0.hb dX5_rateOf_43 rfl hl (by decide) rfl (fun ls hl => ?_)
      refine lv_iinc (v := nI (k + 1)) (lv' := [(4, .int (nI (k + 1))), (3, .int (nI ((cmL σ nm v k) + (if σ 42 0 k = nm ∧ nv (σ 37 0 k) = v then 1 else 0)))), (0, .ref (a 30 0)), (1, .int nm), (2, .int (nI v))]) C0.hx C0.hb dX5_rateOf_44 hl (k := 4) rfl (nI_1 k) (by decide) rfl (fun ls hl => ?_)
      refine lv_goto (tgt := 5) C0.hx C0.hb dX5_rateOf_47 (by decide) ?_
      exact ih5 ((k + 1)) ls ⟨(by omega), (lv_sub hl [2, 3, 4, 1, 0] rfl)⟩ (by omega)
    ·
      refine lv_aload_n C0.hx C0.hb dX5_rateOf_15 rfl (lv_at hl 0 rfl) ?_
      refine x_get C0 hP 30 (mM_n rfl rfl) rfl rfl 15 (by decide) i_X5 k_3 rfl rfl dX5_rateOf_16 ?_
      refine lv_iload C0.hx C0.hb dX5_rateOf_19 (lv_at hl 4 rfl) ?_
      refine x_iald C0 hP 42 k 60 (mM_n rfl rfl) rfl (by omega) (by decide) dX5_rateOf_21 ?_
      refine lv_iload_n C0.hx C0.hb dX5_rateOf_22 rfl (lv_at hl 1 rfl) ?_
      refine lv_icmp_ne (tgt := 41) C0.hx C0.hb dX5_rateOf_23 (by decide) (fun c_9 => ?_) (fun c_9 => ?_)
      ·
        refine lv_iconst (v := nI 0) C0.hx C0.hb dX5_rateOf_41 (by decide) ?_
        exact J42 0 _ _ ls ⟨⟨rfl, rfl, (by simp [c_9])⟩, (lv_sub hl [0, 1, 2, 3, 4] rfl)⟩
      ·
        refine lv_aload_n C0.hx C0.hb dX5_rateOf_26 rfl (lv_at hl 0 rfl) ?_
        refine x_get C0 hP 30 (mM_n rfl rfl) rfl rfl 9 (by decide) i_X5 k_4 rfl rfl dX5_rateOf_27 ?_
        refine lv_iload C0.hx C0.hb dX5_rateOf_30 (lv_at hl 4 rfl) ?_
        refine x_iald C0 hP 37 k 60 (mM_n rfl rfl) rfl (by omega) (by decide) dX5_rateOf_32 ?_
        obtain ⟨e_10, b_11⟩ := (ok.ver (by omega) : inR (σ 37 0 k) _)
        refine x_top e_10 ?_
        refine lv_iload_n C0.hx C0.hb dX5_rateOf_33 rfl (lv_at hl 2 rfl) ?_
        refine x_icmp_ne (tgt := 41) C0.hx C0.hb (by omega) (by omega) dX5_rateOf_34 (by decide) (fun c_12 => ?_) (fun c_12 => ?_)
        ·
          refine lv_iconst (v := nI 0) C0.hx C0.hb dX5_rateOf_41 (by decide) ?_
          exact J42 0 _ _ ls ⟨⟨rfl, rfl, (by simp [c_12, c_9])⟩, (lv_sub hl [0, 1, 2, 3, 4] rfl)⟩
        ·
          refine lv_iconst (v := nI 1) C0.hx C0.hb dX5_rateOf_37 (by decide) ?_
          refine lv_goto (tgt := 42) C0.hx C0.hb dX5_rateOf_38 (by decide) ?_
          exact J42 1 _ _ ls ⟨⟨rfl, rfl, (by simp [c_12, c_9])⟩, (lv_sub hl [0, 1, 2, 3, 4] rfl)⟩

set_option maxHeartbeats 4000000 in
set_option maxRecDepth 100000 in
theorem mtX5_usersOf (l : Launch) (g : xG) (a : xAd) (σ : xS) (nm : Int32) (v : Nat) (hv : v < 4) (ok : okM σ) : xMw l yX5_usersOf wsX5_usersOf ({ frames := 0, cells := 0, slots := 0, locals := 0 }) NLM g a σ [.ref (a 30 0), .int nm, .int (nI v)] (nI (umX σ nm v).1) (umX σ nm v).2 := by
  intro sz
  refine Met.ofW (cc := cX5_usersOf) (maxL := 6) (ret := (some .int)) (by decide) rfl ?_
  intro p e s m args below meth c s₁ B hml hv
  obtain ⟨rfl, hsz, hP, hK, hN, hj⟩ := hv
  subst hsz
  have hr := B.returns
  have hlocks := B.notSynchronized
  have C0 : xC p s m _ c cX5_usersOf 6 wsX5_usersOf RX5 NLM g a (xA NLM a s.heap.size) := ⟨⟨B.exec, B.bytes, hml, findClass_of_methodNamed B.named, atoms_spec (ws := wsX5_usersOf) B.pre⟩, hK, hN, hj, fun n h => Or.inl ⟨n, h, rfl⟩, fun q h => Or.inr h⟩
  have hS : va_S (xA NLM a s.heap.size) s.heap s.heap [] := va_S.rf
  have hl := lv_entry ([.ref (a 30 0), .int nm, .int (nI v)]) (n := 6) (Nat.le_of_ble_eq_true rfl)
  rw [lg_entry_eq]
  generalize (lg_sl ([.ref (a 30 0), .int nm, .int (nI v)]) ++ List.replicate (6 - (lg_sl ([.ref (a 30 0), .int nm, .int (nI v)])).length) Slot.unset).toArray = ls at hl ⊢
  have hl : lv_has ls 6 [(0, .ref (a 30 0)), (1, .int nm), (2, .int (nI v))] := hl
  have k_0 : Cond.fieldLink RX5 67 RX5 (TX5 8).2.1 (TX5 8).2.2.1 ∈ wsX5_usersOf := by decide +kernel
  have i_X5 : ∀ w ∈ wsX50, w ∈ wsX5_usersOf := by decide +kernel
  have k_2 : Cond.fieldLink RX5 57 RX5 (TX5 17).2.1 (TX5 17).2.2.1 ∈ wsX5_usersOf := by decide +kernel
  have k_3 : Cond.fieldLink RX5 36 RX5 (TX5 10).2.1 (TX5 10).2.2.1 ∈ wsX5_usersOf := by decide +kernel
  have k_4 : Cond.fieldLink RX5 51 RX5 (TX5 15).2.1 (TX5 15).2.2.1 ∈ wsX5_usersOf := by decide +kernel
  have k_5 : Cond.fieldLink RX5 33 RX5 (TX5 9).2.1 (TX5 9).2.2.1 ∈ wsX5_usersOf := by decide +kernel
  refine lv_iconst (v := nI 0) C0.hx C0.hb dX5_usersOf_0 (by decide) ?_
  refine lv_istore_n (lv' := [(3, .int (nI 0)), (0, .ref (a 30 0)), (1, .int nm), (2, .int (nI v))]) C0.hx C0.hb dX5_usersOf_1 rfl hl (by decide) rfl (fun ls hl => ?_)
  refine lv_iconst (v := nI 0) C0.hx C0.hb dX5_usersOf_2 (by decide) ?_
  refine lv_istore (lv' := [(4, .int (nI 0)), (3, .int (nI 0)), (0, .ref (a 30 0)), (1, .int nm), (2, .int (nI v))]) C0.hx C0.hb dX5_usersOf_3 hl (by decide) rfl (fun ls hl => ?_)
  refine x_loopW (α := Nat) (fun k => 20 - k) (fun k H locs ls => va_P g.1 vwCl (xw NLM g a (s0L σ k)) H ∧ va_S (xA NLM a s.heap.size) s.heap H locs ∧ k ≤ 20 ∧ lv_has ls 6 [(0, .ref (a 30 0)), (1, .int nm), (2, .int (nI v)), (3, .int (nI 0)), (4, .int (nI k))]) ?_ 0 ⟨hP, hS, (by omega), (lv_sub hl [2, 3, 4, 1, 0] rfl)⟩
  rintro k H locs ls ⟨hP, hS, hk, hl⟩ ih5
  refine lv_iload C0.hx C0.hb dX5_usersOf_5 (lv_at hl 4 rfl) ?_
  refine lv_bipush (v := nI 20) C0.hx C0.hb dX5_usersOf_7 (by decide) ?_
  refine x_icmp_ge (tgt := 26) C0.hx C0.hb (by omega) (by omega) dX5_usersOf_9 (by decide) (fun c_1 => ?_) (fun c_1 => ?_)
  ·
    obtain rfl : k = 20 := by omega
    obtain ⟨β, hβ⟩ : ∃ z : xS, z = s0L σ 20 := ⟨_, rfl⟩
    rw [← hβ] at hP
    have okβ : okM β := by rw [hβ]; exact s0L_ok ok
    have hβn : β 30 0 2 = nI (nv (σ 30 0 2)) := by rw [hβ]; exact (s0L_ne 20 30 0 2 (by decide)).trans ok.n.1
    refine lv_iconst (v := nI 0) C0.hx C0.hb dX5_usersOf_26 (by decide) ?_
    refine lv_istore (lv' := [(4, .int (nI 0)), (0, .ref (a 30 0)), (1, .int nm), (2, .int (nI v)), (3, .int (nI 0))]) C0.hx C0.hb dX5_usersOf_27 hl (by decide) rfl (fun ls hl => ?_)
    refine x_loopW (α := Nat × Nat × xS) (fun u => 60 - u.1) (fun ⟨k, t, τ⟩ H locs ls => va_P g.1 vwCl (xw NLM g a τ) H ∧ va_S (xA NLM a s.heap.size) s.heap H locs ∧ k ≤ nv (σ 30 0 2) ∧ t ≤ k ∧ okM τ ∧ τ 30 0 2 = nI (nv (σ 30 0 2)) ∧ (t, τ) = umL nm v k (0, β) ∧ lv_has ls 6 [(0, .ref (a 30 0)), (1, .int nm), (2, .int (nI v)), (3, .int (nI t)), (4, .int (nI k))]) ?_ ((0, 0, β)) ⟨hP, hS, (by omega), (by omega), okβ, hβn, rfl, (lv_sub hl [1, 2, 3, 4, 0] rfl)⟩
    rintro ⟨k, t, τ⟩ H locs ls ⟨hP, hS, hk, htk, ok1, on, hQ, hl⟩ ih29
    have hn := ok.n.2
    refine lv_iload C0.hx C0.hb dX5_usersOf_29 (lv_at hl 4 rfl) ?_
    refine lv_aload_n C0.hx C0.hb dX5_usersOf_31 rfl (lv_at hl 0 rfl) ?_
    refine x_get C0 hP 30 (mM_n rfl rfl) rfl rfl 8 (by decide) i_X5 k_0 rfl rfl dX5_usersOf_32 ?_
    refine x_top on ?_
    refine x_icmp_ge (tgt := 138) C0.hx C0.hb (by omega) (by omega) dX5_usersOf_35 (by decide) (fun c_2 => ?_) (fun c_2 => ?_)
    ·
      have hkn : k = nv (σ 30 0 2) := by omega
      refine lv_iload_n C0.hx C0.hb dX5_usersOf_138 rfl (lv_at hl 3 rfl) ?_
      exact W.iret (v := nI t) C0.hx C0.hb hr (fun t ht hW => ⟨⟨_, τ, rfl, ⟨(by unfold umX; rw [← hβ, ← hkn, ← hQ]), (by unfold umX; rw [← hβ, ← hkn, ← hQ])⟩, x_end ht hP⟩, hS.F ht⟩) hS.2.2 dX5_usersOf_139
    ·
      refine x_join (α := Bool) 65 (fun b65 H' locs' ls => (H' = H ∧ locs' = locs ∧ b65 = (itM τ nm v k)) ∧ lv_has ls 6 [(0, .ref (a 30 0)), (1, .int nm), (2, .int (nI v)), (3, .int (nI t)), (4, .int (nI k))]) (fun b65 => [.int (bI b65)]) ?_ (fun J65 => ?_)
      · rintro b65 H locs ls ⟨⟨rfl, rfl, hb65⟩, hl⟩
        subst hb65
        refine lv_istore (lv' := [(5, .int (bI (itM τ nm v k))), (0, .ref (a 30 0)), (1, .int nm), (2, .int (nI v)), (3, .int (nI t)), (4, .int (nI k))]) C0.hx C0.hb dX5_usersOf_65 hl (by decide) rfl (fun ls hl => ?_)
        refine lv_iload_n C0.hx C0.hb dX5_usersOf_67 rfl (lv_at hl 4 rfl) ?_
        refine x_join (α := Nat) 93 (fun z H' locs' ls => (H' = H ∧ locs' = locs ∧ z = (if itM τ nm v k = true ∧ τ 44 0 (nv (τ 38 0 k)) = 0 then 1 else 0)) ∧ lv_has ls 6 [(0, .ref (a 30 0)), (1, .int nm), (2, .int (nI v)), (3, .int (nI t)), (4, .int (nI k)), (5, .int (bI (itM τ nm v k)))]) (fun z => [.int (nI z), .int (nI t)]) ?_ (fun J93 => ?_)
        · rintro z H locs ls ⟨⟨rfl, rfl, hz⟩, hl⟩
          subst hz
          refine lv_iadd C0.hx C0.hb dX5_usersOf_93 ?_
          refine x_top (nI_add t (if itM τ nm v k = true ∧ τ 44 0 (nv (τ 38 0 k)) = 0 then 1 else 0)) ?_
          refine lv_istore_n (lv' := [(3, .int (nI (t + (if itM τ nm v k = true ∧ τ 44 0 (nv (τ 38 0 k)) = 0 then 1 else 0)))), (0, .ref (a 30 0)), (1, .int nm), (2, .int (nI v)), (4, .int (nI k)), (5, .int (bI (itM τ nm v k)))]) C0.hx C0.hb dX5_usersOf_94 rfl hl (by decide) rfl (fun ls hl => ?_)
          refine lv_aload_n C0.hx C0.hb dX5_usersOf_95 rfl (lv_at hl 1 rfl) ?_
          refine x_get C0 hP 30 (mM_n rfl rfl) rfl rfl 17 (by decide) i_X5 k_2 rfl rfl dX5_usersOf_96 ?_
          refine lv_aload_n C0.hx C0.hb dX5_usersOf_99 rfl (lv_at hl 1 rfl) ?_
          refine x_get C0 hP 30 (mM_n rfl rfl) rfl rfl 10 (by decide) i_X5 k_3 rfl rfl dX5_usersOf_100 ?_
          refine lv_iload C0.hx C0.hb dX5_usersOf_103 (lv_at hl 4 rfl) ?_
          refine x_iald C0 hP 38 k 60 (mM_n rfl rfl) rfl (by omega) (by decide) dX5_usersOf_105 ?_
          obtain ⟨e_3, b_4⟩ := (ok1.usr (by omega) : inR (τ 38 0 k) _)
          refine x_top e_3 ?_
          refine x_join (α := Bool) 131 (fun b131 H' locs' ls => (H' = H ∧ locs' = locs ∧ b131 = (!decide (τ 44 0 (nv (τ 38 0 k)) = 0) || itM τ nm v k)) ∧ lv_has ls 6 [(0, .ref (a 30 0)), (1, .int nm), (2, .int (nI v)), (3, .int (nI (t + (if itM τ nm v k = true ∧ τ 44 0 (nv (τ 38 0 k)) = 0 then 1 else 0)))), (4, .int (nI k)), (5, .int (bI (itM τ nm v k)))]) (fun b131 => [.int (bI b131), .int (nI (nv (τ 38 0 k))), .ref (a 44 0)]) ?_ (fun J131 => ?_)
          · rintro b131 H locs ls ⟨⟨rfl, rfl, hb131⟩, hl⟩
            subst hb131
            refine x_zast C0 hP hS 44 (nv (τ 38 0 k)) 20 (v := bI (!decide (τ 44 0 (nv (τ 38 0 k)) = 0) || itM τ nm v k)) (bI_01 _) (mM_n rfl rfl) (fun _ => rfl) (by omega) (by decide) dX5_usersOf_131 (fun H locs hP hS => ?_)
            refine lv_iinc (v := nI (k + 1)) (lv' := [(4, .int (nI (k + 1))), (0, .ref (a 30 0)), (1, .int nm), (2, .int (nI v)), (3, .int (nI (t + (if itM τ nm v k = true ∧ τ 44 0 (nv (τ 38 0 k)) = 0 then 1 else 0)))), (5, .int (bI (itM τ nm v k)))]) C0.hx C0.hb dX5_usersOf_132 hl (k := 4) rfl (nI_1 k) (by decide) rfl (fun ls hl => ?_)
            refine lv_goto (tgt := 29) C0.hx C0.hb dX5_usersOf_135 (by decide) ?_
            exact ih29 ((k + 1, t + (if itM τ nm v k = true ∧ τ 44 0 (nv (τ 38 0 k)) = 0 then 1 else 0), up3 τ 44 0 (nv (τ 38 0 k)) (bI (!decide (τ 44 0 (nv (τ 38 0 k)) = 0) || itM τ nm v k)))) H locs ls ⟨hP, hS, (by omega), (by split <;> omega), (up44_ok ok1), on, (umL_step hQ), (lv_sub hl [1, 2, 3, 4, 0] rfl)⟩ (by show 60 - (k + 1) < 60 - k; omega)
          ·
            refine lv_aload_n C0.hx C0.hb dX5_usersOf_106 rfl (lv_at hl 1 rfl) ?_
            refine x_get C0 hP 30 (mM_n rfl rfl) rfl rfl 17 (by decide) i_X5 k_2 rfl rfl dX5_usersOf_107 ?_
            refine lv_aload_n C0.hx C0.hb dX5_usersOf_110 rfl (lv_at hl 1 rfl) ?_
            refine x_get C0 hP 30 (mM_n rfl rfl) rfl rfl 10 (by decide) i_X5 k_3 rfl rfl dX5_usersOf_111 ?_
            refine lv_iload C0.hx C0.hb dX5_usersOf_114 (lv_at hl 4 rfl) ?_
            refine x_iald C0 hP 38 k 60 (mM_n rfl rfl) rfl (by omega) (by decide) dX5_usersOf_116 ?_
            obtain ⟨e_5, b_6⟩ := (ok1.usr (by omega) : inR (τ 38 0 k) _)
            refine x_top e_5 ?_
            refine x_zald C0 hP 44 (nv (τ 38 0 k)) 20 (mM_n rfl rfl) rfl (by omega) (by decide) dX5_usersOf_117 ?_
            refine lv_if_ne (tgt := 126) C0.hx C0.hb dX5_usersOf_118 (by decide) (fun c_7 => ?_) (fun c_7 => ?_)
            ·
              refine lv_iconst (v := nI 1) C0.hx C0.hb dX5_usersOf_126 (by decide) ?_
              refine lv_goto (tgt := 131) C0.hx C0.hb dX5_usersOf_127 (by decide) ?_
              exact J131 true _ _ ls ⟨⟨rfl, rfl, (by simp [c_7])⟩, (lv_sub hl [1, 2, 3, 0, 4, 5] rfl)⟩
            ·
              refine lv_iload C0.hx C0.hb dX5_usersOf_121 (lv_at hl 5 rfl) ?_
              refine x_ifeq (tgt := 130) C0.hx C0.hb dX5_usersOf_123 (by decide) (fun c_8 => ?_) (fun c_8 => ?_)
              ·
                refine lv_iconst (v := nI 0) C0.hx C0.hb dX5_usersOf_130 (by decide) ?_
                exact J131 false _ _ ls ⟨⟨rfl, rfl, (by simp [c_8, c_7])⟩, (lv_sub hl [1, 2, 3, 0, 4, 5] rfl)⟩
              ·
                refine lv_iconst (v := nI 1) C0.hx C0.hb dX5_usersOf_126 (by decide) ?_
                refine lv_goto (tgt := 131) C0.hx C0.hb dX5_usersOf_127 (by decide) ?_
                exact J131 true _ _ ls ⟨⟨rfl, rfl, (by simp [c_8, c_7])⟩, (lv_sub hl [1, 2, 3, 0, 4, 5] rfl)⟩
        ·
          refine lv_iload C0.hx C0.hb dX5_usersOf_68 (lv_at hl 0 rfl) ?_
          refine x_ifeq (tgt := 92) C0.hx C0.hb dX5_usersOf_70 (by decide) (fun c_9 => ?_) (fun c_9 => ?_)
          ·
            refine lv_iconst (v := nI 0) C0.hx C0.hb dX5_usersOf_92 (by decide) ?_
            exact J93 0 _ _ ls ⟨⟨rfl, rfl, (by simp [c_9])⟩, (lv_sub hl [1, 2, 3, 4, 5, 0] rfl)⟩
          ·
            refine lv_aload_n C0.hx C0.hb dX5_usersOf_73 rfl (lv_at hl 1 rfl) ?_
            refine x_get C0 hP 30 (mM_n rfl rfl) rfl rfl 17 (by decide) i_X5 k_2 rfl rfl dX5_usersOf_74 ?_
            refine lv_aload_n C0.hx C0.hb dX5_usersOf_77 rfl (lv_at hl 1 rfl) ?_
            refine x_get C0 hP 30 (mM_n rfl rfl) rfl rfl 10 (by decide) i_X5 k_3 rfl rfl dX5_usersOf_78 ?_
            refine lv_iload C0.hx C0.hb dX5_usersOf_81 (lv_at hl 5 rfl) ?_
            refine x_iald C0 hP 38 k 60 (mM_n rfl rfl) rfl (by omega) (by decide) dX5_usersOf_83 ?_
            obtain ⟨e_10, b_11⟩ := (ok1.usr (by omega) : inR (τ 38 0 k) _)
            refine x_top e_10 ?_
            refine x_zald C0 hP 44 (nv (τ 38 0 k)) 20 (mM_n rfl rfl) rfl (by omega) (by decide) dX5_usersOf_84 ?_
            refine lv_if_ne (tgt := 92) C0.hx C0.hb dX5_usersOf_85 (by decide) (fun c_12 => ?_) (fun c_12 => ?_)
            ·
              refine lv_iconst (v := nI 0) C0.hx C0.hb dX5_usersOf_92 (by decide) ?_
              exact J93 0 _ _ ls ⟨⟨rfl, rfl, (by simp [c_12, c_9])⟩, (lv_sub hl [1, 2, 3, 4, 5, 0] rfl)⟩
            ·
              refine lv_iconst (v := nI 1) C0.hx C0.hb dX5_usersOf_88 (by decide) ?_
              refine lv_goto (tgt := 93) C0.hx C0.hb dX5_usersOf_89 (by decide) ?_
              exact J93 1 _ _ ls ⟨⟨rfl, rfl, (by simp [c_12, c_9])⟩, (lv_sub hl [1, 2, 3, 4, 5, 0] rfl)⟩
      ·
        refine lv_aload_n C0.hx C0.hb dX5_usersOf_38 rfl (lv_at hl 0 rfl) ?_
        refine x_get C0 hP 30 (mM_n rfl rfl) rfl rfl 15 (by decide) i_X5 k_4 rfl rfl dX5_usersOf_39 ?_
        refine lv_iload C0.hx C0.hb dX5_usersOf_42 (lv_at hl 4 rfl) ?_
        refine x_iald C0 hP 42 k 60 (mM_n rfl rfl) rfl (by omega) (by decide) dX5_usersOf_44 ?_
        refine lv_iload_n C0.hx C0.hb dX5_usersOf_45 rfl (lv_at hl 1 rfl) ?_
        refine lv_icmp_ne (tgt := 64) C0.hx C0.hb dX5_usersOf_46 (by decide) (fun c_13 => ?_) (fun c_13 => ?_)
        ·
          refine lv_iconst (v := nI 0) C0.hx C0.hb dX5_usersOf_64 (by decide) ?_
          exact J65 false _ _ ls ⟨⟨rfl, rfl, (by simp [itM, c_13])⟩, (lv_sub hl [0, 1, 2, 3, 4] rfl)⟩
        ·
          refine lv_aload_n C0.hx C0.hb dX5_usersOf_49 rfl (lv_at hl 0 rfl) ?_
          refine x_get C0 hP 30 (mM_n rfl rfl) rfl rfl 9 (by decide) i_X5 k_5 rfl rfl dX5_usersOf_50 ?_
          refine lv_iload C0.hx C0.hb dX5_usersOf_53 (lv_at hl 4 rfl) ?_
          refine x_iald C0 hP 37 k 60 (mM_n rfl rfl) rfl (by omega) (by decide) dX5_usersOf_55 ?_
          obtain ⟨e_14, b_15⟩ := (ok1.ver (by omega) : inR (τ 37 0 k) _)
          refine x_top e_14 ?_
          refine lv_iload_n C0.hx C0.hb dX5_usersOf_56 rfl (lv_at hl 2 rfl) ?_
          refine x_icmp_ne (tgt := 64) C0.hx C0.hb (by omega) (by omega) dX5_usersOf_57 (by decide) (fun c_16 => ?_) (fun c_16 => ?_)
          ·
            refine lv_iconst (v := nI 0) C0.hx C0.hb dX5_usersOf_64 (by decide) ?_
            exact J65 false _ _ ls ⟨⟨rfl, rfl, (by simp [itM, c_16, c_13])⟩, (lv_sub hl [0, 1, 2, 3, 4] rfl)⟩
          ·
            refine lv_iconst (v := nI 1) C0.hx C0.hb dX5_usersOf_60 (by decide) ?_
            refine lv_goto (tgt := 65) C0.hx C0.hb dX5_usersOf_61 (by decide) ?_
            exact J65 true _ _ ls ⟨⟨rfl, rfl, (by simp [itM, c_16, c_13])⟩, (lv_sub hl [0, 1, 2, 3, 4] rfl)⟩
  ·
    refine lv_aload_n C0.hx C0.hb dX5_usersOf_12 rfl (lv_at hl 0 rfl) ?_
    refine x_get C0 hP 30 (mM_n rfl rfl) rfl rfl 17 (by decide) i_X5 k_2 rfl rfl dX5_usersOf_13 ?_
    refine lv_iload C0.hx C0.hb dX5_usersOf_16 (lv_at hl 4 rfl) ?_
    refine lv_iconst (v := nI 0) C0.hx C0.hb dX5_usersOf_18 (by decide) ?_
    refine x_zast C0 hP hS 44 k 20 (v := nI 0) (by decide) (mM_n rfl rfl) (fun _ => rfl) (by omega) (by decide) dX5_usersOf_19 (fun H locs hP hS => ?_)
    refine lv_iinc (v := nI (k + 1)) (lv' := [(4, .int (nI (k + 1))), (0, .ref (a 30 0)), (1, .int nm), (2, .int (nI v)), (3, .int (nI 0))]) C0.hx C0.hb dX5_usersOf_20 hl (k := 4) rfl (nI_1 k) (by decide) rfl (fun ls hl => ?_)
    refine lv_goto (tgt := 5) C0.hx C0.hb dX5_usersOf_23 (by decide) ?_
    exact ih5 ((k + 1)) H locs ls ⟨hP, hS, (by omega), (lv_sub hl [1, 2, 3, 4, 0] rfl)⟩ (by omega)

set_option maxHeartbeats 4000000 in
set_option maxRecDepth 100000 in
theorem mtX5_bucket (l : Launch) (g : xG) (a : xAd) (σ : xS) (r : Int32) (ok : okM σ) (ac : acM σ) : xMw l yX5_bucket wsX5_bucket ({ frames := 3, cells := 0, slots := 0, locals := 71 }) NLM g a σ [.ref (a 30 0), .int r] (bkMV σ r) (bkMS σ r) := by
  intro sz
  refine Met.ofW (cc := cX5_bucket) (maxL := 2) (ret := (some .int)) (by decide) rfl ?_
  intro p e s m args below meth c s₁ B hml hv
  obtain ⟨rfl, hsz, hP, hK, hN, hj⟩ := hv
  subst hsz
  have hr := B.returns
  have hlocks := B.notSynchronized
  have C0 : xC p s m _ c cX5_bucket 2 wsX5_bucket RX5 NLM g a (xA NLM a s.heap.size) := ⟨⟨B.exec, B.bytes, hml, findClass_of_methodNamed B.named, atoms_spec (ws := wsX5_bucket) B.pre⟩, hK, hN, hj, fun n h => Or.inl ⟨n, h, rfl⟩, fun q h => Or.inr h⟩
  have hS : va_S (xA NLM a s.heap.size) s.heap s.heap [] := va_S.rf
  have hl := lv_entry ([.ref (a 30 0), .int r]) (n := 2) (Nat.le_of_ble_eq_true rfl)
  rw [lg_entry_eq]
  generalize (lg_sl ([.ref (a 30 0), .int r]) ++ List.replicate (2 - (lg_sl ([.ref (a 30 0), .int r])).length) Slot.unset).toArray = ls at hl ⊢
  have hl : lv_has ls 2 [(0, .ref (a 30 0)), (1, .int r)] := hl
  have k_0 : Cond.fieldLink RX5 60 RX5 (TX5 0).2.1 (TX5 0).2.2.1 ∈ wsX5_bucket := by decide +kernel
  have i_X5 : ∀ w ∈ wsX50, w ∈ wsX5_bucket := by decide +kernel
  have k_2 : Cond.fieldLink RX5 51 RX5 (TX5 15).2.1 (TX5 15).2.2.1 ∈ wsX5_bucket := by decide +kernel
  refine lv_aload_n C0.hx C0.hb dX5_bucket_0 rfl (lv_at hl 0 rfl) ?_
  refine lv_iconst (v := nI 0) C0.hx C0.hb dX5_bucket_1 (by decide) ?_
  refine x_put C0 hP hS 30 (mM_n rfl rfl) rfl rfl tyX5 tyX5_ok nmX5 0 (by decide) i_X5 k_0 rfl rfl 0 rfl (Nat.le_of_ble_eq_true rfl) rfl dX5_bucket_2 (fun H locs hP hS => ?_)
  have hP : va_P g.1 vwCl (xw NLM g a (m0 σ)) H := hP
  have okm : okM (m0 σ) := m0_ok ok
  refine lv_aload_n C0.hx C0.hb dX5_bucket_5 rfl (lv_at hl 0 rfl) ?_
  refine lv_iload_n C0.hx C0.hb dX5_bucket_6 rfl (lv_at hl 1 rfl) ?_
  refine x_Vi (As := [.int r]) (rest := []) C0 (mtX5_isReport l g a (m0 σ) r okm) hP C0.2.2.2.1 (cwV 1 C0.hts gX5_bucket_X5_isReport rfl rfl rfl (by decide +kernel) ⟨Nat.le_of_ble_eq_true rfl, Nat.le_of_ble_eq_true rfl⟩) (x_recv C0 hP 30 (mM_n rfl rfl) rfl rfl) rfl hl rfl (Nat.le_of_ble_eq_true rfl) (Nat.zero_le _) (Nat.zero_le _) dX5_bucket_7 ?_
  refine x_ifne (tgt := 19) C0.hx C0.hb dX5_bucket_10 (by decide) (fun c_1 => ?_) (fun c_1 => ?_)
  ·
    have hir := c_1
    obtain ⟨r, hr0, rfl⟩ := irM_nat okm c_1
    have hn2 : nv (σ 30 0 2) = nv (m0 σ 30 0 2) := rfl
    have er : nv (nI r) = r := nv_nI (by omega)
    refine lv_aload_n C0.hx C0.hb dX5_bucket_19 rfl (lv_at hl 0 rfl) ?_
    refine x_Vv (As := []) (rest := []) C0 (mtX5_names l g a (m0 σ) okm (m0_ac ac)) hP hS (cwV 0 C0.hts gX5_bucket_X5_names rfl rfl rfl (by decide +kernel) ⟨Nat.le_of_ble_eq_true rfl, Nat.le_of_ble_eq_true rfl⟩) (x_recv C0 hP 30 (mM_n rfl rfl) rfl rfl) rfl hl rfl (Nat.le_of_ble_eq_true rfl) (Nat.zero_le _) (Nat.zero_le _) dX5_bucket_20 (fun H locs hP hS => ?_)
    obtain ⟨υ, hυ⟩ : ∃ z : xS, z = nm0 σ := ⟨_, rfl⟩
    have hP : va_P g.1 vwCl (xw NLM g a υ) H := by rw [hυ]; exact hP
    have oku : okM υ := by rw [hυ]; exact nm0_ok ok
    refine lv_aload_n C0.hx C0.hb dX5_bucket_23 rfl (lv_at hl 0 rfl) ?_
    refine x_get C0 hP 30 (mM_n rfl rfl) rfl rfl 15 (by decide) i_X5 k_2 rfl rfl dX5_bucket_24 ?_
    refine lv_iload_n C0.hx C0.hb dX5_bucket_27 rfl (lv_at hl 1 rfl) ?_
    refine x_iald C0 hP 42 r 60 (mM_n rfl rfl) rfl (by omega) (by decide) dX5_bucket_28 ?_
    exact W.iret (v := υ 42 0 r) C0.hx C0.hb hr (fun t ht hW => ⟨⟨_, υ, rfl, ⟨(by unfold bkMV; rw [if_pos hir, er, hυ]), (by unfold bkMS; rw [if_pos hir, hυ])⟩, x_end ht hP⟩, hS.F ht⟩) hS.2.2 dX5_bucket_29
  ·
    refine lv_aload_n C0.hx C0.hb dX5_bucket_13 rfl (lv_at hl 0 rfl) ?_
    refine lv_iconst (v := nI 1) C0.hx C0.hb dX5_bucket_14 (by decide) ?_
    refine x_Vw (As := [.int (nI 1)]) (rest := []) C0 (mtX5_fails l g a (m0 σ) 1) hP hS (cwV 1 C0.hts gX5_bucket_X5_fails rfl rfl rfl (by decide +kernel) ⟨Nat.le_of_ble_eq_true rfl, Nat.le_of_ble_eq_true rfl⟩) (x_recv C0 hP 30 (mM_n rfl rfl) rfl rfl) rfl hl rfl (Nat.le_of_ble_eq_true rfl) (Nat.zero_le _) (Nat.zero_le _) dX5_bucket_15 (fun H locs hP hS => ?_)
    exact W.iret (v := nI 0) C0.hx C0.hb hr (fun t ht hW => ⟨⟨_, up3 (m0 σ) 30 0 0 (nI 1), rfl, ⟨(by unfold bkMV; rw [if_neg (by rw [c_1]; decide)]), (by unfold bkMS; rw [if_neg (by rw [c_1]; decide)]; rfl)⟩, x_end ht hP⟩, hS.F ht⟩) hS.2.2 dX5_bucket_18

set_option maxHeartbeats 4000000 in
set_option maxRecDepth 100000 in
theorem mtX5_buckets (l : Launch) (g : xG) (a : xAd) (σ : xS) (ok : okM σ) (ac : acM σ) : xMw l yX5_buckets wsX5_buckets ({ frames := 3, cells := 0, slots := 0, locals := 71 }) NLM g a σ [.ref (a 30 0)] (bsMV σ) (nm0 σ) := by
  intro sz
  refine Met.ofW (cc := cX5_buckets) (maxL := 3) (ret := (some .int)) (by decide) rfl ?_
  intro p e s m args below meth c s₁ B hml hv
  obtain ⟨rfl, hsz, hP, hK, hN, hj⟩ := hv
  subst hsz
  have hr := B.returns
  have hlocks := B.notSynchronized
  have C0 : xC p s m _ c cX5_buckets 3 wsX5_buckets RX5 NLM g a (xA NLM a s.heap.size) := ⟨⟨B.exec, B.bytes, hml, findClass_of_methodNamed B.named, atoms_spec (ws := wsX5_buckets) B.pre⟩, hK, hN, hj, fun n h => Or.inl ⟨n, h, rfl⟩, fun q h => Or.inr h⟩
  have hS : va_S (xA NLM a s.heap.size) s.heap s.heap [] := va_S.rf
  have hl := lv_entry ([.ref (a 30 0)]) (n := 3) (Nat.le_of_ble_eq_true rfl)
  rw [lg_entry_eq]
  generalize (lg_sl ([.ref (a 30 0)]) ++ List.replicate (3 - (lg_sl ([.ref (a 30 0)])).length) Slot.unset).toArray = ls at hl ⊢
  have hl : lv_has ls 3 [(0, .ref (a 30 0))] := hl
  have k_0 : Cond.fieldLink RX5 60 RX5 (TX5 0).2.1 (TX5 0).2.2.1 ∈ wsX5_buckets := by decide +kernel
  have i_X5 : ∀ w ∈ wsX50, w ∈ wsX5_buckets := by decide +kernel
  have k_2 : Cond.fieldLink RX5 67 RX5 (TX5 8).2.1 (TX5 8).2.2.1 ∈ wsX5_buckets := by decide +kernel
  have k_3 : Cond.fieldLink RX5 51 RX5 (TX5 15).2.1 (TX5 15).2.2.1 ∈ wsX5_buckets := by decide +kernel
  refine lv_aload_n C0.hx C0.hb dX5_buckets_0 rfl (lv_at hl 0 rfl) ?_
  refine lv_iconst (v := nI 0) C0.hx C0.hb dX5_buckets_1 (by decide) ?_
  refine x_put C0 hP hS 30 (mM_n rfl rfl) rfl rfl tyX5 tyX5_ok nmX5 0 (by decide) i_X5 k_0 rfl rfl 0 rfl (Nat.le_of_ble_eq_true rfl) rfl dX5_buckets_2 (fun H locs hP hS => ?_)
  have hP : va_P g.1 vwCl (xw NLM g a (m0 σ)) H := hP
  have okm : okM (m0 σ) := m0_ok ok
  refine lv_aload_n C0.hx C0.hb dX5_buckets_5 rfl (lv_at hl 0 rfl) ?_
  refine x_Vv (As := []) (rest := []) C0 (mtX5_names l g a (m0 σ) okm (m0_ac ac)) hP hS (cwV 0 C0.hts gX5_buckets_X5_names rfl rfl rfl (by decide +kernel) ⟨Nat.le_of_ble_eq_true rfl, Nat.le_of_ble_eq_true rfl⟩) (x_recv C0 hP 30 (mM_n rfl rfl) rfl rfl) rfl hl rfl (Nat.le_of_ble_eq_true rfl) (Nat.zero_le _) (Nat.zero_le _) dX5_buckets_6 (fun H locs hP hS => ?_)
  obtain ⟨υ, hυ⟩ : ∃ z : xS, z = nm0 σ := ⟨_, rfl⟩
  have hP : va_P g.1 vwCl (xw NLM g a υ) H := by rw [hυ]; exact hP
  have oku : okM υ := by rw [hυ]; exact nm0_ok ok
  refine lv_iconst (v := nI 0) C0.hx C0.hb dX5_buckets_9 (by decide) ?_
  refine lv_istore_n (lv' := [(1, .int (nI 0)), (0, .ref (a 30 0))]) C0.hx C0.hb dX5_buckets_10 rfl hl (by decide) rfl (fun ls hl => ?_)
  refine lv_iconst (v := nI 0) C0.hx C0.hb dX5_buckets_11 (by decide) ?_
  refine lv_istore_n (lv' := [(2, .int (nI 0)), (1, .int (nI 0)), (0, .ref (a 30 0))]) C0.hx C0.hb dX5_buckets_12 rfl hl (by decide) rfl (fun ls hl => ?_)
  refine x_loopR (α := Nat) (fun k => 60 - k) (fun k ls => k ≤ nv (υ 30 0 2) ∧ lv_has ls 3 [(0, .ref (a 30 0)), (1, .int (nI (bkL υ k))), (2, .int (nI k))]) ?_ 0 ⟨(by omega), (lv_sub hl [2, 1, 0] rfl)⟩
  rintro k ls ⟨hk, hl⟩ ih13
  have hn := oku.n.2
  have hb := bkL_le (τ := υ) k
  refine lv_iload_n C0.hx C0.hb dX5_buckets_13 rfl (lv_at hl 2 rfl) ?_
  refine lv_aload_n C0.hx C0.hb dX5_buckets_14 rfl (lv_at hl 0 rfl) ?_
  refine x_get C0 hP 30 (mM_n rfl rfl) rfl rfl 8 (by decide) i_X5 k_2 rfl rfl dX5_buckets_15 ?_
  obtain ⟨e_1, b_2⟩ := (oku.n : inR (υ 30 0 2) _)
  refine x_top e_1 ?_
  refine x_icmp_ge (tgt := 45) C0.hx C0.hb (by omega) (by omega) dX5_buckets_18 (by decide) (fun c_3 => ?_) (fun c_3 => ?_)
  ·
    have hkn : k = nv (υ 30 0 2) := by omega
    refine lv_iload_n C0.hx C0.hb dX5_buckets_45 rfl (lv_at hl 1 rfl) ?_
    exact W.iret (v := nI (bkL υ k)) C0.hx C0.hb hr (fun t ht hW => ⟨⟨_, υ, rfl, ⟨(by unfold bsMV; rw [← hυ, ← hkn]), hυ⟩, x_end ht hP⟩, hS.F ht⟩) hS.2.2 dX5_buckets_46
  ·
    refine lv_iload_n C0.hx C0.hb dX5_buckets_21 rfl (lv_at hl 1 rfl) ?_
    refine x_join (α := Nat) 37 (fun z H' locs' ls => (H' = H ∧ locs' = locs ∧ z = (if υ 42 0 k = nI k then 1 else 0)) ∧ lv_has ls 3 [(0, .ref (a 30 0)), (1, .int (nI (bkL υ k))), (2, .int (nI k))]) (fun z => [.int (nI z), .int (nI (bkL υ k))]) ?_ (fun J37 => ?_)
    · rintro z H locs ls ⟨⟨rfl, rfl, hz⟩, hl⟩
      subst hz
      refine lv_iadd C0.hx C0.hb dX5_buckets_37 ?_
      refine x_top (nI_add (bkL υ k) (if υ 42 0 k = nI k then 1 else 0)) ?_
      refine lv_istore_n (lv' := [(1, .int (nI ((bkL υ k) + (if υ 42 0 k = nI k then 1 else 0)))), (0, .ref (a 30 0)), (2, .int (nI k))]) C0.hx C0.hb dX5_buckets_38 rfl hl (by decide) rfl (fun ls hl => ?_)
      refine lv_iinc (v := nI (k + 1)) (lv' := [(2, .int (nI (k + 1))), (1, .int (nI ((bkL υ k) + (if υ 42 0 k = nI k then 1 else 0)))), (0, .ref (a 30 0))]) C0.hx C0.hb dX5_buckets_39 hl (k := 2) rfl (nI_1 k) (by decide) rfl (fun ls hl => ?_)
      refine lv_goto (tgt := 13) C0.hx C0.hb dX5_buckets_42 (by decide) ?_
      exact ih13 ((k + 1)) ls ⟨(by omega), (lv_sub hl [2, 1, 0] rfl)⟩ (by omega)
    ·
      refine lv_aload_n C0.hx C0.hb dX5_buckets_22 rfl (lv_at hl 0 rfl) ?_
      refine x_get C0 hP 30 (mM_n rfl rfl) rfl rfl 15 (by decide) i_X5 k_3 rfl rfl dX5_buckets_23 ?_
      refine lv_iload_n C0.hx C0.hb dX5_buckets_26 rfl (lv_at hl 2 rfl) ?_
      refine x_iald C0 hP 42 k 60 (mM_n rfl rfl) rfl (by omega) (by decide) dX5_buckets_27 ?_
      refine lv_iload_n C0.hx C0.hb dX5_buckets_28 rfl (lv_at hl 2 rfl) ?_
      refine lv_icmp_ne (tgt := 36) C0.hx C0.hb dX5_buckets_29 (by decide) (fun c_4 => ?_) (fun c_4 => ?_)
      ·
        refine lv_iconst (v := nI 0) C0.hx C0.hb dX5_buckets_36 (by decide) ?_
        exact J37 0 _ _ ls ⟨⟨rfl, rfl, (by simp [c_4])⟩, (lv_sub hl [0, 1, 2] rfl)⟩
      ·
        refine lv_iconst (v := nI 1) C0.hx C0.hb dX5_buckets_32 (by decide) ?_
        refine lv_goto (tgt := 37) C0.hx C0.hb dX5_buckets_33 (by decide) ?_
        exact J37 1 _ _ ls ⟨⟨rfl, rfl, (by simp [c_4])⟩, (lv_sub hl [0, 1, 2] rfl)⟩

set_option maxHeartbeats 4000000 in
set_option maxRecDepth 100000 in
theorem mtX5_size (l : Launch) (g : xG) (a : xAd) (σ : xS) (r : Int32) (ok : okM σ) (ac : acM σ) : xMw l yX5_size wsX5_size ({ frames := 3, cells := 0, slots := 0, locals := 71 }) NLM g a σ [.ref (a 30 0), .int r] (szMV σ r) (bkMS σ r) := by
  intro sz
  refine Met.ofW (cc := cX5_size) (maxL := 4) (ret := (some .int)) (by decide) rfl ?_
  intro p e s m args below meth c s₁ B hml hv
  obtain ⟨rfl, hsz, hP, hK, hN, hj⟩ := hv
  subst hsz
  have hr := B.returns
  have hlocks := B.notSynchronized
  have C0 : xC p s m _ c cX5_size 4 wsX5_size RX5 NLM g a (xA NLM a s.heap.size) := ⟨⟨B.exec, B.bytes, hml, findClass_of_methodNamed B.named, atoms_spec (ws := wsX5_size) B.pre⟩, hK, hN, hj, fun n h => Or.inl ⟨n, h, rfl⟩, fun q h => Or.inr h⟩
  have hS : va_S (xA NLM a s.heap.size) s.heap s.heap [] := va_S.rf
  have hl := lv_entry ([.ref (a 30 0), .int r]) (n := 4) (Nat.le_of_ble_eq_true rfl)
  rw [lg_entry_eq]
  generalize (lg_sl ([.ref (a 30 0), .int r]) ++ List.replicate (4 - (lg_sl ([.ref (a 30 0), .int r])).length) Slot.unset).toArray = ls at hl ⊢
  have hl : lv_has ls 4 [(0, .ref (a 30 0)), (1, .int r)] := hl
  have k_0 : Cond.fieldLink RX5 60 RX5 (TX5 0).2.1 (TX5 0).2.2.1 ∈ wsX5_size := by decide +kernel
  have i_X5 : ∀ w ∈ wsX50, w ∈ wsX5_size := by decide +kernel
  have k_2 : Cond.fieldLink RX5 67 RX5 (TX5 8).2.1 (TX5 8).2.2.1 ∈ wsX5_size := by decide +kernel
  have k_3 : Cond.fieldLink RX5 51 RX5 (TX5 15).2.1 (TX5 15).2.2.1 ∈ wsX5_size := by decide +kernel
  refine lv_aload_n C0.hx C0.hb dX5_size_0 rfl (lv_at hl 0 rfl) ?_
  refine lv_iconst (v := nI 0) C0.hx C0.hb dX5_size_1 (by decide) ?_
  refine x_put C0 hP hS 30 (mM_n rfl rfl) rfl rfl tyX5 tyX5_ok nmX5 0 (by decide) i_X5 k_0 rfl rfl 0 rfl (Nat.le_of_ble_eq_true rfl) rfl dX5_size_2 (fun H locs hP hS => ?_)
  have hP : va_P g.1 vwCl (xw NLM g a (m0 σ)) H := hP
  have okm : okM (m0 σ) := m0_ok ok
  refine lv_aload_n C0.hx C0.hb dX5_size_5 rfl (lv_at hl 0 rfl) ?_
  refine lv_iload_n C0.hx C0.hb dX5_size_6 rfl (lv_at hl 1 rfl) ?_
  refine x_Vi (As := [.int r]) (rest := []) C0 (mtX5_isReport l g a (m0 σ) r okm) hP C0.2.2.2.1 (cwV 1 C0.hts gX5_size_X5_isReport rfl rfl rfl (by decide +kernel) ⟨Nat.le_of_ble_eq_true rfl, Nat.le_of_ble_eq_true rfl⟩) (x_recv C0 hP 30 (mM_n rfl rfl) rfl rfl) rfl hl rfl (Nat.le_of_ble_eq_true rfl) (Nat.zero_le _) (Nat.zero_le _) dX5_size_7 ?_
  refine x_ifne (tgt := 19) C0.hx C0.hb dX5_size_10 (by decide) (fun c_1 => ?_) (fun c_1 => ?_)
  ·
    have hir := c_1
    obtain ⟨r, hr0, rfl⟩ := irM_nat okm c_1
    have hn2 : nv (σ 30 0 2) = nv (m0 σ 30 0 2) := rfl
    have er : nv (nI r) = r := nv_nI (by omega)
    refine lv_aload_n C0.hx C0.hb dX5_size_19 rfl (lv_at hl 0 rfl) ?_
    refine x_Vv (As := []) (rest := []) C0 (mtX5_names l g a (m0 σ) okm (m0_ac ac)) hP hS (cwV 0 C0.hts gX5_size_X5_names rfl rfl rfl (by decide +kernel) ⟨Nat.le_of_ble_eq_true rfl, Nat.le_of_ble_eq_true rfl⟩) (x_recv C0 hP 30 (mM_n rfl rfl) rfl rfl) rfl hl rfl (Nat.le_of_ble_eq_true rfl) (Nat.zero_le _) (Nat.zero_le _) dX5_size_20 (fun H locs hP hS => ?_)
    obtain ⟨υ, hυ⟩ : ∃ z : xS, z = nm0 σ := ⟨_, rfl⟩
    have hP : va_P g.1 vwCl (xw NLM g a υ) H := by rw [hυ]; exact hP
    have oku : okM υ := by rw [hυ]; exact nm0_ok ok
    have hrn : nv (υ 30 0 2) = nv (m0 σ 30 0 2) := by rw [hυ]; exact congrArg nv (naL_ne _ 30 0 2 (by decide) (by decide))
    refine lv_iconst (v := nI 0) C0.hx C0.hb dX5_size_23 (by decide) ?_
    refine lv_istore_n (lv' := [(2, .int (nI 0)), (0, .ref (a 30 0)), (1, .int (nI r))]) C0.hx C0.hb dX5_size_24 rfl hl (by decide) rfl (fun ls hl => ?_)
    refine lv_iconst (v := nI 0) C0.hx C0.hb dX5_size_25 (by decide) ?_
    refine lv_istore_n (lv' := [(3, .int (nI 0)), (2, .int (nI 0)), (0, .ref (a 30 0)), (1, .int (nI r))]) C0.hx C0.hb dX5_size_26 rfl hl (by decide) rfl (fun ls hl => ?_)
    refine x_loopR (α := Nat) (fun k => 60 - k) (fun k ls => k ≤ nv (υ 30 0 2) ∧ lv_has ls 4 [(0, .ref (a 30 0)), (1, .int (nI r)), (2, .int (nI (szL υ (υ 42 0 r) k))), (3, .int (nI k))]) ?_ 0 ⟨(by omega), (lv_sub hl [2, 3, 1, 0] rfl)⟩
    rintro k ls ⟨hk, hl⟩ ih27
    have hn := oku.n.2
    have hb := szL_le (τ := υ) (nm := υ 42 0 r) k
    refine lv_iload_n C0.hx C0.hb dX5_size_27 rfl (lv_at hl 3 rfl) ?_
    refine lv_aload_n C0.hx C0.hb dX5_size_28 rfl (lv_at hl 0 rfl) ?_
    refine x_get C0 hP 30 (mM_n rfl rfl) rfl rfl 8 (by decide) i_X5 k_2 rfl rfl dX5_size_29 ?_
    obtain ⟨e_2, b_3⟩ := (oku.n : inR (υ 30 0 2) _)
    refine x_top e_2 ?_
    refine x_icmp_ge (tgt := 64) C0.hx C0.hb (by omega) (by omega) dX5_size_32 (by decide) (fun c_4 => ?_) (fun c_4 => ?_)
    ·
      have hkn : k = nv (υ 30 0 2) := by omega
      refine lv_iload_n C0.hx C0.hb dX5_size_64 rfl (lv_at hl 2 rfl) ?_
      exact W.iret (v := nI (szL υ (υ 42 0 r) k)) C0.hx C0.hb hr (fun t ht hW => ⟨⟨_, υ, rfl, ⟨(by unfold szMV; rw [if_pos hir, er, ← hυ, ← hkn]), (by unfold bkMS; rw [if_pos hir, hυ])⟩, x_end ht hP⟩, hS.F ht⟩) hS.2.2 dX5_size_65
    ·
      refine lv_iload_n C0.hx C0.hb dX5_size_35 rfl (lv_at hl 2 rfl) ?_
      refine x_join (α := Nat) 56 (fun z H' locs' ls => (H' = H ∧ locs' = locs ∧ z = (if υ 42 0 k = υ 42 0 r then 1 else 0)) ∧ lv_has ls 4 [(0, .ref (a 30 0)), (1, .int (nI r)), (2, .int (nI (szL υ (υ 42 0 r) k))), (3, .int (nI k))]) (fun z => [.int (nI z), .int (nI (szL υ (υ 42 0 r) k))]) ?_ (fun J56 => ?_)
      · rintro z H locs ls ⟨⟨rfl, rfl, hz⟩, hl⟩
        subst hz
        refine lv_iadd C0.hx C0.hb dX5_size_56 ?_
        refine x_top (nI_add (szL υ (υ 42 0 r) k) (if υ 42 0 k = υ 42 0 r then 1 else 0)) ?_
        refine lv_istore_n (lv' := [(2, .int (nI ((szL υ (υ 42 0 r) k) + (if υ 42 0 k = υ 42 0 r then 1 else 0)))), (0, .ref (a 30 0)), (1, .int (nI r)), (3, .int (nI k))]) C0.hx C0.hb dX5_size_57 rfl hl (by decide) rfl (fun ls hl => ?_)
        refine lv_iinc (v := nI (k + 1)) (lv' := [(3, .int (nI (k + 1))), (2, .int (nI ((szL υ (υ 42 0 r) k) + (if υ 42 0 k = υ 42 0 r then 1 else 0)))), (0, .ref (a 30 0)), (1, .int (nI r))]) C0.hx C0.hb dX5_size_58 hl (k := 3) rfl (nI_1 k) (by decide) rfl (fun ls hl => ?_)
        refine lv_goto (tgt := 27) C0.hx C0.hb dX5_size_61 (by decide) ?_
        exact ih27 ((k + 1)) ls ⟨(by omega), (lv_sub hl [2, 3, 1, 0] rfl)⟩ (by omega)
      ·
        refine lv_aload_n C0.hx C0.hb dX5_size_36 rfl (lv_at hl 0 rfl) ?_
        refine x_get C0 hP 30 (mM_n rfl rfl) rfl rfl 15 (by decide) i_X5 k_3 rfl rfl dX5_size_37 ?_
        refine lv_iload_n C0.hx C0.hb dX5_size_40 rfl (lv_at hl 3 rfl) ?_
        refine x_iald C0 hP 42 k 60 (mM_n rfl rfl) rfl (by omega) (by decide) dX5_size_41 ?_
        refine lv_aload_n C0.hx C0.hb dX5_size_42 rfl (lv_at hl 0 rfl) ?_
        refine x_get C0 hP 30 (mM_n rfl rfl) rfl rfl 15 (by decide) i_X5 k_3 rfl rfl dX5_size_43 ?_
        refine lv_iload_n C0.hx C0.hb dX5_size_46 rfl (lv_at hl 1 rfl) ?_
        refine x_iald C0 hP 42 r 60 (mM_n rfl rfl) rfl (by omega) (by decide) dX5_size_47 ?_
        refine lv_icmp_ne (tgt := 55) C0.hx C0.hb dX5_size_48 (by decide) (fun c_5 => ?_) (fun c_5 => ?_)
        ·
          refine lv_iconst (v := nI 0) C0.hx C0.hb dX5_size_55 (by decide) ?_
          exact J56 0 _ _ ls ⟨⟨rfl, rfl, (by simp [c_5])⟩, (lv_sub hl [0, 1, 2, 3] rfl)⟩
        ·
          refine lv_iconst (v := nI 1) C0.hx C0.hb dX5_size_51 (by decide) ?_
          refine lv_goto (tgt := 56) C0.hx C0.hb dX5_size_52 (by decide) ?_
          exact J56 1 _ _ ls ⟨⟨rfl, rfl, (by simp [c_5])⟩, (lv_sub hl [0, 1, 2, 3] rfl)⟩
  ·
    refine lv_aload_n C0.hx C0.hb dX5_size_13 rfl (lv_at hl 0 rfl) ?_
    refine lv_iconst (v := nI 1) C0.hx C0.hb dX5_size_14 (by decide) ?_
    refine x_Vw (As := [.int (nI 1)]) (rest := []) C0 (mtX5_fails l g a (m0 σ) 1) hP hS (cwV 1 C0.hts gX5_size_X5_fails rfl rfl rfl (by decide +kernel) ⟨Nat.le_of_ble_eq_true rfl, Nat.le_of_ble_eq_true rfl⟩) (x_recv C0 hP 30 (mM_n rfl rfl) rfl rfl) rfl hl rfl (Nat.le_of_ble_eq_true rfl) (Nat.zero_le _) (Nat.zero_le _) dX5_size_15 (fun H locs hP hS => ?_)
    exact W.iret (v := nI 0) C0.hx C0.hb hr (fun t ht hW => ⟨⟨_, up3 (m0 σ) 30 0 0 (nI 1), rfl, ⟨(by unfold szMV; rw [if_neg (by rw [c_1]; decide)]), (by unfold bkMS; rw [if_neg (by rw [c_1]; decide)]; rfl)⟩, x_end ht hP⟩, hS.F ht⟩) hS.2.2 dX5_size_18

set_option maxHeartbeats 4000000 in
set_option maxRecDepth 100000 in
theorem mtX5_setSessions (l : Launch) (g : xG) (a : xAd) (σ : xS) (v n : Int32) (ok : okM σ) : xMw l yX5_setSessions wsX5_setSessions ({ frames := 2, cells := 0, slots := 0, locals := 42 }) NLM g a σ [.ref (a 30 0), .int v, .int n] (ssMV σ v n) (ssMS σ v n) := by
  intro sz
  refine Met.ofW (cc := cX5_setSessions) (maxL := 4) (ret := (some .int)) (by decide) rfl ?_
  intro p e s m args below meth c s₁ B hml hv
  obtain ⟨rfl, hsz, hP, hK, hN, hj⟩ := hv
  subst hsz
  have hr := B.returns
  have hlocks := B.notSynchronized
  have C0 : xC p s m _ c cX5_setSessions 4 wsX5_setSessions RX5 NLM g a (xA NLM a s.heap.size) := ⟨⟨B.exec, B.bytes, hml, findClass_of_methodNamed B.named, atoms_spec (ws := wsX5_setSessions) B.pre⟩, hK, hN, hj, fun n h => Or.inl ⟨n, h, rfl⟩, fun q h => Or.inr h⟩
  have hS : va_S (xA NLM a s.heap.size) s.heap s.heap [] := va_S.rf
  have hl := lv_entry ([.ref (a 30 0), .int v, .int n]) (n := 4) (Nat.le_of_ble_eq_true rfl)
  rw [lg_entry_eq]
  generalize (lg_sl ([.ref (a 30 0), .int v, .int n]) ++ List.replicate (4 - (lg_sl ([.ref (a 30 0), .int v, .int n])).length) Slot.unset).toArray = ls at hl ⊢
  have hl : lv_has ls 4 [(0, .ref (a 30 0)), (1, .int v), (2, .int n)] := hl
  have k_0 : Cond.fieldLink RX5 60 RX5 (TX5 0).2.1 (TX5 0).2.2.1 ∈ wsX5_setSessions := by decide +kernel
  have i_X5 : ∀ w ∈ wsX50, w ∈ wsX5_setSessions := by decide +kernel
  have k_2 : Cond.constant RX5 111 (1000000 : Int32) ∈ wsX5_setSessions := by decide +kernel
  have k_3 : Cond.fieldLink RX5 45 RX5 (TX5 13).2.1 (TX5 13).2.2.1 ∈ wsX5_setSessions := by decide +kernel
  refine lv_aload_n C0.hx C0.hb dX5_setSessions_0 rfl (lv_at hl 0 rfl) ?_
  refine lv_iconst (v := nI 0) C0.hx C0.hb dX5_setSessions_1 (by decide) ?_
  refine x_put C0 hP hS 30 (mM_n rfl rfl) rfl rfl tyX5 tyX5_ok nmX5 0 (by decide) i_X5 k_0 rfl rfl 0 rfl (Nat.le_of_ble_eq_true rfl) rfl dX5_setSessions_2 (fun H locs hP hS => ?_)
  refine x_join (α := Unit) 22 (fun _ H' locs' ls => (H' = H ∧ locs' = locs ∧ ssB v n = false) ∧ lv_has ls 4 [(0, .ref (a 30 0)), (1, .int v), (2, .int n)]) (fun _ => []) ?_ (fun J22 => ?_)
  · rintro _ H locs ls ⟨⟨rfl, rfl, hbad⟩, hl⟩
    refine lv_aload_n C0.hx C0.hb dX5_setSessions_22 rfl (lv_at hl 0 rfl) ?_
    refine lv_iconst (v := nI 1) C0.hx C0.hb dX5_setSessions_23 (by decide) ?_
    refine x_Vw (As := [.int (nI 1)]) (rest := []) C0 (mtX5_fails l g a (up3 σ 30 0 0 (nI 0)) 1) hP hS (cwV 1 C0.hts gX5_setSessions_X5_fails rfl rfl rfl (by decide +kernel) ⟨Nat.le_of_ble_eq_true rfl, Nat.le_of_ble_eq_true rfl⟩) (x_recv C0 hP 30 (mM_n rfl rfl) rfl rfl) rfl hl rfl (Nat.le_of_ble_eq_true rfl) (Nat.zero_le _) (Nat.zero_le _) dX5_setSessions_24 (fun H locs hP hS => ?_)
    exact W.iret (v := nI 0) C0.hx C0.hb hr (fun t ht hW => ⟨⟨_, up3 (up3 σ 30 0 0 (nI 0)) 30 0 0 (nI 1), rfl, ⟨(by unfold ssMV; rw [if_neg (by rw [hbad]; decide)]), (by unfold ssMS; rw [if_neg (by rw [hbad]; decide)]; rfl)⟩, x_end ht hP⟩, hS.F ht⟩) hS.2.2 dX5_setSessions_27
  ·
    have hP : va_P g.1 vwCl (xw NLM g a (m0 σ)) H := hP
    have okm : okM (m0 σ) := m0_ok ok
    refine lv_iload_n C0.hx C0.hb dX5_setSessions_5 rfl (lv_at hl 1 rfl) ?_
    refine x_Si (As := [.int v]) (rest := []) C0 (mtX5_isVersion l g a (m0 σ) v) (xP0 _) xDj0 (va_cwS 1 C0.hts gX5_setSessions_X5_isVersion rfl rfl rfl (by decide +kernel) ⟨Nat.le_of_ble_eq_true rfl, Nat.le_of_ble_eq_true rfl⟩) rfl hl rfl (Nat.le_of_ble_eq_true rfl) (Nat.zero_le _) (Nat.zero_le _) dX5_setSessions_6 ?_
    refine x_ifeq (tgt := 22) C0.hx C0.hb dX5_setSessions_9 (by decide) (fun c_1 => ?_) (fun c_1 => ?_)
    ·
      exact J22 () _ _ ls ⟨⟨rfl, rfl, (by simp [ssB, c_1])⟩, (lv_sub hl [0, 1, 2] rfl)⟩
    ·
      refine lv_iload_n C0.hx C0.hb dX5_setSessions_12 rfl (lv_at hl 2 rfl) ?_
      refine lv_iconst (v := nI 0) C0.hx C0.hb dX5_setSessions_13 (by decide) ?_
      refine lv_ldc C0.hx C0.hb C0.1.2.2.2.1 (C0.hts _ k_2) dX5_setSessions_14 ?_
      refine x_Si (As := [.int n, .int (nI 0), .int 1000000]) (rest := []) C0 (mtX5_in l g a (m0 σ) n (nI 0) 1000000) (xP0 _) xDj0 (va_cwS 3 C0.hts gX5_setSessions_X5_in rfl rfl rfl (by decide +kernel) ⟨Nat.le_of_ble_eq_true rfl, Nat.le_of_ble_eq_true rfl⟩) rfl hl rfl (Nat.le_of_ble_eq_true rfl) (Nat.zero_le _) (Nat.zero_le _) dX5_setSessions_16 ?_
      refine x_ifne (tgt := 28) C0.hx C0.hb dX5_setSessions_19 (by decide) (fun c_2 => ?_) (fun c_2 => ?_)
      ·
        have hgood : ssB v n = true := by simp [ssB, c_2, c_1]
        obtain ⟨v, hv, rfl⟩ := inX_nat (n := 3) (by decide) c_1
        have ev : nv (nI v) = v := nv_nI (by omega)
        refine lv_aload_n C0.hx C0.hb dX5_setSessions_28 rfl (lv_at hl 0 rfl) ?_
        refine x_get C0 hP 30 (mM_n rfl rfl) rfl rfl 13 (by decide) i_X5 k_3 rfl rfl dX5_setSessions_29 ?_
        refine lv_iload_n C0.hx C0.hb dX5_setSessions_32 rfl (lv_at hl 1 rfl) ?_
        refine x_iald C0 hP 41 v 4 (mM_n rfl rfl) rfl (by omega) (by decide) dX5_setSessions_33 ?_
        refine lv_istore_n (lv' := [(3, .int ((m0 σ) 41 0 v)), (0, .ref (a 30 0)), (1, .int (nI v)), (2, .int n)]) C0.hx C0.hb dX5_setSessions_34 rfl hl (by decide) rfl (fun ls hl => ?_)
        refine lv_aload_n C0.hx C0.hb dX5_setSessions_35 rfl (lv_at hl 1 rfl) ?_
        refine x_get C0 hP 30 (mM_n rfl rfl) rfl rfl 13 (by decide) i_X5 k_3 rfl rfl dX5_setSessions_36 ?_
        refine lv_iload_n C0.hx C0.hb dX5_setSessions_39 rfl (lv_at hl 2 rfl) ?_
        refine lv_iload_n C0.hx C0.hb dX5_setSessions_40 rfl (lv_at hl 3 rfl) ?_
        refine x_iast C0 hP hS 41 v 4 (v := n) (mM_n rfl rfl) (fun _ => rfl) (by omega) (by decide) dX5_setSessions_41 (fun H locs hP hS => ?_)
        refine lv_iload_n C0.hx C0.hb dX5_setSessions_42 rfl (lv_at hl 0 rfl) ?_
        exact W.iret (v := (m0 σ) 41 0 v) C0.hx C0.hb hr (fun t ht hW => ⟨⟨_, up3 (m0 σ) 41 0 v n, rfl, ⟨(by unfold ssMV; rw [if_pos hgood, ev]; rfl), (by unfold ssMS; rw [if_pos hgood, ev])⟩, x_end ht hP⟩, hS.F ht⟩) hS.2.2 dX5_setSessions_43
      ·
        exact J22 () _ _ ls ⟨⟨rfl, rfl, (by simp [ssB, c_2, c_1])⟩, (lv_sub hl [0, 1, 2] rfl)⟩

set_option maxHeartbeats 4000000 in
set_option maxRecDepth 100000 in
theorem mtX5_setLimit (l : Launch) (g : xG) (a : xAd) (σ : xS) (n : Int32) (ok : okM σ) : xMw l yX5_setLimit wsX5_setLimit ({ frames := 1, cells := 0, slots := 0, locals := 22 }) NLM g a σ [.ref (a 30 0), .int n] (slMV σ n) (slMS σ n) := by
  intro sz
  refine Met.ofW (cc := cX5_setLimit) (maxL := 3) (ret := (some .int)) (by decide) rfl ?_
  intro p e s m args below meth c s₁ B hml hv
  obtain ⟨rfl, hsz, hP, hK, hN, hj⟩ := hv
  subst hsz
  have hr := B.returns
  have hlocks := B.notSynchronized
  have C0 : xC p s m _ c cX5_setLimit 3 wsX5_setLimit RX5 NLM g a (xA NLM a s.heap.size) := ⟨⟨B.exec, B.bytes, hml, findClass_of_methodNamed B.named, atoms_spec (ws := wsX5_setLimit) B.pre⟩, hK, hN, hj, fun n h => Or.inl ⟨n, h, rfl⟩, fun q h => Or.inr h⟩
  have hS : va_S (xA NLM a s.heap.size) s.heap s.heap [] := va_S.rf
  have hl := lv_entry ([.ref (a 30 0), .int n]) (n := 3) (Nat.le_of_ble_eq_true rfl)
  rw [lg_entry_eq]
  generalize (lg_sl ([.ref (a 30 0), .int n]) ++ List.replicate (3 - (lg_sl ([.ref (a 30 0), .int n])).length) Slot.unset).toArray = ls at hl ⊢
  have hl : lv_has ls 3 [(0, .ref (a 30 0)), (1, .int n)] := hl
  have k_0 : Cond.fieldLink RX5 60 RX5 (TX5 0).2.1 (TX5 0).2.2.1 ∈ wsX5_setLimit := by decide +kernel
  have i_X5 : ∀ w ∈ wsX50, w ∈ wsX5_setLimit := by decide +kernel
  have k_2 : Cond.fieldLink RX5 48 RX5 (TX5 14).2.1 (TX5 14).2.2.1 ∈ wsX5_setLimit := by decide +kernel
  refine lv_aload_n C0.hx C0.hb dX5_setLimit_0 rfl (lv_at hl 0 rfl) ?_
  refine lv_iconst (v := nI 0) C0.hx C0.hb dX5_setLimit_1 (by decide) ?_
  refine x_put C0 hP hS 30 (mM_n rfl rfl) rfl rfl tyX5 tyX5_ok nmX5 0 (by decide) i_X5 k_0 rfl rfl 0 rfl (Nat.le_of_ble_eq_true rfl) rfl dX5_setLimit_2 (fun H locs hP hS => ?_)
  have hP : va_P g.1 vwCl (xw NLM g a (m0 σ)) H := hP
  have okm : okM (m0 σ) := m0_ok ok
  refine lv_iload_n C0.hx C0.hb dX5_setLimit_5 rfl (lv_at hl 1 rfl) ?_
  refine lv_iconst (v := nI 1) C0.hx C0.hb dX5_setLimit_6 (by decide) ?_
  refine lv_sipush (v := nI 10000) C0.hx C0.hb dX5_setLimit_7 (by decide) ?_
  refine x_Si (As := [.int n, .int (nI 1), .int (nI 10000)]) (rest := []) C0 (mtX5_in l g a (m0 σ) n (nI 1) (nI 10000)) (xP0 _) xDj0 (va_cwS 3 C0.hts gX5_setLimit_X5_in rfl rfl rfl (by decide +kernel) ⟨Nat.le_of_ble_eq_true rfl, Nat.le_of_ble_eq_true rfl⟩) rfl hl rfl (Nat.le_of_ble_eq_true rfl) (Nat.zero_le _) (Nat.zero_le _) dX5_setLimit_10 ?_
  refine x_ifne (tgt := 22) C0.hx C0.hb dX5_setLimit_13 (by decide) (fun c_1 => ?_) (fun c_1 => ?_)
  ·
    refine lv_aload_n C0.hx C0.hb dX5_setLimit_22 rfl (lv_at hl 0 rfl) ?_
    refine x_get C0 hP 30 (mM_n rfl rfl) rfl rfl 14 (by decide) i_X5 k_2 rfl rfl dX5_setLimit_23 ?_
    refine lv_istore_n (lv' := [(2, .int ((m0 σ) 30 0 3)), (0, .ref (a 30 0)), (1, .int n)]) C0.hx C0.hb dX5_setLimit_26 rfl hl (by decide) rfl (fun ls hl => ?_)
    refine lv_aload_n C0.hx C0.hb dX5_setLimit_27 rfl (lv_at hl 1 rfl) ?_
    refine lv_iload_n C0.hx C0.hb dX5_setLimit_28 rfl (lv_at hl 2 rfl) ?_
    refine x_put C0 hP hS 30 (mM_n rfl rfl) rfl rfl tyX5 tyX5_ok nmX5 14 (by decide) i_X5 k_2 rfl rfl 3 rfl (Nat.le_of_ble_eq_true rfl) rfl dX5_setLimit_29 (fun H locs hP hS => ?_)
    refine lv_iload_n C0.hx C0.hb dX5_setLimit_32 rfl (lv_at hl 0 rfl) ?_
    exact W.iret (v := (m0 σ) 30 0 3) C0.hx C0.hb hr (fun t ht hW => ⟨⟨_, up3 (m0 σ) 30 0 3 n, rfl, ⟨(by unfold slMV; rw [if_pos c_1]; rfl), (by unfold slMS; rw [if_pos c_1])⟩, x_end ht hP⟩, hS.F ht⟩) hS.2.2 dX5_setLimit_33
  ·
    refine lv_aload_n C0.hx C0.hb dX5_setLimit_16 rfl (lv_at hl 0 rfl) ?_
    refine lv_iconst (v := nI 1) C0.hx C0.hb dX5_setLimit_17 (by decide) ?_
    refine x_Vw (As := [.int (nI 1)]) (rest := []) C0 (mtX5_fails l g a (m0 σ) 1) hP hS (cwV 1 C0.hts gX5_setLimit_X5_fails rfl rfl rfl (by decide +kernel) ⟨Nat.le_of_ble_eq_true rfl, Nat.le_of_ble_eq_true rfl⟩) (x_recv C0 hP 30 (mM_n rfl rfl) rfl rfl) rfl hl rfl (Nat.le_of_ble_eq_true rfl) (Nat.zero_le _) (Nat.zero_le _) dX5_setLimit_18 (fun H locs hP hS => ?_)
    exact W.iret (v := nI 0) C0.hx C0.hb hr (fun t ht hW => ⟨⟨_, up3 (m0 σ) 30 0 0 (nI 1), rfl, ⟨(by unfold slMV; rw [if_neg (by rw [c_1]; decide)]), (by unfold slMS; rw [if_neg (by rw [c_1]; decide)]; rfl)⟩, x_end ht hP⟩, hS.F ht⟩) hS.2.2 dX5_setLimit_21

set_option maxHeartbeats 4000000 in
set_option maxRecDepth 100000 in
theorem mtX5_setDepth (l : Launch) (g : xG) (a : xAd) (σ : xS) (d : Int32) (ok : okM σ) : xMw l yX5_setDepth wsX5_setDepth ({ frames := 1, cells := 0, slots := 0, locals := 22 }) NLM g a σ [.ref (a 30 0), .int d] (sdMV σ d) (sdMS σ d) := by
  intro sz
  refine Met.ofW (cc := cX5_setDepth) (maxL := 3) (ret := (some .int)) (by decide) rfl ?_
  intro p e s m args below meth c s₁ B hml hv
  obtain ⟨rfl, hsz, hP, hK, hN, hj⟩ := hv
  subst hsz
  have hr := B.returns
  have hlocks := B.notSynchronized
  have C0 : xC p s m _ c cX5_setDepth 3 wsX5_setDepth RX5 NLM g a (xA NLM a s.heap.size) := ⟨⟨B.exec, B.bytes, hml, findClass_of_methodNamed B.named, atoms_spec (ws := wsX5_setDepth) B.pre⟩, hK, hN, hj, fun n h => Or.inl ⟨n, h, rfl⟩, fun q h => Or.inr h⟩
  have hS : va_S (xA NLM a s.heap.size) s.heap s.heap [] := va_S.rf
  have hl := lv_entry ([.ref (a 30 0), .int d]) (n := 3) (Nat.le_of_ble_eq_true rfl)
  rw [lg_entry_eq]
  generalize (lg_sl ([.ref (a 30 0), .int d]) ++ List.replicate (3 - (lg_sl ([.ref (a 30 0), .int d])).length) Slot.unset).toArray = ls at hl ⊢
  have hl : lv_has ls 3 [(0, .ref (a 30 0)), (1, .int d)] := hl
  have k_0 : Cond.fieldLink RX5 60 RX5 (TX5 0).2.1 (TX5 0).2.2.1 ∈ wsX5_setDepth := by decide +kernel
  have i_X5 : ∀ w ∈ wsX50, w ∈ wsX5_setDepth := by decide +kernel
  have k_2 : Cond.fieldLink RX5 29 RX5 (TX5 7).2.1 (TX5 7).2.2.1 ∈ wsX5_setDepth := by decide +kernel
  refine lv_aload_n C0.hx C0.hb dX5_setDepth_0 rfl (lv_at hl 0 rfl) ?_
  refine lv_iconst (v := nI 0) C0.hx C0.hb dX5_setDepth_1 (by decide) ?_
  refine x_put C0 hP hS 30 (mM_n rfl rfl) rfl rfl tyX5 tyX5_ok nmX5 0 (by decide) i_X5 k_0 rfl rfl 0 rfl (Nat.le_of_ble_eq_true rfl) rfl dX5_setDepth_2 (fun H locs hP hS => ?_)
  have hP : va_P g.1 vwCl (xw NLM g a (m0 σ)) H := hP
  have okm : okM (m0 σ) := m0_ok ok
  refine lv_iload_n C0.hx C0.hb dX5_setDepth_5 rfl (lv_at hl 1 rfl) ?_
  refine lv_iconst (v := nI 1) C0.hx C0.hb dX5_setDepth_6 (by decide) ?_
  refine lv_iconst (v := nI 4) C0.hx C0.hb dX5_setDepth_7 (by decide) ?_
  refine x_Si (As := [.int d, .int (nI 1), .int (nI 4)]) (rest := []) C0 (mtX5_in l g a (m0 σ) d (nI 1) (nI 4)) (xP0 _) xDj0 (va_cwS 3 C0.hts gX5_setDepth_X5_in rfl rfl rfl (by decide +kernel) ⟨Nat.le_of_ble_eq_true rfl, Nat.le_of_ble_eq_true rfl⟩) rfl hl rfl (Nat.le_of_ble_eq_true rfl) (Nat.zero_le _) (Nat.zero_le _) dX5_setDepth_8 ?_
  refine x_ifne (tgt := 20) C0.hx C0.hb dX5_setDepth_11 (by decide) (fun c_1 => ?_) (fun c_1 => ?_)
  ·
    refine lv_aload_n C0.hx C0.hb dX5_setDepth_20 rfl (lv_at hl 0 rfl) ?_
    refine x_get C0 hP 30 (mM_n rfl rfl) rfl rfl 7 (by decide) i_X5 k_2 rfl rfl dX5_setDepth_21 ?_
    refine lv_istore_n (lv' := [(2, .int ((m0 σ) 30 0 1)), (0, .ref (a 30 0)), (1, .int d)]) C0.hx C0.hb dX5_setDepth_24 rfl hl (by decide) rfl (fun ls hl => ?_)
    refine lv_aload_n C0.hx C0.hb dX5_setDepth_25 rfl (lv_at hl 1 rfl) ?_
    refine lv_iload_n C0.hx C0.hb dX5_setDepth_26 rfl (lv_at hl 2 rfl) ?_
    refine x_put C0 hP hS 30 (mM_n rfl rfl) rfl rfl tyX5 tyX5_ok nmX5 7 (by decide) i_X5 k_2 rfl rfl 1 rfl (Nat.le_of_ble_eq_true rfl) rfl dX5_setDepth_27 (fun H locs hP hS => ?_)
    refine lv_iload_n C0.hx C0.hb dX5_setDepth_30 rfl (lv_at hl 0 rfl) ?_
    exact W.iret (v := (m0 σ) 30 0 1) C0.hx C0.hb hr (fun t ht hW => ⟨⟨_, up3 (m0 σ) 30 0 1 d, rfl, ⟨(by unfold sdMV; rw [if_pos c_1]; rfl), (by unfold sdMS; rw [if_pos c_1])⟩, x_end ht hP⟩, hS.F ht⟩) hS.2.2 dX5_setDepth_31
  ·
    refine lv_aload_n C0.hx C0.hb dX5_setDepth_14 rfl (lv_at hl 0 rfl) ?_
    refine lv_iconst (v := nI 1) C0.hx C0.hb dX5_setDepth_15 (by decide) ?_
    refine x_Vw (As := [.int (nI 1)]) (rest := []) C0 (mtX5_fails l g a (m0 σ) 1) hP hS (cwV 1 C0.hts gX5_setDepth_X5_fails rfl rfl rfl (by decide +kernel) ⟨Nat.le_of_ble_eq_true rfl, Nat.le_of_ble_eq_true rfl⟩) (x_recv C0 hP 30 (mM_n rfl rfl) rfl rfl) rfl hl rfl (Nat.le_of_ble_eq_true rfl) (Nat.zero_le _) (Nat.zero_le _) dX5_setDepth_16 (fun H locs hP hS => ?_)
    exact W.iret (v := nI 0) C0.hx C0.hb hr (fun t ht hW => ⟨⟨_, up3 (m0 σ) 30 0 0 (nI 1), rfl, ⟨(by unfold sdMV; rw [if_neg (by rw [c_1]; decide)]), (by unfold sdMS; rw [if_neg (by rw [c_1]; decide)]; rfl)⟩, x_end ht hP⟩, hS.F ht⟩) hS.2.2 dX5_setDepth_19

set_option maxHeartbeats 4000000 in
set_option maxRecDepth 100000 in
theorem mtX5_rate (l : Launch) (g : xG) (a : xAd) (σ : xS) (r v : Int32) (ok : okM σ) (ac : acM σ) : xMw l yX5_rate wsX5_rate ({ frames := 3, cells := 0, slots := 0, locals := 71 }) NLM g a σ [.ref (a 30 0), .int r, .int v] (rtMV σ r v) (rtMS σ r v) := by
  intro sz
  refine Met.ofW (cc := cX5_rate) (maxL := 3) (ret := (some .int)) (by decide) rfl ?_
  intro p e s m args below meth c s₁ B hml hv
  obtain ⟨rfl, hsz, hP, hK, hN, hj⟩ := hv
  subst hsz
  have hr := B.returns
  have hlocks := B.notSynchronized
  have C0 : xC p s m _ c cX5_rate 3 wsX5_rate RX5 NLM g a (xA NLM a s.heap.size) := ⟨⟨B.exec, B.bytes, hml, findClass_of_methodNamed B.named, atoms_spec (ws := wsX5_rate) B.pre⟩, hK, hN, hj, fun n h => Or.inl ⟨n, h, rfl⟩, fun q h => Or.inr h⟩
  have hS : va_S (xA NLM a s.heap.size) s.heap s.heap [] := va_S.rf
  have hl := lv_entry ([.ref (a 30 0), .int r, .int v]) (n := 3) (Nat.le_of_ble_eq_true rfl)
  rw [lg_entry_eq]
  generalize (lg_sl ([.ref (a 30 0), .int r, .int v]) ++ List.replicate (3 - (lg_sl ([.ref (a 30 0), .int r, .int v])).length) Slot.unset).toArray = ls at hl ⊢
  have hl : lv_has ls 3 [(0, .ref (a 30 0)), (1, .int r), (2, .int v)] := hl
  have k_0 : Cond.fieldLink RX5 60 RX5 (TX5 0).2.1 (TX5 0).2.2.1 ∈ wsX5_rate := by decide +kernel
  have i_X5 : ∀ w ∈ wsX50, w ∈ wsX5_rate := by decide +kernel
  have k_2 : Cond.fieldLink RX5 51 RX5 (TX5 15).2.1 (TX5 15).2.2.1 ∈ wsX5_rate := by decide +kernel
  refine lv_aload_n C0.hx C0.hb dX5_rate_0 rfl (lv_at hl 0 rfl) ?_
  refine lv_iconst (v := nI 0) C0.hx C0.hb dX5_rate_1 (by decide) ?_
  refine x_put C0 hP hS 30 (mM_n rfl rfl) rfl rfl tyX5 tyX5_ok nmX5 0 (by decide) i_X5 k_0 rfl rfl 0 rfl (Nat.le_of_ble_eq_true rfl) rfl dX5_rate_2 (fun H locs hP hS => ?_)
  have hP : va_P g.1 vwCl (xw NLM g a (m0 σ)) H := hP
  have okm : okM (m0 σ) := m0_ok ok
  refine lv_aload_n C0.hx C0.hb dX5_rate_5 rfl (lv_at hl 0 rfl) ?_
  refine lv_iload_n C0.hx C0.hb dX5_rate_6 rfl (lv_at hl 1 rfl) ?_
  refine x_Vi (As := [.int r]) (rest := []) C0 (mtX5_isReport l g a (m0 σ) r okm) hP C0.2.2.2.1 (cwV 1 C0.hts gX5_rate_X5_isReport rfl rfl rfl (by decide +kernel) ⟨Nat.le_of_ble_eq_true rfl, Nat.le_of_ble_eq_true rfl⟩) (x_recv C0 hP 30 (mM_n rfl rfl) rfl rfl) rfl hl rfl (Nat.le_of_ble_eq_true rfl) (Nat.zero_le _) (Nat.zero_le _) dX5_rate_7 ?_
  refine x_ifne (tgt := 19) C0.hx C0.hb dX5_rate_10 (by decide) (fun c_1 => ?_) (fun c_1 => ?_)
  ·
    have hir := c_1
    obtain ⟨r, hr0, rfl⟩ := irM_nat okm c_1
    have hn2 : nv (σ 30 0 2) = nv (m0 σ 30 0 2) := rfl
    have er : nv (nI r) = r := nv_nI (by omega)
    refine lv_iload_n C0.hx C0.hb dX5_rate_19 rfl (lv_at hl 2 rfl) ?_
    refine x_Si (As := [.int v]) (rest := []) C0 (mtX5_isVersion l g a (m0 σ) v) (xP0 _) xDj0 (va_cwS 1 C0.hts gX5_rate_X5_isVersion rfl rfl rfl (by decide +kernel) ⟨Nat.le_of_ble_eq_true rfl, Nat.le_of_ble_eq_true rfl⟩) rfl hl rfl (Nat.le_of_ble_eq_true rfl) (Nat.zero_le _) (Nat.zero_le _) dX5_rate_20 ?_
    refine x_ifne (tgt := 32) C0.hx C0.hb dX5_rate_23 (by decide) (fun c_2 => ?_) (fun c_2 => ?_)
    ·
      have hv0 := c_2
      obtain ⟨v, hv, rfl⟩ := inX_nat (by decide) c_2
      have ev : nv (nI v) = v := nv_nI (by omega)
      refine lv_aload_n C0.hx C0.hb dX5_rate_32 rfl (lv_at hl 0 rfl) ?_
      refine x_Vv (As := []) (rest := []) C0 (mtX5_names l g a (m0 σ) okm (m0_ac ac)) hP hS (cwV 0 C0.hts gX5_rate_X5_names rfl rfl rfl (by decide +kernel) ⟨Nat.le_of_ble_eq_true rfl, Nat.le_of_ble_eq_true rfl⟩) (x_recv C0 hP 30 (mM_n rfl rfl) rfl rfl) rfl hl rfl (Nat.le_of_ble_eq_true rfl) (Nat.zero_le _) (Nat.zero_le _) dX5_rate_33 (fun H locs hP hS => ?_)
      obtain ⟨υ, hυ⟩ : ∃ z : xS, z = nm0 σ := ⟨_, rfl⟩
      have hP : va_P g.1 vwCl (xw NLM g a υ) H := by rw [hυ]; exact hP
      have oku : okM υ := by rw [hυ]; exact nm0_ok ok
      have hrn : nv (υ 30 0 2) = nv (m0 σ 30 0 2) := by rw [hυ]; exact congrArg nv (naL_ne _ 30 0 2 (by decide) (by decide))
      refine lv_aload_n C0.hx C0.hb dX5_rate_36 rfl (lv_at hl 0 rfl) ?_
      refine lv_aload_n C0.hx C0.hb dX5_rate_37 rfl (lv_at hl 0 rfl) ?_
      refine x_get C0 hP 30 (mM_n rfl rfl) rfl rfl 15 (by decide) i_X5 k_2 rfl rfl dX5_rate_38 ?_
      refine lv_iload_n C0.hx C0.hb dX5_rate_41 rfl (lv_at hl 1 rfl) ?_
      refine x_iald C0 hP 42 r 60 (mM_n rfl rfl) rfl (by omega) (by decide) dX5_rate_42 ?_
      refine lv_iload_n C0.hx C0.hb dX5_rate_43 rfl (lv_at hl 2 rfl) ?_
      refine x_Vi (As := [.int (υ 42 0 r), .int (nI v)]) (rest := []) C0 (mtX5_rateOf l g a υ (υ 42 0 r) v (by omega) oku) hP C0.2.2.2.1 (cwV 2 C0.hts gX5_rate_X5_rateOf rfl rfl rfl (by decide +kernel) ⟨Nat.le_of_ble_eq_true rfl, Nat.le_of_ble_eq_true rfl⟩) (x_recv C0 hP 30 (mM_n rfl rfl) rfl rfl) rfl hl rfl (Nat.le_of_ble_eq_true rfl) (Nat.zero_le _) (Nat.zero_le _) dX5_rate_44 ?_
      exact W.iret (v := nI (rtM υ (υ 42 0 r) v)) C0.hx C0.hb hr (fun t ht hW => ⟨⟨_, υ, rfl, ⟨(by unfold rtMV; rw [if_pos hir, if_pos hv0, er, ev, ← hυ]), (by unfold rtMS; rw [if_pos hir, if_pos hv0, hυ])⟩, x_end ht hP⟩, hS.F ht⟩) hS.2.2 dX5_rate_47
    ·
      refine lv_aload_n C0.hx C0.hb dX5_rate_26 rfl (lv_at hl 0 rfl) ?_
      refine lv_iconst (v := nI 2) C0.hx C0.hb dX5_rate_27 (by decide) ?_
      refine x_Vw (As := [.int (nI 2)]) (rest := []) C0 (mtX5_fails l g a (m0 σ) 2) hP hS (cwV 1 C0.hts gX5_rate_X5_fails rfl rfl rfl (by decide +kernel) ⟨Nat.le_of_ble_eq_true rfl, Nat.le_of_ble_eq_true rfl⟩) (x_recv C0 hP 30 (mM_n rfl rfl) rfl rfl) rfl hl rfl (Nat.le_of_ble_eq_true rfl) (Nat.zero_le _) (Nat.zero_le _) dX5_rate_28 (fun H locs hP hS => ?_)
      exact W.iret (v := nI 0) C0.hx C0.hb hr (fun t ht hW => ⟨⟨_, up3 (m0 σ) 30 0 0 (nI 2), rfl, ⟨(by unfold rtMV; rw [if_pos hir, if_neg (by rw [c_2]; decide)]), (by unfold rtMS; rw [if_pos hir, if_neg (by rw [c_2]; decide)]; rfl)⟩, x_end ht hP⟩, hS.F ht⟩) hS.2.2 dX5_rate_31
  ·
    refine lv_aload_n C0.hx C0.hb dX5_rate_13 rfl (lv_at hl 0 rfl) ?_
    refine lv_iconst (v := nI 1) C0.hx C0.hb dX5_rate_14 (by decide) ?_
    refine x_Vw (As := [.int (nI 1)]) (rest := []) C0 (mtX5_fails l g a (m0 σ) 1) hP hS (cwV 1 C0.hts gX5_rate_X5_fails rfl rfl rfl (by decide +kernel) ⟨Nat.le_of_ble_eq_true rfl, Nat.le_of_ble_eq_true rfl⟩) (x_recv C0 hP 30 (mM_n rfl rfl) rfl rfl) rfl hl rfl (Nat.le_of_ble_eq_true rfl) (Nat.zero_le _) (Nat.zero_le _) dX5_rate_15 (fun H locs hP hS => ?_)
    exact W.iret (v := nI 0) C0.hx C0.hb hr (fun t ht hW => ⟨⟨_, up3 (m0 σ) 30 0 0 (nI 1), rfl, ⟨(by unfold rtMV; rw [if_neg (by rw [c_1]; decide)]), (by unfold rtMS; rw [if_neg (by rw [c_1]; decide)]; rfl)⟩, x_end ht hP⟩, hS.F ht⟩) hS.2.2 dX5_rate_18

set_option maxHeartbeats 4000000 in
set_option maxRecDepth 100000 in
theorem mtX5_users (l : Launch) (g : xG) (a : xAd) (σ : xS) (r v : Int32) (ok : okM σ) (ac : acM σ) : xMw l yX5_users wsX5_users ({ frames := 3, cells := 0, slots := 0, locals := 71 }) NLM g a σ [.ref (a 30 0), .int r, .int v] (usMV σ r v) (usMS σ r v) := by
  intro sz
  refine Met.ofW (cc := cX5_users) (maxL := 3) (ret := (some .int)) (by decide) rfl ?_
  intro p e s m args below meth c s₁ B hml hv
  obtain ⟨rfl, hsz, hP, hK, hN, hj⟩ := hv
  subst hsz
  have hr := B.returns
  have hlocks := B.notSynchronized
  have C0 : xC p s m _ c cX5_users 3 wsX5_users RX5 NLM g a (xA NLM a s.heap.size) := ⟨⟨B.exec, B.bytes, hml, findClass_of_methodNamed B.named, atoms_spec (ws := wsX5_users) B.pre⟩, hK, hN, hj, fun n h => Or.inl ⟨n, h, rfl⟩, fun q h => Or.inr h⟩
  have hS : va_S (xA NLM a s.heap.size) s.heap s.heap [] := va_S.rf
  have hl := lv_entry ([.ref (a 30 0), .int r, .int v]) (n := 3) (Nat.le_of_ble_eq_true rfl)
  rw [lg_entry_eq]
  generalize (lg_sl ([.ref (a 30 0), .int r, .int v]) ++ List.replicate (3 - (lg_sl ([.ref (a 30 0), .int r, .int v])).length) Slot.unset).toArray = ls at hl ⊢
  have hl : lv_has ls 3 [(0, .ref (a 30 0)), (1, .int r), (2, .int v)] := hl
  have k_0 : Cond.fieldLink RX5 60 RX5 (TX5 0).2.1 (TX5 0).2.2.1 ∈ wsX5_users := by decide +kernel
  have i_X5 : ∀ w ∈ wsX50, w ∈ wsX5_users := by decide +kernel
  have k_2 : Cond.fieldLink RX5 51 RX5 (TX5 15).2.1 (TX5 15).2.2.1 ∈ wsX5_users := by decide +kernel
  refine lv_aload_n C0.hx C0.hb dX5_users_0 rfl (lv_at hl 0 rfl) ?_
  refine lv_iconst (v := nI 0) C0.hx C0.hb dX5_users_1 (by decide) ?_
  refine x_put C0 hP hS 30 (mM_n rfl rfl) rfl rfl tyX5 tyX5_ok nmX5 0 (by decide) i_X5 k_0 rfl rfl 0 rfl (Nat.le_of_ble_eq_true rfl) rfl dX5_users_2 (fun H locs hP hS => ?_)
  have hP : va_P g.1 vwCl (xw NLM g a (m0 σ)) H := hP
  have okm : okM (m0 σ) := m0_ok ok
  refine lv_aload_n C0.hx C0.hb dX5_users_5 rfl (lv_at hl 0 rfl) ?_
  refine lv_iload_n C0.hx C0.hb dX5_users_6 rfl (lv_at hl 1 rfl) ?_
  refine x_Vi (As := [.int r]) (rest := []) C0 (mtX5_isReport l g a (m0 σ) r okm) hP C0.2.2.2.1 (cwV 1 C0.hts gX5_users_X5_isReport rfl rfl rfl (by decide +kernel) ⟨Nat.le_of_ble_eq_true rfl, Nat.le_of_ble_eq_true rfl⟩) (x_recv C0 hP 30 (mM_n rfl rfl) rfl rfl) rfl hl rfl (Nat.le_of_ble_eq_true rfl) (Nat.zero_le _) (Nat.zero_le _) dX5_users_7 ?_
  refine x_ifne (tgt := 19) C0.hx C0.hb dX5_users_10 (by decide) (fun c_1 => ?_) (fun c_1 => ?_)
  ·
    have hir := c_1
    obtain ⟨r, hr0, rfl⟩ := irM_nat okm c_1
    have hn2 : nv (σ 30 0 2) = nv (m0 σ 30 0 2) := rfl
    have er : nv (nI r) = r := nv_nI (by omega)
    refine lv_iload_n C0.hx C0.hb dX5_users_19 rfl (lv_at hl 2 rfl) ?_
    refine x_Si (As := [.int v]) (rest := []) C0 (mtX5_isVersion l g a (m0 σ) v) (xP0 _) xDj0 (va_cwS 1 C0.hts gX5_users_X5_isVersion rfl rfl rfl (by decide +kernel) ⟨Nat.le_of_ble_eq_true rfl, Nat.le_of_ble_eq_true rfl⟩) rfl hl rfl (Nat.le_of_ble_eq_true rfl) (Nat.zero_le _) (Nat.zero_le _) dX5_users_20 ?_
    refine x_ifne (tgt := 32) C0.hx C0.hb dX5_users_23 (by decide) (fun c_2 => ?_) (fun c_2 => ?_)
    ·
      have hv0 := c_2
      obtain ⟨v, hv, rfl⟩ := inX_nat (by decide) c_2
      have ev : nv (nI v) = v := nv_nI (by omega)
      refine lv_aload_n C0.hx C0.hb dX5_users_32 rfl (lv_at hl 0 rfl) ?_
      refine x_Vv (As := []) (rest := []) C0 (mtX5_names l g a (m0 σ) okm (m0_ac ac)) hP hS (cwV 0 C0.hts gX5_users_X5_names rfl rfl rfl (by decide +kernel) ⟨Nat.le_of_ble_eq_true rfl, Nat.le_of_ble_eq_true rfl⟩) (x_recv C0 hP 30 (mM_n rfl rfl) rfl rfl) rfl hl rfl (Nat.le_of_ble_eq_true rfl) (Nat.zero_le _) (Nat.zero_le _) dX5_users_33 (fun H locs hP hS => ?_)
      obtain ⟨υ, hυ⟩ : ∃ z : xS, z = nm0 σ := ⟨_, rfl⟩
      have hP : va_P g.1 vwCl (xw NLM g a υ) H := by rw [hυ]; exact hP
      have oku : okM υ := by rw [hυ]; exact nm0_ok ok
      have hrn : nv (υ 30 0 2) = nv (m0 σ 30 0 2) := by rw [hυ]; exact congrArg nv (naL_ne _ 30 0 2 (by decide) (by decide))
      refine lv_aload_n C0.hx C0.hb dX5_users_36 rfl (lv_at hl 0 rfl) ?_
      refine lv_aload_n C0.hx C0.hb dX5_users_37 rfl (lv_at hl 0 rfl) ?_
      refine x_get C0 hP 30 (mM_n rfl rfl) rfl rfl 15 (by decide) i_X5 k_2 rfl rfl dX5_users_38 ?_
      refine lv_iload_n C0.hx C0.hb dX5_users_41 rfl (lv_at hl 1 rfl) ?_
      refine x_iald C0 hP 42 r 60 (mM_n rfl rfl) rfl (by omega) (by decide) dX5_users_42 ?_
      refine lv_iload_n C0.hx C0.hb dX5_users_43 rfl (lv_at hl 2 rfl) ?_
      refine x_Vw (As := [.int (υ 42 0 r), .int (nI v)]) (rest := []) C0 (mtX5_usersOf l g a υ (υ 42 0 r) v (by omega) oku) hP hS (cwV 2 C0.hts gX5_users_X5_usersOf rfl rfl rfl (by decide +kernel) ⟨Nat.le_of_ble_eq_true rfl, Nat.le_of_ble_eq_true rfl⟩) (x_recv C0 hP 30 (mM_n rfl rfl) rfl rfl) rfl hl rfl (Nat.le_of_ble_eq_true rfl) (Nat.zero_le _) (Nat.zero_le _) dX5_users_44 (fun H locs hP hS => ?_)
      exact W.iret (v := nI ((umX υ (υ 42 0 r) v).1)) C0.hx C0.hb hr (fun t ht hW => ⟨⟨_, (umX υ (υ 42 0 r) v).2, rfl, ⟨(by unfold usMV; rw [if_pos hir, if_pos hv0, er, ev, ← hυ]), (by unfold usMS; rw [if_pos hir, if_pos hv0, er, ev, ← hυ])⟩, x_end ht hP⟩, hS.F ht⟩) hS.2.2 dX5_users_47
    ·
      refine lv_aload_n C0.hx C0.hb dX5_users_26 rfl (lv_at hl 0 rfl) ?_
      refine lv_iconst (v := nI 2) C0.hx C0.hb dX5_users_27 (by decide) ?_
      refine x_Vw (As := [.int (nI 2)]) (rest := []) C0 (mtX5_fails l g a (m0 σ) 2) hP hS (cwV 1 C0.hts gX5_users_X5_fails rfl rfl rfl (by decide +kernel) ⟨Nat.le_of_ble_eq_true rfl, Nat.le_of_ble_eq_true rfl⟩) (x_recv C0 hP 30 (mM_n rfl rfl) rfl rfl) rfl hl rfl (Nat.le_of_ble_eq_true rfl) (Nat.zero_le _) (Nat.zero_le _) dX5_users_28 (fun H locs hP hS => ?_)
      exact W.iret (v := nI 0) C0.hx C0.hb hr (fun t ht hW => ⟨⟨_, up3 (m0 σ) 30 0 0 (nI 2), rfl, ⟨(by unfold usMV; rw [if_pos hir, if_neg (by rw [c_2]; decide)]), (by unfold usMS; rw [if_pos hir, if_neg (by rw [c_2]; decide)]; rfl)⟩, x_end ht hP⟩, hS.F ht⟩) hS.2.2 dX5_users_31
  ·
    refine lv_aload_n C0.hx C0.hb dX5_users_13 rfl (lv_at hl 0 rfl) ?_
    refine lv_iconst (v := nI 1) C0.hx C0.hb dX5_users_14 (by decide) ?_
    refine x_Vw (As := [.int (nI 1)]) (rest := []) C0 (mtX5_fails l g a (m0 σ) 1) hP hS (cwV 1 C0.hts gX5_users_X5_fails rfl rfl rfl (by decide +kernel) ⟨Nat.le_of_ble_eq_true rfl, Nat.le_of_ble_eq_true rfl⟩) (x_recv C0 hP 30 (mM_n rfl rfl) rfl rfl) rfl hl rfl (Nat.le_of_ble_eq_true rfl) (Nat.zero_le _) (Nat.zero_le _) dX5_users_15 (fun H locs hP hS => ?_)
    exact W.iret (v := nI 0) C0.hx C0.hb hr (fun t ht hW => ⟨⟨_, up3 (m0 σ) 30 0 0 (nI 1), rfl, ⟨(by unfold usMV; rw [if_neg (by rw [c_1]; decide)]), (by unfold usMS; rw [if_neg (by rw [c_1]; decide)]; rfl)⟩, x_end ht hP⟩, hS.F ht⟩) hS.2.2 dX5_users_18

set_option maxHeartbeats 4000000 in
set_option maxRecDepth 100000 in
theorem mtX5_frame (l : Launch) (g : xG) (a : xAd) (σ : xS) (r q : Int32) (ok : okM σ) : xMw l yX5_frame wsX5_frame ({ frames := 2, cells := 0, slots := 0, locals := 43 }) NLM g a σ [.ref (a 30 0), .int r, .int q] (frMV σ r q) (frMS σ r q) := by
  intro sz
  refine Met.ofW (cc := cX5_frame) (maxL := 3) (ret := (some .int)) (by decide) rfl ?_
  intro p e s m args below meth c s₁ B hml hv
  obtain ⟨rfl, hsz, hP, hK, hN, hj⟩ := hv
  subst hsz
  have hr := B.returns
  have hlocks := B.notSynchronized
  have C0 : xC p s m _ c cX5_frame 3 wsX5_frame RX5 NLM g a (xA NLM a s.heap.size) := ⟨⟨B.exec, B.bytes, hml, findClass_of_methodNamed B.named, atoms_spec (ws := wsX5_frame) B.pre⟩, hK, hN, hj, fun n h => Or.inl ⟨n, h, rfl⟩, fun q h => Or.inr h⟩
  have hS : va_S (xA NLM a s.heap.size) s.heap s.heap [] := va_S.rf
  have hl := lv_entry ([.ref (a 30 0), .int r, .int q]) (n := 3) (Nat.le_of_ble_eq_true rfl)
  rw [lg_entry_eq]
  generalize (lg_sl ([.ref (a 30 0), .int r, .int q]) ++ List.replicate (3 - (lg_sl ([.ref (a 30 0), .int r, .int q])).length) Slot.unset).toArray = ls at hl ⊢
  have hl : lv_has ls 3 [(0, .ref (a 30 0)), (1, .int r), (2, .int q)] := hl
  have k_0 : Cond.fieldLink RX5 60 RX5 (TX5 0).2.1 (TX5 0).2.2.1 ∈ wsX5_frame := by decide +kernel
  have i_X5 : ∀ w ∈ wsX50, w ∈ wsX5_frame := by decide +kernel
  refine lv_aload_n C0.hx C0.hb dX5_frame_0 rfl (lv_at hl 0 rfl) ?_
  refine lv_iconst (v := nI 0) C0.hx C0.hb dX5_frame_1 (by decide) ?_
  refine x_put C0 hP hS 30 (mM_n rfl rfl) rfl rfl tyX5 tyX5_ok nmX5 0 (by decide) i_X5 k_0 rfl rfl 0 rfl (Nat.le_of_ble_eq_true rfl) rfl dX5_frame_2 (fun H locs hP hS => ?_)
  have hP : va_P g.1 vwCl (xw NLM g a (m0 σ)) H := hP
  have okm : okM (m0 σ) := m0_ok ok
  refine lv_aload_n C0.hx C0.hb dX5_frame_5 rfl (lv_at hl 0 rfl) ?_
  refine lv_iload_n C0.hx C0.hb dX5_frame_6 rfl (lv_at hl 1 rfl) ?_
  refine x_Vi (As := [.int r]) (rest := []) C0 (mtX5_isReport l g a (m0 σ) r okm) hP C0.2.2.2.1 (cwV 1 C0.hts gX5_frame_X5_isReport rfl rfl rfl (by decide +kernel) ⟨Nat.le_of_ble_eq_true rfl, Nat.le_of_ble_eq_true rfl⟩) (x_recv C0 hP 30 (mM_n rfl rfl) rfl rfl) rfl hl rfl (Nat.le_of_ble_eq_true rfl) (Nat.zero_le _) (Nat.zero_le _) dX5_frame_7 ?_
  refine x_ifne (tgt := 19) C0.hx C0.hb dX5_frame_10 (by decide) (fun c_1 => ?_) (fun c_1 => ?_)
  ·
    have hir := c_1
    obtain ⟨r, hr0, rfl⟩ := irM_nat okm c_1
    have hn2 : nv (σ 30 0 2) = nv (m0 σ 30 0 2) := rfl
    have er : nv (nI r) = r := nv_nI (by omega)
    refine lv_iload_n C0.hx C0.hb dX5_frame_19 rfl (lv_at hl 2 rfl) ?_
    refine lv_iconst (v := nI 0) C0.hx C0.hb dX5_frame_20 (by decide) ?_
    refine lv_iconst (v := nI 3) C0.hx C0.hb dX5_frame_21 (by decide) ?_
    refine x_Si (As := [.int q, .int (nI 0), .int (nI 3)]) (rest := []) C0 (mtX5_in l g a (m0 σ) q (nI 0) (nI 3)) (xP0 _) xDj0 (va_cwS 3 C0.hts gX5_frame_X5_in rfl rfl rfl (by decide +kernel) ⟨Nat.le_of_ble_eq_true rfl, Nat.le_of_ble_eq_true rfl⟩) rfl hl rfl (Nat.le_of_ble_eq_true rfl) (Nat.zero_le _) (Nat.zero_le _) dX5_frame_22 ?_
    refine x_ifeq (tgt := 37) C0.hx C0.hb dX5_frame_25 (by decide) (fun c_2 => ?_) (fun c_2 => ?_)
    ·
      refine lv_aload_n C0.hx C0.hb dX5_frame_37 rfl (lv_at hl 0 rfl) ?_
      refine lv_iconst (v := nI 2) C0.hx C0.hb dX5_frame_38 (by decide) ?_
      refine x_Vw (As := [.int (nI 2)]) (rest := []) C0 (mtX5_fails l g a (m0 σ) 2) hP hS (cwV 1 C0.hts gX5_frame_X5_fails rfl rfl rfl (by decide +kernel) ⟨Nat.le_of_ble_eq_true rfl, Nat.le_of_ble_eq_true rfl⟩) (x_recv C0 hP 30 (mM_n rfl rfl) rfl rfl) rfl hl rfl (Nat.le_of_ble_eq_true rfl) (Nat.zero_le _) (Nat.zero_le _) dX5_frame_39 (fun H locs hP hS => ?_)
      exact W.iret (v := nI 0) C0.hx C0.hb hr (fun t ht hW => ⟨⟨_, up3 (m0 σ) 30 0 0 (nI 2), rfl, ⟨(by unfold frMV; rw [if_pos hir, if_neg (by rw [c_2]; decide)]), (by unfold frMS; rw [if_pos hir, if_neg (by rw [c_2]; decide)]; rfl)⟩, x_end ht hP⟩, hS.F ht⟩) hS.2.2 dX5_frame_42
    ·
      have hq0 := c_2
      obtain ⟨q, hq, rfl⟩ := inX_nat (by decide) c_2
      have eq : nv (nI q) = q := nv_nI (by omega)
      refine lv_aload_n C0.hx C0.hb dX5_frame_28 rfl (lv_at hl 0 rfl) ?_
      refine lv_iload_n C0.hx C0.hb dX5_frame_29 rfl (lv_at hl 1 rfl) ?_
      refine lv_iload_n C0.hx C0.hb dX5_frame_30 rfl (lv_at hl 2 rfl) ?_
      refine x_Vi (As := [.int (nI r), .int (nI q)]) (rest := []) C0 (mtX5_frameOf l g a (m0 σ) r q (by omega) (by omega) okm) hP C0.2.2.2.1 (cwV 2 C0.hts gX5_frame_X5_frameOf rfl rfl rfl (by decide +kernel) ⟨Nat.le_of_ble_eq_true rfl, Nat.le_of_ble_eq_true rfl⟩) (x_recv C0 hP 30 (mM_n rfl rfl) rfl rfl) rfl hl rfl (Nat.le_of_ble_eq_true rfl) (Nat.zero_le _) (Nat.zero_le _) dX5_frame_31 ?_
      refine lv_goto (tgt := 42) C0.hx C0.hb dX5_frame_34 (by decide) ?_
      exact W.iret (v := frM (m0 σ) r q) C0.hx C0.hb hr (fun t ht hW => ⟨⟨_, m0 σ, rfl, ⟨(by unfold frMV; rw [if_pos hir, if_pos hq0, er, eq]), (by unfold frMS; rw [if_pos hir, if_pos hq0])⟩, x_end ht hP⟩, hS.F ht⟩) hS.2.2 dX5_frame_42
  ·
    refine lv_aload_n C0.hx C0.hb dX5_frame_13 rfl (lv_at hl 0 rfl) ?_
    refine lv_iconst (v := nI 1) C0.hx C0.hb dX5_frame_14 (by decide) ?_
    refine x_Vw (As := [.int (nI 1)]) (rest := []) C0 (mtX5_fails l g a (m0 σ) 1) hP hS (cwV 1 C0.hts gX5_frame_X5_fails rfl rfl rfl (by decide +kernel) ⟨Nat.le_of_ble_eq_true rfl, Nat.le_of_ble_eq_true rfl⟩) (x_recv C0 hP 30 (mM_n rfl rfl) rfl rfl) rfl hl rfl (Nat.le_of_ble_eq_true rfl) (Nat.zero_le _) (Nat.zero_le _) dX5_frame_15 (fun H locs hP hS => ?_)
    exact W.iret (v := nI 0) C0.hx C0.hb hr (fun t ht hW => ⟨⟨_, up3 (m0 σ) 30 0 0 (nI 1), rfl, ⟨(by unfold frMV; rw [if_neg (by rw [c_1]; decide)]), (by unfold frMS; rw [if_neg (by rw [c_1]; decide)]; rfl)⟩, x_end ht hP⟩, hS.F ht⟩) hS.2.2 dX5_frame_18

set_option maxHeartbeats 4000000 in
set_option maxRecDepth 100000 in
theorem mtX5_matters (l : Launch) (g : xG) (a : xAd) (σ : xS) (r q : Int32) (ok : okM σ) (ac : acM σ) : xMw l yX5_matters wsX5_matters ({ frames := 2, cells := 0, slots := 0, locals := 49 }) NLM g a σ [.ref (a 30 0), .int r, .int q] (maMV σ r q) (maMS σ r q) := by
  intro sz
  refine Met.ofW (cc := cX5_matters) (maxL := 3) (ret := (some .int)) (by decide) rfl ?_
  intro p e s m args below meth c s₁ B hml hv
  obtain ⟨rfl, hsz, hP, hK, hN, hj⟩ := hv
  subst hsz
  have hr := B.returns
  have hlocks := B.notSynchronized
  have C0 : xC p s m _ c cX5_matters 3 wsX5_matters RX5 NLM g a (xA NLM a s.heap.size) := ⟨⟨B.exec, B.bytes, hml, findClass_of_methodNamed B.named, atoms_spec (ws := wsX5_matters) B.pre⟩, hK, hN, hj, fun n h => Or.inl ⟨n, h, rfl⟩, fun q h => Or.inr h⟩
  have hS : va_S (xA NLM a s.heap.size) s.heap s.heap [] := va_S.rf
  have hl := lv_entry ([.ref (a 30 0), .int r, .int q]) (n := 3) (Nat.le_of_ble_eq_true rfl)
  rw [lg_entry_eq]
  generalize (lg_sl ([.ref (a 30 0), .int r, .int q]) ++ List.replicate (3 - (lg_sl ([.ref (a 30 0), .int r, .int q])).length) Slot.unset).toArray = ls at hl ⊢
  have hl : lv_has ls 3 [(0, .ref (a 30 0)), (1, .int r), (2, .int q)] := hl
  have k_0 : Cond.fieldLink RX5 60 RX5 (TX5 0).2.1 (TX5 0).2.2.1 ∈ wsX5_matters := by decide +kernel
  have i_X5 : ∀ w ∈ wsX50, w ∈ wsX5_matters := by decide +kernel
  have k_2 : Cond.fieldLink RX5 54 RX5 (TX5 16).2.1 (TX5 16).2.2.1 ∈ wsX5_matters := by decide +kernel
  refine lv_aload_n C0.hx C0.hb dX5_matters_0 rfl (lv_at hl 0 rfl) ?_
  refine lv_iconst (v := nI 0) C0.hx C0.hb dX5_matters_1 (by decide) ?_
  refine x_put C0 hP hS 30 (mM_n rfl rfl) rfl rfl tyX5 tyX5_ok nmX5 0 (by decide) i_X5 k_0 rfl rfl 0 rfl (Nat.le_of_ble_eq_true rfl) rfl dX5_matters_2 (fun H locs hP hS => ?_)
  have hP : va_P g.1 vwCl (xw NLM g a (m0 σ)) H := hP
  have okm : okM (m0 σ) := m0_ok ok
  refine lv_aload_n C0.hx C0.hb dX5_matters_5 rfl (lv_at hl 0 rfl) ?_
  refine lv_iload_n C0.hx C0.hb dX5_matters_6 rfl (lv_at hl 1 rfl) ?_
  refine x_Vi (As := [.int r]) (rest := []) C0 (mtX5_isReport l g a (m0 σ) r okm) hP C0.2.2.2.1 (cwV 1 C0.hts gX5_matters_X5_isReport rfl rfl rfl (by decide +kernel) ⟨Nat.le_of_ble_eq_true rfl, Nat.le_of_ble_eq_true rfl⟩) (x_recv C0 hP 30 (mM_n rfl rfl) rfl rfl) rfl hl rfl (Nat.le_of_ble_eq_true rfl) (Nat.zero_le _) (Nat.zero_le _) dX5_matters_7 ?_
  refine x_ifne (tgt := 19) C0.hx C0.hb dX5_matters_10 (by decide) (fun c_1 => ?_) (fun c_1 => ?_)
  ·
    have hir := c_1
    obtain ⟨r, hr0, rfl⟩ := irM_nat okm c_1
    have hn2 : nv (σ 30 0 2) = nv (m0 σ 30 0 2) := rfl
    have er : nv (nI r) = r := nv_nI (by omega)
    refine lv_iload_n C0.hx C0.hb dX5_matters_19 rfl (lv_at hl 2 rfl) ?_
    refine lv_iconst (v := nI 0) C0.hx C0.hb dX5_matters_20 (by decide) ?_
    refine lv_iconst (v := nI 3) C0.hx C0.hb dX5_matters_21 (by decide) ?_
    refine x_Si (As := [.int q, .int (nI 0), .int (nI 3)]) (rest := []) C0 (mtX5_in l g a (m0 σ) q (nI 0) (nI 3)) (xP0 _) xDj0 (va_cwS 3 C0.hts gX5_matters_X5_in rfl rfl rfl (by decide +kernel) ⟨Nat.le_of_ble_eq_true rfl, Nat.le_of_ble_eq_true rfl⟩) rfl hl rfl (Nat.le_of_ble_eq_true rfl) (Nat.zero_le _) (Nat.zero_le _) dX5_matters_22 ?_
    refine x_ifne (tgt := 34) C0.hx C0.hb dX5_matters_25 (by decide) (fun c_2 => ?_) (fun c_2 => ?_)
    ·
      have hq0 := c_2
      obtain ⟨q, hq, rfl⟩ := inX_nat (by decide) c_2
      have eq : nv (nI q) = q := nv_nI (by omega)
      refine lv_aload_n C0.hx C0.hb dX5_matters_34 rfl (lv_at hl 0 rfl) ?_
      refine lv_iload_n C0.hx C0.hb dX5_matters_35 rfl (lv_at hl 1 rfl) ?_
      refine x_Vv (As := [.int (nI r)]) (rest := []) C0 (mtX5_keys l g a (m0 σ) r (by omega) okm (m0_ac ac)) hP hS (cwV 1 C0.hts gX5_matters_X5_keys rfl rfl rfl (by decide +kernel) ⟨Nat.le_of_ble_eq_true rfl, Nat.le_of_ble_eq_true rfl⟩) (x_recv C0 hP 30 (mM_n rfl rfl) rfl rfl) rfl hl rfl (Nat.le_of_ble_eq_true rfl) (Nat.zero_le _) (Nat.zero_le _) dX5_matters_36 (fun H locs hP hS => ?_)
      refine lv_aload_n C0.hx C0.hb dX5_matters_39 rfl (lv_at hl 0 rfl) ?_
      refine x_get C0 hP 30 (mM_n rfl rfl) rfl rfl 16 (by decide) i_X5 k_2 rfl rfl dX5_matters_40 ?_
      refine lv_iconst (v := nI 4) C0.hx C0.hb dX5_matters_43 (by decide) ?_
      refine lv_iload_n C0.hx C0.hb dX5_matters_44 rfl (lv_at hl 1 rfl) ?_
      refine lv_imul C0.hx C0.hb dX5_matters_45 ?_
      refine x_top (pk_mul 4 r) ?_
      refine lv_iload_n C0.hx C0.hb dX5_matters_46 rfl (lv_at hl 2 rfl) ?_
      refine lv_iadd C0.hx C0.hb dX5_matters_47 ?_
      refine x_top (nI_add (4 * r) q) ?_
      refine x_iald C0 hP 43 ((4 * r) + q) 240 (mM_n rfl rfl) rfl (by omega) (by decide) dX5_matters_48 ?_
      exact W.iret (v := (kyS (m0 σ) r) 43 0 ((4 * r) + q)) C0.hx C0.hb hr (fun t ht hW => ⟨⟨_, kyS (m0 σ) r, rfl, ⟨(by unfold maMV; rw [if_pos hir, if_pos hq0, er, eq]), (by unfold maMS; rw [if_pos hir, if_pos hq0, er])⟩, x_end ht hP⟩, hS.F ht⟩) hS.2.2 dX5_matters_49
    ·
      refine lv_aload_n C0.hx C0.hb dX5_matters_28 rfl (lv_at hl 0 rfl) ?_
      refine lv_iconst (v := nI 2) C0.hx C0.hb dX5_matters_29 (by decide) ?_
      refine x_Vw (As := [.int (nI 2)]) (rest := []) C0 (mtX5_fails l g a (m0 σ) 2) hP hS (cwV 1 C0.hts gX5_matters_X5_fails rfl rfl rfl (by decide +kernel) ⟨Nat.le_of_ble_eq_true rfl, Nat.le_of_ble_eq_true rfl⟩) (x_recv C0 hP 30 (mM_n rfl rfl) rfl rfl) rfl hl rfl (Nat.le_of_ble_eq_true rfl) (Nat.zero_le _) (Nat.zero_le _) dX5_matters_30 (fun H locs hP hS => ?_)
      exact W.iret (v := nI 0) C0.hx C0.hb hr (fun t ht hW => ⟨⟨_, up3 (m0 σ) 30 0 0 (nI 2), rfl, ⟨(by unfold maMV; rw [if_pos hir, if_neg (by rw [c_2]; decide)]), (by unfold maMS; rw [if_pos hir, if_neg (by rw [c_2]; decide)]; rfl)⟩, x_end ht hP⟩, hS.F ht⟩) hS.2.2 dX5_matters_33
  ·
    refine lv_aload_n C0.hx C0.hb dX5_matters_13 rfl (lv_at hl 0 rfl) ?_
    refine lv_iconst (v := nI 1) C0.hx C0.hb dX5_matters_14 (by decide) ?_
    refine x_Vw (As := [.int (nI 1)]) (rest := []) C0 (mtX5_fails l g a (m0 σ) 1) hP hS (cwV 1 C0.hts gX5_matters_X5_fails rfl rfl rfl (by decide +kernel) ⟨Nat.le_of_ble_eq_true rfl, Nat.le_of_ble_eq_true rfl⟩) (x_recv C0 hP 30 (mM_n rfl rfl) rfl rfl) rfl hl rfl (Nat.le_of_ble_eq_true rfl) (Nat.zero_le _) (Nat.zero_le _) dX5_matters_15 (fun H locs hP hS => ?_)
    exact W.iret (v := nI 0) C0.hx C0.hb hr (fun t ht hW => ⟨⟨_, up3 (m0 σ) 30 0 0 (nI 1), rfl, ⟨(by unfold maMV; rw [if_neg (by rw [c_1]; decide)]), (by unfold maMS; rw [if_neg (by rw [c_1]; decide)]; rfl)⟩, x_end ht hP⟩, hS.F ht⟩) hS.2.2 dX5_matters_18

set_option maxHeartbeats 4000000 in
set_option maxRecDepth 100000 in
theorem mtX5_fix (l : Launch) (g : xG) (a : xAd) (σ : xS) (r v : Int32) (ok : okM σ) : xMw l yX5_fix wsX5_fix ({ frames := 2, cells := 0, slots := 0, locals := 43 }) NLM g a σ [.ref (a 30 0), .int r, .int v] (fxMV σ r v) (fxMS σ r v) := by
  intro sz
  refine Met.ofW (cc := cX5_fix) (maxL := 4) (ret := (some .int)) (by decide) rfl ?_
  intro p e s m args below meth c s₁ B hml hv
  obtain ⟨rfl, hsz, hP, hK, hN, hj⟩ := hv
  subst hsz
  have hr := B.returns
  have hlocks := B.notSynchronized
  have C0 : xC p s m _ c cX5_fix 4 wsX5_fix RX5 NLM g a (xA NLM a s.heap.size) := ⟨⟨B.exec, B.bytes, hml, findClass_of_methodNamed B.named, atoms_spec (ws := wsX5_fix) B.pre⟩, hK, hN, hj, fun n h => Or.inl ⟨n, h, rfl⟩, fun q h => Or.inr h⟩
  have hS : va_S (xA NLM a s.heap.size) s.heap s.heap [] := va_S.rf
  have hl := lv_entry ([.ref (a 30 0), .int r, .int v]) (n := 4) (Nat.le_of_ble_eq_true rfl)
  rw [lg_entry_eq]
  generalize (lg_sl ([.ref (a 30 0), .int r, .int v]) ++ List.replicate (4 - (lg_sl ([.ref (a 30 0), .int r, .int v])).length) Slot.unset).toArray = ls at hl ⊢
  have hl : lv_has ls 4 [(0, .ref (a 30 0)), (1, .int r), (2, .int v)] := hl
  have k_0 : Cond.fieldLink RX5 60 RX5 (TX5 0).2.1 (TX5 0).2.2.1 ∈ wsX5_fix := by decide +kernel
  have i_X5 : ∀ w ∈ wsX50, w ∈ wsX5_fix := by decide +kernel
  have k_2 : Cond.fieldLink RX5 42 RX5 (TX5 12).2.1 (TX5 12).2.2.1 ∈ wsX5_fix := by decide +kernel
  refine lv_aload_n C0.hx C0.hb dX5_fix_0 rfl (lv_at hl 0 rfl) ?_
  refine lv_iconst (v := nI 0) C0.hx C0.hb dX5_fix_1 (by decide) ?_
  refine x_put C0 hP hS 30 (mM_n rfl rfl) rfl rfl tyX5 tyX5_ok nmX5 0 (by decide) i_X5 k_0 rfl rfl 0 rfl (Nat.le_of_ble_eq_true rfl) rfl dX5_fix_2 (fun H locs hP hS => ?_)
  have hP : va_P g.1 vwCl (xw NLM g a (m0 σ)) H := hP
  have okm : okM (m0 σ) := m0_ok ok
  refine lv_aload_n C0.hx C0.hb dX5_fix_5 rfl (lv_at hl 0 rfl) ?_
  refine lv_iload_n C0.hx C0.hb dX5_fix_6 rfl (lv_at hl 1 rfl) ?_
  refine x_Vi (As := [.int r]) (rest := []) C0 (mtX5_isReport l g a (m0 σ) r okm) hP C0.2.2.2.1 (cwV 1 C0.hts gX5_fix_X5_isReport rfl rfl rfl (by decide +kernel) ⟨Nat.le_of_ble_eq_true rfl, Nat.le_of_ble_eq_true rfl⟩) (x_recv C0 hP 30 (mM_n rfl rfl) rfl rfl) rfl hl rfl (Nat.le_of_ble_eq_true rfl) (Nat.zero_le _) (Nat.zero_le _) dX5_fix_7 ?_
  refine x_ifne (tgt := 19) C0.hx C0.hb dX5_fix_10 (by decide) (fun c_1 => ?_) (fun c_1 => ?_)
  ·
    have hir := c_1
    obtain ⟨r, hr0, rfl⟩ := irM_nat okm c_1
    have hn2 : nv (σ 30 0 2) = nv (m0 σ 30 0 2) := rfl
    have er : nv (nI r) = r := nv_nI (by omega)
    refine lv_iload_n C0.hx C0.hb dX5_fix_19 rfl (lv_at hl 2 rfl) ?_
    refine lv_iconst (v := nI 1) C0.hx C0.hb dX5_fix_20 (by decide) ?_
    refine lv_iconst (v := nI 3) C0.hx C0.hb dX5_fix_21 (by decide) ?_
    refine x_Si (As := [.int v, .int (nI 1), .int (nI 3)]) (rest := []) C0 (mtX5_in l g a (m0 σ) v (nI 1) (nI 3)) (xP0 _) xDj0 (va_cwS 3 C0.hts gX5_fix_X5_in rfl rfl rfl (by decide +kernel) ⟨Nat.le_of_ble_eq_true rfl, Nat.le_of_ble_eq_true rfl⟩) rfl hl rfl (Nat.le_of_ble_eq_true rfl) (Nat.zero_le _) (Nat.zero_le _) dX5_fix_22 ?_
    refine x_ifne (tgt := 34) C0.hx C0.hb dX5_fix_25 (by decide) (fun c_2 => ?_) (fun c_2 => ?_)
    ·
      have hv0 := c_2
      refine lv_aload_n C0.hx C0.hb dX5_fix_34 rfl (lv_at hl 0 rfl) ?_
      refine x_get C0 hP 30 (mM_n rfl rfl) rfl rfl 12 (by decide) i_X5 k_2 rfl rfl dX5_fix_35 ?_
      refine lv_iload_n C0.hx C0.hb dX5_fix_38 rfl (lv_at hl 1 rfl) ?_
      refine x_iald C0 hP 40 r 60 (mM_n rfl rfl) rfl (by omega) (by decide) dX5_fix_39 ?_
      refine lv_istore_n (lv' := [(3, .int ((m0 σ) 40 0 r)), (0, .ref (a 30 0)), (1, .int (nI r)), (2, .int v)]) C0.hx C0.hb dX5_fix_40 rfl hl (by decide) rfl (fun ls hl => ?_)
      refine lv_aload_n C0.hx C0.hb dX5_fix_41 rfl (lv_at hl 1 rfl) ?_
      refine x_get C0 hP 30 (mM_n rfl rfl) rfl rfl 12 (by decide) i_X5 k_2 rfl rfl dX5_fix_42 ?_
      refine lv_iload_n C0.hx C0.hb dX5_fix_45 rfl (lv_at hl 2 rfl) ?_
      refine lv_iload_n C0.hx C0.hb dX5_fix_46 rfl (lv_at hl 3 rfl) ?_
      refine x_iast C0 hP hS 40 r 60 (v := v) (mM_n rfl rfl) (fun _ => rfl) (by omega) (by decide) dX5_fix_47 (fun H locs hP hS => ?_)
      refine lv_iload_n C0.hx C0.hb dX5_fix_48 rfl (lv_at hl 0 rfl) ?_
      exact W.iret (v := (m0 σ) 40 0 r) C0.hx C0.hb hr (fun t ht hW => ⟨⟨_, up3 (m0 σ) 40 0 r v, rfl, ⟨(by unfold fxMV; rw [if_pos hir, if_pos hv0, er]; rfl), (by unfold fxMS; rw [if_pos hir, if_pos hv0, er])⟩, x_end ht hP⟩, hS.F ht⟩) hS.2.2 dX5_fix_49
    ·
      refine lv_aload_n C0.hx C0.hb dX5_fix_28 rfl (lv_at hl 0 rfl) ?_
      refine lv_iconst (v := nI 2) C0.hx C0.hb dX5_fix_29 (by decide) ?_
      refine x_Vw (As := [.int (nI 2)]) (rest := []) C0 (mtX5_fails l g a (m0 σ) 2) hP hS (cwV 1 C0.hts gX5_fix_X5_fails rfl rfl rfl (by decide +kernel) ⟨Nat.le_of_ble_eq_true rfl, Nat.le_of_ble_eq_true rfl⟩) (x_recv C0 hP 30 (mM_n rfl rfl) rfl rfl) rfl hl rfl (Nat.le_of_ble_eq_true rfl) (Nat.zero_le _) (Nat.zero_le _) dX5_fix_30 (fun H locs hP hS => ?_)
      exact W.iret (v := nI 0) C0.hx C0.hb hr (fun t ht hW => ⟨⟨_, up3 (m0 σ) 30 0 0 (nI 2), rfl, ⟨(by unfold fxMV; rw [if_pos hir, if_neg (by rw [c_2]; decide)]), (by unfold fxMS; rw [if_pos hir, if_neg (by rw [c_2]; decide)]; rfl)⟩, x_end ht hP⟩, hS.F ht⟩) hS.2.2 dX5_fix_33
  ·
    refine lv_aload_n C0.hx C0.hb dX5_fix_13 rfl (lv_at hl 0 rfl) ?_
    refine lv_iconst (v := nI 1) C0.hx C0.hb dX5_fix_14 (by decide) ?_
    refine x_Vw (As := [.int (nI 1)]) (rest := []) C0 (mtX5_fails l g a (m0 σ) 1) hP hS (cwV 1 C0.hts gX5_fix_X5_fails rfl rfl rfl (by decide +kernel) ⟨Nat.le_of_ble_eq_true rfl, Nat.le_of_ble_eq_true rfl⟩) (x_recv C0 hP 30 (mM_n rfl rfl) rfl rfl) rfl hl rfl (Nat.le_of_ble_eq_true rfl) (Nat.zero_le _) (Nat.zero_le _) dX5_fix_15 (fun H locs hP hS => ?_)
    exact W.iret (v := nI 0) C0.hx C0.hb hr (fun t ht hW => ⟨⟨_, up3 (m0 σ) 30 0 0 (nI 1), rfl, ⟨(by unfold fxMV; rw [if_neg (by rw [c_1]; decide)]), (by unfold fxMS; rw [if_neg (by rw [c_1]; decide)]; rfl)⟩, x_end ht hP⟩, hS.F ht⟩) hS.2.2 dX5_fix_18

set_option maxHeartbeats 4000000 in
set_option maxRecDepth 100000 in
theorem mtX5_reports (l : Launch) (g : xG) (a : xAd) (σ : xS) : xMw l yX5_reports wsX5_reports ({ frames := 0, cells := 0, slots := 0, locals := 0 }) NLM g a σ [.ref (a 30 0)] (σ 30 0 2) (m0 σ) := by
  intro sz
  refine Met.ofW (cc := cX5_reports) (maxL := 1) (ret := (some .int)) (by decide) rfl ?_
  intro p e s m args below meth c s₁ B hml hv
  obtain ⟨rfl, hsz, hP, hK, hN, hj⟩ := hv
  subst hsz
  have hr := B.returns
  have hlocks := B.notSynchronized
  have C0 : xC p s m _ c cX5_reports 1 wsX5_reports RX5 NLM g a (xA NLM a s.heap.size) := ⟨⟨B.exec, B.bytes, hml, findClass_of_methodNamed B.named, atoms_spec (ws := wsX5_reports) B.pre⟩, hK, hN, hj, fun n h => Or.inl ⟨n, h, rfl⟩, fun q h => Or.inr h⟩
  have hS : va_S (xA NLM a s.heap.size) s.heap s.heap [] := va_S.rf
  have hl := lv_entry ([.ref (a 30 0)]) (n := 1) (Nat.le_of_ble_eq_true rfl)
  rw [lg_entry_eq]
  generalize (lg_sl ([.ref (a 30 0)]) ++ List.replicate (1 - (lg_sl ([.ref (a 30 0)])).length) Slot.unset).toArray = ls at hl ⊢
  have hl : lv_has ls 1 [(0, .ref (a 30 0))] := hl
  have k_0 : Cond.fieldLink RX5 60 RX5 (TX5 0).2.1 (TX5 0).2.2.1 ∈ wsX5_reports := by decide +kernel
  have i_X5 : ∀ w ∈ wsX50, w ∈ wsX5_reports := by decide +kernel
  have k_2 : Cond.fieldLink RX5 67 RX5 (TX5 8).2.1 (TX5 8).2.2.1 ∈ wsX5_reports := by decide +kernel
  refine lv_aload_n C0.hx C0.hb dX5_reports_0 rfl (lv_at hl 0 rfl) ?_
  refine lv_iconst (v := nI 0) C0.hx C0.hb dX5_reports_1 (by decide) ?_
  refine x_put C0 hP hS 30 (mM_n rfl rfl) rfl rfl tyX5 tyX5_ok nmX5 0 (by decide) i_X5 k_0 rfl rfl 0 rfl (Nat.le_of_ble_eq_true rfl) rfl dX5_reports_2 (fun H locs hP hS => ?_)
  refine lv_aload_n C0.hx C0.hb dX5_reports_5 rfl (lv_at hl 0 rfl) ?_
  refine x_get C0 hP 30 (mM_n rfl rfl) rfl rfl 8 (by decide) i_X5 k_2 rfl rfl dX5_reports_6 ?_
  exact W.iret (v := (up3 σ 30 0 0 (nI 0)) 30 0 2) C0.hx C0.hb hr (fun t ht hW => ⟨⟨_, up3 σ 30 0 0 (nI 0), rfl, ⟨rfl, rfl⟩, x_end ht hP⟩, hS.F ht⟩) hS.2.2 dX5_reports_9

set_option maxHeartbeats 4000000 in
set_option maxRecDepth 100000 in
theorem mtX5_ignore (l : Launch) (g : xG) (a : xAd) (σ : xS) (f : Int32) (b : Bool) (ok : okM σ) : xMw l yX5_ignore wsX5_ignore ({ frames := 2, cells := 0, slots := 0, locals := 42 }) NLM g a σ [.ref (a 30 0), .int f, .int (bI b)] (igMV σ f) (igMS σ f b) := by
  intro sz
  refine Met.ofW (cc := cX5_ignore) (maxL := 4) (ret := (some .boolean)) (by decide) rfl ?_
  intro p e s m args below meth c s₁ B hml hv
  obtain ⟨rfl, hsz, hP, hK, hN, hj⟩ := hv
  subst hsz
  have hr := B.returns
  have hlocks := B.notSynchronized
  have C0 : xC p s m _ c cX5_ignore 4 wsX5_ignore RX5 NLM g a (xA NLM a s.heap.size) := ⟨⟨B.exec, B.bytes, hml, findClass_of_methodNamed B.named, atoms_spec (ws := wsX5_ignore) B.pre⟩, hK, hN, hj, fun n h => Or.inl ⟨n, h, rfl⟩, fun q h => Or.inr h⟩
  have hS : va_S (xA NLM a s.heap.size) s.heap s.heap [] := va_S.rf
  have hl := lv_entry ([.ref (a 30 0), .int f, .int (bI b)]) (n := 4) (Nat.le_of_ble_eq_true rfl)
  rw [lg_entry_eq]
  generalize (lg_sl ([.ref (a 30 0), .int f, .int (bI b)]) ++ List.replicate (4 - (lg_sl ([.ref (a 30 0), .int f, .int (bI b)])).length) Slot.unset).toArray = ls at hl ⊢
  have hl : lv_has ls 4 [(0, .ref (a 30 0)), (1, .int f), (2, .int (bI b))] := hl
  have k_0 : Cond.fieldLink RX5 60 RX5 (TX5 0).2.1 (TX5 0).2.2.1 ∈ wsX5_ignore := by decide +kernel
  have i_X5 : ∀ w ∈ wsX50, w ∈ wsX5_ignore := by decide +kernel
  have k_2 : Cond.fieldLink RX5 22 RX5 (TX5 5).2.1 (TX5 5).2.2.1 ∈ wsX5_ignore := by decide +kernel
  refine lv_aload_n C0.hx C0.hb dX5_ignore_0 rfl (lv_at hl 0 rfl) ?_
  refine lv_iload_n C0.hx C0.hb dX5_ignore_1 rfl (lv_at hl 1 rfl) ?_
  refine x_Si (As := [.int f]) (rest := [.ref (a 30 0)]) C0 (mtX5_isFunction l g a σ f) (xP0 _) xDj0 (va_cwS 1 C0.hts gX5_ignore_X5_isFunction rfl rfl rfl (by decide +kernel) ⟨Nat.le_of_ble_eq_true rfl, Nat.le_of_ble_eq_true rfl⟩) rfl hl rfl (Nat.le_of_ble_eq_true rfl) (Nat.zero_le _) (Nat.zero_le _) dX5_ignore_2 ?_
  refine x_join (α := Nat) 13 (fun z H' locs' ls => (H' = s.heap ∧ locs' = [] ∧ z = (if funM f = true then 0 else 1) ∧ z ≤ 1) ∧ lv_has ls 4 [(0, .ref (a 30 0)), (1, .int f), (2, .int (bI b))]) (fun z => [.int (nI z), .ref (a 30 0)]) ?_ (fun J13 => ?_)
  · rintro z _ _ ls ⟨⟨rfl, rfl, hz, hz1⟩, hl⟩
    refine x_put C0 hP hS 30 (mM_n rfl rfl) rfl rfl tyX5 tyX5_ok nmX5 0 (by decide) i_X5 k_0 rfl rfl 0 rfl (Nat.le_of_ble_eq_true rfl) rfl dX5_ignore_13 (fun H locs hP hS => ?_)
    refine lv_aload_n C0.hx C0.hb dX5_ignore_16 rfl (lv_at hl 0 rfl) ?_
    refine x_get C0 hP 30 (mM_n rfl rfl) rfl rfl 0 (by decide) i_X5 k_0 rfl rfl dX5_ignore_17 ?_
    refine x_top up3_self ?_
    refine x_ifle (tgt := 25) C0.hx C0.hb (by omega) dX5_ignore_20 (by decide) (fun c_1 => ?_) (fun c_1 => ?_)
    ·
      have hf0 : funM f = true := by
        by_cases h : funM f = true
        · exact h
        · rw [if_neg h] at hz; omega
      rw [c_1] at hP
      obtain ⟨f, hf, rfl⟩ := inX_nat (n := 29) (by decide) hf0
      have ef : nv (nI f) = f := nv_nI (by omega)
      refine lv_aload_n C0.hx C0.hb dX5_ignore_25 rfl (lv_at hl 0 rfl) ?_
      refine x_get C0 hP 30 (mM_n rfl rfl) rfl rfl 5 (by decide) i_X5 k_2 rfl rfl dX5_ignore_26 ?_
      refine lv_iload_n C0.hx C0.hb dX5_ignore_29 rfl (lv_at hl 1 rfl) ?_
      refine x_zald C0 hP 35 f 30 (mM_n rfl rfl) rfl (by omega) (by decide) dX5_ignore_30 ?_
      refine lv_istore_n (lv' := [(3, .int ((up3 σ 30 0 0 (nI 0)) 35 0 f)), (0, .ref (a 30 0)), (1, .int (nI f)), (2, .int (bI b))]) C0.hx C0.hb dX5_ignore_31 rfl hl (by decide) rfl (fun ls hl => ?_)
      refine lv_aload_n C0.hx C0.hb dX5_ignore_32 rfl (lv_at hl 1 rfl) ?_
      refine x_get C0 hP 30 (mM_n rfl rfl) rfl rfl 5 (by decide) i_X5 k_2 rfl rfl dX5_ignore_33 ?_
      refine lv_iload_n C0.hx C0.hb dX5_ignore_36 rfl (lv_at hl 2 rfl) ?_
      refine lv_iload_n C0.hx C0.hb dX5_ignore_37 rfl (lv_at hl 3 rfl) ?_
      refine x_zast C0 hP hS 35 f 30 (v := bI b) (bI_01 _) (mM_n rfl rfl) (fun _ => rfl) (by omega) (by decide) dX5_ignore_38 (fun H locs hP hS => ?_)
      refine lv_iload_n C0.hx C0.hb dX5_ignore_39 rfl (lv_at hl 0 rfl) ?_
      exact W.zret (v := (up3 σ 30 0 0 (nI 0)) 35 0 f) C0.hx C0.hb hr (by first | rfl | (rcases ok.ign hf with z | z <;> (rw [show up3 σ 30 0 0 (nI 0) 35 0 f = σ 35 0 f from rfl, z]; rfl))) (fun t ht hW => ⟨⟨_, up3 (up3 σ 30 0 0 (nI 0)) 35 0 f (bI b), rfl, ⟨(by unfold igMV; rw [if_pos hf0, ef]; rfl), (by unfold igMS; rw [if_pos hf0, ef])⟩, x_end ht hP⟩, hS.F ht⟩) hS.2.2 dX5_ignore_40
    ·
      have hf0 : ¬ funM f = true := by intro h; rw [if_pos h] at hz; omega
      have hz2 : z = 1 := by omega
      rw [hz2] at hP
      refine lv_iconst (v := nI 0) C0.hx C0.hb dX5_ignore_23 (by decide) ?_
      exact W.zret (v := nI 0) C0.hx C0.hb hr (by first | rfl | (rcases ok.ign hf with z | z <;> (rw [show up3 σ 30 0 0 (nI 0) 35 0 f = σ 35 0 f from rfl, z]; rfl))) (fun t ht hW => ⟨⟨_, up3 σ 30 0 0 (nI 1), rfl, ⟨(by unfold igMV; rw [if_neg hf0]), (by unfold igMS; rw [if_neg hf0])⟩, x_end ht hP⟩, hS.F ht⟩) hS.2.2 dX5_ignore_24
  ·
    refine x_ifeq (tgt := 12) C0.hx C0.hb dX5_ignore_5 (by decide) (fun c_2 => ?_) (fun c_2 => ?_)
    ·
      refine lv_iconst (v := nI 1) C0.hx C0.hb dX5_ignore_12 (by decide) ?_
      exact J13 1 _ _ ls ⟨⟨rfl, rfl, (by simp [c_2]), (by omega)⟩, (lv_sub hl [0, 1, 2] rfl)⟩
    ·
      refine lv_iconst (v := nI 0) C0.hx C0.hb dX5_ignore_8 (by decide) ?_
      refine lv_goto (tgt := 13) C0.hx C0.hb dX5_ignore_9 (by decide) ?_
      exact J13 0 _ _ ls ⟨⟨rfl, rfl, (by simp [c_2]), (by omega)⟩, (lv_sub hl [0, 1, 2] rfl)⟩

set_option maxHeartbeats 4000000 in
set_option maxRecDepth 100000 in
theorem mtX5_standFor (l : Launch) (g : xG) (a : xAd) (σ : xS) (f o : Int32) (ok : okM σ) : xMw l yX5_standFor wsX5_standFor ({ frames := 2, cells := 0, slots := 0, locals := 42 }) NLM g a σ [.ref (a 30 0), .int f, .int o] (sfMV σ f o) (sfMS σ f o) := by
  intro sz
  refine Met.ofW (cc := cX5_standFor) (maxL := 4) (ret := (some .int)) (by decide) rfl ?_
  intro p e s m args below meth c s₁ B hml hv
  obtain ⟨rfl, hsz, hP, hK, hN, hj⟩ := hv
  subst hsz
  have hr := B.returns
  have hlocks := B.notSynchronized
  have C0 : xC p s m _ c cX5_standFor 4 wsX5_standFor RX5 NLM g a (xA NLM a s.heap.size) := ⟨⟨B.exec, B.bytes, hml, findClass_of_methodNamed B.named, atoms_spec (ws := wsX5_standFor) B.pre⟩, hK, hN, hj, fun n h => Or.inl ⟨n, h, rfl⟩, fun q h => Or.inr h⟩
  have hS : va_S (xA NLM a s.heap.size) s.heap s.heap [] := va_S.rf
  have hl := lv_entry ([.ref (a 30 0), .int f, .int o]) (n := 4) (Nat.le_of_ble_eq_true rfl)
  rw [lg_entry_eq]
  generalize (lg_sl ([.ref (a 30 0), .int f, .int o]) ++ List.replicate (4 - (lg_sl ([.ref (a 30 0), .int f, .int o])).length) Slot.unset).toArray = ls at hl ⊢
  have hl : lv_has ls 4 [(0, .ref (a 30 0)), (1, .int f), (2, .int o)] := hl
  have k_0 : Cond.fieldLink RX5 60 RX5 (TX5 0).2.1 (TX5 0).2.2.1 ∈ wsX5_standFor := by decide +kernel
  have i_X5 : ∀ w ∈ wsX50, w ∈ wsX5_standFor := by decide +kernel
  have k_2 : Cond.fieldLink RX5 26 RX5 (TX5 6).2.1 (TX5 6).2.2.1 ∈ wsX5_standFor := by decide +kernel
  refine lv_aload_n C0.hx C0.hb dX5_standFor_0 rfl (lv_at hl 0 rfl) ?_
  refine lv_iconst (v := nI 0) C0.hx C0.hb dX5_standFor_1 (by decide) ?_
  refine x_put C0 hP hS 30 (mM_n rfl rfl) rfl rfl tyX5 tyX5_ok nmX5 0 (by decide) i_X5 k_0 rfl rfl 0 rfl (Nat.le_of_ble_eq_true rfl) rfl dX5_standFor_2 (fun H locs hP hS => ?_)
  refine x_join (α := Unit) 19 (fun _ H' locs' ls => (H' = H ∧ locs' = locs ∧ (funM f && funM o) = false) ∧ lv_has ls 4 [(0, .ref (a 30 0)), (1, .int f), (2, .int o)]) (fun _ => []) ?_ (fun J19 => ?_)
  · rintro _ H locs ls ⟨⟨rfl, rfl, hbad⟩, hl⟩
    refine lv_aload_n C0.hx C0.hb dX5_standFor_19 rfl (lv_at hl 0 rfl) ?_
    refine lv_iconst (v := nI 1) C0.hx C0.hb dX5_standFor_20 (by decide) ?_
    refine x_Vw (As := [.int (nI 1)]) (rest := []) C0 (mtX5_fails l g a (up3 σ 30 0 0 (nI 0)) 1) hP hS (cwV 1 C0.hts gX5_standFor_X5_fails rfl rfl rfl (by decide +kernel) ⟨Nat.le_of_ble_eq_true rfl, Nat.le_of_ble_eq_true rfl⟩) (x_recv C0 hP 30 (mM_n rfl rfl) rfl rfl) rfl hl rfl (Nat.le_of_ble_eq_true rfl) (Nat.zero_le _) (Nat.zero_le _) dX5_standFor_21 (fun H locs hP hS => ?_)
    exact W.iret (v := nI 0) C0.hx C0.hb hr (fun t ht hW => ⟨⟨_, up3 (up3 σ 30 0 0 (nI 0)) 30 0 0 (nI 1), rfl, ⟨(by unfold sfMV; rw [if_neg (by rw [hbad]; decide)]), (by unfold sfMS; rw [if_neg (by rw [hbad]; decide)]; rfl)⟩, x_end ht hP⟩, hS.F ht⟩) hS.2.2 dX5_standFor_24
  ·
    have hP : va_P g.1 vwCl (xw NLM g a (m0 σ)) H := hP
    have okm : okM (m0 σ) := m0_ok ok
    refine lv_iload_n C0.hx C0.hb dX5_standFor_5 rfl (lv_at hl 1 rfl) ?_
    refine x_Si (As := [.int f]) (rest := []) C0 (mtX5_isFunction l g a (m0 σ) f) (xP0 _) xDj0 (va_cwS 1 C0.hts gX5_standFor_X5_isFunction rfl rfl rfl (by decide +kernel) ⟨Nat.le_of_ble_eq_true rfl, Nat.le_of_ble_eq_true rfl⟩) rfl hl rfl (Nat.le_of_ble_eq_true rfl) (Nat.zero_le _) (Nat.zero_le _) dX5_standFor_6 ?_
    refine x_ifeq (tgt := 19) C0.hx C0.hb dX5_standFor_9 (by decide) (fun c_1 => ?_) (fun c_1 => ?_)
    ·
      exact J19 () _ _ ls ⟨⟨rfl, rfl, (by simp [c_1])⟩, (lv_sub hl [0, 1, 2] rfl)⟩
    ·
      refine lv_iload_n C0.hx C0.hb dX5_standFor_12 rfl (lv_at hl 2 rfl) ?_
      refine x_Si (As := [.int o]) (rest := []) C0 (mtX5_isFunction l g a (m0 σ) o) (xP0 _) xDj0 (va_cwS 1 C0.hts gX5_standFor_X5_isFunction rfl rfl rfl (by decide +kernel) ⟨Nat.le_of_ble_eq_true rfl, Nat.le_of_ble_eq_true rfl⟩) rfl hl rfl (Nat.le_of_ble_eq_true rfl) (Nat.zero_le _) (Nat.zero_le _) dX5_standFor_13 ?_
      refine x_ifne (tgt := 25) C0.hx C0.hb dX5_standFor_16 (by decide) (fun c_2 => ?_) (fun c_2 => ?_)
      ·
        have hgood : (funM f && funM o) = true := by simp [c_2, c_1]
        obtain ⟨f, hf, rfl⟩ := inX_nat (n := 29) (by decide) c_1
        obtain ⟨o, ho, rfl⟩ := inX_nat (n := 29) (by decide) c_2
        have ef : nv (nI f) = f := nv_nI (by omega)
        have eo : nv (nI o) = o := nv_nI (by omega)
        refine x_join (α := Unit) 45 (fun _ H' locs' ls => (H' = H ∧ locs' = locs ∧ (decide (f ≠ o) && ldM (m0 σ) f 30 o) = false) ∧ lv_has ls 4 [(0, .ref (a 30 0)), (1, .int (nI f)), (2, .int (nI o))]) (fun _ => []) ?_ (fun J45 => ?_)
        · rintro _ H locs ls ⟨⟨rfl, rfl, hq⟩, hl⟩
          refine lv_aload_n C0.hx C0.hb dX5_standFor_45 rfl (lv_at hl 0 rfl) ?_
          refine x_get C0 hP 30 (mM_n rfl rfl) rfl rfl 6 (by decide) i_X5 k_2 rfl rfl dX5_standFor_46 ?_
          refine lv_iload_n C0.hx C0.hb dX5_standFor_49 rfl (lv_at hl 1 rfl) ?_
          refine x_iald C0 hP 36 f 30 (mM_n rfl rfl) rfl (by omega) (by decide) dX5_standFor_50 ?_
          refine lv_istore_n (lv' := [(3, .int ((m0 σ) 36 0 f)), (0, .ref (a 30 0)), (1, .int (nI f)), (2, .int (nI o))]) C0.hx C0.hb dX5_standFor_51 rfl hl (by decide) rfl (fun ls hl => ?_)
          refine lv_aload_n C0.hx C0.hb dX5_standFor_52 rfl (lv_at hl 1 rfl) ?_
          refine x_get C0 hP 30 (mM_n rfl rfl) rfl rfl 6 (by decide) i_X5 k_2 rfl rfl dX5_standFor_53 ?_
          refine lv_iload_n C0.hx C0.hb dX5_standFor_56 rfl (lv_at hl 2 rfl) ?_
          refine lv_iload_n C0.hx C0.hb dX5_standFor_57 rfl (lv_at hl 3 rfl) ?_
          refine x_iast C0 hP hS 36 f 30 (v := nI o) (mM_n rfl rfl) (fun _ => rfl) (by omega) (by decide) dX5_standFor_58 (fun H locs hP hS => ?_)
          refine lv_iload_n C0.hx C0.hb dX5_standFor_59 rfl (lv_at hl 0 rfl) ?_
          exact W.iret (v := (m0 σ) 36 0 f) C0.hx C0.hb hr (fun t ht hW => ⟨⟨_, up3 (m0 σ) 36 0 f (nI o), rfl, ⟨(by unfold sfMV; rw [if_pos hgood, if_neg (by rw [ef, eo, hq]; decide), ef]; rfl), (by unfold sfMS; rw [if_pos hgood, if_neg (by rw [ef, eo, hq]; decide), ef])⟩, x_end ht hP⟩, hS.F ht⟩) hS.2.2 dX5_standFor_60
        ·
          refine lv_iload_n C0.hx C0.hb dX5_standFor_25 rfl (lv_at hl 1 rfl) ?_
          refine lv_iload_n C0.hx C0.hb dX5_standFor_26 rfl (lv_at hl 2 rfl) ?_
          refine x_icmp_eq (tgt := 45) C0.hx C0.hb (by omega) (by omega) dX5_standFor_27 (by decide) (fun c_3 => ?_) (fun c_3 => ?_)
          ·
            exact J45 () _ _ ls ⟨⟨rfl, rfl, (by simp [c_3])⟩, (lv_sub hl [0, 1, 2] rfl)⟩
          ·
            refine lv_aload_n C0.hx C0.hb dX5_standFor_30 rfl (lv_at hl 0 rfl) ?_
            refine lv_iload_n C0.hx C0.hb dX5_standFor_31 rfl (lv_at hl 2 rfl) ?_
            refine lv_iload_n C0.hx C0.hb dX5_standFor_32 rfl (lv_at hl 1 rfl) ?_
            refine x_Vi (As := [.int (nI o), .int (nI f)]) (rest := []) C0 (mtX5_leads l g a (m0 σ) o f (by omega) (by omega) okm) hP C0.2.2.2.1 (cwV 2 C0.hts gX5_standFor_X5_leads rfl rfl rfl (by decide +kernel) ⟨Nat.le_of_ble_eq_true rfl, Nat.le_of_ble_eq_true rfl⟩) (x_recv C0 hP 30 (mM_n rfl rfl) rfl rfl) rfl hl rfl (Nat.le_of_ble_eq_true rfl) (Nat.zero_le _) (Nat.zero_le _) dX5_standFor_33 ?_
            refine x_ifeq (tgt := 45) C0.hx C0.hb dX5_standFor_36 (by decide) (fun c_4 => ?_) (fun c_4 => ?_)
            ·
              exact J45 () _ _ ls ⟨⟨rfl, rfl, (by simp [c_4, c_3])⟩, (lv_sub hl [0, 1, 2] rfl)⟩
            ·
              refine lv_aload_n C0.hx C0.hb dX5_standFor_39 rfl (lv_at hl 0 rfl) ?_
              refine lv_iconst (v := nI 2) C0.hx C0.hb dX5_standFor_40 (by decide) ?_
              refine x_Vw (As := [.int (nI 2)]) (rest := []) C0 (mtX5_fails l g a (m0 σ) 2) hP hS (cwV 1 C0.hts gX5_standFor_X5_fails rfl rfl rfl (by decide +kernel) ⟨Nat.le_of_ble_eq_true rfl, Nat.le_of_ble_eq_true rfl⟩) (x_recv C0 hP 30 (mM_n rfl rfl) rfl rfl) rfl hl rfl (Nat.le_of_ble_eq_true rfl) (Nat.zero_le _) (Nat.zero_le _) dX5_standFor_41 (fun H locs hP hS => ?_)
              exact W.iret (v := nI 0) C0.hx C0.hb hr (fun t ht hW => ⟨⟨_, up3 (m0 σ) 30 0 0 (nI 2), rfl, ⟨(by unfold sfMV; rw [if_pos hgood, if_pos (by rw [ef, eo]; simp [c_4, c_3])]), (by unfold sfMS; rw [if_pos hgood, if_pos (by rw [ef, eo]; simp [c_4, c_3])]; rfl)⟩, x_end ht hP⟩, hS.F ht⟩) hS.2.2 dX5_standFor_44
      ·
        exact J19 () _ _ ls ⟨⟨rfl, rfl, (by simp [c_2, c_1])⟩, (lv_sub hl [0, 1, 2] rfl)⟩

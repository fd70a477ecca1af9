set_option maxHeartbeats 4000000 in
set_option maxRecDepth 100000 in
theorem mtL_names (l : Launch) (g : xG) (a : xAd) (σ : xS) (ok : okP σ) : xMv l yL_names wsL_names ({ frames := 2, cells := 0, slots := 0, locals := 61 }) NLA g a σ [.ref (a 30 0), .ref (a 31 0), .ref (a 32 0), .ref (a 33 0), .ref (a 34 0), .ref (a 35 0), .ref (a 37 0), .ref (a 39 0)] (nsS σ) := by
  intro sz
  refine Met.ofW (cc := cL_names) (maxL := 10) (ret := none) (by decide) rfl ?_
  intro p e s m args below meth c s₁ B hml hv
  obtain ⟨rfl, hsz, hP, hK, hN, hj⟩ := hv
  subst hsz
  have hr := B.returns
  have hlocks := B.notSynchronized
  have C0 : xC p s m _ c cL_names 10 wsL_names RL NLA g a (xA NLA a s.heap.size) := ⟨⟨B.exec, B.bytes, hml, findClass_of_methodNamed B.named, atoms_spec (ws := wsL_names) B.pre⟩, hK, hN, hj, fun n h => Or.inl ⟨n, h, rfl⟩, fun q h => Or.inr h⟩
  have hS : va_S (xA NLA a s.heap.size) s.heap s.heap [] := va_S.rf
  have hl := lv_entry ([.ref (a 30 0), .ref (a 31 0), .ref (a 32 0), .ref (a 33 0), .ref (a 34 0), .ref (a 35 0), .ref (a 37 0), .ref (a 39 0)]) (n := 10) (Nat.le_of_ble_eq_true rfl)
  rw [lg_entry_eq]
  generalize (lg_sl ([.ref (a 30 0), .ref (a 31 0), .ref (a 32 0), .ref (a 33 0), .ref (a 34 0), .ref (a 35 0), .ref (a 37 0), .ref (a 39 0)]) ++ List.replicate (10 - (lg_sl ([.ref (a 30 0), .ref (a 31 0), .ref (a 32 0), .ref (a 33 0), .ref (a 34 0), .ref (a 35 0), .ref (a 37 0), .ref (a 39 0)])).length) Slot.unset).toArray = ls at hl ⊢
  have hl : lv_has ls 10 [(0, .ref (a 30 0)), (1, .ref (a 31 0)), (2, .ref (a 32 0)), (3, .ref (a 33 0)), (4, .ref (a 34 0)), (5, .ref (a 35 0)), (6, .ref (a 37 0)), (7, .ref (a 39 0))] := hl
  refine lv_iconst (v := nI 0) C0.hx C0.hb dL_names_0 (by decide) ?_
  refine lv_istore (lv' := [(8, .int (nI 0)), (0, .ref (a 30 0)), (1, .ref (a 31 0)), (2, .ref (a 32 0)), (3, .ref (a 33 0)), (4, .ref (a 34 0)), (5, .ref (a 35 0)), (6, .ref (a 37 0)), (7, .ref (a 39 0))]) C0.hx C0.hb dL_names_1 hl (by decide) rfl (fun ls hl => ?_)
  refine x_loopW (α := Nat) (fun n => 12 - n) (fun n H locs ls => va_P g.1 vwCl (xw NLA g a (nsL σ n)) H ∧ va_S (xA NLA a s.heap.size) s.heap H locs ∧ n ≤ nv (σ 30 0 0) ∧ lv_has ls 10 [(0, .ref (a 30 0)), (1, .ref (a 31 0)), (2, .ref (a 32 0)), (3, .ref (a 33 0)), (4, .ref (a 34 0)), (5, .ref (a 35 0)), (6, .ref (a 37 0)), (7, .ref (a 39 0)), (8, .int (nI n))]) ?_ 0 ⟨hP, hS, (by omega), (lv_sub hl [1, 2, 3, 4, 5, 6, 7, 8, 0] rfl)⟩
  rintro n H locs ls ⟨hP, hS, hn, hl⟩ ih3
  have ok1 : okP (nsL σ n) := nsL_ok ok
  have on : nsL σ n 30 0 0 = nI (nv (σ 30 0 0)) := (nsL_ne n 30 0 0 (by decide)).trans ok.n.1
  have hq := ok.n.2
  refine lv_iload C0.hx C0.hb dL_names_3 (lv_at hl 8 rfl) ?_
  refine lv_aload_n C0.hx C0.hb dL_names_5 rfl (lv_at hl 0 rfl) ?_
  refine lv_iconst (v := nI 0) C0.hx C0.hb dL_names_6 (by decide) ?_
  refine x_iald C0 hP 30 0 3 (NLA_M _ (mM_n rfl rfl)) rfl (by omega) (by decide) dL_names_7 ?_
  refine x_top on ?_
  refine x_icmp_ge (tgt := 69) C0.hx C0.hb (by omega) (by omega) dL_names_8 (by decide) (fun c_1 => ?_) (fun c_1 => ?_)
  ·
    exact W.vret C0.hx C0.hb hr (fun t ht hW => ⟨⟨nsL σ n, rfl, (by rw [show n = nv (σ 30 0 0) by omega]; rfl), x_end ht hP⟩, hS.F ht⟩) hS.2.2 dL_names_69
  ·
    refine lv_aload C0.hx C0.hb dL_names_11 (lv_at hl 7 rfl) ?_
    refine lv_iload C0.hx C0.hb dL_names_13 (lv_at hl 8 rfl) ?_
    refine lv_iload C0.hx C0.hb dL_names_15 (lv_at hl 8 rfl) ?_
    refine lv_aload_n C0.hx C0.hb dL_names_17 rfl (lv_at hl 0 rfl) ?_
    refine lv_aload_n C0.hx C0.hb dL_names_18 rfl (lv_at hl 1 rfl) ?_
    refine lv_aload_n C0.hx C0.hb dL_names_19 rfl (lv_at hl 2 rfl) ?_
    refine lv_aload_n C0.hx C0.hb dL_names_20 rfl (lv_at hl 3 rfl) ?_
    refine lv_aload C0.hx C0.hb dL_names_21 (lv_at hl 4 rfl) ?_
    refine lv_aload C0.hx C0.hb dL_names_23 (lv_at hl 5 rfl) ?_
    refine lv_aload C0.hx C0.hb dL_names_25 (lv_at hl 6 rfl) ?_
    refine x_Si (As := [.int (nI n), .ref (a 30 0), .ref (a 31 0), .ref (a 32 0), .ref (a 33 0), .ref (a 34 0), .ref (a 35 0), .ref (a 37 0)]) (rest := [.int (nI n), .ref (a 39 0)]) C0 (mtL_number l g a (nsL σ n) n (by omega) ok1) hP C0.2.2.2.1 (va_cwS 8 C0.hts gL_names_L_number rfl rfl rfl (by decide +kernel) ⟨Nat.le_of_ble_eq_true rfl, Nat.le_of_ble_eq_true rfl⟩) rfl hl rfl (Nat.le_of_ble_eq_true rfl) (Nat.zero_le _) (Nat.zero_le _) dL_names_27 ?_
    refine x_iast C0 hP hS 39 n 24 (v := nuP (nsL σ n) n) (NLA_M _ (mM_n rfl rfl)) (fun _ => rfl) (by omega) (by decide) dL_names_30 (fun H locs hP hS => ?_)
    obtain ⟨τ, hτ⟩ : ∃ w, w = n1P (nsL σ n) n := ⟨_, rfl⟩
    have hP : va_P g.1 vwCl (xw NLA g a τ) H := by rw [hτ]; exact hP
    refine lv_iconst (v := nI 0) C0.hx C0.hb dL_names_31 (by decide) ?_
    refine lv_istore (lv' := [(9, .int (nI 0)), (0, .ref (a 30 0)), (1, .ref (a 31 0)), (2, .ref (a 32 0)), (3, .ref (a 33 0)), (4, .ref (a 34 0)), (5, .ref (a 35 0)), (6, .ref (a 37 0)), (7, .ref (a 39 0)), (8, .int (nI n))]) C0.hx C0.hb dL_names_32 hl (by decide) rfl (fun ls hl => ?_)
    refine x_loopR (α := Nat × Nat) (fun u => u.1) (fun ⟨cn, k⟩ ls => k + cn = n ∧ fsP τ n cn k = fsP τ n n 0 ∧ lv_has ls 10 [(0, .ref (a 30 0)), (1, .ref (a 31 0)), (2, .ref (a 32 0)), (3, .ref (a 33 0)), (4, .ref (a 34 0)), (5, .ref (a 35 0)), (6, .ref (a 37 0)), (7, .ref (a 39 0)), (8, .int (nI n)), (9, .int (nI k))]) ?_ ((n, 0)) ⟨(by omega), rfl, (lv_sub hl [1, 2, 3, 4, 5, 6, 7, 8, 9, 0] rfl)⟩
    rintro ⟨cn, k⟩ ls ⟨hkc, hG, hl⟩ ih34
    refine lv_aload C0.hx C0.hb dL_names_34 (lv_at hl 7 rfl) ?_
    refine lv_iload C0.hx C0.hb dL_names_36 (lv_at hl 9 rfl) ?_
    refine x_iald C0 hP 39 k 24 (NLA_M _ (mM_n rfl rfl)) rfl (by omega) (by decide) dL_names_38 ?_
    refine lv_aload C0.hx C0.hb dL_names_39 (lv_at hl 7 rfl) ?_
    refine lv_iload C0.hx C0.hb dL_names_41 (lv_at hl 8 rfl) ?_
    refine x_iald C0 hP 39 n 24 (NLA_M _ (mM_n rfl rfl)) rfl (by omega) (by decide) dL_names_43 ?_
    refine lv_icmp_eq (tgt := 53) C0.hx C0.hb dL_names_44 (by decide) (fun c_2 => ?_) (fun c_2 => ?_)
    ·
      have hR : k = fsP τ n n 0 := by rw [← hG]; cases cn with | zero => rfl | succ cn => rw [fsP, if_pos c_2]
      clear hG
      subst hR
      refine lv_aload C0.hx C0.hb dL_names_53 (lv_at hl 7 rfl) ?_
      refine lv_bipush (v := nI 12) C0.hx C0.hb dL_names_55 (by decide) ?_
      refine lv_iload C0.hx C0.hb dL_names_57 (lv_at hl 8 rfl) ?_
      refine lv_iadd C0.hx C0.hb dL_names_59 ?_
      refine x_top (nI_add 12 n) ?_
      refine lv_iload C0.hx C0.hb dL_names_60 (lv_at hl 9 rfl) ?_
      refine x_iast C0 hP hS 39 (12 + n) 24 (v := nI (fsP τ n n 0)) (NLA_M _ (mM_n rfl rfl)) (fun _ => rfl) (by omega) (by decide) dL_names_62 (fun H locs hP hS => ?_)
      have hP : va_P g.1 vwCl (xw NLA g a (nsL σ (n + 1))) H := by rw [hτ] at hP; exact hP
      refine lv_iinc (v := nI (n + 1)) (lv' := [(8, .int (nI (n + 1))), (0, .ref (a 30 0)), (1, .ref (a 31 0)), (2, .ref (a 32 0)), (3, .ref (a 33 0)), (4, .ref (a 34 0)), (5, .ref (a 35 0)), (6, .ref (a 37 0)), (7, .ref (a 39 0)), (9, .int (nI (fsP τ n n 0)))]) C0.hx C0.hb dL_names_63 hl (k := 8) rfl (nI_1 n) (by decide) rfl (fun ls hl => ?_)
      refine lv_goto (tgt := 3) C0.hx C0.hb dL_names_66 (by decide) ?_
      exact ih3 ((n + 1)) H locs ls ⟨hP, hS, (by omega), (lv_sub hl [1, 2, 3, 4, 5, 6, 7, 8, 0] rfl)⟩ (by omega)
    ·
      obtain ⟨cn, rfl⟩ : ∃ z, cn = z + 1 := ⟨cn - 1, by rcases Nat.eq_zero_or_pos cn with h | h; (exact absurd (by rw [show k = n by omega]) c_2); omega⟩
      have hR : fsP τ n cn (k + 1) = fsP τ n n 0 := by rw [← hG, fsP, if_neg c_2]
      refine lv_iinc (v := nI (k + 1)) (lv' := [(9, .int (nI (k + 1))), (0, .ref (a 30 0)), (1, .ref (a 31 0)), (2, .ref (a 32 0)), (3, .ref (a 33 0)), (4, .ref (a 34 0)), (5, .ref (a 35 0)), (6, .ref (a 37 0)), (7, .ref (a 39 0)), (8, .int (nI n))]) C0.hx C0.hb dL_names_47 hl (k := 9) rfl (nI_1 k) (by decide) rfl (fun ls hl => ?_)
      refine lv_goto (tgt := 34) C0.hx C0.hb dL_names_50 (by decide) ?_
      exact ih34 ((cn, k + 1)) ls ⟨(by omega), hR, (lv_sub hl [1, 2, 3, 4, 5, 6, 7, 8, 9, 0] rfl)⟩ (Nat.lt_succ_self _)

set_option maxHeartbeats 4000000 in
set_option maxRecDepth 100000 in
theorem mtL_rate (l : Launch) (g : xG) (a : xAd) (σ : xS) (nm v : Nat) (hnm : nm ≤ 12) (hv : v < 4) (ok : okP σ) : xMi l yL_rate wsL_rate ({ frames := 0, cells := 0, slots := 0, locals := 0 }) NLA g a σ [.int (nI nm), .int (nI v), .ref (a 30 0), .ref (a 31 0), .ref (a 35 0), .ref (a 39 0)] (nI (rtP σ nm v)) := by
  unfold xMi
  refine Met.ofW (cc := cL_rate) (maxL := 8) (ret := (some .int)) (by decide) rfl ?_
  intro p e s m args below meth c s₁ B hml hv
  obtain ⟨rfl, hP, hK, hN, hj⟩ := hv
  have hr := B.returns
  have hlocks := B.notSynchronized
  have C0 : xC p s m _ c cL_rate 8 wsL_rate RL NLA g a (xA NLA a s.heap.size) := ⟨⟨B.exec, B.bytes, hml, findClass_of_methodNamed B.named, atoms_spec (ws := wsL_rate) B.pre⟩, hK, hN, hj, fun n h => Or.inl ⟨n, h, rfl⟩, fun q h => Or.inr h⟩
  have hS : va_S (xA NLA a s.heap.size) s.heap s.heap [] := va_S.rf
  have hl := lv_entry ([.int (nI nm), .int (nI v), .ref (a 30 0), .ref (a 31 0), .ref (a 35 0), .ref (a 39 0)]) (n := 8) (Nat.le_of_ble_eq_true rfl)
  rw [lg_entry_eq]
  generalize (lg_sl ([.int (nI nm), .int (nI v), .ref (a 30 0), .ref (a 31 0), .ref (a 35 0), .ref (a 39 0)]) ++ List.replicate (8 - (lg_sl ([.int (nI nm), .int (nI v), .ref (a 30 0), .ref (a 31 0), .ref (a 35 0), .ref (a 39 0)])).length) Slot.unset).toArray = ls at hl ⊢
  have hl : lv_has ls 8 [(0, .int (nI nm)), (1, .int (nI v)), (2, .ref (a 30 0)), (3, .ref (a 31 0)), (4, .ref (a 35 0)), (5, .ref (a 39 0))] := hl
  refine lv_iconst (v := nI 0) C0.hx C0.hb dL_rate_0 (by decide) ?_
  refine lv_istore (lv' := [(6, .int (nI 0)), (0, .int (nI nm)), (1, .int (nI v)), (2, .ref (a 30 0)), (3, .ref (a 31 0)), (4, .ref (a 35 0)), (5, .ref (a 39 0))]) C0.hx C0.hb dL_rate_1 hl (by decide) rfl (fun ls hl => ?_)
  refine lv_iload_n C0.hx C0.hb dL_rate_3 rfl (lv_at hl 1 rfl) ?_
  refine lv_istore (lv' := [(7, .int (nI nm)), (6, .int (nI 0)), (0, .int (nI nm)), (1, .int (nI v)), (2, .ref (a 30 0)), (3, .ref (a 31 0)), (4, .ref (a 35 0)), (5, .ref (a 39 0))]) C0.hx C0.hb dL_rate_4 hl (by decide) rfl (fun ls hl => ?_)
  refine x_loopR (α := Nat) (fun j => 12 - j) (fun j ls => j ≤ nv (σ 30 0 0) - nm ∧ lv_has ls 8 [(0, .int (nI nm)), (1, .int (nI v)), (2, .ref (a 30 0)), (3, .ref (a 31 0)), (4, .ref (a 35 0)), (5, .ref (a 39 0)), (6, .int (nI (rcP σ nm v j))), (7, .int (nI (nm + j)))]) ?_ 0 ⟨(by omega), (lv_sub hl [2, 3, 4, 5, 6, 7, 1, 0] rfl)⟩
  rintro j ls ⟨hj, hl⟩ ih6
  have hn := ok.n.2
  have hc := rcP_le (σ := σ) (nm := nm) (v := v) j
  refine lv_iload C0.hx C0.hb dL_rate_6 (lv_at hl 7 rfl) ?_
  refine lv_aload_n C0.hx C0.hb dL_rate_8 rfl (lv_at hl 2 rfl) ?_
  refine lv_iconst (v := nI 0) C0.hx C0.hb dL_rate_9 (by decide) ?_
  refine x_iald C0 hP 30 0 3 (NLA_M _ (mM_n rfl rfl)) rfl (by omega) (by decide) dL_rate_10 ?_
  obtain ⟨e_1, b_2⟩ := (ok.n : inR (σ 30 0 0) _)
  refine x_top e_1 ?_
  refine x_icmp_ge (tgt := 51) C0.hx C0.hb (by omega) (by omega) dL_rate_11 (by decide) (fun c_3 => ?_) (fun c_3 => ?_)
  ·
    have hkn : j = nv (σ 30 0 0) - nm := by omega
    refine lv_aload_n C0.hx C0.hb dL_rate_51 rfl (lv_at hl 3 rfl) ?_
    refine lv_iconst (v := nI 4) C0.hx C0.hb dL_rate_52 (by decide) ?_
    refine lv_iload_n C0.hx C0.hb dL_rate_53 rfl (lv_at hl 1 rfl) ?_
    refine lv_iadd C0.hx C0.hb dL_rate_54 ?_
    refine x_top (nI_add 4 v) ?_
    refine x_iald C0 hP 31 (4 + v) 20 (NLA_M _ (mM_n rfl rfl)) rfl (by omega) (by decide) dL_rate_55 ?_
    obtain ⟨e_4, b_5⟩ := (ok.ses (by omega) : inR (σ 31 0 (4 + v)) _)
    refine x_top e_4 ?_
    refine x_ifle (tgt := 74) C0.hx C0.hb (by omega) dL_rate_56 (by decide) (fun c_6 => ?_) (fun c_6 => ?_)
    ·
      refine lv_iconst (v := nI 0) C0.hx C0.hb dL_rate_74 (by decide) ?_
      exact W.iret (v := nI 0) C0.hx C0.hb hr (fun t ht hW => ⟨_, rfl, (by unfold rtP; rw [c_6, Nat.div_zero]), ht⟩) (fun q h => nomatch h) dL_rate_75
    ·
      refine lv_iload C0.hx C0.hb dL_rate_59 (lv_at hl 6 rfl) ?_
      refine lv_sipush (v := nI 10000) C0.hx C0.hb dL_rate_61 (by decide) ?_
      refine lv_imul C0.hx C0.hb dL_rate_64 ?_
      refine x_top (pk_mul (rcP σ nm v j) 10000) ?_
      refine lv_aload_n C0.hx C0.hb dL_rate_65 rfl (lv_at hl 3 rfl) ?_
      refine lv_iconst (v := nI 4) C0.hx C0.hb dL_rate_66 (by decide) ?_
      refine lv_iload_n C0.hx C0.hb dL_rate_67 rfl (lv_at hl 1 rfl) ?_
      refine lv_iadd C0.hx C0.hb dL_rate_68 ?_
      refine x_top (nI_add 4 v) ?_
      refine x_iald C0 hP 31 (4 + v) 20 (NLA_M _ (mM_n rfl rfl)) rfl (by omega) (by decide) dL_rate_69 ?_
      obtain ⟨e_7, b_8⟩ := (ok.ses (by omega) : inR (σ 31 0 (4 + v)) _)
      refine x_top e_7 ?_
      refine lv_idiv C0.hx C0.hb dL_rate_70 (nI_ne0 (by omega) (by omega)) ?_
      refine x_top (pk_div (by omega) (by omega) (by omega)) ?_
      refine lv_goto (tgt := 75) C0.hx C0.hb dL_rate_71 (by decide) ?_
      exact W.iret (v := nI (((rcP σ nm v j) * 10000) / (nv (σ 31 0 (4 + v))))) C0.hx C0.hb hr (fun t ht hW => ⟨_, rfl, (by unfold rtP; rw [← hkn]), ht⟩) (fun q h => nomatch h) dL_rate_75
  ·
    refine lv_iload C0.hx C0.hb dL_rate_14 (lv_at hl 6 rfl) ?_
    refine x_join (α := Nat) 42 (fun z H' locs' ls => (H' = s.heap ∧ locs' = [] ∧ z = (if σ 39 0 (12 + (nm + j)) = nI nm ∧ nv (σ 35 0 (nm + j)) = v then 1 else 0)) ∧ lv_has ls 8 [(0, .int (nI nm)), (1, .int (nI v)), (2, .ref (a 30 0)), (3, .ref (a 31 0)), (4, .ref (a 35 0)), (5, .ref (a 39 0)), (6, .int (nI (rcP σ nm v j))), (7, .int (nI (nm + j)))]) (fun z => [.int (nI z), .int (nI (rcP σ nm v j))]) ?_ (fun J42 => ?_)
    · rintro z _ _ ls ⟨⟨rfl, rfl, hz⟩, hl⟩
      subst hz
      refine lv_iadd C0.hx C0.hb dL_rate_42 ?_
      refine x_top (nI_add (rcP σ nm v j) (if σ 39 0 (12 + (nm + j)) = nI nm ∧ nv (σ 35 0 (nm + j)) = v then 1 else 0)) ?_
      refine lv_istore (lv' := [(6, .int (nI ((rcP σ nm v j) + (if σ 39 0 (12 + (nm + j)) = nI nm ∧ nv (σ 35 0 (nm + j)) = v then 1 else 0)))), (0, .int (nI nm)), (1, .int (nI v)), (2, .ref (a 30 0)), (3, .ref (a 31 0)), (4, .ref (a 35 0)), (5, .ref (a 39 0)), (7, .int (nI (nm + j)))]) C0.hx C0.hb dL_rate_43 hl (by decide) rfl (fun ls hl => ?_)
      refine lv_iinc (v := nI (nm + j + 1)) (lv' := [(7, .int (nI (nm + j + 1))), (6, .int (nI ((rcP σ nm v j) + (if σ 39 0 (12 + (nm + j)) = nI nm ∧ nv (σ 35 0 (nm + j)) = v then 1 else 0)))), (0, .int (nI nm)), (1, .int (nI v)), (2, .ref (a 30 0)), (3, .ref (a 31 0)), (4, .ref (a 35 0)), (5, .ref (a 39 0))]) C0.hx C0.hb dL_rate_45 hl (k := 7) rfl (nI_1 (nm + j)) (by decide) rfl (fun ls hl => ?_)
      refine lv_goto (tgt := 6) C0.hx C0.hb dL_rate_48 (by decide) ?_
      exact ih6 ((j + 1)) ls ⟨(by omega), (lv_sub hl [2, 3, 4, 5, 6, 7, 1, 0] rfl)⟩ (by omega)
    ·
      refine lv_aload C0.hx C0.hb dL_rate_16 (lv_at hl 5 rfl) ?_
      refine lv_bipush (v := nI 12) C0.hx C0.hb dL_rate_18 (by decide) ?_
      refine lv_iload C0.hx C0.hb dL_rate_20 (lv_at hl 7 rfl) ?_
      refine lv_iadd C0.hx C0.hb dL_rate_22 ?_
      refine x_top (nI_add 12 (nm + j)) ?_
      refine x_iald C0 hP 39 (12 + (nm + j)) 24 (NLA_M _ (mM_n rfl rfl)) rfl (by omega) (by decide) dL_rate_23 ?_
      refine lv_iload_n C0.hx C0.hb dL_rate_24 rfl (lv_at hl 0 rfl) ?_
      refine lv_icmp_ne (tgt := 41) C0.hx C0.hb dL_rate_25 (by decide) (fun c_9 => ?_) (fun c_9 => ?_)
      ·
        refine lv_iconst (v := nI 0) C0.hx C0.hb dL_rate_41 (by decide) ?_
        exact J42 0 _ _ ls ⟨⟨rfl, rfl, (by simp [c_9])⟩, (lv_sub hl [0, 1, 2, 3, 4, 5, 6, 7] rfl)⟩
      ·
        refine lv_aload C0.hx C0.hb dL_rate_28 (lv_at hl 4 rfl) ?_
        refine lv_iload C0.hx C0.hb dL_rate_30 (lv_at hl 7 rfl) ?_
        refine x_iald C0 hP 35 (nm + j) 12 (NLA_M _ (mM_n rfl rfl)) rfl (by omega) (by decide) dL_rate_32 ?_
        obtain ⟨e_10, b_11⟩ := (ok.ver (by omega) : inR (σ 35 0 (nm + j)) _)
        refine x_top e_10 ?_
        refine lv_iload_n C0.hx C0.hb dL_rate_33 rfl (lv_at hl 1 rfl) ?_
        refine x_icmp_ne (tgt := 41) C0.hx C0.hb (by omega) (by omega) dL_rate_34 (by decide) (fun c_12 => ?_) (fun c_12 => ?_)
        ·
          refine lv_iconst (v := nI 0) C0.hx C0.hb dL_rate_41 (by decide) ?_
          exact J42 0 _ _ ls ⟨⟨rfl, rfl, (by simp [c_12, c_9])⟩, (lv_sub hl [0, 1, 2, 3, 4, 5, 6, 7] rfl)⟩
        ·
          refine lv_iconst (v := nI 1) C0.hx C0.hb dL_rate_37 (by decide) ?_
          refine lv_goto (tgt := 42) C0.hx C0.hb dL_rate_38 (by decide) ?_
          exact J42 1 _ _ ls ⟨⟨rfl, rfl, (by simp [c_12, c_9])⟩, (lv_sub hl [0, 1, 2, 3, 4, 5, 6, 7] rfl)⟩

set_option maxHeartbeats 4000000 in
set_option maxRecDepth 100000 in
theorem mtL_users (l : Launch) (g : xG) (a : xAd) (σ : xS) (nm v : Nat) (hv : v < 4) (ok : okP σ) : xMi l yL_users wsL_users ({ frames := 0, cells := 0, slots := 0, locals := 0 }) NLA g a σ [.int (nI nm), .int (nI v), .ref (a 30 0), .ref (a 35 0), .ref (a 36 0), .ref (a 39 0)] (ucP σ nm v) := by
  unfold xMi
  refine Met.ofW (cc := cL_users) (maxL := 9) (ret := (some .int)) (by decide) rfl ?_
  intro p e s m args below meth c s₁ B hml hv
  obtain ⟨rfl, hP, hK, hN, hj⟩ := hv
  have hr := B.returns
  have hlocks := B.notSynchronized
  have C0 : xC p s m _ c cL_users 9 wsL_users RL NLA g a (xA NLA a s.heap.size) := ⟨⟨B.exec, B.bytes, hml, findClass_of_methodNamed B.named, atoms_spec (ws := wsL_users) B.pre⟩, hK, hN, hj, fun n h => Or.inl ⟨n, h, rfl⟩, fun q h => Or.inr h⟩
  have hS : va_S (xA NLA a s.heap.size) s.heap s.heap [] := va_S.rf
  have hl := lv_entry ([.int (nI nm), .int (nI v), .ref (a 30 0), .ref (a 35 0), .ref (a 36 0), .ref (a 39 0)]) (n := 9) (Nat.le_of_ble_eq_true rfl)
  rw [lg_entry_eq]
  generalize (lg_sl ([.int (nI nm), .int (nI v), .ref (a 30 0), .ref (a 35 0), .ref (a 36 0), .ref (a 39 0)]) ++ List.replicate (9 - (lg_sl ([.int (nI nm), .int (nI v), .ref (a 30 0), .ref (a 35 0), .ref (a 36 0), .ref (a 39 0)])).length) Slot.unset).toArray = ls at hl ⊢
  have hl : lv_has ls 9 [(0, .int (nI nm)), (1, .int (nI v)), (2, .ref (a 30 0)), (3, .ref (a 35 0)), (4, .ref (a 36 0)), (5, .ref (a 39 0))] := hl
  refine lv_iconst (v := nI 0) C0.hx C0.hb dL_users_0 (by decide) ?_
  refine lv_istore (lv' := [(6, .int (nI 0)), (0, .int (nI nm)), (1, .int (nI v)), (2, .ref (a 30 0)), (3, .ref (a 35 0)), (4, .ref (a 36 0)), (5, .ref (a 39 0))]) C0.hx C0.hb dL_users_1 hl (by decide) rfl (fun ls hl => ?_)
  refine lv_iconst (v := nI 0) C0.hx C0.hb dL_users_3 (by decide) ?_
  refine lv_istore (lv' := [(7, .int (nI 0)), (6, .int (nI 0)), (0, .int (nI nm)), (1, .int (nI v)), (2, .ref (a 30 0)), (3, .ref (a 35 0)), (4, .ref (a 36 0)), (5, .ref (a 39 0))]) C0.hx C0.hb dL_users_4 hl (by decide) rfl (fun ls hl => ?_)
  refine lv_iconst (v := nI 0) C0.hx C0.hb dL_users_6 (by decide) ?_
  refine lv_istore (lv' := [(8, .int (nI 0)), (7, .int (nI 0)), (6, .int (nI 0)), (0, .int (nI nm)), (1, .int (nI v)), (2, .ref (a 30 0)), (3, .ref (a 35 0)), (4, .ref (a 36 0)), (5, .ref (a 39 0))]) C0.hx C0.hb dL_users_7 hl (by decide) rfl (fun ls hl => ?_)
  refine x_loopR (α := Nat) (fun k => 12 - k) (fun k ls => k ≤ nv (σ 30 0 0) ∧ lv_has ls 9 [(0, .int (nI nm)), (1, .int (nI v)), (2, .ref (a 30 0)), (3, .ref (a 35 0)), (4, .ref (a 36 0)), (5, .ref (a 39 0)), (6, .int (usP σ nm v k)), (7, .int (nI 0)), (8, .int (nI k))]) ?_ 0 ⟨(by omega), (lv_sub hl [3, 4, 5, 6, 7, 8, 2, 1, 0] rfl)⟩
  rintro k ls ⟨hk, hl⟩ ih9
  have hn := ok.n.2
  refine lv_iload C0.hx C0.hb dL_users_9 (lv_at hl 8 rfl) ?_
  refine lv_aload_n C0.hx C0.hb dL_users_11 rfl (lv_at hl 2 rfl) ?_
  refine lv_iconst (v := nI 0) C0.hx C0.hb dL_users_12 (by decide) ?_
  refine x_iald C0 hP 30 0 3 (NLA_M _ (mM_n rfl rfl)) rfl (by omega) (by decide) dL_users_13 ?_
  obtain ⟨e_1, b_2⟩ := (ok.n : inR (σ 30 0 0) _)
  refine x_top e_1 ?_
  refine x_icmp_ge (tgt := 59) C0.hx C0.hb (by omega) (by omega) dL_users_14 (by decide) (fun c_3 => ?_) (fun c_3 => ?_)
  ·
    obtain rfl : k = nv (σ 30 0 0) := by omega
    refine lv_iconst (v := nI 0) C0.hx C0.hb dL_users_59 (by decide) ?_
    refine lv_istore (lv' := [(8, .int (nI 0)), (0, .int (nI nm)), (1, .int (nI v)), (2, .ref (a 30 0)), (3, .ref (a 35 0)), (4, .ref (a 36 0)), (5, .ref (a 39 0)), (6, .int (usP σ nm v (nv (σ 30 0 0)))), (7, .int (nI 0))]) C0.hx C0.hb dL_users_60 hl (by decide) rfl (fun ls hl => ?_)
    refine x_loopR (α := Nat) (fun n => 20 - n) (fun n ls => n ≤ 20 ∧ lv_has ls 9 [(0, .int (nI nm)), (1, .int (nI v)), (2, .ref (a 30 0)), (3, .ref (a 35 0)), (4, .ref (a 36 0)), (5, .ref (a 39 0)), (6, .int (usP σ nm v (nv (σ 30 0 0)))), (7, .int (fbP (usP σ nm v (nv (σ 30 0 0))) n)), (8, .int (nI n))]) ?_ 0 ⟨(by omega), (lv_sub hl [1, 2, 3, 4, 5, 6, 7, 8, 0] rfl)⟩
    rintro n ls ⟨hn20, hl⟩ ih62
    refine lv_iload C0.hx C0.hb dL_users_62 (lv_at hl 8 rfl) ?_
    refine lv_bipush (v := nI 20) C0.hx C0.hb dL_users_64 (by decide) ?_
    refine x_icmp_ge (tgt := 87) C0.hx C0.hb (by omega) (by omega) dL_users_66 (by decide) (fun c_4 => ?_) (fun c_4 => ?_)
    ·
      refine lv_iload C0.hx C0.hb dL_users_87 (lv_at hl 7 rfl) ?_
      exact W.iret (v := fbP (usP σ nm v (nv (σ 30 0 0))) n) C0.hx C0.hb hr (fun t ht hW => ⟨_, rfl, (by unfold ucP; rw [show n = 20 by omega]), ht⟩) (fun q h => nomatch h) dL_users_89
    ·
      refine lv_iload C0.hx C0.hb dL_users_69 (lv_at hl 7 rfl) ?_
      refine lv_iload C0.hx C0.hb dL_users_71 (lv_at hl 6 rfl) ?_
      refine lv_iload C0.hx C0.hb dL_users_73 (lv_at hl 8 rfl) ?_
      refine lv_ishr C0.hx C0.hb dL_users_75 ?_
      refine lv_iconst (v := nI 1) C0.hx C0.hb dL_users_76 (by decide) ?_
      refine lv_iand C0.hx C0.hb dL_users_77 ?_
      refine lv_iadd C0.hx C0.hb dL_users_78 ?_
      refine lv_istore (lv' := [(7, .int ((fbP (usP σ nm v (nv (σ 30 0 0))) n) + (((usP σ nm v (nv (σ 30 0 0))) >>> ((nI n) &&& 31)) &&& (nI 1)))), (0, .int (nI nm)), (1, .int (nI v)), (2, .ref (a 30 0)), (3, .ref (a 35 0)), (4, .ref (a 36 0)), (5, .ref (a 39 0)), (6, .int (usP σ nm v (nv (σ 30 0 0)))), (8, .int (nI n))]) C0.hx C0.hb dL_users_79 hl (by decide) rfl (fun ls hl => ?_)
      refine lv_iinc (v := nI (n + 1)) (lv' := [(8, .int (nI (n + 1))), (7, .int ((fbP (usP σ nm v (nv (σ 30 0 0))) n) + (((usP σ nm v (nv (σ 30 0 0))) >>> ((nI n) &&& 31)) &&& (nI 1)))), (0, .int (nI nm)), (1, .int (nI v)), (2, .ref (a 30 0)), (3, .ref (a 35 0)), (4, .ref (a 36 0)), (5, .ref (a 39 0)), (6, .int (usP σ nm v (nv (σ 30 0 0))))]) C0.hx C0.hb dL_users_81 hl (k := 8) rfl (nI_1 n) (by decide) rfl (fun ls hl => ?_)
      refine lv_goto (tgt := 62) C0.hx C0.hb dL_users_84 (by decide) ?_
      exact ih62 ((n + 1)) ls ⟨(by omega), (lv_sub hl [2, 3, 4, 5, 6, 7, 8, 1, 0] rfl)⟩ (by omega)
  ·
    refine lv_iload C0.hx C0.hb dL_users_17 (lv_at hl 6 rfl) ?_
    refine x_join (α := Int32) 50 (fun z H' locs' ls => (H' = s.heap ∧ locs' = [] ∧ z = (if σ 39 0 (12 + k) = nI nm ∧ nv (σ 35 0 k) = v then nI 1 <<< (nI (nv (σ 36 0 k)) &&& 31) else nI 0)) ∧ lv_has ls 9 [(0, .int (nI nm)), (1, .int (nI v)), (2, .ref (a 30 0)), (3, .ref (a 35 0)), (4, .ref (a 36 0)), (5, .ref (a 39 0)), (6, .int (usP σ nm v k)), (7, .int (nI 0)), (8, .int (nI k))]) (fun z => [.int z, .int (usP σ nm v k)]) ?_ (fun J50 => ?_)
    · rintro z _ _ ls ⟨⟨rfl, rfl, hz⟩, hl⟩
      subst hz
      refine lv_ior C0.hx C0.hb dL_users_50 ?_
      refine lv_istore (lv' := [(6, .int ((usP σ nm v k) ||| (if σ 39 0 (12 + k) = nI nm ∧ nv (σ 35 0 k) = v then nI 1 <<< (nI (nv (σ 36 0 k)) &&& 31) else nI 0))), (0, .int (nI nm)), (1, .int (nI v)), (2, .ref (a 30 0)), (3, .ref (a 35 0)), (4, .ref (a 36 0)), (5, .ref (a 39 0)), (7, .int (nI 0)), (8, .int (nI k))]) C0.hx C0.hb dL_users_51 hl (by decide) rfl (fun ls hl => ?_)
      refine lv_iinc (v := nI (k + 1)) (lv' := [(8, .int (nI (k + 1))), (6, .int ((usP σ nm v k) ||| (if σ 39 0 (12 + k) = nI nm ∧ nv (σ 35 0 k) = v then nI 1 <<< (nI (nv (σ 36 0 k)) &&& 31) else nI 0))), (0, .int (nI nm)), (1, .int (nI v)), (2, .ref (a 30 0)), (3, .ref (a 35 0)), (4, .ref (a 36 0)), (5, .ref (a 39 0)), (7, .int (nI 0))]) C0.hx C0.hb dL_users_53 hl (k := 8) rfl (nI_1 k) (by decide) rfl (fun ls hl => ?_)
      refine lv_goto (tgt := 9) C0.hx C0.hb dL_users_56 (by decide) ?_
      exact ih9 ((k + 1)) ls ⟨(by omega), (lv_sub hl [2, 3, 4, 5, 6, 7, 1, 8, 0] rfl)⟩ (by omega)
    ·
      refine lv_aload C0.hx C0.hb dL_users_19 (lv_at hl 5 rfl) ?_
      refine lv_bipush (v := nI 12) C0.hx C0.hb dL_users_21 (by decide) ?_
      refine lv_iload C0.hx C0.hb dL_users_23 (lv_at hl 8 rfl) ?_
      refine lv_iadd C0.hx C0.hb dL_users_25 ?_
      refine x_top (nI_add 12 k) ?_
      refine x_iald C0 hP 39 (12 + k) 24 (NLA_M _ (mM_n rfl rfl)) rfl (by omega) (by decide) dL_users_26 ?_
      refine lv_iload_n C0.hx C0.hb dL_users_27 rfl (lv_at hl 0 rfl) ?_
      refine lv_icmp_ne (tgt := 49) C0.hx C0.hb dL_users_28 (by decide) (fun c_5 => ?_) (fun c_5 => ?_)
      ·
        refine lv_iconst (v := nI 0) C0.hx C0.hb dL_users_49 (by decide) ?_
        exact J50 (nI 0) _ _ ls ⟨⟨rfl, rfl, (by simp [c_5])⟩, (lv_sub hl [0, 1, 2, 3, 4, 5, 6, 7, 8] rfl)⟩
      ·
        refine lv_aload_n C0.hx C0.hb dL_users_31 rfl (lv_at hl 3 rfl) ?_
        refine lv_iload C0.hx C0.hb dL_users_32 (lv_at hl 8 rfl) ?_
        refine x_iald C0 hP 35 k 12 (NLA_M _ (mM_n rfl rfl)) rfl (by omega) (by decide) dL_users_34 ?_
        obtain ⟨e_6, b_7⟩ := (ok.ver (by omega) : inR (σ 35 0 k) _)
        refine x_top e_6 ?_
        refine lv_iload_n C0.hx C0.hb dL_users_35 rfl (lv_at hl 1 rfl) ?_
        refine x_icmp_ne (tgt := 49) C0.hx C0.hb (by omega) (by omega) dL_users_36 (by decide) (fun c_8 => ?_) (fun c_8 => ?_)
        ·
          refine lv_iconst (v := nI 0) C0.hx C0.hb dL_users_49 (by decide) ?_
          exact J50 (nI 0) _ _ ls ⟨⟨rfl, rfl, (by simp [c_8, c_5])⟩, (lv_sub hl [0, 1, 2, 3, 4, 5, 6, 7, 8] rfl)⟩
        ·
          refine lv_iconst (v := nI 1) C0.hx C0.hb dL_users_39 (by decide) ?_
          refine lv_aload C0.hx C0.hb dL_users_40 (lv_at hl 4 rfl) ?_
          refine lv_iload C0.hx C0.hb dL_users_42 (lv_at hl 8 rfl) ?_
          refine x_iald C0 hP 36 k 12 (NLA_M _ (mM_n rfl rfl)) rfl (by omega) (by decide) dL_users_44 ?_
          obtain ⟨e_9, b_10⟩ := (ok.usr (by omega) : inR (σ 36 0 k) _)
          refine x_top e_9 ?_
          refine lv_ishl C0.hx C0.hb dL_users_45 ?_
          refine lv_goto (tgt := 50) C0.hx C0.hb dL_users_46 (by decide) ?_
          exact J50 ((nI 1) <<< ((nI (nv (σ 36 0 k))) &&& 31)) _ _ ls ⟨⟨rfl, rfl, (by simp [c_8, c_5])⟩, (lv_sub hl [0, 1, 2, 3, 4, 5, 6, 7, 8] rfl)⟩

set_option maxHeartbeats 4000000 in
set_option maxRecDepth 100000 in
theorem mtL_holds (l : Launch) (g : xG) (a : xAd) (σ : xS) (r : Nat) (hr0 : r < 12) (hk9 : inR (σ 39 0 (12 + r)) 12) (ok : okP σ) : xMi l yL_holds wsL_holds ({ frames := 1, cells := 0, slots := 0, locals := 27 }) NLA g a σ [.int (nI r), .ref (a 30 0), .ref (a 31 0), .ref (a 35 0), .ref (a 38 0), .ref (a 39 0)] (hoP σ r) := by
  unfold xMi
  refine Met.ofW (cc := cL_holds) (maxL := 9) (ret := (some .int)) (by decide) rfl ?_
  intro p e s m args below meth c s₁ B hml hv
  obtain ⟨rfl, hP, hK, hN, hj⟩ := hv
  have hr := B.returns
  have hlocks := B.notSynchronized
  have C0 : xC p s m _ c cL_holds 9 wsL_holds RL NLA g a (xA NLA a s.heap.size) := ⟨⟨B.exec, B.bytes, hml, findClass_of_methodNamed B.named, atoms_spec (ws := wsL_holds) B.pre⟩, hK, hN, hj, fun n h => Or.inl ⟨n, h, rfl⟩, fun q h => Or.inr h⟩
  have hS : va_S (xA NLA a s.heap.size) s.heap s.heap [] := va_S.rf
  have hl := lv_entry ([.int (nI r), .ref (a 30 0), .ref (a 31 0), .ref (a 35 0), .ref (a 38 0), .ref (a 39 0)]) (n := 9) (Nat.le_of_ble_eq_true rfl)
  rw [lg_entry_eq]
  generalize (lg_sl ([.int (nI r), .ref (a 30 0), .ref (a 31 0), .ref (a 35 0), .ref (a 38 0), .ref (a 39 0)]) ++ List.replicate (9 - (lg_sl ([.int (nI r), .ref (a 30 0), .ref (a 31 0), .ref (a 35 0), .ref (a 38 0), .ref (a 39 0)])).length) Slot.unset).toArray = ls at hl ⊢
  have hl : lv_has ls 9 [(0, .int (nI r)), (1, .ref (a 30 0)), (2, .ref (a 31 0)), (3, .ref (a 35 0)), (4, .ref (a 38 0)), (5, .ref (a 39 0))] := hl
  refine lv_aload C0.hx C0.hb dL_holds_0 (lv_at hl 4 rfl) ?_
  refine lv_iload_n C0.hx C0.hb dL_holds_2 rfl (lv_at hl 0 rfl) ?_
  refine x_iald C0 hP 38 r 12 (NLA_M _ (mM_n rfl rfl)) rfl (by omega) (by decide) dL_holds_3 ?_
  refine lv_if_ge (tgt := 10) C0.hx C0.hb dL_holds_4 (by decide) (fun c_1 => ?_) (fun c_1 => ?_)
  ·
    have hyn : ¬ σ 38 0 r < 0 := i32_nlt c_1
    obtain ⟨ey, by0⟩ := (ok.fix (r := r) (by omega)).resolve_left (fun e => hyn (by rw [e]; decide))
    refine lv_iconst (v := nI 0) C0.hx C0.hb dL_holds_10 (by decide) ?_
    refine lv_istore (lv' := [(6, .int (nI 0)), (0, .int (nI r)), (1, .ref (a 30 0)), (2, .ref (a 31 0)), (3, .ref (a 35 0)), (4, .ref (a 38 0)), (5, .ref (a 39 0))]) C0.hx C0.hb dL_holds_11 hl (by decide) rfl (fun ls hl => ?_)
    refine lv_iconst (v := nI 0) C0.hx C0.hb dL_holds_13 (by decide) ?_
    refine lv_istore (lv' := [(7, .int (nI 0)), (6, .int (nI 0)), (0, .int (nI r)), (1, .ref (a 30 0)), (2, .ref (a 31 0)), (3, .ref (a 35 0)), (4, .ref (a 38 0)), (5, .ref (a 39 0))]) C0.hx C0.hb dL_holds_14 hl (by decide) rfl (fun ls hl => ?_)
    refine x_loopR (α := Nat) (fun n => 4 - n) (fun n ls => n ≤ nv (σ 38 0 r) ∧ lv_has ls 9 [(0, .int (nI r)), (1, .ref (a 30 0)), (2, .ref (a 31 0)), (3, .ref (a 35 0)), (4, .ref (a 38 0)), (5, .ref (a 39 0)), (6, .int (nI (mxP σ r n))), (7, .int (nI n))]) ?_ 0 ⟨(by omega), (lv_sub hl [2, 3, 4, 5, 6, 7, 1, 0] rfl)⟩
    rintro n ls ⟨hn, hl⟩ ih16
    have hm := mxP_le (r := r) ok n
    have hrt := rtP_le (nm := nv (σ 39 0 (12 + r))) (v := n) ok
    refine lv_iload C0.hx C0.hb dL_holds_16 (lv_at hl 7 rfl) ?_
    refine lv_aload C0.hx C0.hb dL_holds_18 (lv_at hl 4 rfl) ?_
    refine lv_iload_n C0.hx C0.hb dL_holds_20 rfl (lv_at hl 0 rfl) ?_
    refine x_iald C0 hP 38 r 12 (NLA_M _ (mM_n rfl rfl)) rfl (by omega) (by decide) dL_holds_21 ?_
    refine x_top ey ?_
    refine x_icmp_ge (tgt := 66) C0.hx C0.hb (by omega) (by omega) dL_holds_22 (by decide) (fun c_2 => ?_) (fun c_2 => ?_)
    ·
      obtain rfl : n = nv (σ 38 0 r) := by omega
      have hm := mxP_le (r := r) ok (nv (σ 38 0 r))
      refine lv_aload C0.hx C0.hb dL_holds_66 (lv_at hl 4 rfl) ?_
      refine lv_iload_n C0.hx C0.hb dL_holds_68 rfl (lv_at hl 0 rfl) ?_
      refine x_iald C0 hP 38 r 12 (NLA_M _ (mM_n rfl rfl)) rfl (by omega) (by decide) dL_holds_69 ?_
      refine x_top ey ?_
      refine lv_istore (lv' := [(7, .int (nI (nv (σ 38 0 r)))), (0, .int (nI r)), (1, .ref (a 30 0)), (2, .ref (a 31 0)), (3, .ref (a 35 0)), (4, .ref (a 38 0)), (5, .ref (a 39 0)), (6, .int (nI (mxP σ r (nv (σ 38 0 r)))))]) C0.hx C0.hb dL_holds_70 hl (by decide) rfl (fun ls hl => ?_)
      refine x_loopR (α := Nat × Nat) (fun u => u.1) (fun ⟨cn, n⟩ ls => n + cn = 4 ∧ hlP σ r (mxP σ r (nv (σ 38 0 r))) cn n = hoP σ r ∧ lv_has ls 9 [(0, .int (nI r)), (1, .ref (a 30 0)), (2, .ref (a 31 0)), (3, .ref (a 35 0)), (4, .ref (a 38 0)), (5, .ref (a 39 0)), (6, .int (nI (mxP σ r (nv (σ 38 0 r))))), (7, .int (nI n))]) ?_ ((4 - nv (σ 38 0 r), nv (σ 38 0 r))) ⟨(by omega), (by unfold hoP; rw [if_neg hyn]), (lv_sub hl [1, 2, 3, 4, 5, 6, 7, 0] rfl)⟩
      rintro ⟨cn, n⟩ ls ⟨hnc, hG, hl⟩ ih72
      have hrt := rtP_le (nm := nv (σ 39 0 (12 + r))) (v := n) ok
      refine lv_iload C0.hx C0.hb dL_holds_72 (lv_at hl 7 rfl) ?_
      refine lv_iconst (v := nI 4) C0.hx C0.hb dL_holds_74 (by decide) ?_
      refine x_icmp_ge (tgt := 119) C0.hx C0.hb (by omega) (by omega) dL_holds_75 (by decide) (fun c_3 => ?_) (fun c_3 => ?_)
      ·
        refine lv_iconst (v := nI 1) C0.hx C0.hb dL_holds_119 (by decide) ?_
        exact W.iret (v := nI 1) C0.hx C0.hb hr (fun t ht hW => ⟨_, rfl, (by rw [← hG, show cn = 0 by omega]; rfl), ht⟩) (fun q h => nomatch h) dL_holds_120
      ·
        obtain ⟨cn, rfl⟩ : ∃ z, cn = z + 1 := ⟨cn - 1, by omega⟩
        rw [hlP] at hG
        refine x_join (α := Unit) 113 (fun _ H' locs' ls => (H' = s.heap ∧ locs' = [] ∧ ¬ (0 < nv (σ 31 0 (4 + n)) ∧ mxP σ r (nv (σ 38 0 r)) < rtP σ (nv (σ 39 0 (12 + r))) n * 2)) ∧ lv_has ls 9 [(0, .int (nI r)), (1, .ref (a 30 0)), (2, .ref (a 31 0)), (3, .ref (a 35 0)), (4, .ref (a 38 0)), (5, .ref (a 39 0)), (6, .int (nI (mxP σ r (nv (σ 38 0 r))))), (7, .int (nI n))]) (fun _ => []) ?_ (fun J113 => ?_)
        · rintro _ _ _ ls ⟨⟨rfl, rfl, hno⟩, hl⟩
          refine lv_iinc (v := nI (n + 1)) (lv' := [(7, .int (nI (n + 1))), (0, .int (nI r)), (1, .ref (a 30 0)), (2, .ref (a 31 0)), (3, .ref (a 35 0)), (4, .ref (a 38 0)), (5, .ref (a 39 0)), (6, .int (nI (mxP σ r (nv (σ 38 0 r)))))]) C0.hx C0.hb dL_holds_113 hl (k := 7) rfl (nI_1 n) (by decide) rfl (fun ls hl => ?_)
          refine lv_goto (tgt := 72) C0.hx C0.hb dL_holds_116 (by decide) ?_
          exact ih72 ((cn, n + 1)) ls ⟨(by omega), (by rw [← hG, if_neg hno]), (lv_sub hl [1, 2, 3, 4, 5, 6, 7, 0] rfl)⟩ (Nat.lt_succ_self _)
        ·
          refine lv_aload_n C0.hx C0.hb dL_holds_78 rfl (lv_at hl 2 rfl) ?_
          refine lv_iconst (v := nI 4) C0.hx C0.hb dL_holds_79 (by decide) ?_
          refine lv_iload C0.hx C0.hb dL_holds_80 (lv_at hl 7 rfl) ?_
          refine lv_iadd C0.hx C0.hb dL_holds_82 ?_
          refine x_top (nI_add 4 n) ?_
          refine x_iald C0 hP 31 (4 + n) 20 (NLA_M _ (mM_n rfl rfl)) rfl (by omega) (by decide) dL_holds_83 ?_
          obtain ⟨e_4, b_5⟩ := (ok.ses (by omega) : inR (σ 31 0 (4 + n)) _)
          refine x_top e_4 ?_
          refine x_ifle (tgt := 113) C0.hx C0.hb (by omega) dL_holds_84 (by decide) (fun c_6 => ?_) (fun c_6 => ?_)
          ·
            exact J113 () _ _ ls ⟨⟨rfl, rfl, (by omega)⟩, (lv_sub hl [0, 1, 2, 3, 4, 5, 6, 7] rfl)⟩
          ·
            refine lv_aload C0.hx C0.hb dL_holds_87 (lv_at hl 5 rfl) ?_
            refine lv_bipush (v := nI 12) C0.hx C0.hb dL_holds_89 (by decide) ?_
            refine lv_iload_n C0.hx C0.hb dL_holds_91 rfl (lv_at hl 0 rfl) ?_
            refine lv_iadd C0.hx C0.hb dL_holds_92 ?_
            refine x_top (nI_add 12 r) ?_
            refine x_iald C0 hP 39 (12 + r) 24 (NLA_M _ (mM_n rfl rfl)) rfl (by omega) (by decide) dL_holds_93 ?_
            obtain ⟨e_7, b_8⟩ := (hk9 : inR (σ 39 0 (12 + r)) _)
            refine x_top e_7 ?_
            refine lv_iload C0.hx C0.hb dL_holds_94 (lv_at hl 7 rfl) ?_
            refine lv_aload_n C0.hx C0.hb dL_holds_96 rfl (lv_at hl 1 rfl) ?_
            refine lv_aload_n C0.hx C0.hb dL_holds_97 rfl (lv_at hl 2 rfl) ?_
            refine lv_aload_n C0.hx C0.hb dL_holds_98 rfl (lv_at hl 3 rfl) ?_
            refine lv_aload C0.hx C0.hb dL_holds_99 (lv_at hl 5 rfl) ?_
            refine x_Si (As := [.int (nI (nv (σ 39 0 (12 + r)))), .int (nI n), .ref (a 30 0), .ref (a 31 0), .ref (a 35 0), .ref (a 39 0)]) (rest := []) C0 (mtL_rate l g a σ (nv (σ 39 0 (12 + r))) n (by omega) (by omega) ok) hP C0.2.2.2.1 (va_cwS 6 C0.hts gL_holds_L_rate rfl rfl rfl (by decide +kernel) ⟨Nat.le_of_ble_eq_true rfl, Nat.le_of_ble_eq_true rfl⟩) rfl hl rfl (Nat.le_of_ble_eq_true rfl) (Nat.zero_le _) (Nat.zero_le _) dL_holds_101 ?_
            refine lv_iconst (v := nI 2) C0.hx C0.hb dL_holds_104 (by decide) ?_
            refine lv_imul C0.hx C0.hb dL_holds_105 ?_
            refine x_top (pk_mul (rtP σ (nv (σ 39 0 (12 + r))) n) 2) ?_
            refine lv_iload C0.hx C0.hb dL_holds_106 (lv_at hl 6 rfl) ?_
            refine x_icmp_le (tgt := 113) C0.hx C0.hb (by omega) (by omega) dL_holds_108 (by decide) (fun c_9 => ?_) (fun c_9 => ?_)
            ·
              exact J113 () _ _ ls ⟨⟨rfl, rfl, (by omega)⟩, (lv_sub hl [0, 1, 2, 3, 4, 5, 6, 7] rfl)⟩
            ·
              refine lv_iconst (v := nI 0) C0.hx C0.hb dL_holds_111 (by decide) ?_
              exact W.iret (v := nI 0) C0.hx C0.hb hr (fun t ht hW => ⟨_, rfl, (by rw [← hG, if_pos ⟨by omega, by omega⟩]), ht⟩) (fun q h => nomatch h) dL_holds_112
    ·
      refine lv_aload C0.hx C0.hb dL_holds_25 (lv_at hl 5 rfl) ?_
      refine lv_bipush (v := nI 12) C0.hx C0.hb dL_holds_27 (by decide) ?_
      refine lv_iload_n C0.hx C0.hb dL_holds_29 rfl (lv_at hl 0 rfl) ?_
      refine lv_iadd C0.hx C0.hb dL_holds_30 ?_
      refine x_top (nI_add 12 r) ?_
      refine x_iald C0 hP 39 (12 + r) 24 (NLA_M _ (mM_n rfl rfl)) rfl (by omega) (by decide) dL_holds_31 ?_
      obtain ⟨e_10, b_11⟩ := (hk9 : inR (σ 39 0 (12 + r)) _)
      refine x_top e_10 ?_
      refine lv_iload C0.hx C0.hb dL_holds_32 (lv_at hl 7 rfl) ?_
      refine lv_aload_n C0.hx C0.hb dL_holds_34 rfl (lv_at hl 1 rfl) ?_
      refine lv_aload_n C0.hx C0.hb dL_holds_35 rfl (lv_at hl 2 rfl) ?_
      refine lv_aload_n C0.hx C0.hb dL_holds_36 rfl (lv_at hl 3 rfl) ?_
      refine lv_aload C0.hx C0.hb dL_holds_37 (lv_at hl 5 rfl) ?_
      refine x_Si (As := [.int (nI (nv (σ 39 0 (12 + r)))), .int (nI n), .ref (a 30 0), .ref (a 31 0), .ref (a 35 0), .ref (a 39 0)]) (rest := []) C0 (mtL_rate l g a σ (nv (σ 39 0 (12 + r))) n (by omega) (by omega) ok) hP C0.2.2.2.1 (va_cwS 6 C0.hts gL_holds_L_rate rfl rfl rfl (by decide +kernel) ⟨Nat.le_of_ble_eq_true rfl, Nat.le_of_ble_eq_true rfl⟩) rfl hl rfl (Nat.le_of_ble_eq_true rfl) (Nat.zero_le _) (Nat.zero_le _) dL_holds_39 ?_
      refine lv_istore (lv' := [(8, .int (nI (rtP σ (nv (σ 39 0 (12 + r))) n))), (0, .int (nI r)), (1, .ref (a 30 0)), (2, .ref (a 31 0)), (3, .ref (a 35 0)), (4, .ref (a 38 0)), (5, .ref (a 39 0)), (6, .int (nI (mxP σ r n))), (7, .int (nI n))]) C0.hx C0.hb dL_holds_42 hl (by decide) rfl (fun ls hl => ?_)
      refine x_join (α := Nat) 58 (fun z H' locs' ls => (H' = s.heap ∧ locs' = [] ∧ z = (if mxP σ r n < rtP σ (nv (σ 39 0 (12 + r))) n then rtP σ (nv (σ 39 0 (12 + r))) n else mxP σ r n)) ∧ lv_has ls 9 [(0, .int (nI r)), (1, .ref (a 30 0)), (2, .ref (a 31 0)), (3, .ref (a 35 0)), (4, .ref (a 38 0)), (5, .ref (a 39 0)), (6, .int (nI (mxP σ r n))), (7, .int (nI n)), (8, .int (nI (rtP σ (nv (σ 39 0 (12 + r))) n)))]) (fun z => [.int (nI z)]) ?_ (fun J58 => ?_)
      · rintro z _ _ ls ⟨⟨rfl, rfl, hz⟩, hl⟩
        subst hz
        refine lv_istore (lv' := [(6, .int (nI (if mxP σ r n < rtP σ (nv (σ 39 0 (12 + r))) n then rtP σ (nv (σ 39 0 (12 + r))) n else mxP σ r n))), (0, .int (nI r)), (1, .ref (a 30 0)), (2, .ref (a 31 0)), (3, .ref (a 35 0)), (4, .ref (a 38 0)), (5, .ref (a 39 0)), (7, .int (nI n)), (8, .int (nI (rtP σ (nv (σ 39 0 (12 + r))) n)))]) C0.hx C0.hb dL_holds_58 hl (by decide) rfl (fun ls hl => ?_)
        refine lv_iinc (v := nI (n + 1)) (lv' := [(7, .int (nI (n + 1))), (6, .int (nI (if mxP σ r n < rtP σ (nv (σ 39 0 (12 + r))) n then rtP σ (nv (σ 39 0 (12 + r))) n else mxP σ r n))), (0, .int (nI r)), (1, .ref (a 30 0)), (2, .ref (a 31 0)), (3, .ref (a 35 0)), (4, .ref (a 38 0)), (5, .ref (a 39 0)), (8, .int (nI (rtP σ (nv (σ 39 0 (12 + r))) n)))]) C0.hx C0.hb dL_holds_60 hl (k := 7) rfl (nI_1 n) (by decide) rfl (fun ls hl => ?_)
        refine lv_goto (tgt := 16) C0.hx C0.hb dL_holds_63 (by decide) ?_
        exact ih16 ((n + 1)) ls ⟨(by omega), (lv_sub hl [2, 3, 4, 5, 6, 7, 1, 0] rfl)⟩ (by omega)
      ·
        refine lv_iload C0.hx C0.hb dL_holds_44 (lv_at hl 0 rfl) ?_
        refine lv_iload C0.hx C0.hb dL_holds_46 (lv_at hl 7 rfl) ?_
        refine x_icmp_le (tgt := 56) C0.hx C0.hb (by omega) (by omega) dL_holds_48 (by decide) (fun c_12 => ?_) (fun c_12 => ?_)
        ·
          refine lv_iload C0.hx C0.hb dL_holds_56 (lv_at hl 7 rfl) ?_
          exact J58 (mxP σ r n) _ _ ls ⟨⟨rfl, rfl, (by rw [if_neg (by omega)])⟩, (lv_sub hl [1, 2, 3, 4, 5, 6, 7, 8, 0] rfl)⟩
        ·
          refine lv_iload C0.hx C0.hb dL_holds_51 (lv_at hl 0 rfl) ?_
          refine lv_goto (tgt := 58) C0.hx C0.hb dL_holds_53 (by decide) ?_
          exact J58 (rtP σ (nv (σ 39 0 (12 + r))) n) _ _ ls ⟨⟨rfl, rfl, (by rw [if_pos c_12])⟩, (lv_sub hl [1, 2, 3, 4, 5, 6, 7, 8, 0] rfl)⟩
  ·
    have hy0 : σ 38 0 r < 0 := i32_lt c_1
    refine lv_bipush (v := -3) C0.hx C0.hb dL_holds_7 (by decide) ?_
    exact W.iret (v := -3) C0.hx C0.hb hr (fun t ht hW => ⟨_, rfl, (by unfold hoP; rw [if_pos hy0]), ht⟩) (fun q h => nomatch h) dL_holds_9

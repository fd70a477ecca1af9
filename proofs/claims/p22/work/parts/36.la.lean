set_option maxHeartbeats 4000000 in
set_option maxRecDepth 100000 in
theorem mtL_low (l : Launch) (g : xG) (a : xAd) (σ : xS) (z : Int32) (n : Nat) (hn0 : 0 < n) (hn1 : n < 2 ^ 31) : xMi l yL_low wsL_low ({ frames := 0, cells := 0, slots := 0, locals := 0 }) [] g a σ [.int z, .int (nI n)] (loI z n) := by
  unfold xMi
  refine Met.ofW (cc := cL_low) (maxL := 2) (ret := (some .int)) (by decide) rfl ?_
  intro p e s m args below meth c s₁ B hml hv
  obtain ⟨rfl, hP, hK, hN, hj⟩ := hv
  have hr := B.returns
  have hlocks := B.notSynchronized
  have C0 : xC p s m _ c cL_low 2 wsL_low RL [] g a (xA [] a s.heap.size) := ⟨⟨B.exec, B.bytes, hml, findClass_of_methodNamed B.named, atoms_spec (ws := wsL_low) B.pre⟩, hK, hN, hj, fun n h => Or.inl ⟨n, h, rfl⟩, fun q h => Or.inr h⟩
  have hS : va_S (xA [] a s.heap.size) s.heap s.heap [] := va_S.rf
  have hl := lv_entry ([.int z, .int (nI n)]) (n := 2) (Nat.le_of_ble_eq_true rfl)
  rw [lg_entry_eq]
  generalize (lg_sl ([.int z, .int (nI n)]) ++ List.replicate (2 - (lg_sl ([.int z, .int (nI n)])).length) Slot.unset).toArray = ls at hl ⊢
  have hl : lv_has ls 2 [(0, .int z), (1, .int (nI n))] := hl
  have k_0 : Cond.constant RL 9 (2147483647 : Int32) ∈ wsL_low := by decide +kernel
  refine lv_iload_n C0.hx C0.hb dL_low_0 rfl (lv_at hl 0 rfl) ?_
  refine lv_ldc C0.hx C0.hb C0.1.2.2.2.1 (C0.hts _ k_0) dL_low_1 ?_
  refine lv_iand C0.hx C0.hb dL_low_3 ?_
  refine lv_iload_n C0.hx C0.hb dL_low_4 rfl (lv_at hl 1 rfl) ?_
  refine lv_irem C0.hx C0.hb dL_low_5 (nI_ne0 (by omega) (by omega)) ?_
  exact W.iret (v := (z &&& 2147483647) - (z &&& 2147483647) / (nI n) * (nI n)) C0.hx C0.hb hr (fun t ht hW => ⟨_, rfl, rfl, ht⟩) (fun q h => nomatch h) dL_low_6

set_option maxHeartbeats 4000000 in
set_option maxRecDepth 100000 in
theorem mtL_frame (l : Launch) (g : xG) (a : xAd) (σ : xS) (r q : Nat) (hr0 : r < 12) (hq0 : q < 4) (ok : okP σ) : xMi l yL_frame wsL_frame ({ frames := 0, cells := 0, slots := 0, locals := 0 }) NLA g a σ [.int (nI r), .int (nI q), .ref (a 31 0), .ref (a 32 0), .ref (a 33 0), .ref (a 34 0), .ref (a 35 0), .ref (a 37 0)] (frV σ r q) := by
  unfold xMi
  refine Met.ofW (cc := cL_frame) (maxL := 10) (ret := (some .int)) (by decide) rfl ?_
  intro p e s m args below meth c s₁ B hml hv
  obtain ⟨rfl, hP, hK, hN, hj⟩ := hv
  have hr := B.returns
  have hlocks := B.notSynchronized
  have C0 : xC p s m _ c cL_frame 10 wsL_frame RL NLA g a (xA NLA a s.heap.size) := ⟨⟨B.exec, B.bytes, hml, findClass_of_methodNamed B.named, atoms_spec (ws := wsL_frame) B.pre⟩, hK, hN, hj, fun n h => Or.inl ⟨n, h, rfl⟩, fun q h => Or.inr h⟩
  have hS : va_S (xA NLA a s.heap.size) s.heap s.heap [] := va_S.rf
  have hl := lv_entry ([.int (nI r), .int (nI q), .ref (a 31 0), .ref (a 32 0), .ref (a 33 0), .ref (a 34 0), .ref (a 35 0), .ref (a 37 0)]) (n := 10) (Nat.le_of_ble_eq_true rfl)
  rw [lg_entry_eq]
  generalize (lg_sl ([.int (nI r), .int (nI q), .ref (a 31 0), .ref (a 32 0), .ref (a 33 0), .ref (a 34 0), .ref (a 35 0), .ref (a 37 0)]) ++ List.replicate (10 - (lg_sl ([.int (nI r), .int (nI q), .ref (a 31 0), .ref (a 32 0), .ref (a 33 0), .ref (a 34 0), .ref (a 35 0), .ref (a 37 0)])).length) Slot.unset).toArray = ls at hl ⊢
  have hl : lv_has ls 10 [(0, .int (nI r)), (1, .int (nI q)), (2, .ref (a 31 0)), (3, .ref (a 32 0)), (4, .ref (a 33 0)), (5, .ref (a 34 0)), (6, .ref (a 35 0)), (7, .ref (a 37 0))] := hl
  refine lv_aload C0.hx C0.hb dL_frame_0 (lv_at hl 7 rfl) ?_
  refine lv_iconst (v := nI 4) C0.hx C0.hb dL_frame_2 (by decide) ?_
  refine lv_iload_n C0.hx C0.hb dL_frame_3 rfl (lv_at hl 0 rfl) ?_
  refine lv_imul C0.hx C0.hb dL_frame_4 ?_
  refine x_top (pk_mul 4 r) ?_
  refine lv_iload_n C0.hx C0.hb dL_frame_5 rfl (lv_at hl 1 rfl) ?_
  refine lv_iadd C0.hx C0.hb dL_frame_6 ?_
  refine x_top (nI_add (4 * r) q) ?_
  refine x_iald C0 hP 37 ((4 * r) + q) 48 (NLA_M _ (mM_n rfl rfl)) rfl (by omega) (by decide) dL_frame_7 ?_
  refine lv_istore (lv' := [(8, .int (σ 37 0 ((4 * r) + q))), (0, .int (nI r)), (1, .int (nI q)), (2, .ref (a 31 0)), (3, .ref (a 32 0)), (4, .ref (a 33 0)), (5, .ref (a 34 0)), (6, .ref (a 35 0)), (7, .ref (a 37 0))]) C0.hx C0.hb dL_frame_8 hl (by decide) rfl (fun ls hl => ?_)
  have hv := (ok.ver hr0).2
  have hc := (ok.cnt hv).2
  refine lv_bipush (v := nI 6) C0.hx C0.hb dL_frame_10 (by decide) ?_
  refine lv_aload C0.hx C0.hb dL_frame_12 (lv_at hl 7 rfl) ?_
  refine lv_iload_n C0.hx C0.hb dL_frame_14 rfl (lv_at hl 1 rfl) ?_
  refine x_iald C0 hP 35 r 12 (NLA_M _ (mM_n rfl rfl)) rfl (by omega) (by decide) dL_frame_15 ?_
  obtain ⟨e_1, b_2⟩ := (ok.ver (by omega) : inR (σ 35 0 r) _)
  refine x_top e_1 ?_
  refine lv_imul C0.hx C0.hb dL_frame_16 ?_
  refine x_top (pk_mul 6 (nv (σ 35 0 r))) ?_
  refine lv_istore (lv' := [(9, .int (nI (6 * (nv (σ 35 0 r))))), (8, .int (σ 37 0 ((4 * r) + q))), (0, .int (nI r)), (1, .int (nI q)), (2, .ref (a 31 0)), (3, .ref (a 32 0)), (4, .ref (a 33 0)), (5, .ref (a 34 0)), (6, .ref (a 35 0)), (7, .ref (a 37 0))]) C0.hx C0.hb dL_frame_17 hl (by decide) rfl (fun ls hl => ?_)
  refine x_loopR (α := Nat × Nat) (fun u => u.1) (fun ⟨cn, n⟩ ls => n + cn = 6 * nv (σ 35 0 r) + nv (σ 31 0 (nv (σ 35 0 r))) ∧ frP σ (σ 37 0 (4 * r + q)) cn n = frV σ r q ∧ lv_has ls 10 [(0, .int (nI r)), (1, .int (nI q)), (2, .ref (a 31 0)), (3, .ref (a 32 0)), (4, .ref (a 33 0)), (5, .ref (a 34 0)), (6, .ref (a 35 0)), (7, .ref (a 37 0)), (8, .int (σ 37 0 ((4 * r) + q))), (9, .int (nI n))]) ?_ ((nv (σ 31 0 (nv (σ 35 0 r))), 6 * nv (σ 35 0 r))) ⟨rfl, rfl, (lv_sub hl [2, 3, 4, 5, 6, 7, 8, 9, 1, 0] rfl)⟩
  rintro ⟨cn, n⟩ ls ⟨hn, hG, hl⟩ ih19
  refine lv_iload C0.hx C0.hb dL_frame_19 (lv_at hl 9 rfl) ?_
  refine lv_bipush (v := nI 6) C0.hx C0.hb dL_frame_21 (by decide) ?_
  refine lv_aload C0.hx C0.hb dL_frame_23 (lv_at hl 6 rfl) ?_
  refine lv_iload_n C0.hx C0.hb dL_frame_25 rfl (lv_at hl 0 rfl) ?_
  refine x_iald C0 hP 35 r 12 (NLA_M _ (mM_n rfl rfl)) rfl (by omega) (by decide) dL_frame_26 ?_
  obtain ⟨e_3, b_4⟩ := (ok.ver (by omega) : inR (σ 35 0 r) _)
  refine x_top e_3 ?_
  refine lv_imul C0.hx C0.hb dL_frame_27 ?_
  refine x_top (pk_mul 6 (nv (σ 35 0 r))) ?_
  refine lv_aload_n C0.hx C0.hb dL_frame_28 rfl (lv_at hl 2 rfl) ?_
  refine lv_aload C0.hx C0.hb dL_frame_29 (lv_at hl 6 rfl) ?_
  refine lv_iload_n C0.hx C0.hb dL_frame_31 rfl (lv_at hl 0 rfl) ?_
  refine x_iald C0 hP 35 r 12 (NLA_M _ (mM_n rfl rfl)) rfl (by omega) (by decide) dL_frame_32 ?_
  obtain ⟨e_5, b_6⟩ := (ok.ver (by omega) : inR (σ 35 0 r) _)
  refine x_top e_5 ?_
  refine x_iald C0 hP 31 (nv (σ 35 0 r)) 20 (NLA_M _ (mM_n rfl rfl)) rfl (by omega) (by decide) dL_frame_33 ?_
  obtain ⟨e_7, b_8⟩ := (ok.cnt (by omega) : inR (σ 31 0 (nv (σ 35 0 r))) _)
  refine x_top e_7 ?_
  refine lv_iadd C0.hx C0.hb dL_frame_34 ?_
  refine x_top (nI_add (6 * (nv (σ 35 0 r))) (nv (σ 31 0 (nv (σ 35 0 r))))) ?_
  refine x_icmp_ge (tgt := 69) C0.hx C0.hb (by omega) (by omega) dL_frame_35 (by decide) (fun c_9 => ?_) (fun c_9 => ?_)
  ·
    refine lv_iconst (v := -1) C0.hx C0.hb dL_frame_69 (by decide) ?_
    exact W.iret (v := -1) C0.hx C0.hb hr (fun t ht hW => ⟨_, rfl, (by rw [← hG, show cn = 0 by omega]; rfl), ht⟩) (fun q h => nomatch h) dL_frame_70
  ·
    obtain ⟨cn, rfl⟩ : ∃ z, cn = z + 1 := ⟨cn - 1, by omega⟩
    rw [frP] at hG
    refine x_join (α := Unit) 63 (fun _ H' locs' ls => (H' = s.heap ∧ locs' = [] ∧ ¬ (¬ σ 37 0 (4 * r + q) < σ 32 0 n ∧ ¬ σ 33 0 n < σ 37 0 (4 * r + q))) ∧ lv_has ls 10 [(0, .int (nI r)), (1, .int (nI q)), (2, .ref (a 31 0)), (3, .ref (a 32 0)), (4, .ref (a 33 0)), (5, .ref (a 34 0)), (6, .ref (a 35 0)), (7, .ref (a 37 0)), (8, .int (σ 37 0 ((4 * r) + q))), (9, .int (nI n))]) (fun _ => []) ?_ (fun J63 => ?_)
    · rintro _ _ _ ls ⟨⟨rfl, rfl, hno⟩, hl⟩
      refine lv_iinc (v := nI (n + 1)) (lv' := [(9, .int (nI (n + 1))), (0, .int (nI r)), (1, .int (nI q)), (2, .ref (a 31 0)), (3, .ref (a 32 0)), (4, .ref (a 33 0)), (5, .ref (a 34 0)), (6, .ref (a 35 0)), (7, .ref (a 37 0)), (8, .int (σ 37 0 ((4 * r) + q)))]) C0.hx C0.hb dL_frame_63 hl (k := 9) rfl (nI_1 n) (by decide) rfl (fun ls hl => ?_)
      refine lv_goto (tgt := 19) C0.hx C0.hb dL_frame_66 (by decide) ?_
      exact ih19 ((cn, n + 1)) ls ⟨(by omega), (by rw [← hG, if_neg hno]), (lv_sub hl [1, 2, 3, 4, 5, 6, 7, 8, 9, 0] rfl)⟩ (Nat.lt_succ_self _)
    ·
      refine lv_iload C0.hx C0.hb dL_frame_38 (lv_at hl 8 rfl) ?_
      refine lv_aload_n C0.hx C0.hb dL_frame_40 rfl (lv_at hl 3 rfl) ?_
      refine lv_iload C0.hx C0.hb dL_frame_41 (lv_at hl 9 rfl) ?_
      refine x_iald C0 hP 32 n 24 (NLA_M _ (mM_n rfl rfl)) rfl (by omega) (by decide) dL_frame_43 ?_
      refine lv_icmp_lt (tgt := 63) C0.hx C0.hb dL_frame_44 (by decide) (fun c_10 => ?_) (fun c_10 => ?_)
      ·
        exact J63 () _ _ ls ⟨⟨rfl, rfl, (by intro z; first | exact z.1 c_10 | exact z.2 c_10)⟩, (lv_sub hl [0, 1, 2, 3, 4, 5, 6, 7, 8, 9] rfl)⟩
      ·
        refine lv_iload C0.hx C0.hb dL_frame_47 (lv_at hl 8 rfl) ?_
        refine lv_aload C0.hx C0.hb dL_frame_49 (lv_at hl 4 rfl) ?_
        refine lv_iload C0.hx C0.hb dL_frame_51 (lv_at hl 9 rfl) ?_
        refine x_iald C0 hP 33 n 24 (NLA_M _ (mM_n rfl rfl)) rfl (by omega) (by decide) dL_frame_53 ?_
        refine lv_icmp_gt (tgt := 63) C0.hx C0.hb dL_frame_54 (by decide) (fun c_11 => ?_) (fun c_11 => ?_)
        ·
          exact J63 () _ _ ls ⟨⟨rfl, rfl, (by intro z; first | exact z.1 c_11 | exact z.2 c_11)⟩, (lv_sub hl [0, 1, 2, 3, 4, 5, 6, 7, 8, 9] rfl)⟩
        ·
          refine lv_aload C0.hx C0.hb dL_frame_57 (lv_at hl 5 rfl) ?_
          refine lv_iload C0.hx C0.hb dL_frame_59 (lv_at hl 9 rfl) ?_
          refine x_iald C0 hP 34 n 24 (NLA_M _ (mM_n rfl rfl)) rfl (by omega) (by decide) dL_frame_61 ?_
          exact W.iret (v := σ 34 0 n) C0.hx C0.hb hr (fun t ht hW => ⟨_, rfl, (by rw [← hG, if_pos ⟨c_10, c_11⟩]), ht⟩) (fun q h => nomatch h) dL_frame_62

set_option maxHeartbeats 4000000 in
set_option maxRecDepth 100000 in
theorem mtL_ends (l : Launch) (g : xG) (a : xAd) (σ : xS) (t : Nat) (ht0 : t < 6) (ok : okP σ) : xMi l yL_ends wsL_ends ({ frames := 0, cells := 0, slots := 0, locals := 0 }) NLA g a σ [.int (nI t), .ref (a 31 0)] (nI (enP σ 6 t)) := by
  unfold xMi
  refine Met.ofW (cc := cL_ends) (maxL := 4) (ret := (some .int)) (by decide) rfl ?_
  intro p e s m args below meth c s₁ B hml hv
  obtain ⟨rfl, hP, hK, hN, hj⟩ := hv
  have hr := B.returns
  have hlocks := B.notSynchronized
  have C0 : xC p s m _ c cL_ends 4 wsL_ends RL NLA g a (xA NLA a s.heap.size) := ⟨⟨B.exec, B.bytes, hml, findClass_of_methodNamed B.named, atoms_spec (ws := wsL_ends) B.pre⟩, hK, hN, hj, fun n h => Or.inl ⟨n, h, rfl⟩, fun q h => Or.inr h⟩
  have hS : va_S (xA NLA a s.heap.size) s.heap s.heap [] := va_S.rf
  have hl := lv_entry ([.int (nI t), .ref (a 31 0)]) (n := 4) (Nat.le_of_ble_eq_true rfl)
  rw [lg_entry_eq]
  generalize (lg_sl ([.int (nI t), .ref (a 31 0)]) ++ List.replicate (4 - (lg_sl ([.int (nI t), .ref (a 31 0)])).length) Slot.unset).toArray = ls at hl ⊢
  have hl : lv_has ls 4 [(0, .int (nI t)), (1, .ref (a 31 0))] := hl
  refine lv_iload_n C0.hx C0.hb dL_ends_0 rfl (lv_at hl 0 rfl) ?_
  refine lv_istore_n (lv' := [(2, .int (nI t)), (0, .int (nI t)), (1, .ref (a 31 0))]) C0.hx C0.hb dL_ends_1 rfl hl (by decide) rfl (fun ls hl => ?_)
  refine lv_iconst (v := nI 0) C0.hx C0.hb dL_ends_2 (by decide) ?_
  refine lv_istore_n (lv' := [(3, .int (nI 0)), (2, .int (nI t)), (0, .int (nI t)), (1, .ref (a 31 0))]) C0.hx C0.hb dL_ends_3 rfl hl (by decide) rfl (fun ls hl => ?_)
  refine x_loopR (α := Nat × Nat × Nat) (fun u => u.1) (fun ⟨n, k, t'⟩ ls => k + n = 6 ∧ t' < 6 ∧ enP σ n t' = enP σ 6 t ∧ lv_has ls 4 [(0, .int (nI t)), (1, .ref (a 31 0)), (2, .int (nI t')), (3, .int (nI k))]) ?_ ((6, 0, t)) ⟨(by omega), ht0, rfl, (lv_sub hl [2, 3, 1, 0] rfl)⟩
  rintro ⟨n, k, t'⟩ ls ⟨hn, ht1, hG, hl⟩ ih4
  refine lv_iload_n C0.hx C0.hb dL_ends_4 rfl (lv_at hl 3 rfl) ?_
  refine lv_bipush (v := nI 6) C0.hx C0.hb dL_ends_5 (by decide) ?_
  refine x_icmp_ge (tgt := 23) C0.hx C0.hb (by omega) (by omega) dL_ends_7 (by decide) (fun c_1 => ?_) (fun c_1 => ?_)
  ·
    refine lv_iload_n C0.hx C0.hb dL_ends_23 rfl (lv_at hl 2 rfl) ?_
    exact W.iret (v := nI t') C0.hx C0.hb hr (fun t ht hW => ⟨_, rfl, (by rw [← hG, show n = 0 by omega]; rfl), ht⟩) (fun q h => nomatch h) dL_ends_24
  ·
    obtain ⟨n, rfl⟩ : ∃ z, n = z + 1 := ⟨n - 1, by omega⟩
    refine lv_aload_n C0.hx C0.hb dL_ends_10 rfl (lv_at hl 1 rfl) ?_
    refine lv_bipush (v := nI 14) C0.hx C0.hb dL_ends_11 (by decide) ?_
    refine lv_iload_n C0.hx C0.hb dL_ends_13 rfl (lv_at hl 2 rfl) ?_
    refine lv_iadd C0.hx C0.hb dL_ends_14 ?_
    refine x_top (nI_add 14 t') ?_
    refine x_iald C0 hP 31 (14 + t') 20 (NLA_M _ (mM_n rfl rfl)) rfl (by omega) (by decide) dL_ends_15 ?_
    obtain ⟨e_2, b_3⟩ := (ok.std (by omega) : inR (σ 31 0 (14 + t')) _)
    refine x_top e_2 ?_
    refine lv_istore_n (lv' := [(2, .int (nI (nv (σ 31 0 (14 + t'))))), (0, .int (nI t)), (1, .ref (a 31 0)), (3, .int (nI k))]) C0.hx C0.hb dL_ends_16 rfl hl (by decide) rfl (fun ls hl => ?_)
    refine lv_iinc (v := nI (k + 1)) (lv' := [(3, .int (nI (k + 1))), (2, .int (nI (nv (σ 31 0 (14 + t'))))), (0, .int (nI t)), (1, .ref (a 31 0))]) C0.hx C0.hb dL_ends_17 hl (k := 3) rfl (nI_1 k) (by decide) rfl (fun ls hl => ?_)
    refine lv_goto (tgt := 4) C0.hx C0.hb dL_ends_20 (by decide) ?_
    exact ih4 ((n, k + 1, nv (σ 31 0 (14 + t')))) ls ⟨(by omega), (by omega), hG, (lv_sub hl [2, 3, 1, 0] rfl)⟩ (Nat.lt_succ_self _)

set_option maxHeartbeats 4000000 in
set_option maxRecDepth 100000 in
theorem mtL_number (l : Launch) (g : xG) (a : xAd) (σ : xS) (r : Nat) (hr0 : r < 12) (ok : okP σ) : xMi l yL_number wsL_number ({ frames := 1, cells := 0, slots := 0, locals := 29 }) NLA g a σ [.int (nI r), .ref (a 30 0), .ref (a 31 0), .ref (a 32 0), .ref (a 33 0), .ref (a 34 0), .ref (a 35 0), .ref (a 37 0)] (nuP σ r) := by
  unfold xMi
  refine Met.ofW (cc := cL_number) (maxL := 13) (ret := (some .int)) (by decide) rfl ?_
  intro p e s m args below meth c s₁ B hml hv
  obtain ⟨rfl, hP, hK, hN, hj⟩ := hv
  have hr := B.returns
  have hlocks := B.notSynchronized
  have C0 : xC p s m _ c cL_number 13 wsL_number RL NLA g a (xA NLA a s.heap.size) := ⟨⟨B.exec, B.bytes, hml, findClass_of_methodNamed B.named, atoms_spec (ws := wsL_number) B.pre⟩, hK, hN, hj, fun n h => Or.inl ⟨n, h, rfl⟩, fun q h => Or.inr h⟩
  have hS : va_S (xA NLA a s.heap.size) s.heap s.heap [] := va_S.rf
  have hl := lv_entry ([.int (nI r), .ref (a 30 0), .ref (a 31 0), .ref (a 32 0), .ref (a 33 0), .ref (a 34 0), .ref (a 35 0), .ref (a 37 0)]) (n := 13) (Nat.le_of_ble_eq_true rfl)
  rw [lg_entry_eq]
  generalize (lg_sl ([.int (nI r), .ref (a 30 0), .ref (a 31 0), .ref (a 32 0), .ref (a 33 0), .ref (a 34 0), .ref (a 35 0), .ref (a 37 0)]) ++ List.replicate (13 - (lg_sl ([.int (nI r), .ref (a 30 0), .ref (a 31 0), .ref (a 32 0), .ref (a 33 0), .ref (a 34 0), .ref (a 35 0), .ref (a 37 0)])).length) Slot.unset).toArray = ls at hl ⊢
  have hl : lv_has ls 13 [(0, .int (nI r)), (1, .ref (a 30 0)), (2, .ref (a 31 0)), (3, .ref (a 32 0)), (4, .ref (a 33 0)), (5, .ref (a 34 0)), (6, .ref (a 35 0)), (7, .ref (a 37 0))] := hl
  refine lv_iconst (v := nI 0) C0.hx C0.hb dL_number_0 (by decide) ?_
  refine lv_istore (lv' := [(8, .int (nI 0)), (0, .int (nI r)), (1, .ref (a 30 0)), (2, .ref (a 31 0)), (3, .ref (a 32 0)), (4, .ref (a 33 0)), (5, .ref (a 34 0)), (6, .ref (a 35 0)), (7, .ref (a 37 0))]) C0.hx C0.hb dL_number_1 hl (by decide) rfl (fun ls hl => ?_)
  refine lv_iconst (v := nI 0) C0.hx C0.hb dL_number_3 (by decide) ?_
  refine lv_istore (lv' := [(9, .int (nI 0)), (8, .int (nI 0)), (0, .int (nI r)), (1, .ref (a 30 0)), (2, .ref (a 31 0)), (3, .ref (a 32 0)), (4, .ref (a 33 0)), (5, .ref (a 34 0)), (6, .ref (a 35 0)), (7, .ref (a 37 0))]) C0.hx C0.hb dL_number_4 hl (by decide) rfl (fun ls hl => ?_)
  refine lv_iconst (v := nI 3) C0.hx C0.hb dL_number_6 (by decide) ?_
  refine x_top (show nI 3 = nI 4 - nI 1 from (nI_pred 3).symm) ?_
  refine lv_istore (lv' := [(10, .int (nI 4 - nI 1)), (9, .int (nI 0)), (8, .int (nI 0)), (0, .int (nI r)), (1, .ref (a 30 0)), (2, .ref (a 31 0)), (3, .ref (a 32 0)), (4, .ref (a 33 0)), (5, .ref (a 34 0)), (6, .ref (a 35 0)), (7, .ref (a 37 0))]) C0.hx C0.hb dL_number_7 hl (by decide) rfl (fun ls hl => ?_)
  refine x_loopR (α := Nat × Nat) (fun u => u.1) (fun ⟨j, acc⟩ ls => j ≤ 4 ∧ acc + j ≤ 4 ∧ mnP σ r j acc = myP σ r ∧ lv_has ls 13 [(0, .int (nI r)), (1, .ref (a 30 0)), (2, .ref (a 31 0)), (3, .ref (a 32 0)), (4, .ref (a 33 0)), (5, .ref (a 34 0)), (6, .ref (a 35 0)), (7, .ref (a 37 0)), (8, .int (nI 0)), (9, .int (nI acc)), (10, .int (nI j - nI 1))]) ?_ ((4, 0)) ⟨(by omega), (by omega), rfl, (lv_sub hl [3, 4, 5, 6, 7, 8, 9, 10, 2, 1, 0] rfl)⟩
  rintro ⟨j, acc⟩ ls ⟨hj4, hacc, hG, hl⟩ ih9
  refine lv_iload C0.hx C0.hb dL_number_9 (lv_at hl 10 rfl) ?_
  refine lv_if_lt (tgt := 63) C0.hx C0.hb dL_number_11 (by decide) (fun c_1 => ?_) (fun c_1 => ?_)
  ·
    rw [nIs_lt0 (by omega)] at c_1
    subst c_1
    obtain rfl : acc = myP σ r := hG
    refine x_join (α := Int32) 81 (fun z H' locs' ls => (H' = s.heap ∧ locs' = [] ∧ z = (skP σ r)) ∧ lv_has ls 13 [(0, .int (nI r)), (1, .ref (a 30 0)), (2, .ref (a 31 0)), (3, .ref (a 32 0)), (4, .ref (a 33 0)), (5, .ref (a 34 0)), (6, .ref (a 35 0)), (7, .ref (a 37 0)), (8, .int (nI 0)), (9, .int (nI (myP σ r))), (10, .int (nI 0 - nI 1))]) (fun z => [.int z]) ?_ (fun J81 => ?_)
    · rintro z _ _ ls ⟨⟨rfl, rfl, hz⟩, hl⟩
      subst hz
      refine lv_istore (lv' := [(10, .int (skP σ r)), (0, .int (nI r)), (1, .ref (a 30 0)), (2, .ref (a 31 0)), (3, .ref (a 32 0)), (4, .ref (a 33 0)), (5, .ref (a 34 0)), (6, .ref (a 35 0)), (7, .ref (a 37 0)), (8, .int (nI 0)), (9, .int (nI (myP σ r)))]) C0.hx C0.hb dL_number_81 hl (by decide) rfl (fun ls hl => ?_)
      refine lv_iconst (v := nI 3) C0.hx C0.hb dL_number_83 (by decide) ?_
      refine x_top (show nI 3 = nI 4 - nI 1 from (nI_pred 3).symm) ?_
      refine lv_istore (lv' := [(11, .int (nI 4 - nI 1)), (10, .int (skP σ r)), (0, .int (nI r)), (1, .ref (a 30 0)), (2, .ref (a 31 0)), (3, .ref (a 32 0)), (4, .ref (a 33 0)), (5, .ref (a 34 0)), (6, .ref (a 35 0)), (7, .ref (a 37 0)), (8, .int (nI 0)), (9, .int (nI (myP σ r)))]) C0.hx C0.hb dL_number_84 hl (by decide) rfl (fun ls hl => ?_)
      refine x_loopR (α := Nat × Nat × Int32) (fun u => u.1) (fun ⟨j, sum, sk⟩ ls => j ≤ 4 ∧ smP σ r j sum sk = smP σ r 4 0 (skP σ r) ∧ lv_has ls 13 [(0, .int (nI r)), (1, .ref (a 30 0)), (2, .ref (a 31 0)), (3, .ref (a 32 0)), (4, .ref (a 33 0)), (5, .ref (a 34 0)), (6, .ref (a 35 0)), (7, .ref (a 37 0)), (8, .int (nI sum)), (9, .int (nI (myP σ r))), (10, .int sk), (11, .int (nI j - nI 1))]) ?_ ((4, 0, skP σ r)) ⟨(by omega), rfl, (lv_sub hl [2, 3, 4, 5, 6, 7, 8, 9, 10, 11, 1, 0] rfl)⟩
      rintro ⟨j, sum, sk⟩ ls ⟨hj4, hG, hl⟩ ih86
      refine lv_iload C0.hx C0.hb dL_number_86 (lv_at hl 11 rfl) ?_
      refine lv_if_lt (tgt := 158) C0.hx C0.hb dL_number_88 (by decide) (fun c_2 => ?_) (fun c_2 => ?_)
      ·
        rw [nIs_lt0 (by omega)] at c_2
        subst c_2
        obtain rfl : sum = smP σ r 4 0 (skP σ r) := hG
        refine lv_iload C0.hx C0.hb dL_number_158 (lv_at hl 9 rfl) ?_
        refine x_ifle (tgt := 168) C0.hx C0.hb (by omega) dL_number_160 (by decide) (fun c_3 => ?_) (fun c_3 => ?_)
        ·
          refine lv_iconst (v := -1) C0.hx C0.hb dL_number_168 (by decide) ?_
          refine lv_iconst (v := nI 4) C0.hx C0.hb dL_number_169 (by decide) ?_
          refine lv_aload C0.hx C0.hb dL_number_170 (lv_at hl 7 rfl) ?_
          refine lv_iconst (v := nI 4) C0.hx C0.hb dL_number_172 (by decide) ?_
          refine lv_iload_n C0.hx C0.hb dL_number_173 rfl (lv_at hl 0 rfl) ?_
          refine lv_imul C0.hx C0.hb dL_number_174 ?_
          refine x_top (pk_mul 4 r) ?_
          refine x_iald C0 hP 37 (4 * r) 48 (NLA_M _ (mM_n rfl rfl)) rfl (by omega) (by decide) dL_number_175 ?_
          refine lv_imul C0.hx C0.hb dL_number_176 ?_
          refine lv_isub C0.hx C0.hb dL_number_177 ?_
          refine lv_aload C0.hx C0.hb dL_number_178 (lv_at hl 6 rfl) ?_
          refine lv_iload_n C0.hx C0.hb dL_number_180 rfl (lv_at hl 0 rfl) ?_
          refine x_iald C0 hP 35 r 12 (NLA_M _ (mM_n rfl rfl)) rfl (by omega) (by decide) dL_number_181 ?_
          obtain ⟨e_4, b_5⟩ := (ok.ver (by omega) : inR (σ 35 0 r) _)
          refine x_top e_4 ?_
          refine lv_isub C0.hx C0.hb dL_number_182 ?_
          exact W.iret (v := ((-1) - ((nI 4) * (σ 37 0 (4 * r)))) - (nI (nv (σ 35 0 r)))) C0.hx C0.hb hr (fun t ht hW => ⟨_, rfl, (by unfold nuP; rw [if_neg (by omega)]), ht⟩) (fun q h => nomatch h) dL_number_183
        ·
          refine lv_iload C0.hx C0.hb dL_number_163 (lv_at hl 8 rfl) ?_
          refine lv_goto (tgt := 183) C0.hx C0.hb dL_number_165 (by decide) ?_
          exact W.iret (v := nI (smP σ r 4 0 (skP σ r))) C0.hx C0.hb hr (fun t ht hW => ⟨_, rfl, (by unfold nuP; rw [if_pos c_3]), ht⟩) (fun q h => nomatch h) dL_number_183
      ·
        rw [nIs_lt0 (by omega)] at c_2
        obtain ⟨j, rfl⟩ : ∃ z, j = z + 1 := ⟨j - 1, by omega⟩
        rw [show nI (j + 1) - nI 1 = nI j from nI_pred j] at hl
        rw [smP] at hG
        refine lv_iload_n C0.hx C0.hb dL_number_91 rfl (lv_at hl 0 rfl) ?_
        refine lv_iload C0.hx C0.hb dL_number_92 (lv_at hl 11 rfl) ?_
        refine lv_aload_n C0.hx C0.hb dL_number_94 rfl (lv_at hl 2 rfl) ?_
        refine lv_aload_n C0.hx C0.hb dL_number_95 rfl (lv_at hl 3 rfl) ?_
        refine lv_aload C0.hx C0.hb dL_number_96 (lv_at hl 4 rfl) ?_
        refine lv_aload C0.hx C0.hb dL_number_98 (lv_at hl 5 rfl) ?_
        refine lv_aload C0.hx C0.hb dL_number_100 (lv_at hl 6 rfl) ?_
        refine lv_aload C0.hx C0.hb dL_number_102 (lv_at hl 7 rfl) ?_
        refine x_Si (As := [.int (nI r), .int (nI j), .ref (a 31 0), .ref (a 32 0), .ref (a 33 0), .ref (a 34 0), .ref (a 35 0), .ref (a 37 0)]) (rest := []) C0 (mtL_frame l g a σ r j (by omega) (by omega) ok) hP C0.2.2.2.1 (va_cwS 8 C0.hts gL_number_L_frame rfl rfl rfl (by decide +kernel) ⟨Nat.le_of_ble_eq_true rfl, Nat.le_of_ble_eq_true rfl⟩) rfl hl rfl (Nat.le_of_ble_eq_true rfl) (Nat.zero_le _) (Nat.zero_le _) dL_number_104 ?_
        refine lv_istore (lv' := [(12, .int (frV σ r j)), (0, .int (nI r)), (1, .ref (a 30 0)), (2, .ref (a 31 0)), (3, .ref (a 32 0)), (4, .ref (a 33 0)), (5, .ref (a 34 0)), (6, .ref (a 35 0)), (7, .ref (a 37 0)), (8, .int (nI sum)), (9, .int (nI (myP σ r))), (10, .int sk), (11, .int (nI j))]) C0.hx C0.hb dL_number_107 hl (by decide) rfl (fun ls hl => ?_)
        refine x_join (α := Nat × Int32) 152 (fun ⟨s2, k2⟩ H' locs' ls => (H' = s.heap ∧ locs' = [] ∧ smP σ r j s2 k2 = smP σ r 4 0 (skP σ r)) ∧ lv_has ls 13 [(0, .int (nI r)), (1, .ref (a 30 0)), (2, .ref (a 31 0)), (3, .ref (a 32 0)), (4, .ref (a 33 0)), (5, .ref (a 34 0)), (6, .ref (a 35 0)), (7, .ref (a 37 0)), (9, .int (nI (myP σ r))), (11, .int (nI j)), (8, .int (nI s2)), (10, .int k2)]) (fun ⟨s2, k2⟩ => []) ?_ (fun J152 => ?_)
        · rintro ⟨s2, k2⟩ _ _ ls ⟨⟨rfl, rfl, hR⟩, hl⟩
          refine lv_iinc (v := nI j - nI 1) (lv' := [(11, .int (nI j - nI 1)), (0, .int (nI r)), (1, .ref (a 30 0)), (2, .ref (a 31 0)), (3, .ref (a 32 0)), (4, .ref (a 33 0)), (5, .ref (a 34 0)), (6, .ref (a 35 0)), (7, .ref (a 37 0)), (9, .int (nI (myP σ r))), (8, .int (nI s2)), (10, .int k2)]) C0.hx C0.hb dL_number_152 hl (k := 9) rfl (nI_m1 j) (by decide) rfl (fun ls hl => ?_)
          refine lv_goto (tgt := 86) C0.hx C0.hb dL_number_155 (by decide) ?_
          exact ih86 ((j, s2, k2)) ls ⟨(by omega), hR, (lv_sub hl [1, 2, 3, 4, 5, 6, 7, 8, 10, 9, 11, 0] rfl)⟩ (Nat.lt_succ_self _)
        ·
          refine lv_iload C0.hx C0.hb dL_number_109 (lv_at hl 0 rfl) ?_
          refine lv_if_lt (tgt := 152) C0.hx C0.hb dL_number_111 (by decide) (fun c_6 => ?_) (fun c_6 => ?_)
          ·
            exact J152 (sum, sk) _ _ ls ⟨⟨rfl, rfl, (by rw [← hG, if_neg (show ¬ isMt σ r j = true by simp [isMt, c_6])])⟩, (lv_sub hl [1, 2, 3, 4, 5, 6, 7, 8, 10, 12, 9, 11] rfl)⟩
          ·
            obtain ⟨e111, b111⟩ := frV_ge ok hr0 c_6
            refine lv_aload_n C0.hx C0.hb dL_number_114 rfl (lv_at hl 3 rfl) ?_
            refine lv_bipush (v := nI 8) C0.hx C0.hb dL_number_115 (by decide) ?_
            refine lv_iload C0.hx C0.hb dL_number_117 (lv_at hl 0 rfl) ?_
            refine x_top e111 ?_
            refine lv_iadd C0.hx C0.hb dL_number_119 ?_
            refine x_top (nI_add 8 (nv (frV σ r j))) ?_
            refine x_iald C0 hP 31 (8 + (nv (frV σ r j))) 20 (NLA_M _ (mM_n rfl rfl)) rfl (by omega) (by decide) dL_number_120 ?_
            obtain ⟨e_7, b_8⟩ := (ok.ign (by omega) : inR (σ 31 0 (8 + (nv (frV σ r j)))) _)
            refine x_top e_7 ?_
            refine x_ifnen (tgt := 152) C0.hx C0.hb (by omega) dL_number_121 (by decide) (fun c_9 => ?_) (fun c_9 => ?_)
            ·
              exact J152 (sum, sk) _ _ ls ⟨⟨rfl, rfl, (by rw [← hG, if_neg (show ¬ isMt σ r j = true by simp [isMt, c_9, c_6])])⟩, (lv_sub hl [1, 2, 3, 4, 5, 6, 7, 8, 10, 12, 9, 11] rfl)⟩
            ·
              refine x_join (α := Nat) 147 (fun z H' locs' ls => (H' = s.heap ∧ locs' = [] ∧ z = (if sk ≤ 0 then 7 * sum + 1 + enP σ 6 (nv (frV σ r j)) else 0)) ∧ lv_has ls 13 [(0, .int (nI r)), (1, .ref (a 30 0)), (2, .ref (a 31 0)), (3, .ref (a 32 0)), (4, .ref (a 33 0)), (5, .ref (a 34 0)), (6, .ref (a 35 0)), (7, .ref (a 37 0)), (8, .int (nI sum)), (9, .int (nI (myP σ r))), (10, .int sk), (11, .int (nI j)), (12, .int (frV σ r j))]) (fun z => [.int (nI z)]) ?_ (fun J147 => ?_)
              · rintro z _ _ ls ⟨⟨rfl, rfl, hz⟩, hl⟩
                subst hz
                refine lv_istore (lv' := [(8, .int (nI (if sk ≤ 0 then 7 * sum + 1 + enP σ 6 (nv (frV σ r j)) else 0))), (0, .int (nI r)), (1, .ref (a 30 0)), (2, .ref (a 31 0)), (3, .ref (a 32 0)), (4, .ref (a 33 0)), (5, .ref (a 34 0)), (6, .ref (a 35 0)), (7, .ref (a 37 0)), (9, .int (nI (myP σ r))), (10, .int sk), (11, .int (nI j)), (12, .int (frV σ r j))]) C0.hx C0.hb dL_number_147 hl (by decide) rfl (fun ls hl => ?_)
                refine lv_iinc (v := sk + Int32.ofInt (-1)) (lv' := [(10, .int (sk + Int32.ofInt (-1))), (8, .int (nI (if sk ≤ 0 then 7 * sum + 1 + enP σ 6 (nv (frV σ r j)) else 0))), (0, .int (nI r)), (1, .ref (a 30 0)), (2, .ref (a 31 0)), (3, .ref (a 32 0)), (4, .ref (a 33 0)), (5, .ref (a 34 0)), (6, .ref (a 35 0)), (7, .ref (a 37 0)), (9, .int (nI (myP σ r))), (11, .int (nI j)), (12, .int (frV σ r j))]) C0.hx C0.hb dL_number_149 hl (k := 10) rfl rfl (by decide) rfl (fun ls hl => ?_)
                exact J152 ((if sk ≤ 0 then 7 * sum + 1 + enP σ 6 (nv (frV σ r j)) else 0, sk + Int32.ofInt (-1))) _ _ ls ⟨⟨rfl, rfl, (by rw [← hG, if_pos (show isMt σ r j = true by simp [isMt, c_9, c_6])])⟩, (lv_sub hl [2, 3, 4, 5, 6, 7, 8, 9, 10, 11, 1, 0] rfl)⟩
              ·
                refine lv_iload C0.hx C0.hb dL_number_124 (lv_at hl 11 rfl) ?_
                refine lv_if_le (tgt := 133) C0.hx C0.hb dL_number_126 (by decide) (fun c_10 => ?_) (fun c_10 => ?_)
                ·
                  refine lv_bipush (v := nI 7) C0.hx C0.hb dL_number_133 (by decide) ?_
                  refine lv_iload C0.hx C0.hb dL_number_135 (lv_at hl 9 rfl) ?_
                  refine lv_imul C0.hx C0.hb dL_number_137 ?_
                  refine x_top (pk_mul 7 sum) ?_
                  refine lv_iconst (v := nI 1) C0.hx C0.hb dL_number_138 (by decide) ?_
                  refine lv_iadd C0.hx C0.hb dL_number_139 ?_
                  refine x_top (nI_add (7 * sum) 1) ?_
                  refine lv_iload C0.hx C0.hb dL_number_140 (lv_at hl 0 rfl) ?_
                  refine x_top e111 ?_
                  refine lv_aload_n C0.hx C0.hb dL_number_142 rfl (lv_at hl 3 rfl) ?_
                  refine x_Si (As := [.int (nI (nv (frV σ r j))), .ref (a 31 0)]) (rest := [.int (nI ((7 * sum) + 1))]) C0 (mtL_ends l g a σ (nv (frV σ r j)) (by omega) ok) hP C0.2.2.2.1 (va_cwS 2 C0.hts gL_number_L_ends rfl rfl rfl (by decide +kernel) ⟨Nat.le_of_ble_eq_true rfl, Nat.le_of_ble_eq_true rfl⟩) rfl hl rfl (Nat.le_of_ble_eq_true rfl) (Nat.zero_le _) (Nat.zero_le _) dL_number_143 ?_
                  refine lv_iadd C0.hx C0.hb dL_number_146 ?_
                  refine x_top (nI_add ((7 * sum) + 1) (enP σ 6 (nv (frV σ r j)))) ?_
                  exact J147 (((7 * sum) + 1) + (enP σ 6 (nv (frV σ r j)))) _ _ ls ⟨⟨rfl, rfl, (by rw [if_pos c_10])⟩, (lv_sub hl [1, 2, 3, 4, 5, 6, 7, 8, 9, 10, 11, 12, 0] rfl)⟩
                ·
                  refine lv_iconst (v := nI 0) C0.hx C0.hb dL_number_129 (by decide) ?_
                  refine lv_goto (tgt := 147) C0.hx C0.hb dL_number_130 (by decide) ?_
                  exact J147 0 _ _ ls ⟨⟨rfl, rfl, (by rw [if_neg c_10])⟩, (lv_sub hl [1, 2, 3, 4, 5, 6, 7, 8, 9, 10, 11, 12, 0] rfl)⟩
    ·
      have hmy : myP σ r ≤ 4 := by omega
      refine lv_iload C0.hx C0.hb dL_number_63 (lv_at hl 9 rfl) ?_
      refine lv_aload_n C0.hx C0.hb dL_number_65 rfl (lv_at hl 1 rfl) ?_
      refine lv_iconst (v := nI 1) C0.hx C0.hb dL_number_66 (by decide) ?_
      refine x_iald C0 hP 30 1 3 (NLA_M _ (mM_n rfl rfl)) rfl (by omega) (by decide) dL_number_67 ?_
      obtain ⟨e_11, b_12⟩ := (ok.dep : inR (σ 30 0 1) _)
      refine x_top e_11 ?_
      refine x_icmp_le (tgt := 80) C0.hx C0.hb (by omega) (by omega) dL_number_68 (by decide) (fun c_13 => ?_) (fun c_13 => ?_)
      ·
        refine lv_iconst (v := nI 0) C0.hx C0.hb dL_number_80 (by decide) ?_
        exact J81 (nI 0) _ _ ls ⟨⟨rfl, rfl, (by unfold skP; rw [if_pos c_13])⟩, (lv_sub hl [0, 1, 2, 3, 4, 5, 6, 7, 8, 9, 10] rfl)⟩
      ·
        refine lv_iload C0.hx C0.hb dL_number_71 (lv_at hl 9 rfl) ?_
        refine lv_aload_n C0.hx C0.hb dL_number_73 rfl (lv_at hl 1 rfl) ?_
        refine lv_iconst (v := nI 1) C0.hx C0.hb dL_number_74 (by decide) ?_
        refine x_iald C0 hP 30 1 3 (NLA_M _ (mM_n rfl rfl)) rfl (by omega) (by decide) dL_number_75 ?_
        obtain ⟨e_14, b_15⟩ := (ok.dep : inR (σ 30 0 1) _)
        refine x_top e_14 ?_
        refine lv_isub C0.hx C0.hb dL_number_76 ?_
        refine lv_goto (tgt := 81) C0.hx C0.hb dL_number_77 (by decide) ?_
        exact J81 ((nI (myP σ r)) - (nI (nv (σ 30 0 1)))) _ _ ls ⟨⟨rfl, rfl, (by unfold skP; rw [if_neg (by omega)])⟩, (lv_sub hl [0, 1, 2, 3, 4, 5, 6, 7, 8, 9, 10] rfl)⟩
  ·
    rw [nIs_lt0 (by omega)] at c_1
    obtain ⟨j, rfl⟩ : ∃ z, j = z + 1 := ⟨j - 1, by omega⟩
    rw [show nI (j + 1) - nI 1 = nI j from nI_pred j] at hl
    refine lv_iload_n C0.hx C0.hb dL_number_14 rfl (lv_at hl 0 rfl) ?_
    refine lv_iload C0.hx C0.hb dL_number_15 (lv_at hl 10 rfl) ?_
    refine lv_aload_n C0.hx C0.hb dL_number_17 rfl (lv_at hl 2 rfl) ?_
    refine lv_aload_n C0.hx C0.hb dL_number_18 rfl (lv_at hl 3 rfl) ?_
    refine lv_aload C0.hx C0.hb dL_number_19 (lv_at hl 4 rfl) ?_
    refine lv_aload C0.hx C0.hb dL_number_21 (lv_at hl 5 rfl) ?_
    refine lv_aload C0.hx C0.hb dL_number_23 (lv_at hl 6 rfl) ?_
    refine lv_aload C0.hx C0.hb dL_number_25 (lv_at hl 7 rfl) ?_
    refine x_Si (As := [.int (nI r), .int (nI j), .ref (a 31 0), .ref (a 32 0), .ref (a 33 0), .ref (a 34 0), .ref (a 35 0), .ref (a 37 0)]) (rest := []) C0 (mtL_frame l g a σ r j (by omega) (by omega) ok) hP C0.2.2.2.1 (va_cwS 8 C0.hts gL_number_L_frame rfl rfl rfl (by decide +kernel) ⟨Nat.le_of_ble_eq_true rfl, Nat.le_of_ble_eq_true rfl⟩) rfl hl rfl (Nat.le_of_ble_eq_true rfl) (Nat.zero_le _) (Nat.zero_le _) dL_number_27 ?_
    refine lv_istore (lv' := [(11, .int (frV σ r j)), (0, .int (nI r)), (1, .ref (a 30 0)), (2, .ref (a 31 0)), (3, .ref (a 32 0)), (4, .ref (a 33 0)), (5, .ref (a 34 0)), (6, .ref (a 35 0)), (7, .ref (a 37 0)), (8, .int (nI 0)), (9, .int (nI acc)), (10, .int (nI j))]) C0.hx C0.hb dL_number_30 hl (by decide) rfl (fun ls hl => ?_)
    refine lv_iload C0.hx C0.hb dL_number_32 (lv_at hl 10 rfl) ?_
    refine x_join (α := Nat) 54 (fun z H' locs' ls => (H' = s.heap ∧ locs' = [] ∧ z = (if isMt σ r j = true then 1 else 0)) ∧ lv_has ls 13 [(0, .int (nI r)), (1, .ref (a 30 0)), (2, .ref (a 31 0)), (3, .ref (a 32 0)), (4, .ref (a 33 0)), (5, .ref (a 34 0)), (6, .ref (a 35 0)), (7, .ref (a 37 0)), (8, .int (nI 0)), (9, .int (nI acc)), (10, .int (nI j)), (11, .int (frV σ r j))]) (fun z => [.int (nI z), .int (nI acc)]) ?_ (fun J54 => ?_)
    · rintro z _ _ ls ⟨⟨rfl, rfl, hz⟩, hl⟩
      subst hz
      refine lv_iadd C0.hx C0.hb dL_number_54 ?_
      refine x_top (nI_add acc (if isMt σ r j = true then 1 else 0)) ?_
      refine lv_istore (lv' := [(9, .int (nI (acc + (if isMt σ r j = true then 1 else 0)))), (0, .int (nI r)), (1, .ref (a 30 0)), (2, .ref (a 31 0)), (3, .ref (a 32 0)), (4, .ref (a 33 0)), (5, .ref (a 34 0)), (6, .ref (a 35 0)), (7, .ref (a 37 0)), (8, .int (nI 0)), (10, .int (nI j)), (11, .int (frV σ r j))]) C0.hx C0.hb dL_number_55 hl (by decide) rfl (fun ls hl => ?_)
      refine lv_iinc (v := nI j - nI 1) (lv' := [(10, .int (nI j - nI 1)), (9, .int (nI (acc + (if isMt σ r j = true then 1 else 0)))), (0, .int (nI r)), (1, .ref (a 30 0)), (2, .ref (a 31 0)), (3, .ref (a 32 0)), (4, .ref (a 33 0)), (5, .ref (a 34 0)), (6, .ref (a 35 0)), (7, .ref (a 37 0)), (8, .int (nI 0)), (11, .int (frV σ r j))]) C0.hx C0.hb dL_number_57 hl (k := 10) rfl (nI_m1 j) (by decide) rfl (fun ls hl => ?_)
      refine lv_goto (tgt := 9) C0.hx C0.hb dL_number_60 (by decide) ?_
      exact ih9 ((j, acc + (if isMt σ r j = true then 1 else 0))) ls ⟨(by omega), (by split <;> omega), hG, (lv_sub hl [2, 3, 4, 5, 6, 7, 8, 9, 10, 1, 0] rfl)⟩ (Nat.lt_succ_self _)
    ·
      refine lv_iload C0.hx C0.hb dL_number_34 (lv_at hl 0 rfl) ?_
      refine lv_if_lt (tgt := 53) C0.hx C0.hb dL_number_36 (by decide) (fun c_16 => ?_) (fun c_16 => ?_)
      ·
        refine lv_iconst (v := nI 0) C0.hx C0.hb dL_number_53 (by decide) ?_
        exact J54 0 _ _ ls ⟨⟨rfl, rfl, (by simp [isMt, c_16])⟩, (lv_sub hl [1, 2, 3, 4, 5, 6, 7, 8, 9, 10, 11, 0] rfl)⟩
      ·
        obtain ⟨e36, b36⟩ := frV_ge ok hr0 c_16
        refine lv_aload_n C0.hx C0.hb dL_number_39 rfl (lv_at hl 3 rfl) ?_
        refine lv_bipush (v := nI 8) C0.hx C0.hb dL_number_40 (by decide) ?_
        refine lv_iload C0.hx C0.hb dL_number_42 (lv_at hl 0 rfl) ?_
        refine x_top e36 ?_
        refine lv_iadd C0.hx C0.hb dL_number_44 ?_
        refine x_top (nI_add 8 (nv (frV σ r j))) ?_
        refine x_iald C0 hP 31 (8 + (nv (frV σ r j))) 20 (NLA_M _ (mM_n rfl rfl)) rfl (by omega) (by decide) dL_number_45 ?_
        obtain ⟨e_17, b_18⟩ := (ok.ign (by omega) : inR (σ 31 0 (8 + (nv (frV σ r j)))) _)
        refine x_top e_17 ?_
        refine x_ifnen (tgt := 53) C0.hx C0.hb (by omega) dL_number_46 (by decide) (fun c_19 => ?_) (fun c_19 => ?_)
        ·
          refine lv_iconst (v := nI 0) C0.hx C0.hb dL_number_53 (by decide) ?_
          exact J54 0 _ _ ls ⟨⟨rfl, rfl, (by simp [isMt, c_19, c_16])⟩, (lv_sub hl [1, 2, 3, 4, 5, 6, 7, 8, 9, 10, 11, 0] rfl)⟩
        ·
          refine lv_iconst (v := nI 1) C0.hx C0.hb dL_number_49 (by decide) ?_
          refine lv_goto (tgt := 54) C0.hx C0.hb dL_number_50 (by decide) ?_
          exact J54 1 _ _ ls ⟨⟨rfl, rfl, (by simp [isMt, c_19, c_16])⟩, (lv_sub hl [1, 2, 3, 4, 5, 6, 7, 8, 9, 10, 11, 0] rfl)⟩

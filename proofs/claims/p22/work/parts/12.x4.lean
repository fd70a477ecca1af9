set_option maxHeartbeats 4000000 in
set_option maxRecDepth 100000 in
theorem mtJ6_bitCount_0f7a4 (l : Launch) (g : xG) (a : xAd) (σ : xS) (x : Int32) : xMi l yJ6_bitCount_0f7a4 wsJ6_bitCount_0f7a4 ({ frames := 0, cells := 0, slots := 0, locals := 0 }) [] g a σ [.int x] (bcX x) := by
  unfold xMi
  refine Met.ofW (cc := cJ6_bitCount_0f7a4) (maxL := 1) (ret := (some .int)) (by decide) rfl ?_
  intro p e s m args below meth c s₁ B hml hv
  obtain ⟨rfl, hP, hK, hN, hj⟩ := hv
  have hr := B.returns
  have hlocks := B.notSynchronized
  have C0 : xC p s m _ c cJ6_bitCount_0f7a4 1 wsJ6_bitCount_0f7a4 RJ6 [] g a (xA [] a s.heap.size) := ⟨⟨B.exec, B.bytes, hml, findClass_of_methodNamed B.named, atoms_spec (ws := wsJ6_bitCount_0f7a4) B.pre⟩, hK, hN, hj, fun n h => Or.inl ⟨n, h, rfl⟩, fun q h => Or.inr h⟩
  have hS : va_S (xA [] a s.heap.size) s.heap s.heap [] := va_S.rf
  have hl := lv_entry ([.int x]) (n := 1) (Nat.le_of_ble_eq_true rfl)
  rw [lg_entry_eq]
  generalize (lg_sl ([.int x]) ++ List.replicate (1 - (lg_sl ([.int x])).length) Slot.unset).toArray = ls at hl ⊢
  have hl : lv_has ls 1 [(0, .int x)] := hl
  have k_0 : Cond.constant RJ6 265 (1431655765 : Int32) ∈ wsJ6_bitCount_0f7a4 := by decide +kernel
  have k_1 : Cond.constant RJ6 266 (858993459 : Int32) ∈ wsJ6_bitCount_0f7a4 := by decide +kernel
  have k_2 : Cond.constant RJ6 267 (252645135 : Int32) ∈ wsJ6_bitCount_0f7a4 := by decide +kernel
  refine lv_iload_n C0.hx C0.hb dJ6_bitCount_0f7a4_0 rfl (lv_at hl 0 rfl) ?_
  refine lv_iload_n C0.hx C0.hb dJ6_bitCount_0f7a4_1 rfl (lv_at hl 0 rfl) ?_
  refine lv_iconst (v := nI 1) C0.hx C0.hb dJ6_bitCount_0f7a4_2 (by decide) ?_
  refine lv_iushr (v := ush x (nI 1)) C0.hx C0.hb dJ6_bitCount_0f7a4_3 rfl ?_
  refine lv_ldcw C0.hx C0.hb C0.1.2.2.2.1 (C0.hts _ k_0) dJ6_bitCount_0f7a4_4 ?_
  refine lv_iand C0.hx C0.hb dJ6_bitCount_0f7a4_7 ?_
  refine lv_isub C0.hx C0.hb dJ6_bitCount_0f7a4_8 ?_
  refine x_top (show _ = bc1 x from rfl) ?_
  refine lv_istore_n (lv' := [(0, .int (bc1 x))]) C0.hx C0.hb dJ6_bitCount_0f7a4_9 rfl hl (by decide) rfl (fun ls hl => ?_)
  refine lv_iload_n C0.hx C0.hb dJ6_bitCount_0f7a4_10 rfl (lv_at hl 0 rfl) ?_
  refine lv_ldcw C0.hx C0.hb C0.1.2.2.2.1 (C0.hts _ k_1) dJ6_bitCount_0f7a4_11 ?_
  refine lv_iand C0.hx C0.hb dJ6_bitCount_0f7a4_14 ?_
  refine lv_iload_n C0.hx C0.hb dJ6_bitCount_0f7a4_15 rfl (lv_at hl 0 rfl) ?_
  refine lv_iconst (v := nI 2) C0.hx C0.hb dJ6_bitCount_0f7a4_16 (by decide) ?_
  refine lv_iushr (v := ush (bc1 x) (nI 2)) C0.hx C0.hb dJ6_bitCount_0f7a4_17 rfl ?_
  refine lv_ldcw C0.hx C0.hb C0.1.2.2.2.1 (C0.hts _ k_1) dJ6_bitCount_0f7a4_18 ?_
  refine lv_iand C0.hx C0.hb dJ6_bitCount_0f7a4_21 ?_
  refine lv_iadd C0.hx C0.hb dJ6_bitCount_0f7a4_22 ?_
  refine x_top (show _ = bc2 (bc1 x) from rfl) ?_
  refine lv_istore_n (lv' := [(0, .int (bc2 (bc1 x)))]) C0.hx C0.hb dJ6_bitCount_0f7a4_23 rfl hl (by decide) rfl (fun ls hl => ?_)
  refine lv_iload_n C0.hx C0.hb dJ6_bitCount_0f7a4_24 rfl (lv_at hl 0 rfl) ?_
  refine lv_iload_n C0.hx C0.hb dJ6_bitCount_0f7a4_25 rfl (lv_at hl 0 rfl) ?_
  refine lv_iconst (v := nI 4) C0.hx C0.hb dJ6_bitCount_0f7a4_26 (by decide) ?_
  refine lv_iushr (v := ush (bc2 (bc1 x)) (nI 4)) C0.hx C0.hb dJ6_bitCount_0f7a4_27 rfl ?_
  refine lv_iadd C0.hx C0.hb dJ6_bitCount_0f7a4_28 ?_
  refine lv_ldcw C0.hx C0.hb C0.1.2.2.2.1 (C0.hts _ k_2) dJ6_bitCount_0f7a4_29 ?_
  refine lv_iand C0.hx C0.hb dJ6_bitCount_0f7a4_32 ?_
  refine x_top (show _ = bc3 (bc2 (bc1 x)) from rfl) ?_
  refine lv_istore_n (lv' := [(0, .int (bc3 (bc2 (bc1 x))))]) C0.hx C0.hb dJ6_bitCount_0f7a4_33 rfl hl (by decide) rfl (fun ls hl => ?_)
  refine lv_iload_n C0.hx C0.hb dJ6_bitCount_0f7a4_34 rfl (lv_at hl 0 rfl) ?_
  refine lv_iload_n C0.hx C0.hb dJ6_bitCount_0f7a4_35 rfl (lv_at hl 0 rfl) ?_
  refine lv_bipush (v := nI 8) C0.hx C0.hb dJ6_bitCount_0f7a4_36 (by decide) ?_
  refine lv_iushr (v := ush (bc3 (bc2 (bc1 x))) (nI 8)) C0.hx C0.hb dJ6_bitCount_0f7a4_38 rfl ?_
  refine lv_iadd C0.hx C0.hb dJ6_bitCount_0f7a4_39 ?_
  refine x_top (show _ = bc4 (bc3 (bc2 (bc1 x))) from rfl) ?_
  refine lv_istore_n (lv' := [(0, .int (bc4 (bc3 (bc2 (bc1 x)))))]) C0.hx C0.hb dJ6_bitCount_0f7a4_40 rfl hl (by decide) rfl (fun ls hl => ?_)
  refine lv_iload_n C0.hx C0.hb dJ6_bitCount_0f7a4_41 rfl (lv_at hl 0 rfl) ?_
  refine lv_iload_n C0.hx C0.hb dJ6_bitCount_0f7a4_42 rfl (lv_at hl 0 rfl) ?_
  refine lv_bipush (v := nI 16) C0.hx C0.hb dJ6_bitCount_0f7a4_43 (by decide) ?_
  refine lv_iushr (v := ush (bc4 (bc3 (bc2 (bc1 x)))) (nI 16)) C0.hx C0.hb dJ6_bitCount_0f7a4_45 rfl ?_
  refine lv_iadd C0.hx C0.hb dJ6_bitCount_0f7a4_46 ?_
  refine x_top (show _ = bc5 (bc4 (bc3 (bc2 (bc1 x)))) from rfl) ?_
  refine lv_istore_n (lv' := [(0, .int (bc5 (bc4 (bc3 (bc2 (bc1 x))))))]) C0.hx C0.hb dJ6_bitCount_0f7a4_47 rfl hl (by decide) rfl (fun ls hl => ?_)
  refine lv_iload_n C0.hx C0.hb dJ6_bitCount_0f7a4_48 rfl (lv_at hl 0 rfl) ?_
  refine lv_bipush (v := nI 63) C0.hx C0.hb dJ6_bitCount_0f7a4_49 (by decide) ?_
  refine lv_iand C0.hx C0.hb dJ6_bitCount_0f7a4_51 ?_
  exact W.iret (v := (bc5 (bc4 (bc3 (bc2 (bc1 x))))) &&& (nI 63)) C0.hx C0.hb hr (fun t ht hW => ⟨_, rfl, rfl, ht⟩) (fun q h => nomatch h) dJ6_bitCount_0f7a4_52

set_option maxHeartbeats 4000000 in
set_option maxRecDepth 100000 in
theorem mtX4_isBelow (l : Launch) (g : xG) (a : xAd) (σ : xS) (x n : Int32) : xMi l yX4_isBelow wsX4_isBelow ({ frames := 0, cells := 0, slots := 0, locals := 0 }) [] g a σ [.int x, .int n] (bI (ibX x n)) := by
  unfold xMi
  refine Met.ofW (cc := cX4_isBelow) (maxL := 2) (ret := (some .boolean)) (by decide) rfl ?_
  intro p e s m args below meth c s₁ B hml hv
  obtain ⟨rfl, hP, hK, hN, hj⟩ := hv
  have hr := B.returns
  have hlocks := B.notSynchronized
  have C0 : xC p s m _ c cX4_isBelow 2 wsX4_isBelow RX4 [] g a (xA [] a s.heap.size) := ⟨⟨B.exec, B.bytes, hml, findClass_of_methodNamed B.named, atoms_spec (ws := wsX4_isBelow) B.pre⟩, hK, hN, hj, fun n h => Or.inl ⟨n, h, rfl⟩, fun q h => Or.inr h⟩
  have hS : va_S (xA [] a s.heap.size) s.heap s.heap [] := va_S.rf
  have hl := lv_entry ([.int x, .int n]) (n := 2) (Nat.le_of_ble_eq_true rfl)
  rw [lg_entry_eq]
  generalize (lg_sl ([.int x, .int n]) ++ List.replicate (2 - (lg_sl ([.int x, .int n])).length) Slot.unset).toArray = ls at hl ⊢
  have hl : lv_has ls 2 [(0, .int x), (1, .int n)] := hl
  refine x_join (α := Bool) 14 (fun b H' locs' ls => (H' = s.heap ∧ locs' = [] ∧ b = ibX x n) ∧ lv_has ls 2 [(0, .int x), (1, .int n)]) (fun b => [.int (bI b)]) ?_ (fun J14 => ?_)
  · rintro b _ _ ls ⟨⟨rfl, rfl, hj14_0⟩, hl⟩
    exact W.zret (v := bI b) C0.hx C0.hb hr (bI_nar _) (fun t ht hW => ⟨_, rfl, congrArg bI hj14_0, ht⟩) (fun q h => nomatch h) dX4_isBelow_14
  ·
    refine lv_iload_n C0.hx C0.hb dX4_isBelow_0 rfl (lv_at hl 0 rfl) ?_
    refine lv_if_lt (tgt := 13) C0.hx C0.hb dX4_isBelow_1 (by decide) (fun c_1 => ?_) (fun c_1 => ?_)
    ·
      refine lv_iconst (v := nI 0) C0.hx C0.hb dX4_isBelow_13 (by decide) ?_
      exact J14 false _ _ ls ⟨⟨rfl, rfl, (by simp [ibX, c_1])⟩, (lv_sub hl [0, 1] rfl)⟩
    ·
      refine lv_iload_n C0.hx C0.hb dX4_isBelow_4 rfl (lv_at hl 0 rfl) ?_
      refine lv_iload_n C0.hx C0.hb dX4_isBelow_5 rfl (lv_at hl 1 rfl) ?_
      refine lv_icmp_ge (tgt := 13) C0.hx C0.hb dX4_isBelow_6 (by decide) (fun c_2 => ?_) (fun c_2 => ?_)
      ·
        refine lv_iconst (v := nI 0) C0.hx C0.hb dX4_isBelow_13 (by decide) ?_
        exact J14 false _ _ ls ⟨⟨rfl, rfl, (by simp [ibX, c_2, c_1])⟩, (lv_sub hl [0, 1] rfl)⟩
      ·
        refine lv_iconst (v := nI 1) C0.hx C0.hb dX4_isBelow_9 (by decide) ?_
        refine lv_goto (tgt := 14) C0.hx C0.hb dX4_isBelow_10 (by decide) ?_
        exact J14 true _ _ ls ⟨⟨rfl, rfl, (by simp [ibX, c_2, c_1])⟩, (lv_sub hl [0, 1] rfl)⟩

set_option maxHeartbeats 4000000 in
set_option maxRecDepth 100000 in
theorem mtX4_mayFollow (l : Launch) (g : xG) (a : xAd) (σ : xS) (x y : Int32) : xMi l yX4_mayFollow wsX4_mayFollow ({ frames := 1, cells := 0, slots := 0, locals := 21 }) [] g a σ [.int x, .int y] (bI (mfX x y)) := by
  unfold xMi
  refine Met.ofW (cc := cX4_mayFollow) (maxL := 2) (ret := (some .boolean)) (by decide) rfl ?_
  intro p e s m args below meth c s₁ B hml hv
  obtain ⟨rfl, hP, hK, hN, hj⟩ := hv
  have hr := B.returns
  have hlocks := B.notSynchronized
  have C0 : xC p s m _ c cX4_mayFollow 2 wsX4_mayFollow RX4 [] g a (xA [] a s.heap.size) := ⟨⟨B.exec, B.bytes, hml, findClass_of_methodNamed B.named, atoms_spec (ws := wsX4_mayFollow) B.pre⟩, hK, hN, hj, fun n h => Or.inl ⟨n, h, rfl⟩, fun q h => Or.inr h⟩
  have hS : va_S (xA [] a s.heap.size) s.heap s.heap [] := va_S.rf
  have hl := lv_entry ([.int x, .int y]) (n := 2) (Nat.le_of_ble_eq_true rfl)
  rw [lg_entry_eq]
  generalize (lg_sl ([.int x, .int y]) ++ List.replicate (2 - (lg_sl ([.int x, .int y])).length) Slot.unset).toArray = ls at hl ⊢
  have hl : lv_has ls 2 [(0, .int x), (1, .int y)] := hl
  refine x_join (α := Bool) 25 (fun b H' locs' ls => (H' = s.heap ∧ locs' = [] ∧ b = mfX x y) ∧ lv_has ls 2 [(0, .int x), (1, .int y)]) (fun b => [.int (bI b)]) ?_ (fun J25 => ?_)
  · rintro b _ _ ls ⟨⟨rfl, rfl, hj25_0⟩, hl⟩
    exact W.zret (v := bI b) C0.hx C0.hb hr (bI_nar _) (fun t ht hW => ⟨_, rfl, congrArg bI hj25_0, ht⟩) (fun q h => nomatch h) dX4_mayFollow_25
  ·
    refine lv_iload_n C0.hx C0.hb dX4_mayFollow_0 rfl (lv_at hl 1 rfl) ?_
    refine lv_iconst (v := -1) C0.hx C0.hb dX4_mayFollow_1 (by decide) ?_
    refine lv_icmp_eq (tgt := 20) C0.hx C0.hb dX4_mayFollow_2 (by decide) (fun c_1 => ?_) (fun c_1 => ?_)
    ·
      refine lv_iconst (v := nI 1) C0.hx C0.hb dX4_mayFollow_20 (by decide) ?_
      refine lv_goto (tgt := 25) C0.hx C0.hb dX4_mayFollow_21 (by decide) ?_
      exact J25 true _ _ ls ⟨⟨rfl, rfl, (by simp [mfX, c_1])⟩, (lv_sub hl [0, 1] rfl)⟩
    ·
      refine lv_iload_n C0.hx C0.hb dX4_mayFollow_5 rfl (lv_at hl 0 rfl) ?_
      refine lv_iconst (v := -1) C0.hx C0.hb dX4_mayFollow_6 (by decide) ?_
      refine lv_icmp_eq (tgt := 24) C0.hx C0.hb dX4_mayFollow_7 (by decide) (fun c_2 => ?_) (fun c_2 => ?_)
      ·
        refine lv_iconst (v := nI 0) C0.hx C0.hb dX4_mayFollow_24 (by decide) ?_
        exact J25 false _ _ ls ⟨⟨rfl, rfl, (by simp [mfX, c_2, c_1])⟩, (lv_sub hl [0, 1] rfl)⟩
      ·
        refine lv_iload_n C0.hx C0.hb dX4_mayFollow_10 rfl (lv_at hl 1 rfl) ?_
        refine lv_sipush (v := nI 10000) C0.hx C0.hb dX4_mayFollow_11 (by decide) ?_
        refine x_Si (As := [.int y, .int (nI 10000)]) (rest := []) C0 (mtX4_isBelow l g a σ y (nI 10000)) hP C0.2.2.2.1 (va_cwS 2 C0.hts gX4_mayFollow_X4_isBelow rfl rfl rfl (by decide +kernel) ⟨Nat.le_of_ble_eq_true rfl, Nat.le_of_ble_eq_true rfl⟩) rfl hl rfl (Nat.le_of_ble_eq_true rfl) (Nat.zero_le _) (Nat.zero_le _) dX4_mayFollow_14 ?_
        refine x_ifeq (tgt := 24) C0.hx C0.hb dX4_mayFollow_17 (by decide) (fun c_3 => ?_) (fun c_3 => ?_)
        ·
          refine lv_iconst (v := nI 0) C0.hx C0.hb dX4_mayFollow_24 (by decide) ?_
          exact J25 false _ _ ls ⟨⟨rfl, rfl, (by simp [mfX, c_3, c_2, c_1])⟩, (lv_sub hl [0, 1] rfl)⟩
        ·
          refine lv_iconst (v := nI 1) C0.hx C0.hb dX4_mayFollow_20 (by decide) ?_
          refine lv_goto (tgt := 25) C0.hx C0.hb dX4_mayFollow_21 (by decide) ?_
          exact J25 true _ _ ls ⟨⟨rfl, rfl, (by simp [mfX, c_3, c_2, c_1])⟩, (lv_sub hl [0, 1] rfl)⟩

set_option maxHeartbeats 4000000 in
set_option maxRecDepth 100000 in
theorem mtX4_isOf (l : Launch) (g : xG) (a : xAd) (σ : xS) (r : Nat) (hr0 : r < 60) (nm : Int32) (v : Nat) (hv : v < 4) (ok : okX σ) : xMi l yX4_isOf wsX4_isOf ({ frames := 0, cells := 0, slots := 0, locals := 0 }) NLX g a σ [.ref (a 0 0), .int (nI r), .int nm, .int (nI v)] (bI (isOfX σ r nm v)) := by
  unfold xMi
  refine Met.ofW (cc := cX4_isOf) (maxL := 4) (ret := (some .boolean)) (by decide) rfl ?_
  intro p e s m args below meth c s₁ B hml hv
  obtain ⟨rfl, hP, hK, hN, hj⟩ := hv
  have hr := B.returns
  have hlocks := B.notSynchronized
  have C0 : xC p s m _ c cX4_isOf 4 wsX4_isOf RX4 NLX g a (xA NLX a s.heap.size) := ⟨⟨B.exec, B.bytes, hml, findClass_of_methodNamed B.named, atoms_spec (ws := wsX4_isOf) B.pre⟩, hK, hN, hj, fun n h => Or.inl ⟨n, h, rfl⟩, fun q h => Or.inr h⟩
  have hS : va_S (xA NLX a s.heap.size) s.heap s.heap [] := va_S.rf
  have hl := lv_entry ([.ref (a 0 0), .int (nI r), .int nm, .int (nI v)]) (n := 4) (Nat.le_of_ble_eq_true rfl)
  rw [lg_entry_eq]
  generalize (lg_sl ([.ref (a 0 0), .int (nI r), .int nm, .int (nI v)]) ++ List.replicate (4 - (lg_sl ([.ref (a 0 0), .int (nI r), .int nm, .int (nI v)])).length) Slot.unset).toArray = ls at hl ⊢
  have hl : lv_has ls 4 [(0, .ref (a 0 0)), (1, .int (nI r)), (2, .int nm), (3, .int (nI v))] := hl
  have k_0 : Cond.fieldLink RX4 33 RX4 (TX4 3).2.1 (TX4 3).2.2.1 ∈ wsX4_isOf := by decide +kernel
  have i_X4 : ∀ w ∈ wsX40, w ∈ wsX4_isOf := by decide +kernel
  have q_2 : Cond.fieldLinkNest RX4 133 RX1 (TX1 3).2.1 (TX1 3).2.2.1 RX4 ∈ xNs := by decide +kernel
  have i_X1 : ∀ w ∈ wsX10, w ∈ wsX4_isOf := by decide +kernel
  have k_4 : Cond.fieldLink RX4 26 RX4 (TX4 2).2.1 (TX4 2).2.2.1 ∈ wsX4_isOf := by decide +kernel
  have q_5 : Cond.fieldLinkNest RX4 167 RX2 (TX2 1).2.1 (TX2 1).2.2.1 RX4 ∈ xNs := by decide +kernel
  have i_X2 : ∀ w ∈ wsX20, w ∈ wsX4_isOf := by decide +kernel
  refine lv_aload_n C0.hx C0.hb dX4_isOf_0 rfl (lv_at hl 0 rfl) ?_
  refine x_get C0 hP 0 (mX_n rfl) rfl rfl 3 (by decide) i_X4 k_0 rfl rfl dX4_isOf_1 ?_
  refine x_getN C0 hP 4 (mX_n rfl) rfl rfl 3 (by decide) i_X1 q_2 rfl rfl dX4_isOf_4 ?_
  refine lv_iload_n C0.hx C0.hb dX4_isOf_7 rfl (lv_at hl 1 rfl) ?_
  refine x_iald C0 hP 19 r 60 (mX_n rfl) rfl (by omega) (by decide) dX4_isOf_8 ?_
  refine x_join (α := Bool) 31 (fun b H' locs' ls => (H' = s.heap ∧ locs' = [] ∧ b = isOfX σ r nm v) ∧ lv_has ls 4 [(0, .ref (a 0 0)), (1, .int (nI r)), (2, .int nm), (3, .int (nI v))]) (fun b => [.int (bI b)]) ?_ (fun J31 => ?_)
  · rintro b _ _ ls ⟨⟨rfl, rfl, hj31_0⟩, hl⟩
    exact W.zret (v := bI b) C0.hx C0.hb hr (bI_nar _) (fun t ht hW => ⟨_, rfl, congrArg bI hj31_0, ht⟩) (fun q h => nomatch h) dX4_isOf_31
  ·
    refine lv_iload_n C0.hx C0.hb dX4_isOf_9 rfl (lv_at hl 2 rfl) ?_
    refine lv_icmp_ne (tgt := 30) C0.hx C0.hb dX4_isOf_10 (by decide) (fun c_1 => ?_) (fun c_1 => ?_)
    ·
      refine lv_iconst (v := nI 0) C0.hx C0.hb dX4_isOf_30 (by decide) ?_
      exact J31 false _ _ ls ⟨⟨rfl, rfl, (by simp [isOfX, c_1])⟩, (lv_sub hl [0, 1, 2, 3] rfl)⟩
    ·
      refine lv_aload_n C0.hx C0.hb dX4_isOf_13 rfl (lv_at hl 0 rfl) ?_
      refine x_get C0 hP 0 (mX_n rfl) rfl rfl 2 (by decide) i_X4 k_4 rfl rfl dX4_isOf_14 ?_
      refine x_getN C0 hP 3 (mX_n rfl) rfl rfl 1 (by decide) i_X2 q_5 rfl rfl dX4_isOf_17 ?_
      refine lv_iload_n C0.hx C0.hb dX4_isOf_20 rfl (lv_at hl 1 rfl) ?_
      refine x_iald C0 hP 12 r 60 (mX_n rfl) rfl (by omega) (by decide) dX4_isOf_21 ?_
      obtain ⟨e_2, b_3⟩ := (ok.ver (by omega) : inR (σ 12 0 r) _)
      refine x_top e_2 ?_
      refine lv_iload_n C0.hx C0.hb dX4_isOf_22 rfl (lv_at hl 3 rfl) ?_
      refine x_icmp_ne (tgt := 30) C0.hx C0.hb (by omega) (by omega) dX4_isOf_23 (by decide) (fun c_4 => ?_) (fun c_4 => ?_)
      ·
        refine lv_iconst (v := nI 0) C0.hx C0.hb dX4_isOf_30 (by decide) ?_
        exact J31 false _ _ ls ⟨⟨rfl, rfl, (by simp [isOfX, c_4, c_1])⟩, (lv_sub hl [0, 1, 2, 3] rfl)⟩
      ·
        refine lv_iconst (v := nI 1) C0.hx C0.hb dX4_isOf_26 (by decide) ?_
        refine lv_goto (tgt := 31) C0.hx C0.hb dX4_isOf_27 (by decide) ?_
        exact J31 true _ _ ls ⟨⟨rfl, rfl, (by simp [isOfX, c_4, c_1])⟩, (lv_sub hl [0, 1, 2, 3] rfl)⟩

set_option maxHeartbeats 4000000 in
set_option maxRecDepth 100000 in
theorem mtX4_countIn (l : Launch) (g : xG) (a : xAd) (σ : xS) (nm : Int32) (v : Nat) (hv : v < 4) (ok : okX σ) : xMi l yX4_countIn wsX4_countIn ({ frames := 1, cells := 0, slots := 0, locals := 23 }) NLX g a σ [.ref (a 0 0), .int nm, .int (nI v)] (nI (coX σ nm v)) := by
  unfold xMi
  refine Met.ofW (cc := cX4_countIn) (maxL := 5) (ret := (some .int)) (by decide) rfl ?_
  intro p e s m args below meth c s₁ B hml hv
  obtain ⟨rfl, hP, hK, hN, hj⟩ := hv
  have hr := B.returns
  have hlocks := B.notSynchronized
  have C0 : xC p s m _ c cX4_countIn 5 wsX4_countIn RX4 NLX g a (xA NLX a s.heap.size) := ⟨⟨B.exec, B.bytes, hml, findClass_of_methodNamed B.named, atoms_spec (ws := wsX4_countIn) B.pre⟩, hK, hN, hj, fun n h => Or.inl ⟨n, h, rfl⟩, fun q h => Or.inr h⟩
  have hS : va_S (xA NLX a s.heap.size) s.heap s.heap [] := va_S.rf
  have hl := lv_entry ([.ref (a 0 0), .int nm, .int (nI v)]) (n := 5) (Nat.le_of_ble_eq_true rfl)
  rw [lg_entry_eq]
  generalize (lg_sl ([.ref (a 0 0), .int nm, .int (nI v)]) ++ List.replicate (5 - (lg_sl ([.ref (a 0 0), .int nm, .int (nI v)])).length) Slot.unset).toArray = ls at hl ⊢
  have hl : lv_has ls 5 [(0, .ref (a 0 0)), (1, .int nm), (2, .int (nI v))] := hl
  have k_0 : Cond.fieldLink RX4 26 RX4 (TX4 2).2.1 (TX4 2).2.2.1 ∈ wsX4_countIn := by decide +kernel
  have i_X4 : ∀ w ∈ wsX40, w ∈ wsX4_countIn := by decide +kernel
  have q_2 : Cond.fieldLinkNest RX4 103 RX2 (TX2 0).2.1 (TX2 0).2.2.1 RX4 ∈ xNs := by decide +kernel
  have i_X2 : ∀ w ∈ wsX20, w ∈ wsX4_countIn := by decide +kernel
  refine lv_iconst (v := nI 0) C0.hx C0.hb dX4_countIn_0 (by decide) ?_
  refine lv_istore_n (lv' := [(3, .int (nI 0)), (0, .ref (a 0 0)), (1, .int nm), (2, .int (nI v))]) C0.hx C0.hb dX4_countIn_1 rfl hl (by decide) rfl (fun ls hl => ?_)
  refine lv_iconst (v := nI 0) C0.hx C0.hb dX4_countIn_2 (by decide) ?_
  refine lv_istore (lv' := [(4, .int (nI 0)), (3, .int (nI 0)), (0, .ref (a 0 0)), (1, .int nm), (2, .int (nI v))]) C0.hx C0.hb dX4_countIn_3 hl (by decide) rfl (fun ls hl => ?_)
  refine x_loopR (α := Nat) (fun k => 60 - k) (fun k ls => k ≤ nv (σ 3 0 0) ∧ lv_has ls 5 [(0, .ref (a 0 0)), (1, .int nm), (2, .int (nI v)), (3, .int (nI (ciX σ nm v k))), (4, .int (nI k))]) ?_ 0 ⟨(by omega), (lv_sub hl [2, 3, 4, 1, 0] rfl)⟩
  rintro k ls ⟨h5_0, hl⟩ ih5
  have hn := ok.n.2
  refine lv_iload C0.hx C0.hb dX4_countIn_5 (lv_at hl 4 rfl) ?_
  refine lv_aload_n C0.hx C0.hb dX4_countIn_7 rfl (lv_at hl 0 rfl) ?_
  refine x_get C0 hP 0 (mX_n rfl) rfl rfl 2 (by decide) i_X4 k_0 rfl rfl dX4_countIn_8 ?_
  refine x_getN C0 hP 3 (mX_n rfl) rfl rfl 0 (by decide) i_X2 q_2 rfl rfl dX4_countIn_11 ?_
  obtain ⟨e_1, b_2⟩ := (ok.n : inR (σ 3 0 0) _)
  refine x_top e_1 ?_
  refine x_icmp_ge (tgt := 37) C0.hx C0.hb (by omega) (by omega) dX4_countIn_14 (by decide) (fun c_3 => ?_) (fun c_3 => ?_)
  ·
    refine lv_iload_n C0.hx C0.hb dX4_countIn_37 rfl (lv_at hl 3 rfl) ?_
    exact W.iret (v := nI (ciX σ nm v k)) C0.hx C0.hb hr (fun t ht hW => ⟨_, rfl, (by rw [show k = nv (σ 3 0 0) by omega]; rfl), ht⟩) (fun q h => nomatch h) dX4_countIn_38
  ·
    refine lv_aload_n C0.hx C0.hb dX4_countIn_17 rfl (lv_at hl 0 rfl) ?_
    refine lv_iload C0.hx C0.hb dX4_countIn_18 (lv_at hl 4 rfl) ?_
    refine lv_iload_n C0.hx C0.hb dX4_countIn_20 rfl (lv_at hl 1 rfl) ?_
    refine lv_iload_n C0.hx C0.hb dX4_countIn_21 rfl (lv_at hl 2 rfl) ?_
    refine x_Vi (As := [.int (nI k), .int nm, .int (nI v)]) (rest := []) C0 (mtX4_isOf l g a σ k (by omega) nm v (by omega) ok) hP C0.2.2.2.1 (cwV 3 C0.hts gX4_countIn_X4_isOf rfl rfl rfl (by decide +kernel) ⟨Nat.le_of_ble_eq_true rfl, Nat.le_of_ble_eq_true rfl⟩) (x_recv C0 hP 0 (mX_n rfl) rfl rfl) rfl hl rfl (Nat.le_of_ble_eq_true rfl) (Nat.zero_le _) (Nat.zero_le _) dX4_countIn_22 ?_
    refine x_ifeq (tgt := 31) C0.hx C0.hb dX4_countIn_25 (by decide) (fun c_4 => ?_) (fun c_4 => ?_)
    ·
      have e31 : ciX σ nm v (k + 1) = ciX σ nm v k := by rw [ciX, if_neg (by rw [c_4]; decide)]; rfl
      rw [← e31] at hl
      refine lv_iinc (v := nI (k + 1)) (lv' := [(4, .int (nI (k + 1))), (0, .ref (a 0 0)), (1, .int nm), (2, .int (nI v)), (3, .int (nI (ciX σ nm v (k + 1))))]) C0.hx C0.hb dX4_countIn_31 hl (k := 4) rfl (nI_1 k) (by decide) rfl (fun ls hl => ?_)
      refine lv_goto (tgt := 5) C0.hx C0.hb dX4_countIn_34 (by decide) ?_
      exact ih5 ((k + 1)) ls ⟨(by omega), (lv_sub hl [1, 2, 3, 4, 0] rfl)⟩ (by omega)
    ·
      refine lv_iinc (v := nI (ciX σ nm v k + 1)) (lv' := [(3, .int (nI (ciX σ nm v k + 1))), (0, .ref (a 0 0)), (1, .int nm), (2, .int (nI v)), (4, .int (nI k))]) C0.hx C0.hb dX4_countIn_28 hl (k := 3) rfl (nI_1 (ciX σ nm v k)) (by decide) rfl (fun ls hl => ?_)
      have e31 : ciX σ nm v (k + 1) = ciX σ nm v k + 1 := by rw [ciX, if_pos c_4]
      rw [← e31] at hl
      refine lv_iinc (v := nI (k + 1)) (lv' := [(4, .int (nI (k + 1))), (3, .int (nI (ciX σ nm v (k + 1)))), (0, .ref (a 0 0)), (1, .int nm), (2, .int (nI v))]) C0.hx C0.hb dX4_countIn_31 hl (k := 4) rfl (nI_1 k) (by decide) rfl (fun ls hl => ?_)
      refine lv_goto (tgt := 5) C0.hx C0.hb dX4_countIn_34 (by decide) ?_
      exact ih5 ((k + 1)) ls ⟨(by omega), (lv_sub hl [2, 3, 4, 1, 0] rfl)⟩ (by omega)

set_option maxHeartbeats 4000000 in
set_option maxRecDepth 100000 in
theorem mtX4_rateOf (l : Launch) (g : xG) (a : xAd) (σ : xS) (nm : Int32) (v : Nat) (hv : v < 4) (ok : okX σ) : xMi l yX4_rateOf wsX4_rateOf ({ frames := 2, cells := 0, slots := 0, locals := 47 }) NLX g a σ [.ref (a 0 0), .int nm, .int (nI v)] (nI (rtX σ nm v)) := by
  unfold xMi
  refine Met.ofW (cc := cX4_rateOf) (maxL := 4) (ret := (some .int)) (by decide) rfl ?_
  intro p e s m args below meth c s₁ B hml hv
  obtain ⟨rfl, hP, hK, hN, hj⟩ := hv
  have hr := B.returns
  have hlocks := B.notSynchronized
  have C0 : xC p s m _ c cX4_rateOf 4 wsX4_rateOf RX4 NLX g a (xA NLX a s.heap.size) := ⟨⟨B.exec, B.bytes, hml, findClass_of_methodNamed B.named, atoms_spec (ws := wsX4_rateOf) B.pre⟩, hK, hN, hj, fun n h => Or.inl ⟨n, h, rfl⟩, fun q h => Or.inr h⟩
  have hS : va_S (xA NLX a s.heap.size) s.heap s.heap [] := va_S.rf
  have hl := lv_entry ([.ref (a 0 0), .int nm, .int (nI v)]) (n := 4) (Nat.le_of_ble_eq_true rfl)
  rw [lg_entry_eq]
  generalize (lg_sl ([.ref (a 0 0), .int nm, .int (nI v)]) ++ List.replicate (4 - (lg_sl ([.ref (a 0 0), .int nm, .int (nI v)])).length) Slot.unset).toArray = ls at hl ⊢
  have hl : lv_has ls 4 [(0, .ref (a 0 0)), (1, .int nm), (2, .int (nI v))] := hl
  have k_0 : Cond.fieldLink RX4 37 RX4 (TX4 4).2.1 (TX4 4).2.2.1 ∈ wsX4_rateOf := by decide +kernel
  have i_X4 : ∀ w ∈ wsX40, w ∈ wsX4_rateOf := by decide +kernel
  refine lv_aload_n C0.hx C0.hb dX4_rateOf_0 rfl (lv_at hl 0 rfl) ?_
  refine x_get C0 hP 0 (mX_n rfl) rfl rfl 4 (by decide) i_X4 k_0 rfl rfl dX4_rateOf_1 ?_
  refine lv_iload_n C0.hx C0.hb dX4_rateOf_4 rfl (lv_at hl 2 rfl) ?_
  refine x_iald C0 hP 5 v 4 (mX_n rfl) rfl (by omega) (by decide) dX4_rateOf_5 ?_
  obtain ⟨e_1, b_2⟩ := (ok.ses (by omega) : inR (σ 5 0 v) _)
  refine x_top e_1 ?_
  refine lv_istore_n (lv' := [(3, .int (nI (nv (σ 5 0 v)))), (0, .ref (a 0 0)), (1, .int nm), (2, .int (nI v))]) C0.hx C0.hb dX4_rateOf_6 rfl hl (by decide) rfl (fun ls hl => ?_)
  refine x_join (α := Nat) 27 (fun z H' locs' ls => (H' = s.heap ∧ locs' = [] ∧ z = rtX σ nm v) ∧ lv_has ls 4 [(0, .ref (a 0 0)), (1, .int nm), (2, .int (nI v)), (3, .int (nI (nv (σ 5 0 v))))]) (fun z => [.int (nI z)]) ?_ (fun J27 => ?_)
  · rintro z _ _ ls ⟨⟨rfl, rfl, hj27_0⟩, hl⟩
    exact W.iret (v := nI z) C0.hx C0.hb hr (fun t ht hW => ⟨_, rfl, (by rw [hj27_0]), ht⟩) (fun q h => nomatch h) dX4_rateOf_27
  ·
    have hco := coX_le (nm := nm) (v := v) ok
    refine lv_iload_n C0.hx C0.hb dX4_rateOf_7 rfl (lv_at hl 0 rfl) ?_
    refine x_ifle (tgt := 26) C0.hx C0.hb (by omega) dX4_rateOf_8 (by decide) (fun c_3 => ?_) (fun c_3 => ?_)
    ·
      refine lv_iconst (v := nI 0) C0.hx C0.hb dX4_rateOf_26 (by decide) ?_
      exact J27 0 _ _ ls ⟨⟨rfl, rfl, (by unfold rtX; rw [c_3, Nat.div_zero])⟩, (lv_sub hl [1, 2, 3, 0] rfl)⟩
    ·
      refine lv_sipush (v := nI 10000) C0.hx C0.hb dX4_rateOf_11 (by decide) ?_
      refine lv_aload_n C0.hx C0.hb dX4_rateOf_14 rfl (lv_at hl 1 rfl) ?_
      refine lv_iload_n C0.hx C0.hb dX4_rateOf_15 rfl (lv_at hl 2 rfl) ?_
      refine lv_iload_n C0.hx C0.hb dX4_rateOf_16 rfl (lv_at hl 3 rfl) ?_
      refine x_Vi (As := [.int nm, .int (nI v)]) (rest := [.int (nI 10000)]) C0 (mtX4_countIn l g a σ nm v (by omega) ok) hP C0.2.2.2.1 (cwV 2 C0.hts gX4_rateOf_X4_countIn rfl rfl rfl (by decide +kernel) ⟨Nat.le_of_ble_eq_true rfl, Nat.le_of_ble_eq_true rfl⟩) (x_recv C0 hP 0 (mX_n rfl) rfl rfl) rfl hl rfl (Nat.le_of_ble_eq_true rfl) (Nat.zero_le _) (Nat.zero_le _) dX4_rateOf_17 ?_
      refine lv_imul C0.hx C0.hb dX4_rateOf_20 ?_
      refine x_top (pk_mul 10000 (coX σ nm v)) ?_
      refine lv_iload_n C0.hx C0.hb dX4_rateOf_21 rfl (lv_at hl 0 rfl) ?_
      refine lv_idiv C0.hx C0.hb dX4_rateOf_22 (nI_ne0 (by omega) (by omega)) ?_
      refine x_top (pk_div (by omega) (by omega) (by omega)) ?_
      refine lv_goto (tgt := 27) C0.hx C0.hb dX4_rateOf_23 (by decide) ?_
      exact J27 ((10000 * (coX σ nm v)) / (nv (σ 5 0 v))) _ _ ls ⟨⟨rfl, rfl, rfl⟩, (lv_sub hl [1, 2, 3, 0] rfl)⟩

set_option maxHeartbeats 4000000 in
set_option maxRecDepth 100000 in
theorem mtX4_usersOf (l : Launch) (g : xG) (a : xAd) (σ : xS) (nm : Int32) (v : Nat) (hv : v < 4) (ok : okX σ) : xMi l yX4_usersOf wsX4_usersOf ({ frames := 1, cells := 0, slots := 0, locals := 23 }) NLX g a σ [.ref (a 0 0), .int nm, .int (nI v)] (ucX σ nm v) := by
  unfold xMi
  refine Met.ofW (cc := cX4_usersOf) (maxL := 5) (ret := (some .int)) (by decide) rfl ?_
  intro p e s m args below meth c s₁ B hml hv
  obtain ⟨rfl, hP, hK, hN, hj⟩ := hv
  have hr := B.returns
  have hlocks := B.notSynchronized
  have C0 : xC p s m _ c cX4_usersOf 5 wsX4_usersOf RX4 NLX g a (xA NLX a s.heap.size) := ⟨⟨B.exec, B.bytes, hml, findClass_of_methodNamed B.named, atoms_spec (ws := wsX4_usersOf) B.pre⟩, hK, hN, hj, fun n h => Or.inl ⟨n, h, rfl⟩, fun q h => Or.inr h⟩
  have hS : va_S (xA NLX a s.heap.size) s.heap s.heap [] := va_S.rf
  have hl := lv_entry ([.ref (a 0 0), .int nm, .int (nI v)]) (n := 5) (Nat.le_of_ble_eq_true rfl)
  rw [lg_entry_eq]
  generalize (lg_sl ([.ref (a 0 0), .int nm, .int (nI v)]) ++ List.replicate (5 - (lg_sl ([.ref (a 0 0), .int nm, .int (nI v)])).length) Slot.unset).toArray = ls at hl ⊢
  have hl : lv_has ls 5 [(0, .ref (a 0 0)), (1, .int nm), (2, .int (nI v))] := hl
  have k_0 : Cond.fieldLink RX4 26 RX4 (TX4 2).2.1 (TX4 2).2.2.1 ∈ wsX4_usersOf := by decide +kernel
  have i_X4 : ∀ w ∈ wsX40, w ∈ wsX4_usersOf := by decide +kernel
  have q_2 : Cond.fieldLinkNest RX4 103 RX2 (TX2 0).2.1 (TX2 0).2.2.1 RX4 ∈ xNs := by decide +kernel
  have i_X2 : ∀ w ∈ wsX20, w ∈ wsX4_usersOf := by decide +kernel
  have q_4 : Cond.fieldLinkNest RX4 173 RX2 (TX2 2).2.1 (TX2 2).2.2.1 RX4 ∈ xNs := by decide +kernel
  refine lv_iconst (v := nI 0) C0.hx C0.hb dX4_usersOf_0 (by decide) ?_
  refine lv_istore_n (lv' := [(3, .int (nI 0)), (0, .ref (a 0 0)), (1, .int nm), (2, .int (nI v))]) C0.hx C0.hb dX4_usersOf_1 rfl hl (by decide) rfl (fun ls hl => ?_)
  refine lv_iconst (v := nI 0) C0.hx C0.hb dX4_usersOf_2 (by decide) ?_
  refine lv_istore (lv' := [(4, .int (nI 0)), (3, .int (nI 0)), (0, .ref (a 0 0)), (1, .int nm), (2, .int (nI v))]) C0.hx C0.hb dX4_usersOf_3 hl (by decide) rfl (fun ls hl => ?_)
  refine x_loopR (α := Nat) (fun k => 60 - k) (fun k ls => k ≤ nv (σ 3 0 0) ∧ lv_has ls 5 [(0, .ref (a 0 0)), (1, .int nm), (2, .int (nI v)), (3, .int (usX σ nm v k)), (4, .int (nI k))]) ?_ 0 ⟨(by omega), (lv_sub hl [2, 3, 4, 1, 0] rfl)⟩
  rintro k ls ⟨h5_0, hl⟩ ih5
  have hn := ok.n.2
  refine lv_iload C0.hx C0.hb dX4_usersOf_5 (lv_at hl 4 rfl) ?_
  refine lv_aload_n C0.hx C0.hb dX4_usersOf_7 rfl (lv_at hl 0 rfl) ?_
  refine x_get C0 hP 0 (mX_n rfl) rfl rfl 2 (by decide) i_X4 k_0 rfl rfl dX4_usersOf_8 ?_
  refine x_getN C0 hP 3 (mX_n rfl) rfl rfl 0 (by decide) i_X2 q_2 rfl rfl dX4_usersOf_11 ?_
  obtain ⟨e_1, b_2⟩ := (ok.n : inR (σ 3 0 0) _)
  refine x_top e_1 ?_
  refine x_icmp_ge (tgt := 49) C0.hx C0.hb (by omega) (by omega) dX4_usersOf_14 (by decide) (fun c_3 => ?_) (fun c_3 => ?_)
  ·
    refine lv_iload_n C0.hx C0.hb dX4_usersOf_49 rfl (lv_at hl 3 rfl) ?_
    refine x_Si (As := [.int (usX σ nm v k)]) (rest := []) C0 (mtJ6_bitCount_0f7a4 l g a σ (usX σ nm v k)) (xP0 _) xDj0 (va_cwS 1 C0.hts gX4_usersOf_J6_bitCount_0f7a4 rfl rfl rfl (by decide +kernel) ⟨Nat.le_of_ble_eq_true rfl, Nat.le_of_ble_eq_true rfl⟩) rfl hl rfl (Nat.le_of_ble_eq_true rfl) (Nat.zero_le _) (Nat.zero_le _) dX4_usersOf_50 ?_
    exact W.iret (v := bcX (usX σ nm v k)) C0.hx C0.hb hr (fun t ht hW => ⟨_, rfl, (by rw [show k = nv (σ 3 0 0) by omega]; rfl), ht⟩) (fun q h => nomatch h) dX4_usersOf_53
  ·
    refine lv_aload_n C0.hx C0.hb dX4_usersOf_17 rfl (lv_at hl 0 rfl) ?_
    refine lv_iload C0.hx C0.hb dX4_usersOf_18 (lv_at hl 4 rfl) ?_
    refine lv_iload_n C0.hx C0.hb dX4_usersOf_20 rfl (lv_at hl 1 rfl) ?_
    refine lv_iload_n C0.hx C0.hb dX4_usersOf_21 rfl (lv_at hl 2 rfl) ?_
    refine x_Vi (As := [.int (nI k), .int nm, .int (nI v)]) (rest := []) C0 (mtX4_isOf l g a σ k (by omega) nm v (by omega) ok) hP C0.2.2.2.1 (cwV 3 C0.hts gX4_usersOf_X4_isOf rfl rfl rfl (by decide +kernel) ⟨Nat.le_of_ble_eq_true rfl, Nat.le_of_ble_eq_true rfl⟩) (x_recv C0 hP 0 (mX_n rfl) rfl rfl) rfl hl rfl (Nat.le_of_ble_eq_true rfl) (Nat.zero_le _) (Nat.zero_le _) dX4_usersOf_22 ?_
    refine x_ifeq (tgt := 43) C0.hx C0.hb dX4_usersOf_25 (by decide) (fun c_4 => ?_) (fun c_4 => ?_)
    ·
      have e43 : usX σ nm v (k + 1) = usX σ nm v k := by rw [usX, if_neg (by rw [c_4]; decide)]
      rw [← e43] at hl
      refine lv_iinc (v := nI (k + 1)) (lv' := [(4, .int (nI (k + 1))), (0, .ref (a 0 0)), (1, .int nm), (2, .int (nI v)), (3, .int (usX σ nm v (k + 1)))]) C0.hx C0.hb dX4_usersOf_43 hl (k := 4) rfl (nI_1 k) (by decide) rfl (fun ls hl => ?_)
      refine lv_goto (tgt := 5) C0.hx C0.hb dX4_usersOf_46 (by decide) ?_
      exact ih5 ((k + 1)) ls ⟨(by omega), (lv_sub hl [1, 2, 3, 4, 0] rfl)⟩ (by omega)
    ·
      refine lv_iload_n C0.hx C0.hb dX4_usersOf_28 rfl (lv_at hl 3 rfl) ?_
      refine lv_iconst (v := nI 1) C0.hx C0.hb dX4_usersOf_29 (by decide) ?_
      refine lv_aload_n C0.hx C0.hb dX4_usersOf_30 rfl (lv_at hl 0 rfl) ?_
      refine x_get C0 hP 0 (mX_n rfl) rfl rfl 2 (by decide) i_X4 k_0 rfl rfl dX4_usersOf_31 ?_
      refine x_getN C0 hP 3 (mX_n rfl) rfl rfl 2 (by decide) i_X2 q_4 rfl rfl dX4_usersOf_34 ?_
      refine lv_iload C0.hx C0.hb dX4_usersOf_37 (lv_at hl 4 rfl) ?_
      refine x_iald C0 hP 13 k 60 (mX_n rfl) rfl (by omega) (by decide) dX4_usersOf_39 ?_
      obtain ⟨e_5, b_6⟩ := (ok.usr (by omega) : inR (σ 13 0 k) _)
      refine x_top e_5 ?_
      refine lv_ishl C0.hx C0.hb dX4_usersOf_40 ?_
      refine lv_ior C0.hx C0.hb dX4_usersOf_41 ?_
      refine lv_istore_n (lv' := [(3, .int ((usX σ nm v k) ||| ((nI 1) <<< ((nI (nv (σ 13 0 k))) &&& 31)))), (0, .ref (a 0 0)), (1, .int nm), (2, .int (nI v)), (4, .int (nI k))]) C0.hx C0.hb dX4_usersOf_42 rfl hl (by decide) rfl (fun ls hl => ?_)
      have e43 : usX σ nm v (k + 1) = (usX σ nm v k) ||| ((nI 1) <<< ((nI (nv (σ 13 0 k))) &&& 31)) := by rw [usX, if_pos c_4]
      rw [← e43] at hl
      refine lv_iinc (v := nI (k + 1)) (lv' := [(4, .int (nI (k + 1))), (3, .int (usX σ nm v (k + 1))), (0, .ref (a 0 0)), (1, .int nm), (2, .int (nI v))]) C0.hx C0.hb dX4_usersOf_43 hl (k := 4) rfl (nI_1 k) (by decide) rfl (fun ls hl => ?_)
      refine lv_goto (tgt := 5) C0.hx C0.hb dX4_usersOf_46 (by decide) ?_
      exact ih5 ((k + 1)) ls ⟨(by omega), (lv_sub hl [2, 3, 4, 1, 0] rfl)⟩ (by omega)

set_option maxHeartbeats 4000000 in
set_option maxRecDepth 100000 in
theorem mtX4_greatestRateBefore (l : Launch) (g : xG) (a : xAd) (σ : xS) (nm : Int32) (n : Nat) (hn : n ≤ 4) (ok : okX σ) : xMi l yX4_greatestRateBefore wsX4_greatestRateBefore ({ frames := 3, cells := 0, slots := 0, locals := 70 }) NLX g a σ [.ref (a 0 0), .int nm, .int (nI n)] (nI (grX σ nm n)) := by
  unfold xMi
  refine Met.ofW (cc := cX4_greatestRateBefore) (maxL := 5) (ret := (some .int)) (by decide) rfl ?_
  intro p e s m args below meth c s₁ B hml hv
  obtain ⟨rfl, hP, hK, hN, hj⟩ := hv
  have hr := B.returns
  have hlocks := B.notSynchronized
  have C0 : xC p s m _ c cX4_greatestRateBefore 5 wsX4_greatestRateBefore RX4 NLX g a (xA NLX a s.heap.size) := ⟨⟨B.exec, B.bytes, hml, findClass_of_methodNamed B.named, atoms_spec (ws := wsX4_greatestRateBefore) B.pre⟩, hK, hN, hj, fun n h => Or.inl ⟨n, h, rfl⟩, fun q h => Or.inr h⟩
  have hS : va_S (xA NLX a s.heap.size) s.heap s.heap [] := va_S.rf
  have hl := lv_entry ([.ref (a 0 0), .int nm, .int (nI n)]) (n := 5) (Nat.le_of_ble_eq_true rfl)
  rw [lg_entry_eq]
  generalize (lg_sl ([.ref (a 0 0), .int nm, .int (nI n)]) ++ List.replicate (5 - (lg_sl ([.ref (a 0 0), .int nm, .int (nI n)])).length) Slot.unset).toArray = ls at hl ⊢
  have hl : lv_has ls 5 [(0, .ref (a 0 0)), (1, .int nm), (2, .int (nI n))] := hl
  have k_0 : Cond.methodLink RX4 182 Lib.Math.max.name ∈ wsX4_greatestRateBefore := by decide +kernel
  have k_1 : Cond.static Lib.Math.max.name ∈ wsX4_greatestRateBefore := by decide +kernel
  have k_2 : Cond.initialized "java/lang/Math" ∈ wsX4_greatestRateBefore := by decide +kernel
  have k_3 : Cond.code Lib.Math.max.name Lib.Math.max.code 2 (some .int) ∈ wsX4_greatestRateBefore := by decide +kernel
  refine lv_iconst (v := nI 0) C0.hx C0.hb dX4_greatestRateBefore_0 (by decide) ?_
  refine lv_istore_n (lv' := [(3, .int (nI 0)), (0, .ref (a 0 0)), (1, .int nm), (2, .int (nI n))]) C0.hx C0.hb dX4_greatestRateBefore_1 rfl hl (by decide) rfl (fun ls hl => ?_)
  refine lv_iconst (v := nI 0) C0.hx C0.hb dX4_greatestRateBefore_2 (by decide) ?_
  refine lv_istore (lv' := [(4, .int (nI 0)), (3, .int (nI 0)), (0, .ref (a 0 0)), (1, .int nm), (2, .int (nI n))]) C0.hx C0.hb dX4_greatestRateBefore_3 hl (by decide) rfl (fun ls hl => ?_)
  refine x_loopR (α := Nat) (fun k => n - k) (fun k ls => k ≤ n ∧ lv_has ls 5 [(0, .ref (a 0 0)), (1, .int nm), (2, .int (nI n)), (3, .int (nI (grX σ nm k))), (4, .int (nI k))]) ?_ 0 ⟨(by omega), (lv_sub hl [2, 3, 4, 1, 0] rfl)⟩
  rintro k ls ⟨h5_0, hl⟩ ih5
  have hg := grX_le (nm := nm) ok k
  have hr1 := rtX_le (nm := nm) (v := k) ok
  refine lv_iload C0.hx C0.hb dX4_greatestRateBefore_5 (lv_at hl 4 rfl) ?_
  refine lv_iload_n C0.hx C0.hb dX4_greatestRateBefore_7 rfl (lv_at hl 2 rfl) ?_
  refine x_icmp_ge (tgt := 29) C0.hx C0.hb (by omega) (by omega) dX4_greatestRateBefore_8 (by decide) (fun c_1 => ?_) (fun c_1 => ?_)
  ·
    refine lv_iload_n C0.hx C0.hb dX4_greatestRateBefore_29 rfl (lv_at hl 3 rfl) ?_
    exact W.iret (v := nI (grX σ nm k)) C0.hx C0.hb hr (fun t ht hW => ⟨_, rfl, (by rw [show k = n by omega]), ht⟩) (fun q h => nomatch h) dX4_greatestRateBefore_30
  ·
    refine lv_iload_n C0.hx C0.hb dX4_greatestRateBefore_11 rfl (lv_at hl 3 rfl) ?_
    refine lv_aload_n C0.hx C0.hb dX4_greatestRateBefore_12 rfl (lv_at hl 0 rfl) ?_
    refine lv_iload_n C0.hx C0.hb dX4_greatestRateBefore_13 rfl (lv_at hl 1 rfl) ?_
    refine lv_iload C0.hx C0.hb dX4_greatestRateBefore_14 (lv_at hl 4 rfl) ?_
    refine x_Vi (As := [.int nm, .int (nI k)]) (rest := [.int (nI (grX σ nm k))]) C0 (mtX4_rateOf l g a σ nm k (by omega) ok) hP C0.2.2.2.1 (cwV 2 C0.hts gX4_greatestRateBefore_X4_rateOf rfl rfl rfl (by decide +kernel) ⟨Nat.le_of_ble_eq_true rfl, Nat.le_of_ble_eq_true rfl⟩) (x_recv C0 hP 0 (mX_n rfl) rfl rfl) rfl hl rfl (Nat.le_of_ble_eq_true rfl) (Nat.zero_le _) (Nat.zero_le _) dX4_greatestRateBefore_16 ?_
    refine va_mmax (rest := []) C0.hx C0.hb (hml.trans hl.1.symm) C0.1.2.2.2.1 (C0.hts _ k_0) (C0.hts _ k_1) (C0.hts _ k_2) (C0.hts _ k_3) (Nat.le_of_ble_eq_true rfl) (Nat.le_of_ble_eq_true rfl) (Nat.zero_le _) (Nat.zero_le _) dX4_greatestRateBefore_19 ?_
    refine x_top (mx_nI (by omega) (by omega)) ?_
    refine lv_istore_n (lv' := [(3, .int (nI (if (grX σ nm k) < (rtX σ nm k) then rtX σ nm k else grX σ nm k))), (0, .ref (a 0 0)), (1, .int nm), (2, .int (nI n)), (4, .int (nI k))]) C0.hx C0.hb dX4_greatestRateBefore_22 rfl hl (by decide) rfl (fun ls hl => ?_)
    have e23 : grX σ nm (k + 1) = if (grX σ nm k) < (rtX σ nm k) then rtX σ nm k else grX σ nm k := rfl
    rw [← e23] at hl
    refine lv_iinc (v := nI (k + 1)) (lv' := [(4, .int (nI (k + 1))), (3, .int (nI (grX σ nm (k + 1)))), (0, .ref (a 0 0)), (1, .int nm), (2, .int (nI n))]) C0.hx C0.hb dX4_greatestRateBefore_23 hl (k := 4) rfl (nI_1 k) (by decide) rfl (fun ls hl => ?_)
    refine lv_goto (tgt := 5) C0.hx C0.hb dX4_greatestRateBefore_26 (by decide) ?_
    exact ih5 ((k + 1)) ls ⟨(by omega), (lv_sub hl [2, 3, 4, 1, 0] rfl)⟩ (by omega)

theorem nI_sub7 {L : Nat} (h : 7 ≤ L) : nI L - nI 7 = nI (L - 7) := by
  have e : nI L = nI (L - 7) + nI 7 := by rw [nI_add]; congr 1; omega
  rw [e, Int32.add_sub_cancel]
theorem lp_gt {i L : Nat} (hi : i ≤ 3600) (hL : L ≤ 3584) (h : nI L - nI 7 < nI i) : L < i + 7 := by
  rcases Nat.lt_or_ge L 7 with h7 | h7
  · omega
  · rw [nI_sub7 h7, nI_ltI (by omega) (by omega)] at h
    omega
theorem lp_le {i L : Nat} (hi : i ≤ 3600) (hL : L ≤ 3584) (h : ¬ nI L - nI 7 < nI i) : i + 7 ≤ L := by
  rcases Nat.lt_or_ge L 7 with h7 | h7
  · exfalso
    apply h
    rw [Int32.lt_iff_toInt_lt, nI_toInt (by omega)]
    have e : (nI L - nI 7).toInt < 0 := by
      rcases (show L = 0 ∨ L = 1 ∨ L = 2 ∨ L = 3 ∨ L = 4 ∨ L = 5 ∨ L = 6 by omega) with rfl | rfl | rfl | rfl | rfl | rfl | rfl <;> decide
    omega
  · rw [nI_sub7 h7, nI_ltI (by omega) (by omega)] at h
    omega
set_option maxHeartbeats 4000000 in
set_option maxRecDepth 100000 in
/-- the law's loop, for what an I keeps -/
theorem law_loop {p : Program} {l : Launch} {e : Env} {s : State} {m : MethodId} {below : List Frame} {meth : Method} {c : Code} {g : xG} {a : xAd} {b L : Nat} {xs : Nat → Int32} {I : xS → xS → Prop} (C0 : xC p s m #[Value.ref b] c cL_law 7 wsL_law RL NLA g a (fun q => s.heap.size ≤ q)) (hr : meth.sig.returnType = ret) (hlocks : meth.locks = false) (hfl : l.stackTraces = false) (hT : xZt s) (hZ : xZh (fun q => s.heap.size ≤ q) s s.heap) (hW9 : xZw s) (hV : va_X b L xs s s.heap) (hbl : b < s.heap.size) (hL : L ≤ 3584) (hok : ∀ σ τ, I σ τ → (okX σ ∧ okF σ) ∧ (okM τ ∧ acM τ)) (h0 : ∀ σ τ, I σ τ → ∀ (z1 : Int32) (z2 : Int32) (z3 : Int32) (z4 : Int32), SF I (cd1 eIA) (arC σ z1 z2 z3 z4) σ (arS σ z1 z2 z3 z4) (arS σ z1 z2 z3 z4 6 0 (nv z1)) (arMS τ z1 z2 z3 z4) (arMV τ z1 z2 z3 z4)) (h1 : ∀ σ τ, I σ τ → ∀ (z1 : Int32) (z2 : Bool), SF I (cd1 eIA) (igC z1) σ (igS σ z1 z2) (σ 10 0 (nv z1)) (igMS τ z1 z2) (igMV τ z1)) (h2 : ∀ σ τ, I σ τ → ∀ (z1 : Int32) (z2 : Int32), SF I (cd1 eIA) (sfC σ z1 z2) σ (sfS σ z1 z2) (σ 11 0 (nv z1)) (sfMS τ z1 z2) (sfMV τ z1 z2)) (h3 : ∀ σ τ, I σ τ → ∀ (z1 : Int32), SF I (cd1 eIA) (sdC z1) σ (sdS σ z1) (σ 2 0 0) (sdMS τ z1) (sdMV τ z1)) (h4 : ∀ σ τ, I σ τ → ∀ (z1 : Int32) (z2 : Int32) (z3 : Int32) (z4 : Int32) (z5 : Int32) (z6 : Int32), SF I (cd1 eIA) (rpC σ z1 z2 z3 z4 z5 z6) σ (rpS σ z1 z2 z3 z4 z5 z6) (nI (nv (σ 3 0 0))) (rpMS τ z1 z2 z3 z4 z5 z6) (rpMV τ z1 z2 z3 z4 z5 z6)) (h5 : ∀ σ τ, I σ τ → σ 3 0 0 = τ 30 0 2 ∧ I σ (m0 τ)) (h6 : ∀ σ τ, I σ τ → ∀ (z1 : Int32) (z2 : Int32), SF I (cd1 eIO) (frC σ z1 z2) σ σ (σ 24 (nv z1) (nv z2)) (frMS τ z1 z2) (frMV τ z1 z2)) (h7 : ∀ σ τ, I σ τ → ∀ (z1 : Int32) (z2 : Int32), SF I (cd1 eIO) (frC σ z1 z2) σ σ (σ 25 (nv z1) (nv z2)) (maMS τ z1 z2) (maMV τ z1 z2)) (h8 : ∀ σ τ, I σ τ → ∀ (z1 : Int32), SF I (cd1 eIO) (r1C σ z1) σ σ (σ 19 0 (nv z1)) (bkMS τ z1) (bkMV τ z1)) (h9 : ∀ σ τ, I σ τ → nI (buL σ (nv (σ 3 0 0))) = bsMV τ ∧ I σ (nm0 τ)) (h10 : ∀ σ τ, I σ τ → ∀ (z1 : Int32), SF I (cd1 eIO) (r1C σ z1) σ σ (nI (siL σ (σ 19 0 (nv z1)) 4)) (bkMS τ z1) (szMV τ z1)) (h11 : ∀ σ τ, I σ τ → ∀ (z1 : Int32) (z2 : Int32), SF I (cd1 eIA) (ssC z1 z2) σ (ssS σ z1 z2) (σ 5 0 (nv z1)) (ssMS τ z1 z2) (ssMV τ z1 z2)) (h12 : ∀ σ τ, I σ τ → ∀ (z1 : Int32), SF I (cd1 eIA) (slC z1) σ (slS σ z1) (σ 0 0 0) (slMS τ z1) (slMV τ z1)) (h13 : ∀ σ τ, I σ τ → ∀ (z1 : Int32) (z2 : Int32), SF I (cd1 eIO) (frC σ z1 z2) σ σ (nI (rtX σ (σ 19 0 (nv z1)) (nv z2))) (rtMS τ z1 z2) (rtMV τ z1 z2)) (h14 : ∀ σ τ, I σ τ → ∀ (z1 : Int32) (z2 : Int32), SF I (cd1 eIO) (frC σ z1 z2) σ σ (ucX σ (σ 19 0 (nv z1)) (nv z2)) (usMS τ z1 z2) (usMV τ z1 z2)) (h15 : ∀ σ τ, I σ τ → ∀ (z1 : Int32), SF I (cd1 eIA) (v1C z1) σ σ (gaX σ (nv z1)) (gaMS τ z1) (gaMV τ z1)) (h16 : ∀ σ τ, I σ τ → ∀ (z1 : Int32), SF I (cd1 eIA) (v1C z1) σ σ (woX σ (nv z1)) (woMS τ z1) (woMV τ z1)) (h17 : ∀ σ τ, I σ τ → ∀ (z1 : Int32) (z2 : Int32), SF I (cd1 eIO) (fxC σ z1 z2) σ (fxS σ z1 z2) (σ 15 0 (nv z1)) (fxMS τ z1 z2) (fxMV τ z1 z2)) (h18 : ∀ σ τ, I σ τ → ∀ (z1 : Int32), SF I (cd1 eIO) (hoC σ z1) σ σ (bI (hoX σ (nv z1))) (hoMS τ z1) (bI (hoMV τ z1))) :
    ∀ (n i : Nat) (σ τ : xS) (H : Heap) (locs : List Loc) (ls : Array Slot) (cells slots : Nat), i ≤ 3600 → L < i + 7 * n + 7 → cells + 4 * n ≤ 601000 → slots + 24 * n ≤ 7293000 → va_P g.1 vwCl (xw NLL g a σ) H → va_P g.1 vwCl (xw NLM g a τ) H → va_S (fun q => s.heap.size ≤ q) s.heap H locs → I σ τ → lv_has ls 7 [(4, .int (nI i)), (3, .ref (a 50 0)), (2, .ref (a 30 0)), (1, .ref (a 0 0)), (0, .ref b)] → W p l e room_1 s m #[Value.ref b] below meth c H locs cells slots (lw_Z below #[Value.ref b] s) (F0 m 23 ls []) := by
  have hbA : ¬ (fun q : Nat => s.heap.size ≤ q) b := Nat.not_le.mpr hbl
  intro n
  induction n with
  | zero =>
    intro i σ τ H locs ls cells slots hi3 hLn hcn hsn hX hD hS hI hl
    refine lv_iload C0.hx C0.hb dL_law_23 (lv_at hl 0 rfl) ?_
    refine lv_aload_n C0.hx C0.hb dL_law_25 rfl (lv_at hl 4 rfl) ?_
    refine va_slen C0.hx C0.hb hV hbl hbA hS dL_law_26 ?_
    refine lv_bipush (v := nI 7) C0.hx C0.hb dL_law_27 (by decide) ?_
    refine lv_isub C0.hx C0.hb dL_law_29 ?_
    refine lv_icmp_gt (tgt := 1340) C0.hx C0.hb dL_law_30 (by decide) (fun _ => ?_) (fun h => absurd (lp_le hi3 hL h) (by omega))
    refine lv_iconst (v := 1) C0.hx C0.hb dL_law_1340 (by decide) ?_
    refine va_forget hS.2.2 ?_
    exact W.widen (by omega) (by omega) (lw_ret C0.hx C0.hb hr hlocks dL_law_1341)
  | succ n ih =>
    intro i σ τ H locs ls cells slots hi3 hLn hcn hsn hX hD hS hI hl
    refine lv_iload C0.hx C0.hb dL_law_23 (lv_at hl 0 rfl) ?_
    refine lv_aload_n C0.hx C0.hb dL_law_25 rfl (lv_at hl 4 rfl) ?_
    refine va_slen C0.hx C0.hb hV hbl hbA hS dL_law_26 ?_
    refine lv_bipush (v := nI 7) C0.hx C0.hb dL_law_27 (by decide) ?_
    refine lv_isub C0.hx C0.hb dL_law_29 ?_
    refine lv_icmp_gt (tgt := 1340) C0.hx C0.hb dL_law_30 (by decide) (fun _ => ?_) (fun h => ?_)
    · refine lv_iconst (v := 1) C0.hx C0.hb dL_law_1340 (by decide) ?_
      refine va_forget hS.2.2 ?_
      exact W.widen (by omega) (by omega) (lw_ret C0.hx C0.hb hr hlocks dL_law_1341)
    · have hi := lp_le hi3 hL h
      have hn : ∀ (σ1 τ1 : xS) (H1 : Heap) (locs1 : List Loc) (ls1 : Array Slot) (cells1 slots1 : Nat), I σ1 τ1 → va_P g.1 vwCl (xw NLL g a σ1) H1 → va_P g.1 vwCl (xw NLM g a τ1) H1 → va_S (fun q => s.heap.size ≤ q) s.heap H1 locs1 → lv_has ls1 7 [(4, .int (nI i)), (3, .ref (a 50 0)), (2, .ref (a 30 0)), (1, .ref (a 0 0)), (0, .ref b)] → cells1 ≤ cells + 4 → slots1 ≤ slots + 24 → W p l e room_1 s m #[Value.ref b] below meth c H1 locs1 cells1 slots1 (lw_Z below #[Value.ref b] s) (F0 m 1334 ls1 []) := by
        intro σ1 τ1 H1 locs1 ls1 cells1 slots1 hI1 hX1 hD1 hS1 hl1 hc1 hs1
        refine lv_iinc (v := nI (i + 7)) (lv' := [(4, .int (nI (i + 7))), (3, .ref (a 50 0)), (2, .ref (a 30 0)), (1, .ref (a 0 0)), (0, .ref b)]) C0.hx C0.hb dL_law_1334 hl1 (k := 0) rfl (nI_add i 7) (by decide) rfl (fun ls hl => ?_)
        refine lv_goto (tgt := 23) C0.hx C0.hb dL_law_1337 (by decide) ?_
        exact ih (i + 7) σ1 τ1 H1 locs1 ls cells1 slots1 (by omega) (by omega) (by omega) (by omega) hX1 hD1 hS1 hI1 hl
      refine lv_aload_n C0.hx C0.hb dL_law_33 rfl (lv_at hl 4 rfl) ?_
      refine lv_iload C0.hx C0.hb dL_law_34 (lv_at hl 0 rfl) ?_
      refine x_sld C0 hV hbl hbA hS (by omega) hL dL_law_36 ?_
      refine lv_bipush (v := nI 31) C0.hx C0.hb dL_law_37 (by decide) ?_
      refine lv_iand C0.hx C0.hb dL_law_39 ?_
      generalize hx : (xs i &&& nI 31) = x
      by_cases hin : x.toInt < 0 ∨ 18 < x.toInt
      · refine lv_tableOut (tgt := 1334) C0.hx C0.hb dL_law_40 hin (by decide) ?_
        exact hn σ τ H locs ls cells slots hI hX hD hS hl (by omega) (by omega)
      · have hc : x.toInt = 0 ∨ x.toInt = 1 ∨ x.toInt = 2 ∨ x.toInt = 3 ∨ x.toInt = 4 ∨ x.toInt = 5 ∨ x.toInt = 6 ∨ x.toInt = 7 ∨ x.toInt = 8 ∨ x.toInt = 9 ∨ x.toInt = 10 ∨ x.toInt = 11 ∨ x.toInt = 12 ∨ x.toInt = 13 ∨ x.toInt = 14 ∨ x.toInt = 15 ∨ x.toInt = 16 ∨ x.toInt = 17 ∨ x.toInt = 18 := by omega
        rcases hc with hk | hk | hk | hk | hk | hk | hk | hk | hk | hk | hk | hk | hk | hk | hk | hk | hk | hk | hk
        · refine lv_tableIn (off := 92) (tgt := 132) C0.hx C0.hb dL_law_40 (by omega) (by omega) (by rw [hk]; rfl) (by decide) ?_
          exact lc_0 C0 hfl hT hZ hW9 hV hbl hbA hL (by decide) (by decide) hok hX hD hS hI hi hl (Nat.le_trans (by omega) (show 601024 ≤ room_1.cells from Nat.le_refl _)) (Nat.le_trans (by omega) (show 7293034 ≤ room_1.slots from Nat.le_refl _)) hn h0
        · refine lv_tableIn (off := 184) (tgt := 224) C0.hx C0.hb dL_law_40 (by omega) (by omega) (by rw [hk]; rfl) (by decide) ?_
          exact lc_1 C0 hfl hT hZ hW9 hV hbl hbA hL (by decide) (by decide) hok hX hD hS hI hi hl (Nat.le_trans (by omega) (show 601024 ≤ room_1.cells from Nat.le_refl _)) (Nat.le_trans (by omega) (show 7293034 ≤ room_1.slots from Nat.le_refl _)) hn h1
        · refine lv_tableIn (off := 275) (tgt := 315) C0.hx C0.hb dL_law_40 (by omega) (by omega) (by rw [hk]; rfl) (by decide) ?_
          exact lc_2 C0 hfl hT hZ hW9 hV hbl hbA hL (by decide) (by decide) hok hX hD hS hI hi hl (Nat.le_trans (by omega) (show 601024 ≤ room_1.cells from Nat.le_refl _)) (Nat.le_trans (by omega) (show 7293034 ≤ room_1.slots from Nat.le_refl _)) hn h2
        · refine lv_tableIn (off := 343) (tgt := 383) C0.hx C0.hb dL_law_40 (by omega) (by omega) (by rw [hk]; rfl) (by decide) ?_
          exact lc_3 C0 hfl hT hZ hW9 hV hbl hbA hL (by decide) (by decide) hok hX hD hS hI hi hl (Nat.le_trans (by omega) (show 601024 ≤ room_1.cells from Nat.le_refl _)) (Nat.le_trans (by omega) (show 7293034 ≤ room_1.slots from Nat.le_refl _)) hn h3
        · refine lv_tableIn (off := 399) (tgt := 439) C0.hx C0.hb dL_law_40 (by omega) (by omega) (by rw [hk]; rfl) (by decide) ?_
          exact lc_4 C0 hfl hT hZ hW9 hV hbl hbA hL (by decide) (by decide) hok hX hD hS hI hi hl (Nat.le_trans (by omega) (show 601024 ≤ room_1.cells from Nat.le_refl _)) (Nat.le_trans (by omega) (show 7293034 ≤ room_1.slots from Nat.le_refl _)) hn h4
        · refine lv_tableIn (off := 517) (tgt := 557) C0.hx C0.hb dL_law_40 (by omega) (by omega) (by rw [hk]; rfl) (by decide) ?_
          exact lc_5 C0 hfl hT hZ hW9 hV hbl hbA hL (by decide) (by decide) hok hX hD hS hI hi hl (Nat.le_trans (by omega) (show 601024 ≤ room_1.cells from Nat.le_refl _)) (Nat.le_trans (by omega) (show 7293034 ≤ room_1.slots from Nat.le_refl _)) hn h5
        · refine lv_tableIn (off := 530) (tgt := 570) C0.hx C0.hb dL_law_40 (by omega) (by omega) (by rw [hk]; rfl) (by decide) ?_
          exact lc_6 C0 hfl hT hZ hW9 hV hbl hbA hL (by decide) (by decide) hok hX hD hS hI hi hl (Nat.le_trans (by omega) (show 601024 ≤ room_1.cells from Nat.le_refl _)) (Nat.le_trans (by omega) (show 7293034 ≤ room_1.slots from Nat.le_refl _)) hn h6
        · refine lv_tableIn (off := 598) (tgt := 638) C0.hx C0.hb dL_law_40 (by omega) (by omega) (by rw [hk]; rfl) (by decide) ?_
          exact lc_7 C0 hfl hT hZ hW9 hV hbl hbA hL (by decide) (by decide) hok hX hD hS hI hi hl (Nat.le_trans (by omega) (show 601024 ≤ room_1.cells from Nat.le_refl _)) (Nat.le_trans (by omega) (show 7293034 ≤ room_1.slots from Nat.le_refl _)) hn h7
        · refine lv_tableIn (off := 666) (tgt := 706) C0.hx C0.hb dL_law_40 (by omega) (by omega) (by rw [hk]; rfl) (by decide) ?_
          exact lc_8 C0 hfl hT hZ hW9 hV hbl hbA hL (by decide) (by decide) hok hX hD hS hI hi hl (Nat.le_trans (by omega) (show 601024 ≤ room_1.cells from Nat.le_refl _)) (Nat.le_trans (by omega) (show 7293034 ≤ room_1.slots from Nat.le_refl _)) hn h8
        · refine lv_tableIn (off := 722) (tgt := 762) C0.hx C0.hb dL_law_40 (by omega) (by omega) (by rw [hk]; rfl) (by decide) ?_
          exact lc_9 C0 hfl hT hZ hW9 hV hbl hbA hL (by decide) (by decide) hok hX hD hS hI hi hl (Nat.le_trans (by omega) (show 601024 ≤ room_1.cells from Nat.le_refl _)) (Nat.le_trans (by omega) (show 7293034 ≤ room_1.slots from Nat.le_refl _)) hn h9
        · refine lv_tableIn (off := 735) (tgt := 775) C0.hx C0.hb dL_law_40 (by omega) (by omega) (by rw [hk]; rfl) (by decide) ?_
          exact lc_10 C0 hfl hT hZ hW9 hV hbl hbA hL (by decide) (by decide) hok hX hD hS hI hi hl (Nat.le_trans (by omega) (show 601024 ≤ room_1.cells from Nat.le_refl _)) (Nat.le_trans (by omega) (show 7293034 ≤ room_1.slots from Nat.le_refl _)) hn h10
        · refine lv_tableIn (off := 791) (tgt := 831) C0.hx C0.hb dL_law_40 (by omega) (by omega) (by rw [hk]; rfl) (by decide) ?_
          exact lc_11 C0 hfl hT hZ hW9 hV hbl hbA hL (by decide) (by decide) hok hX hD hS hI hi hl (Nat.le_trans (by omega) (show 601024 ≤ room_1.cells from Nat.le_refl _)) (Nat.le_trans (by omega) (show 7293034 ≤ room_1.slots from Nat.le_refl _)) hn h11
        · refine lv_tableIn (off := 859) (tgt := 899) C0.hx C0.hb dL_law_40 (by omega) (by omega) (by rw [hk]; rfl) (by decide) ?_
          exact lc_12 C0 hfl hT hZ hW9 hV hbl hbA hL (by decide) (by decide) hok hX hD hS hI hi hl (Nat.le_trans (by omega) (show 601024 ≤ room_1.cells from Nat.le_refl _)) (Nat.le_trans (by omega) (show 7293034 ≤ room_1.slots from Nat.le_refl _)) hn h12
        · refine lv_tableIn (off := 915) (tgt := 955) C0.hx C0.hb dL_law_40 (by omega) (by omega) (by rw [hk]; rfl) (by decide) ?_
          exact lc_13 C0 hfl hT hZ hW9 hV hbl hbA hL (by decide) (by decide) hok hX hD hS hI hi hl (Nat.le_trans (by omega) (show 601024 ≤ room_1.cells from Nat.le_refl _)) (Nat.le_trans (by omega) (show 7293034 ≤ room_1.slots from Nat.le_refl _)) hn h13
        · refine lv_tableIn (off := 983) (tgt := 1023) C0.hx C0.hb dL_law_40 (by omega) (by omega) (by rw [hk]; rfl) (by decide) ?_
          exact lc_14 C0 hfl hT hZ hW9 hV hbl hbA hL (by decide) (by decide) hok hX hD hS hI hi hl (Nat.le_trans (by omega) (show 601024 ≤ room_1.cells from Nat.le_refl _)) (Nat.le_trans (by omega) (show 7293034 ≤ room_1.slots from Nat.le_refl _)) hn h14
        · refine lv_tableIn (off := 1051) (tgt := 1091) C0.hx C0.hb dL_law_40 (by omega) (by omega) (by rw [hk]; rfl) (by decide) ?_
          exact lc_15 C0 hfl hT hZ hW9 hV hbl hbA hL (by decide) (by decide) hok hX hD hS hI hi hl (Nat.le_trans (by omega) (show 601024 ≤ room_1.cells from Nat.le_refl _)) (Nat.le_trans (by omega) (show 7293034 ≤ room_1.slots from Nat.le_refl _)) hn h15
        · refine lv_tableIn (off := 1107) (tgt := 1147) C0.hx C0.hb dL_law_40 (by omega) (by omega) (by rw [hk]; rfl) (by decide) ?_
          exact lc_16 C0 hfl hT hZ hW9 hV hbl hbA hL (by decide) (by decide) hok hX hD hS hI hi hl (Nat.le_trans (by omega) (show 601024 ≤ room_1.cells from Nat.le_refl _)) (Nat.le_trans (by omega) (show 7293034 ≤ room_1.slots from Nat.le_refl _)) hn h16
        · refine lv_tableIn (off := 1163) (tgt := 1203) C0.hx C0.hb dL_law_40 (by omega) (by omega) (by rw [hk]; rfl) (by decide) ?_
          exact lc_17 C0 hfl hT hZ hW9 hV hbl hbA hL (by decide) (by decide) hok hX hD hS hI hi hl (Nat.le_trans (by omega) (show 601024 ≤ room_1.cells from Nat.le_refl _)) (Nat.le_trans (by omega) (show 7293034 ≤ room_1.slots from Nat.le_refl _)) hn h17
        · refine lv_tableIn (off := 1231) (tgt := 1271) C0.hx C0.hb dL_law_40 (by omega) (by omega) (by rw [hk]; rfl) (by decide) ?_
          exact lc_18 C0 hfl hT hZ hW9 hV hbl hbA hL (by decide) (by decide) hok hX hD hS hI hi hl (Nat.le_trans (by omega) (show 601024 ≤ room_1.cells from Nat.le_refl _)) (Nat.le_trans (by omega) (show 7293034 ≤ room_1.slots from Nat.le_refl _)) hn h18

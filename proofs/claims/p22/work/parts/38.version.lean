set_option maxHeartbeats 4000000 in
set_option maxRecDepth 100000 in
theorem mtL_version (l : Launch) (hfl : l.stackTraces = false) (g : xG) (a : xAd) (σ : xS) (v : Nat) (hv : v < 4) (okx : okX σ) (ok : okP σ) (hI : IsoV σ v) : xMl l yL_version wsL_version ({ frames := 8, cells := 2, slots := 12, locals := 127 }) 2 12  g a σ [.ref (a 0 0), .int (nI v), .ref (a 30 0), .ref (a 31 0), .ref (a 35 0), .ref (a 36 0), .ref (a 39 0)] (nI 1) σ := by
  intro sz
  refine Met.ofW (cc := cL_version) (maxL := 12) (ret := (some .boolean)) (by decide) rfl ?_
  intro p e s m args below meth c s₁ B hml hv
  obtain ⟨rfl, hsz, ⟨hP, hK, hN, hj⟩, hT, hZ⟩ := hv
  subst hsz
  have hr := B.returns
  have hlocks := B.notSynchronized
  have C0 : xC p s m _ c cL_version 12 wsL_version RL NLA g a (xA NLA a s.heap.size) := ⟨⟨B.exec, B.bytes, hml, findClass_of_methodNamed B.named, atoms_spec (ws := wsL_version) B.pre⟩, hK, hN, hj, fun n h => Or.inl ⟨n, h, rfl⟩, fun q h => Or.inr h⟩
  have hS : va_S (xA NLA a s.heap.size) s.heap s.heap [] := va_S.rf
  have hl := lv_entry ([.ref (a 0 0), .int (nI v), .ref (a 30 0), .ref (a 31 0), .ref (a 35 0), .ref (a 36 0), .ref (a 39 0)]) (n := 12) (Nat.le_of_ble_eq_true rfl)
  rw [lg_entry_eq]
  generalize (lg_sl ([.ref (a 0 0), .int (nI v), .ref (a 30 0), .ref (a 31 0), .ref (a 35 0), .ref (a 36 0), .ref (a 39 0)]) ++ List.replicate (12 - (lg_sl ([.ref (a 0 0), .int (nI v), .ref (a 30 0), .ref (a 31 0), .ref (a 35 0), .ref (a 36 0), .ref (a 39 0)])).length) Slot.unset).toArray = ls at hl ⊢
  have hl : lv_has ls 12 [(0, .ref (a 0 0)), (1, .int (nI v)), (2, .ref (a 30 0)), (3, .ref (a 31 0)), (4, .ref (a 35 0)), (5, .ref (a 36 0)), (6, .ref (a 39 0))] := hl
  refine x_join (α := Nat) 15 (fun z H' locs' ls => (H' = s.heap ∧ locs' = [] ∧ z = (if nv (σ 31 0 (4 + v)) < 50 then 1 else 0) ∧ z ≤ 2) ∧ lv_has ls 12 [(0, .ref (a 0 0)), (1, .int (nI v)), (2, .ref (a 30 0)), (3, .ref (a 31 0)), (4, .ref (a 35 0)), (5, .ref (a 36 0)), (6, .ref (a 39 0))]) (fun z => [.int (nI z)]) ?_ (fun J15 => ?_)
  · rintro z _ _ ls ⟨⟨rfl, rfl, hz, hz2⟩, hl⟩
    refine lv_istore (lv' := [(7, .int (nI z)), (0, .ref (a 0 0)), (1, .int (nI v)), (2, .ref (a 30 0)), (3, .ref (a 31 0)), (4, .ref (a 35 0)), (5, .ref (a 36 0)), (6, .ref (a 39 0))]) C0.hx C0.hb dL_version_15 hl (by decide) rfl (fun ls hl => ?_)
    refine lv_iconst (v := -1) C0.hx C0.hb dL_version_17 (by decide) ?_
    refine lv_istore (lv' := [(8, .int (-1)), (7, .int (nI z)), (0, .ref (a 0 0)), (1, .int (nI v)), (2, .ref (a 30 0)), (3, .ref (a 31 0)), (4, .ref (a 35 0)), (5, .ref (a 36 0)), (6, .ref (a 39 0))]) C0.hx C0.hb dL_version_18 hl (by decide) rfl (fun ls hl => ?_)
    refine lv_iconst (v := nI 0) C0.hx C0.hb dL_version_20 (by decide) ?_
    refine lv_istore (lv' := [(9, .int (nI 0)), (8, .int (-1)), (7, .int (nI z)), (0, .ref (a 0 0)), (1, .int (nI v)), (2, .ref (a 30 0)), (3, .ref (a 31 0)), (4, .ref (a 35 0)), (5, .ref (a 36 0)), (6, .ref (a 39 0))]) C0.hx C0.hb dL_version_21 hl (by decide) rfl (fun ls hl => ?_)
    refine lv_iconst (v := nI 0) C0.hx C0.hb dL_version_23 (by decide) ?_
    refine lv_istore (lv' := [(10, .int (nI 0)), (9, .int (nI 0)), (8, .int (-1)), (7, .int (nI z)), (0, .ref (a 0 0)), (1, .int (nI v)), (2, .ref (a 30 0)), (3, .ref (a 31 0)), (4, .ref (a 35 0)), (5, .ref (a 36 0)), (6, .ref (a 39 0))]) C0.hx C0.hb dL_version_24 hl (by decide) rfl (fun ls hl => ?_)
    refine x_loopR (α := Nat × Nat × Nat × Int32 × Nat) (fun u => u.1) (fun ⟨cn, n, gn, wv, tm⟩ ls => n + cn = nv (σ 30 0 0) ∧ gn ≤ 2 ∧ tm ≤ 120000 ∧ veP σ v cn n gn wv tm = vgP σ v ∧ lv_has ls 12 [(0, .ref (a 0 0)), (1, .int (nI v)), (2, .ref (a 30 0)), (3, .ref (a 31 0)), (4, .ref (a 35 0)), (5, .ref (a 36 0)), (6, .ref (a 39 0)), (7, .int (nI gn)), (8, .int wv), (9, .int (nI tm)), (10, .int (nI n))]) ?_ ((nv (σ 30 0 0), 0, z, -1, 0)) ⟨(by omega), (by omega), (by omega), (by rw [hz]; rfl), (lv_sub hl [4, 5, 6, 7, 8, 9, 10, 3, 2, 1, 0] rfl)⟩
    rintro ⟨cn, n, gn, wv, tm⟩ ls ⟨hn, hg2, htm, hG, hl⟩ ih26
    have hn13 := ok.n.2
    refine lv_iload C0.hx C0.hb dL_version_26 (lv_at hl 10 rfl) ?_
    refine lv_aload_n C0.hx C0.hb dL_version_28 rfl (lv_at hl 2 rfl) ?_
    refine lv_iconst (v := nI 0) C0.hx C0.hb dL_version_29 (by decide) ?_
    refine x_iald C0 hP 30 0 3 (NLA_M _ (mM_n rfl rfl)) rfl (by omega) (by decide) dL_version_30 ?_
    obtain ⟨e_1, b_2⟩ := (ok.n : inR (σ 30 0 0) _)
    refine x_top e_1 ?_
    refine x_icmp_ge (tgt := 183) C0.hx C0.hb (by omega) (by omega) dL_version_31 (by decide) (fun c_3 => ?_) (fun c_3 => ?_)
    ·
      have hE : (gn, wv) = vgP σ v := by rw [← hG, show cn = 0 by omega]; rfl
      refine lv_aload_n C0.hx C0.hb dL_version_183 rfl (lv_at hl 0 rfl) ?_
      refine lv_iload_n C0.hx C0.hb dL_version_184 rfl (lv_at hl 1 rfl) ?_
      refine x_VXR (As := [.int (nI v)]) (rest := []) C0 (mtX4_gate l hfl g a σ (nI v) okx) (fun _ h => chEx_no (v1_ok (by omega)) h) hP hS hT hZ (cwV 1 C0.hts gL_version_X4_gate rfl rfl rfl (by decide +kernel) ⟨Nat.le_of_ble_eq_true rfl, Nat.le_of_ble_eq_true rfl⟩) (x_recv C0 hP 0 (NLA_X _ (mX_n rfl)) rfl rfl) rfl hl rfl (Nat.le_of_ble_eq_true rfl) (by show _ ≤ 2; omega) (by show _ ≤ 12; omega) dL_version_185 (fun H locs hP hS => ?_)
      refine lv_iload C0.hx C0.hb dL_version_188 (lv_at hl 7 rfl) ?_
      refine lv_icmp_ne (tgt := 207) C0.hx C0.hb dL_version_190 (by decide) (fun c_4 => ?_) (fun c_4 => ?_)
      ·
        exact absurd (by rw [show nv (nI v) = v from nv_nI (by omega), hI.1, ← hE]) c_4
      ·
        refine lv_aload_n C0.hx C0.hb dL_version_193 rfl (lv_at hl 0 rfl) ?_
        refine lv_iload_n C0.hx C0.hb dL_version_194 rfl (lv_at hl 1 rfl) ?_
        refine x_VXR (As := [.int (nI v)]) (rest := []) C0 (mtX4_worst l hfl g a σ (nI v) okx) (fun _ h => chEx_no (v1_ok (by omega)) h) hP hS hT hZ (cwV 1 C0.hts gL_version_X4_worst rfl rfl rfl (by decide +kernel) ⟨Nat.le_of_ble_eq_true rfl, Nat.le_of_ble_eq_true rfl⟩) (x_recv C0 hP 0 (NLA_X _ (mX_n rfl)) rfl rfl) rfl hl rfl (Nat.le_of_ble_eq_true rfl) (by show _ ≤ 2; omega) (by show _ ≤ 12; omega) dL_version_195 (fun H locs hP hS => ?_)
        refine lv_iload C0.hx C0.hb dL_version_198 (lv_at hl 8 rfl) ?_
        refine lv_icmp_ne (tgt := 207) C0.hx C0.hb dL_version_200 (by decide) (fun c_5 => ?_) (fun c_5 => ?_)
        ·
          exact absurd (by rw [show nv (nI v) = v from nv_nI (by omega), hI.2, ← hE]) c_5
        ·
          refine lv_iconst (v := nI 1) C0.hx C0.hb dL_version_203 (by decide) ?_
          refine lv_goto (tgt := 208) C0.hx C0.hb dL_version_204 (by decide) ?_
          refine W.widen (k := 2) (n := 12) (by omega) (by omega) ?_
          exact W.zret (v := nI 1) C0.hx C0.hb hr rfl (fun t ht hW => ⟨⟨_, σ, rfl, ⟨rfl, rfl⟩, x_end ht hP⟩, hS.F ht⟩) hS.2.2 dL_version_208
    ·
      obtain ⟨cn, rfl⟩ : ∃ z, cn = z + 1 := ⟨cn - 1, by omega⟩
      refine x_join (α := Nat) 63 (fun z H' locs' ls => (H' = s.heap ∧ locs' = [] ∧ z = vrP σ v n ∧ z ≤ 120000) ∧ lv_has ls 12 [(0, .ref (a 0 0)), (1, .int (nI v)), (2, .ref (a 30 0)), (3, .ref (a 31 0)), (4, .ref (a 35 0)), (5, .ref (a 36 0)), (6, .ref (a 39 0)), (7, .int (nI gn)), (8, .int wv), (9, .int (nI tm)), (10, .int (nI n))]) (fun z => [.int (nI z)]) ?_ (fun J63 => ?_)
      · rintro z _ _ ls ⟨⟨rfl, rfl, hz, hz3⟩, hl⟩
        subst hz
        refine lv_istore (lv' := [(11, .int (nI (vrP σ v n))), (0, .ref (a 0 0)), (1, .int (nI v)), (2, .ref (a 30 0)), (3, .ref (a 31 0)), (4, .ref (a 35 0)), (5, .ref (a 36 0)), (6, .ref (a 39 0)), (7, .int (nI gn)), (8, .int wv), (9, .int (nI tm)), (10, .int (nI n))]) C0.hx C0.hb dL_version_63 hl (by decide) rfl (fun ls hl => ?_)
        refine x_join (α := Nat) 87 (fun z H' locs' ls => (H' = s.heap ∧ locs' = [] ∧ z = g1P σ v n gn ∧ z ≤ 2) ∧ lv_has ls 12 [(0, .ref (a 0 0)), (1, .int (nI v)), (2, .ref (a 30 0)), (3, .ref (a 31 0)), (4, .ref (a 35 0)), (5, .ref (a 36 0)), (6, .ref (a 39 0)), (7, .int (nI gn)), (8, .int wv), (9, .int (nI tm)), (10, .int (nI n)), (11, .int (nI (vrP σ v n)))]) (fun z => [.int (nI z)]) ?_ (fun J87 => ?_)
        · rintro z _ _ ls ⟨⟨rfl, rfl, hz, hz4⟩, hl⟩
          subst hz
          refine lv_istore (lv' := [(7, .int (nI (g1P σ v n gn))), (0, .ref (a 0 0)), (1, .int (nI v)), (2, .ref (a 30 0)), (3, .ref (a 31 0)), (4, .ref (a 35 0)), (5, .ref (a 36 0)), (6, .ref (a 39 0)), (8, .int wv), (9, .int (nI tm)), (10, .int (nI n)), (11, .int (nI (vrP σ v n)))]) C0.hx C0.hb dL_version_87 hl (by decide) rfl (fun ls hl => ?_)
          refine x_join (α := Nat) 143 (fun z H' locs' ls => (H' = s.heap ∧ locs' = [] ∧ z = g2P σ v n gn ∧ z ≤ 2) ∧ lv_has ls 12 [(0, .ref (a 0 0)), (1, .int (nI v)), (2, .ref (a 30 0)), (3, .ref (a 31 0)), (4, .ref (a 35 0)), (5, .ref (a 36 0)), (6, .ref (a 39 0)), (7, .int (nI (g1P σ v n gn))), (8, .int wv), (9, .int (nI tm)), (10, .int (nI n)), (11, .int (nI (vrP σ v n)))]) (fun z => [.int (nI z)]) ?_ (fun J143 => ?_)
          · rintro z _ _ ls ⟨⟨rfl, rfl, hz, hz5⟩, hl⟩
            subst hz
            refine lv_istore (lv' := [(7, .int (nI (g2P σ v n gn))), (0, .ref (a 0 0)), (1, .int (nI v)), (2, .ref (a 30 0)), (3, .ref (a 31 0)), (4, .ref (a 35 0)), (5, .ref (a 36 0)), (6, .ref (a 39 0)), (8, .int wv), (9, .int (nI tm)), (10, .int (nI n)), (11, .int (nI (vrP σ v n)))]) C0.hx C0.hb dL_version_143 hl (by decide) rfl (fun ls hl => ?_)
            refine x_join (α := Int32) 159 (fun z H' locs' ls => (H' = s.heap ∧ locs' = [] ∧ z = (if tm < vrP σ v n then nI n else wv)) ∧ lv_has ls 12 [(0, .ref (a 0 0)), (1, .int (nI v)), (2, .ref (a 30 0)), (3, .ref (a 31 0)), (4, .ref (a 35 0)), (5, .ref (a 36 0)), (6, .ref (a 39 0)), (7, .int (nI (g2P σ v n gn))), (8, .int wv), (9, .int (nI tm)), (10, .int (nI n)), (11, .int (nI (vrP σ v n)))]) (fun z => [.int z]) ?_ (fun J159 => ?_)
            · rintro z _ _ ls ⟨⟨rfl, rfl, hz⟩, hl⟩
              subst hz
              refine lv_istore (lv' := [(8, .int (if tm < vrP σ v n then nI n else wv)), (0, .ref (a 0 0)), (1, .int (nI v)), (2, .ref (a 30 0)), (3, .ref (a 31 0)), (4, .ref (a 35 0)), (5, .ref (a 36 0)), (6, .ref (a 39 0)), (7, .int (nI (g2P σ v n gn))), (9, .int (nI tm)), (10, .int (nI n)), (11, .int (nI (vrP σ v n)))]) C0.hx C0.hb dL_version_159 hl (by decide) rfl (fun ls hl => ?_)
              refine x_join (α := Nat) 175 (fun z H' locs' ls => (H' = s.heap ∧ locs' = [] ∧ z = (if tm < vrP σ v n then vrP σ v n else tm)) ∧ lv_has ls 12 [(0, .ref (a 0 0)), (1, .int (nI v)), (2, .ref (a 30 0)), (3, .ref (a 31 0)), (4, .ref (a 35 0)), (5, .ref (a 36 0)), (6, .ref (a 39 0)), (7, .int (nI (g2P σ v n gn))), (8, .int (if tm < vrP σ v n then nI n else wv)), (9, .int (nI tm)), (10, .int (nI n)), (11, .int (nI (vrP σ v n)))]) (fun z => [.int (nI z)]) ?_ (fun J175 => ?_)
              · rintro z _ _ ls ⟨⟨rfl, rfl, hz⟩, hl⟩
                subst hz
                refine lv_istore (lv' := [(9, .int (nI (if tm < vrP σ v n then vrP σ v n else tm))), (0, .ref (a 0 0)), (1, .int (nI v)), (2, .ref (a 30 0)), (3, .ref (a 31 0)), (4, .ref (a 35 0)), (5, .ref (a 36 0)), (6, .ref (a 39 0)), (7, .int (nI (g2P σ v n gn))), (8, .int (if tm < vrP σ v n then nI n else wv)), (10, .int (nI n)), (11, .int (nI (vrP σ v n)))]) C0.hx C0.hb dL_version_175 hl (by decide) rfl (fun ls hl => ?_)
                refine lv_iinc (v := nI (n + 1)) (lv' := [(10, .int (nI (n + 1))), (9, .int (nI (if tm < vrP σ v n then vrP σ v n else tm))), (0, .ref (a 0 0)), (1, .int (nI v)), (2, .ref (a 30 0)), (3, .ref (a 31 0)), (4, .ref (a 35 0)), (5, .ref (a 36 0)), (6, .ref (a 39 0)), (7, .int (nI (g2P σ v n gn))), (8, .int (if tm < vrP σ v n then nI n else wv)), (11, .int (nI (vrP σ v n)))]) C0.hx C0.hb dL_version_177 hl (k := 10) rfl (nI_1 n) (by decide) rfl (fun ls hl => ?_)
                refine lv_goto (tgt := 26) C0.hx C0.hb dL_version_180 (by decide) ?_
                exact ih26 ((cn, n + 1, g2P σ v n gn, if tm < vrP σ v n then nI n else wv, if tm < vrP σ v n then vrP σ v n else tm)) ls ⟨(by omega), (by omega), (by split <;> omega), hG, (lv_sub hl [2, 3, 4, 5, 6, 7, 8, 9, 10, 1, 0] rfl)⟩ (Nat.lt_succ_self _)
              ·
                refine lv_iload C0.hx C0.hb dL_version_161 (lv_at hl 11 rfl) ?_
                refine lv_iload C0.hx C0.hb dL_version_163 (lv_at hl 9 rfl) ?_
                refine x_icmp_le (tgt := 173) C0.hx C0.hb (by omega) (by omega) dL_version_165 (by decide) (fun c_6 => ?_) (fun c_6 => ?_)
                ·
                  refine lv_iload C0.hx C0.hb dL_version_173 (lv_at hl 9 rfl) ?_
                  exact J175 tm _ _ ls ⟨⟨rfl, rfl, (by rw [if_neg (by omega)])⟩, (lv_sub hl [1, 2, 3, 4, 5, 6, 7, 8, 0, 9, 10, 11] rfl)⟩
                ·
                  refine lv_iload C0.hx C0.hb dL_version_168 (lv_at hl 11 rfl) ?_
                  refine lv_goto (tgt := 175) C0.hx C0.hb dL_version_170 (by decide) ?_
                  exact J175 (vrP σ v n) _ _ ls ⟨⟨rfl, rfl, (by rw [if_pos (by omega)])⟩, (lv_sub hl [1, 2, 3, 4, 5, 6, 7, 8, 0, 9, 10, 11] rfl)⟩
            ·
              refine lv_iload C0.hx C0.hb dL_version_145 (lv_at hl 11 rfl) ?_
              refine lv_iload C0.hx C0.hb dL_version_147 (lv_at hl 9 rfl) ?_
              refine x_icmp_le (tgt := 157) C0.hx C0.hb (by omega) (by omega) dL_version_149 (by decide) (fun c_7 => ?_) (fun c_7 => ?_)
              ·
                refine lv_iload C0.hx C0.hb dL_version_157 (lv_at hl 8 rfl) ?_
                exact J159 wv _ _ ls ⟨⟨rfl, rfl, (by rw [if_neg (by omega)])⟩, (lv_sub hl [1, 2, 3, 4, 5, 6, 7, 0, 8, 9, 10, 11] rfl)⟩
              ·
                refine lv_iload C0.hx C0.hb dL_version_152 (lv_at hl 10 rfl) ?_
                refine lv_goto (tgt := 159) C0.hx C0.hb dL_version_154 (by decide) ?_
                exact J159 (nI n) _ _ ls ⟨⟨rfl, rfl, (by rw [if_pos (by omega)])⟩, (lv_sub hl [1, 2, 3, 4, 5, 6, 7, 0, 8, 9, 10, 11] rfl)⟩
          ·
            refine lv_aload C0.hx C0.hb dL_version_89 (lv_at hl 7 rfl) ?_
            refine lv_bipush (v := nI 12) C0.hx C0.hb dL_version_91 (by decide) ?_
            refine lv_iload C0.hx C0.hb dL_version_93 (lv_at hl 10 rfl) ?_
            refine lv_iadd C0.hx C0.hb dL_version_95 ?_
            refine x_top (nI_add 12 n) ?_
            refine x_iald C0 hP 39 (12 + n) 24 (NLA_M _ (mM_n rfl rfl)) rfl (by omega) (by decide) dL_version_96 ?_
            refine lv_iload C0.hx C0.hb dL_version_97 (lv_at hl 10 rfl) ?_
            refine lv_icmp_ne (tgt := 141) C0.hx C0.hb dL_version_99 (by decide) (fun c_8 => ?_) (fun c_8 => ?_)
            ·
              refine lv_iload C0.hx C0.hb dL_version_141 (lv_at hl 0 rfl) ?_
              exact J143 (g1P σ v n gn) _ _ ls ⟨⟨rfl, rfl, (by unfold g2P; rw [if_neg (by rintro ⟨y1, y2, y3, y4⟩; first | exact absurd y1 c_8 | omega | exact y4 c_8)]), (by omega)⟩, (lv_sub hl [1, 2, 3, 4, 5, 6, 7, 0, 8, 9, 10, 11] rfl)⟩
            ·
              refine lv_iload C0.hx C0.hb dL_version_102 (lv_at hl 11 rfl) ?_
              refine lv_aload_n C0.hx C0.hb dL_version_104 rfl (lv_at hl 3 rfl) ?_
              refine lv_iconst (v := nI 2) C0.hx C0.hb dL_version_105 (by decide) ?_
              refine x_iald C0 hP 30 2 3 (NLA_M _ (mM_n rfl rfl)) rfl (by omega) (by decide) dL_version_106 ?_
              obtain ⟨e_9, b_10⟩ := (ok.lim : inR (σ 30 0 2) _)
              refine x_top e_9 ?_
              refine x_icmp_lt (tgt := 141) C0.hx C0.hb (by omega) (by omega) dL_version_107 (by decide) (fun c_11 => ?_) (fun c_11 => ?_)
              ·
                refine lv_iload C0.hx C0.hb dL_version_141 (lv_at hl 0 rfl) ?_
                exact J143 (g1P σ v n gn) _ _ ls ⟨⟨rfl, rfl, (by unfold g2P; rw [if_neg (by rintro ⟨y1, y2, y3, y4⟩; first | exact absurd y1 c_11 | omega | exact y4 c_11)]), (by omega)⟩, (lv_sub hl [1, 2, 3, 4, 5, 6, 7, 0, 8, 9, 10, 11] rfl)⟩
              ·
                refine lv_aload_n C0.hx C0.hb dL_version_110 rfl (lv_at hl 4 rfl) ?_
                refine lv_iconst (v := nI 4) C0.hx C0.hb dL_version_111 (by decide) ?_
                refine lv_iload_n C0.hx C0.hb dL_version_112 rfl (lv_at hl 2 rfl) ?_
                refine lv_iadd C0.hx C0.hb dL_version_113 ?_
                refine x_top (nI_add 4 v) ?_
                refine x_iald C0 hP 31 (4 + v) 20 (NLA_M _ (mM_n rfl rfl)) rfl (by omega) (by decide) dL_version_114 ?_
                obtain ⟨e_12, b_13⟩ := (ok.ses (by omega) : inR (σ 31 0 (4 + v)) _)
                refine x_top e_12 ?_
                refine lv_bipush (v := nI 49) C0.hx C0.hb dL_version_115 (by decide) ?_
                refine x_icmp_le (tgt := 141) C0.hx C0.hb (by omega) (by omega) dL_version_117 (by decide) (fun c_14 => ?_) (fun c_14 => ?_)
                ·
                  refine lv_iload C0.hx C0.hb dL_version_141 (lv_at hl 0 rfl) ?_
                  exact J143 (g1P σ v n gn) _ _ ls ⟨⟨rfl, rfl, (by unfold g2P; rw [if_neg (by rintro ⟨y1, y2, y3, y4⟩; first | exact absurd y1 c_14 | omega | exact y4 c_14)]), (by omega)⟩, (lv_sub hl [1, 2, 3, 4, 5, 6, 7, 0, 8, 9, 10, 11] rfl)⟩
                ·
                  refine lv_iload C0.hx C0.hb dL_version_120 (lv_at hl 10 rfl) ?_
                  refine lv_iload_n C0.hx C0.hb dL_version_122 rfl (lv_at hl 2 rfl) ?_
                  refine lv_aload_n C0.hx C0.hb dL_version_123 rfl (lv_at hl 3 rfl) ?_
                  refine lv_aload C0.hx C0.hb dL_version_124 (lv_at hl 5 rfl) ?_
                  refine lv_aload C0.hx C0.hb dL_version_126 (lv_at hl 6 rfl) ?_
                  refine lv_aload C0.hx C0.hb dL_version_128 (lv_at hl 7 rfl) ?_
                  refine x_Si (As := [.int (nI n), .int (nI v), .ref (a 30 0), .ref (a 35 0), .ref (a 36 0), .ref (a 39 0)]) (rest := []) C0 (mtL_users l g a σ n v (by omega) ok) hP C0.2.2.2.1 (va_cwS 6 C0.hts gL_version_L_users rfl rfl rfl (by decide +kernel) ⟨Nat.le_of_ble_eq_true rfl, Nat.le_of_ble_eq_true rfl⟩) rfl hl rfl (Nat.le_of_ble_eq_true rfl) (by show _ ≤ 2; omega) (by show _ ≤ 12; omega) dL_version_130 ?_
                  refine lv_iconst (v := nI 1) C0.hx C0.hb dL_version_133 (by decide) ?_
                  refine lv_icmp_le (tgt := 141) C0.hx C0.hb dL_version_134 (by decide) (fun c_15 => ?_) (fun c_15 => ?_)
                  ·
                    refine lv_iload C0.hx C0.hb dL_version_141 (lv_at hl 0 rfl) ?_
                    exact J143 (g1P σ v n gn) _ _ ls ⟨⟨rfl, rfl, (by unfold g2P; rw [if_neg (by rintro ⟨y1, y2, y3, y4⟩; first | exact absurd y1 c_15 | omega | exact y4 c_15)]), (by omega)⟩, (lv_sub hl [1, 2, 3, 4, 5, 6, 7, 0, 8, 9, 10, 11] rfl)⟩
                  ·
                    refine lv_iconst (v := nI 2) C0.hx C0.hb dL_version_137 (by decide) ?_
                    refine lv_goto (tgt := 143) C0.hx C0.hb dL_version_138 (by decide) ?_
                    exact J143 2 _ _ ls ⟨⟨rfl, rfl, (by unfold g2P; rw [if_pos ⟨c_8, by omega, by omega, c_15⟩]), (by omega)⟩, (lv_sub hl [1, 2, 3, 4, 5, 6, 7, 0, 8, 9, 10, 11] rfl)⟩
        ·
          refine lv_iload C0.hx C0.hb dL_version_65 (lv_at hl 8 rfl) ?_
          refine x_ifnen (tgt := 85) C0.hx C0.hb (by omega) dL_version_67 (by decide) (fun c_16 => ?_) (fun c_16 => ?_)
          ·
            refine lv_iload C0.hx C0.hb dL_version_85 (lv_at hl 8 rfl) ?_
            exact J87 gn _ _ ls ⟨⟨rfl, rfl, (by unfold g1P; rw [if_neg (by omega)]), (by omega)⟩, (lv_sub hl [1, 2, 3, 4, 5, 6, 7, 8, 9, 10, 11, 0] rfl)⟩
          ·
            refine lv_iload C0.hx C0.hb dL_version_70 (lv_at hl 0 rfl) ?_
            refine lv_iload C0.hx C0.hb dL_version_72 (lv_at hl 0 rfl) ?_
            refine lv_iadd C0.hx C0.hb dL_version_74 ?_
            refine x_top (nI_add (vrP σ v n) (vrP σ v n)) ?_
            refine lv_aload_n C0.hx C0.hb dL_version_75 rfl (lv_at hl 3 rfl) ?_
            refine lv_iconst (v := nI 2) C0.hx C0.hb dL_version_76 (by decide) ?_
            refine x_iald C0 hP 30 2 3 (NLA_M _ (mM_n rfl rfl)) rfl (by omega) (by decide) dL_version_77 ?_
            obtain ⟨e_17, b_18⟩ := (ok.lim : inR (σ 30 0 2) _)
            refine x_top e_17 ?_
            refine x_icmp_lt (tgt := 85) C0.hx C0.hb (by omega) (by omega) dL_version_78 (by decide) (fun c_19 => ?_) (fun c_19 => ?_)
            ·
              refine lv_iload C0.hx C0.hb dL_version_85 (lv_at hl 8 rfl) ?_
              exact J87 gn _ _ ls ⟨⟨rfl, rfl, (by unfold g1P; rw [if_neg (by omega)]), (by omega)⟩, (lv_sub hl [1, 2, 3, 4, 5, 6, 7, 8, 9, 10, 11, 0] rfl)⟩
            ·
              refine lv_iconst (v := nI 1) C0.hx C0.hb dL_version_81 (by decide) ?_
              refine lv_goto (tgt := 87) C0.hx C0.hb dL_version_82 (by decide) ?_
              exact J87 1 _ _ ls ⟨⟨rfl, rfl, (by unfold g1P; rw [if_pos ⟨c_16, by omega⟩]), (by omega)⟩, (lv_sub hl [1, 2, 3, 4, 5, 6, 7, 8, 9, 10, 11, 0] rfl)⟩
      ·
        refine lv_aload C0.hx C0.hb dL_version_34 (lv_at hl 6 rfl) ?_
        refine lv_bipush (v := nI 12) C0.hx C0.hb dL_version_36 (by decide) ?_
        refine lv_iload C0.hx C0.hb dL_version_38 (lv_at hl 10 rfl) ?_
        refine lv_iadd C0.hx C0.hb dL_version_40 ?_
        refine x_top (nI_add 12 n) ?_
        refine x_iald C0 hP 39 (12 + n) 24 (NLA_M _ (mM_n rfl rfl)) rfl (by omega) (by decide) dL_version_41 ?_
        refine lv_iload C0.hx C0.hb dL_version_42 (lv_at hl 10 rfl) ?_
        refine lv_icmp_ne (tgt := 62) C0.hx C0.hb dL_version_44 (by decide) (fun c_20 => ?_) (fun c_20 => ?_)
        ·
          refine lv_iconst (v := nI 0) C0.hx C0.hb dL_version_62 (by decide) ?_
          exact J63 0 _ _ ls ⟨⟨rfl, rfl, (by unfold vrP; rw [if_neg c_20]), (by omega)⟩, (lv_sub hl [0, 1, 2, 3, 4, 5, 6, 7, 8, 9, 10] rfl)⟩
        ·
          refine lv_iload C0.hx C0.hb dL_version_47 (lv_at hl 10 rfl) ?_
          refine lv_iload_n C0.hx C0.hb dL_version_49 rfl (lv_at hl 1 rfl) ?_
          refine lv_aload_n C0.hx C0.hb dL_version_50 rfl (lv_at hl 2 rfl) ?_
          refine lv_aload_n C0.hx C0.hb dL_version_51 rfl (lv_at hl 3 rfl) ?_
          refine lv_aload C0.hx C0.hb dL_version_52 (lv_at hl 4 rfl) ?_
          refine lv_aload C0.hx C0.hb dL_version_54 (lv_at hl 6 rfl) ?_
          refine x_Si (As := [.int (nI n), .int (nI v), .ref (a 30 0), .ref (a 31 0), .ref (a 35 0), .ref (a 39 0)]) (rest := []) C0 (mtL_rate l g a σ n v (by omega) (by omega) ok) hP C0.2.2.2.1 (va_cwS 6 C0.hts gL_version_L_rate rfl rfl rfl (by decide +kernel) ⟨Nat.le_of_ble_eq_true rfl, Nat.le_of_ble_eq_true rfl⟩) rfl hl rfl (Nat.le_of_ble_eq_true rfl) (by show _ ≤ 2; omega) (by show _ ≤ 12; omega) dL_version_56 ?_
          refine lv_goto (tgt := 63) C0.hx C0.hb dL_version_59 (by decide) ?_
          exact J63 (rtP σ n v) _ _ ls ⟨⟨rfl, rfl, (by unfold vrP; rw [if_pos c_20]), (rtP_le ok)⟩, (lv_sub hl [0, 1, 2, 3, 4, 5, 6, 7, 8, 9, 10] rfl)⟩
  ·
    refine lv_aload_n C0.hx C0.hb dL_version_0 rfl (lv_at hl 3 rfl) ?_
    refine lv_iconst (v := nI 4) C0.hx C0.hb dL_version_1 (by decide) ?_
    refine lv_iload_n C0.hx C0.hb dL_version_2 rfl (lv_at hl 1 rfl) ?_
    refine lv_iadd C0.hx C0.hb dL_version_3 ?_
    refine x_top (nI_add 4 v) ?_
    refine x_iald C0 hP 31 (4 + v) 20 (NLA_M _ (mM_n rfl rfl)) rfl (by omega) (by decide) dL_version_4 ?_
    obtain ⟨e_21, b_22⟩ := (ok.ses (by omega) : inR (σ 31 0 (4 + v)) _)
    refine x_top e_21 ?_
    refine lv_bipush (v := nI 50) C0.hx C0.hb dL_version_5 (by decide) ?_
    refine x_icmp_ge (tgt := 14) C0.hx C0.hb (by omega) (by omega) dL_version_7 (by decide) (fun c_23 => ?_) (fun c_23 => ?_)
    ·
      refine lv_iconst (v := nI 0) C0.hx C0.hb dL_version_14 (by decide) ?_
      exact J15 0 _ _ ls ⟨⟨rfl, rfl, (by rw [if_neg (by omega)]), (by omega)⟩, (lv_sub hl [0, 1, 2, 3, 4, 5, 6] rfl)⟩
    ·
      refine lv_iconst (v := nI 1) C0.hx C0.hb dL_version_10 (by decide) ?_
      refine lv_goto (tgt := 15) C0.hx C0.hb dL_version_11 (by decide) ?_
      exact J15 1 _ _ ls ⟨⟨rfl, rfl, (by rw [if_pos c_23]), (by omega)⟩, (lv_sub hl [0, 1, 2, 3, 4, 5, 6] rfl)⟩

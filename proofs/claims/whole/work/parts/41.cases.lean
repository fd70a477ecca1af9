theorem igM_01 {τ : xS} {f : Int32} (o : okM τ) (h : chB (igC f) = true) : igMV τ f = 0 ∨ igMV τ f = 1 := by
  unfold igMV
  split
  · next hf =>
    obtain ⟨j, hj, rfl⟩ := inX_nat (n := 29) (by decide) hf
    have e : nv (nI j) = j := nI_clamp (by omega)
    rw [e]
    exact o.ign (by omega)
  · exact Or.inl rfl
set_option maxHeartbeats 4000000 in
set_option maxRecDepth 100000 in
theorem lc_0 {p : Program} {l : Launch} {e : Env} {R : Room} {s : State} {m : MethodId} {args : Array Value} {below : List Frame} {meth : Method} {c : Code} {H : Heap} {locs : List Loc} {cells slots : Nat} {Q : State → Prop} {ls : Array Slot} {g : xG} {a : xAd} {σ τ : xS} {A : Nat → Prop} {b L : Nat} {xs : Nat → Int32} {I : xS → xS → Prop} (C0 : xC p s m args c cL_law 7 wsL_law RL NLA g a A) (hfl : l.stackTraces = false) (hT : xZt s) (hZ : xZh A s s.heap) (hW9 : xZw s) (hV : va_X b L xs s s.heap) (hbl : b < s.heap.size) (hbA : ¬ A b) (hL : L ≤ 3584) (hRf : 11 ≤ R.frames) (hRl : 404 ≤ R.locals) (hok : ∀ σ τ, I σ τ → (okX σ ∧ okF σ) ∧ (okM τ ∧ acM τ)) (hX : va_P g.1 vwCl (xw NLL g a σ) H) (hD : va_P g.1 vwCl (xw NLM g a τ) H) (hS : va_S A s.heap H locs) (hI : I σ τ) {i : Nat} (hi : i + 7 ≤ L) (hl : lv_has ls 7 [(4, .int (nI i)), (3, .ref (a 50 0)), (2, .ref (a 30 0)), (1, .ref (a 0 0)), (0, .ref b)]) (hc1 : cells + 4 ≤ R.cells) (hs1 : slots + 24 ≤ R.slots)
    (kk : ∀ (σ1 τ1 : xS) (H1 : Heap) (locs1 : List Loc) (ls1 : Array Slot) (cells1 slots1 : Nat), I σ1 τ1 → va_P g.1 vwCl (xw NLL g a σ1) H1 → va_P g.1 vwCl (xw NLM g a τ1) H1 → va_S A s.heap H1 locs1 → lv_has ls1 7 [(4, .int (nI i)), (3, .ref (a 50 0)), (2, .ref (a 30 0)), (1, .ref (a 0 0)), (0, .ref b)] → cells1 ≤ cells + 4 → slots1 ≤ slots + 24 → W p l e R s m args below meth c H1 locs1 cells1 slots1 Q (F0 m 1334 ls1 [])) (hst : ∀ σ τ, I σ τ → ∀ (z1 : Int32) (z2 : Int32) (z3 : Int32) (z4 : Int32), SF I (cd1 eIA) (arC σ z1 z2 z3 z4) σ (arS σ z1 z2 z3 z4) (arS σ z1 z2 z3 z4 6 0 (nv z1)) (arMS τ z1 z2 z3 z4) (arMV τ z1 z2 z3 z4)) : W p l e R s m args below meth c H locs cells slots Q (F0 m 132 ls []) := by
  obtain ⟨h1, h2, h3⟩ := hst σ τ hI (xs (i + 1)) (xs (i + 2)) (xs (i + 3)) (xs (i + 4))
  obtain ⟨⟨okx, okfx⟩, okm, acm⟩ := hok σ τ hI
  refine lv_aload_n C0.hx C0.hb dL_law_132 rfl (lv_at hl 3 rfl) ?_
  refine lv_aload_n C0.hx C0.hb dL_law_133 rfl (lv_at hl 4 rfl) ?_
  refine lv_iload C0.hx C0.hb dL_law_134 (lv_at hl 0 rfl) ?_
  refine lv_iconst (v := nI 1) C0.hx C0.hb dL_law_136 (by decide) ?_
  refine lv_iadd C0.hx C0.hb dL_law_137 ?_
  refine x_top (nI_add i 1) ?_
  refine x_sld C0 hV hbl hbA hS (by omega) hL dL_law_138 ?_
  refine lv_aload_n C0.hx C0.hb dL_law_139 rfl (lv_at hl 4 rfl) ?_
  refine lv_iload C0.hx C0.hb dL_law_140 (lv_at hl 0 rfl) ?_
  refine lv_iconst (v := nI 2) C0.hx C0.hb dL_law_142 (by decide) ?_
  refine lv_iadd C0.hx C0.hb dL_law_143 ?_
  refine x_top (nI_add i 2) ?_
  refine x_sld C0 hV hbl hbA hS (by omega) hL dL_law_144 ?_
  refine lv_aload_n C0.hx C0.hb dL_law_145 rfl (lv_at hl 4 rfl) ?_
  refine lv_iload C0.hx C0.hb dL_law_146 (lv_at hl 0 rfl) ?_
  refine lv_iconst (v := nI 3) C0.hx C0.hb dL_law_148 (by decide) ?_
  refine lv_iadd C0.hx C0.hb dL_law_149 ?_
  refine x_top (nI_add i 3) ?_
  refine x_sld C0 hV hbl hbA hS (by omega) hL dL_law_150 ?_
  refine lv_aload_n C0.hx C0.hb dL_law_151 rfl (lv_at hl 4 rfl) ?_
  refine lv_iload C0.hx C0.hb dL_law_152 (lv_at hl 0 rfl) ?_
  refine lv_iconst (v := nI 4) C0.hx C0.hb dL_law_154 (by decide) ?_
  refine lv_iadd C0.hx C0.hb dL_law_155 ?_
  refine x_top (nI_add i 4) ?_
  refine x_sld C0 hV hbl hbA hS (by omega) hL dL_law_156 ?_
  refine lv_aload_n C0.hx C0.hb dL_law_157 rfl (lv_at hl 1 rfl) ?_
  refine x_lS (As := [.ref (a 0 0), .int (xs (i + 1)), .int (xs (i + 2)), .int (xs (i + 3)), .int (xs (i + 4)), .ref (a 50 0)]) (rest := []) C0 (mtL_addRange l hfl g a σ (xs (i + 1)) (xs (i + 2)) (xs (i + 3)) (xs (i + 4)) okx okfx) hX hD hS hT hZ hW9 (vx_cwSW 6 C0.hts gL_law_L_addRange rfl rfl rfl (by decide +kernel) ⟨Nat.le_trans (Nat.le_of_ble_eq_true rfl) hRf, Nat.le_trans (Nat.le_of_ble_eq_true rfl) hRl⟩) rfl hl rfl (Nat.le_of_ble_eq_true rfl) (by omega) (by omega) dL_law_158 (fun H locs hX hD hS => ?_)
  refine lv_istore (lv' := [(5, .int (cdX (cd1 eIA) (arC σ (xs (i + 1)) (xs (i + 2)) (xs (i + 3)) (xs (i + 4))))), (4, .int (nI i)), (3, .ref (a 50 0)), (2, .ref (a 30 0)), (1, .ref (a 0 0)), (0, .ref b)]) C0.hx C0.hb dL_law_161 hl (by decide) rfl (fun ls hl => ?_)
  refine lv_aload_n C0.hx C0.hb dL_law_163 rfl (lv_at hl 3 rfl) ?_
  refine lv_aload_n C0.hx C0.hb dL_law_164 rfl (lv_at hl 5 rfl) ?_
  refine lv_iload C0.hx C0.hb dL_law_165 (lv_at hl 1 rfl) ?_
  refine lv_iconst (v := nI 1) C0.hx C0.hb dL_law_167 (by decide) ?_
  refine lv_iadd C0.hx C0.hb dL_law_168 ?_
  refine x_top (nI_add i 1) ?_
  refine x_sld C0 hV hbl hbA hS (by omega) hL dL_law_169 ?_
  refine lv_aload_n C0.hx C0.hb dL_law_170 rfl (lv_at hl 5 rfl) ?_
  refine lv_iload C0.hx C0.hb dL_law_171 (lv_at hl 1 rfl) ?_
  refine lv_iconst (v := nI 2) C0.hx C0.hb dL_law_173 (by decide) ?_
  refine lv_iadd C0.hx C0.hb dL_law_174 ?_
  refine x_top (nI_add i 2) ?_
  refine x_sld C0 hV hbl hbA hS (by omega) hL dL_law_175 ?_
  refine lv_aload_n C0.hx C0.hb dL_law_176 rfl (lv_at hl 5 rfl) ?_
  refine lv_iload C0.hx C0.hb dL_law_177 (lv_at hl 1 rfl) ?_
  refine lv_iconst (v := nI 3) C0.hx C0.hb dL_law_179 (by decide) ?_
  refine lv_iadd C0.hx C0.hb dL_law_180 ?_
  refine x_top (nI_add i 3) ?_
  refine x_sld C0 hV hbl hbA hS (by omega) hL dL_law_181 ?_
  refine lv_aload_n C0.hx C0.hb dL_law_182 rfl (lv_at hl 5 rfl) ?_
  refine lv_iload C0.hx C0.hb dL_law_183 (lv_at hl 1 rfl) ?_
  refine lv_iconst (v := nI 4) C0.hx C0.hb dL_law_185 (by decide) ?_
  refine lv_iadd C0.hx C0.hb dL_law_186 ?_
  refine x_top (nI_add i 4) ?_
  refine x_sld C0 hV hbl hbA hS (by omega) hL dL_law_187 ?_
  refine x_lM (As := [.int (xs (i + 1)), .int (xs (i + 2)), .int (xs (i + 3)), .int (xs (i + 4))]) (rest := []) C0 (mtX5_addRange l g a τ (xs (i + 1)) (xs (i + 2)) (xs (i + 3)) (xs (i + 4)) okm) hX hD hS (cwV 4 C0.hts gL_law_X5_addRange rfl rfl rfl (by decide +kernel) ⟨Nat.le_trans (Nat.le_of_ble_eq_true rfl) hRf, Nat.le_trans (Nat.le_of_ble_eq_true rfl) hRl⟩) (x_recv (NL := NLM) ⟨C0.1, C0.hK, C0.2.2.1, (xDj_A C0.2.2.2.1).2.1, fun n hn => C0.2.2.2.2.1 n (NLA_M n hn), C0.2.2.2.2.2⟩ hD 30 (mM_n rfl rfl) rfl rfl) rfl hl rfl (Nat.le_of_ble_eq_true rfl) (by omega) (by omega) dL_law_188 (fun H locs hX hD hS => ?_)
  refine lv_istore (lv' := [(6, .int (arMV τ (xs (i + 1)) (xs (i + 2)) (xs (i + 3)) (xs (i + 4)))), (5, .int (cdX (cd1 eIA) (arC σ (xs (i + 1)) (xs (i + 2)) (xs (i + 3)) (xs (i + 4))))), (4, .int (nI i)), (3, .ref (a 50 0)), (2, .ref (a 30 0)), (1, .ref (a 0 0)), (0, .ref b)]) C0.hx C0.hb dL_law_191 hl (by decide) rfl (fun ls hl => ?_)
  refine lv_aload_n C0.hx C0.hb dL_law_193 rfl (lv_at hl 4 rfl) ?_
  refine x_Vi (As := []) (rest := []) C0 (mtX5_thrown l g a (arMS τ (xs (i + 1)) (xs (i + 2)) (xs (i + 3)) (xs (i + 4)))) hD (xDj_A C0.2.2.2.1).2.1 (cwV 0 C0.hts gL_law_X5_thrown rfl rfl rfl (by decide +kernel) ⟨Nat.le_trans (Nat.le_of_ble_eq_true rfl) hRf, Nat.le_trans (Nat.le_of_ble_eq_true rfl) hRl⟩) (x_recv (NL := NLM) ⟨C0.1, C0.hK, C0.2.2.1, (xDj_A C0.2.2.2.1).2.1, fun n hn => C0.2.2.2.2.1 n (NLA_M n hn), C0.2.2.2.2.2⟩ hD 30 (mM_n rfl rfl) rfl rfl) rfl hl rfl (Nat.le_of_ble_eq_true rfl) (by omega) (by omega) dL_law_194 ?_
  refine lv_iload C0.hx C0.hb dL_law_197 (lv_at hl 1 rfl) ?_
  refine lv_icmp_eq (tgt := 204) C0.hx C0.hb dL_law_199 (by decide) (fun _ => ?_) (fun h => absurd h1.symm h)
  refine lv_iload C0.hx C0.hb dL_law_204 (lv_at hl 1 rfl) ?_
  refine lv_if_ne (tgt := 221) C0.hx C0.hb dL_law_206 (by decide) (fun hk => ?_) (fun hk => ?_)
  · refine lv_goto (tgt := 1334) C0.hx C0.hb dL_law_221 (by decide) ?_
    exact kk _ _ H locs ls _ _ h3 hX hD hS (lv_sub hl [2, 3, 4, 5, 6] rfl) (by omega) (by omega)
  · have hk : (cdX (cd1 eIA) (arC σ (xs (i + 1)) (xs (i + 2)) (xs (i + 3)) (xs (i + 4)))) = 0 := Classical.byContradiction (fun z => by first | exact hk z | exact z hk)
    have hB := cd_0 hk
    have hr := h2 hB
    refine lv_aload_n C0.hx C0.hb dL_law_209 rfl (lv_at hl 3 rfl) ?_
    refine lv_iconst (v := nI 0) C0.hx C0.hb dL_law_210 (by decide) ?_
    refine x_lald C0 hX (x := (arMV τ (xs (i + 1)) (xs (i + 2)) (xs (i + 3)) (xs (i + 4))).toInt64) (by rw [wS_out hB, hr]) dL_law_211 ?_
    refine lv_iload C0.hx C0.hb dL_law_212 (lv_at hl 0 rfl) ?_
    refine lv_i2l C0.hx C0.hb dL_law_214 rfl ?_
    refine x_lceq (tgt := 221) C0.hx C0.hb rfl dL_law_215 dL_law_216 (by decide) ?_
    refine lv_goto (tgt := 1334) C0.hx C0.hb dL_law_221 (by decide) ?_
    exact kk _ _ H locs ls _ _ h3 hX hD hS (lv_sub hl [2, 3, 4, 5, 6] rfl) (by omega) (by omega)
set_option maxHeartbeats 4000000 in
set_option maxRecDepth 100000 in
theorem lc_1 {p : Program} {l : Launch} {e : Env} {R : Room} {s : State} {m : MethodId} {args : Array Value} {below : List Frame} {meth : Method} {c : Code} {H : Heap} {locs : List Loc} {cells slots : Nat} {Q : State → Prop} {ls : Array Slot} {g : xG} {a : xAd} {σ τ : xS} {A : Nat → Prop} {b L : Nat} {xs : Nat → Int32} {I : xS → xS → Prop} (C0 : xC p s m args c cL_law 7 wsL_law RL NLA g a A) (hfl : l.stackTraces = false) (hT : xZt s) (hZ : xZh A s s.heap) (hW9 : xZw s) (hV : va_X b L xs s s.heap) (hbl : b < s.heap.size) (hbA : ¬ A b) (hL : L ≤ 3584) (hRf : 11 ≤ R.frames) (hRl : 404 ≤ R.locals) (hok : ∀ σ τ, I σ τ → (okX σ ∧ okF σ) ∧ (okM τ ∧ acM τ)) (hX : va_P g.1 vwCl (xw NLL g a σ) H) (hD : va_P g.1 vwCl (xw NLM g a τ) H) (hS : va_S A s.heap H locs) (hI : I σ τ) {i : Nat} (hi : i + 7 ≤ L) (hl : lv_has ls 7 [(4, .int (nI i)), (3, .ref (a 50 0)), (2, .ref (a 30 0)), (1, .ref (a 0 0)), (0, .ref b)]) (hc1 : cells + 4 ≤ R.cells) (hs1 : slots + 24 ≤ R.slots)
    (kk : ∀ (σ1 τ1 : xS) (H1 : Heap) (locs1 : List Loc) (ls1 : Array Slot) (cells1 slots1 : Nat), I σ1 τ1 → va_P g.1 vwCl (xw NLL g a σ1) H1 → va_P g.1 vwCl (xw NLM g a τ1) H1 → va_S A s.heap H1 locs1 → lv_has ls1 7 [(4, .int (nI i)), (3, .ref (a 50 0)), (2, .ref (a 30 0)), (1, .ref (a 0 0)), (0, .ref b)] → cells1 ≤ cells + 4 → slots1 ≤ slots + 24 → W p l e R s m args below meth c H1 locs1 cells1 slots1 Q (F0 m 1334 ls1 [])) (hst : ∀ σ τ, I σ τ → ∀ (z1 : Int32) (z2 : Bool), SF I (cd1 eIA) (igC z1) σ (igS σ z1 z2) (σ 10 0 (nv z1)) (igMS τ z1 z2) (igMV τ z1)) : W p l e R s m args below meth c H locs cells slots Q (F0 m 224 ls []) := by
  obtain ⟨h1, h2, h3⟩ := hst σ τ hI (xs (i + 1)) (decide (xs (i + 2) ≠ 0))
  obtain ⟨⟨okx, okfx⟩, okm, acm⟩ := hok σ τ hI
  refine lv_aload_n C0.hx C0.hb dL_law_224 rfl (lv_at hl 3 rfl) ?_
  refine lv_aload_n C0.hx C0.hb dL_law_225 rfl (lv_at hl 4 rfl) ?_
  refine lv_iload C0.hx C0.hb dL_law_226 (lv_at hl 0 rfl) ?_
  refine lv_iconst (v := nI 1) C0.hx C0.hb dL_law_228 (by decide) ?_
  refine lv_iadd C0.hx C0.hb dL_law_229 ?_
  refine x_top (nI_add i 1) ?_
  refine x_sld C0 hV hbl hbA hS (by omega) hL dL_law_230 ?_
  refine lv_aload_n C0.hx C0.hb dL_law_231 rfl (lv_at hl 4 rfl) ?_
  refine lv_iload C0.hx C0.hb dL_law_232 (lv_at hl 0 rfl) ?_
  refine lv_iconst (v := nI 2) C0.hx C0.hb dL_law_234 (by decide) ?_
  refine lv_iadd C0.hx C0.hb dL_law_235 ?_
  refine x_top (nI_add i 2) ?_
  refine x_sld C0 hV hbl hbA hS (by omega) hL dL_law_236 ?_
  refine x_boo C0.hx C0.hb dL_law_237 dL_law_240 dL_law_241 dL_law_244 ?_
  refine lv_aload_n C0.hx C0.hb dL_law_245 rfl (lv_at hl 1 rfl) ?_
  refine x_lS (As := [.ref (a 0 0), .int (xs (i + 1)), .int (bI (decide (xs (i + 2) ≠ 0))), .ref (a 50 0)]) (rest := []) C0 (mtL_ignore l hfl g a σ (xs (i + 1)) (decide (xs (i + 2) ≠ 0)) okx okfx) hX hD hS hT hZ hW9 (vx_cwSW 4 C0.hts gL_law_L_ignore rfl rfl rfl (by decide +kernel) ⟨Nat.le_trans (Nat.le_of_ble_eq_true rfl) hRf, Nat.le_trans (Nat.le_of_ble_eq_true rfl) hRl⟩) rfl hl rfl (Nat.le_of_ble_eq_true rfl) (by omega) (by omega) dL_law_246 (fun H locs hX hD hS => ?_)
  refine lv_istore (lv' := [(5, .int (cdX (cd1 eIA) (igC (xs (i + 1))))), (4, .int (nI i)), (3, .ref (a 50 0)), (2, .ref (a 30 0)), (1, .ref (a 0 0)), (0, .ref b)]) C0.hx C0.hb dL_law_249 hl (by decide) rfl (fun ls hl => ?_)
  refine lv_aload_n C0.hx C0.hb dL_law_251 rfl (lv_at hl 3 rfl) ?_
  refine lv_aload_n C0.hx C0.hb dL_law_252 rfl (lv_at hl 5 rfl) ?_
  refine lv_iload C0.hx C0.hb dL_law_253 (lv_at hl 1 rfl) ?_
  refine lv_iconst (v := nI 1) C0.hx C0.hb dL_law_255 (by decide) ?_
  refine lv_iadd C0.hx C0.hb dL_law_256 ?_
  refine x_top (nI_add i 1) ?_
  refine x_sld C0 hV hbl hbA hS (by omega) hL dL_law_257 ?_
  refine lv_aload_n C0.hx C0.hb dL_law_258 rfl (lv_at hl 5 rfl) ?_
  refine lv_iload C0.hx C0.hb dL_law_259 (lv_at hl 1 rfl) ?_
  refine lv_iconst (v := nI 2) C0.hx C0.hb dL_law_261 (by decide) ?_
  refine lv_iadd C0.hx C0.hb dL_law_262 ?_
  refine x_top (nI_add i 2) ?_
  refine x_sld C0 hV hbl hbA hS (by omega) hL dL_law_263 ?_
  refine x_boo C0.hx C0.hb dL_law_264 dL_law_267 dL_law_268 dL_law_271 ?_
  refine x_lM (As := [.int (xs (i + 1)), .int (bI (decide (xs (i + 2) ≠ 0)))]) (rest := []) C0 (mtX5_ignore l g a τ (xs (i + 1)) (decide (xs (i + 2) ≠ 0)) okm) hX hD hS (cwV 2 C0.hts gL_law_X5_ignore rfl rfl rfl (by decide +kernel) ⟨Nat.le_trans (Nat.le_of_ble_eq_true rfl) hRf, Nat.le_trans (Nat.le_of_ble_eq_true rfl) hRl⟩) (x_recv (NL := NLM) ⟨C0.1, C0.hK, C0.2.2.1, (xDj_A C0.2.2.2.1).2.1, fun n hn => C0.2.2.2.2.1 n (NLA_M n hn), C0.2.2.2.2.2⟩ hD 30 (mM_n rfl rfl) rfl rfl) rfl hl rfl (Nat.le_of_ble_eq_true rfl) (by omega) (by omega) dL_law_272 (fun H locs hX hD hS => ?_)
  refine lv_istore (lv' := [(6, .int (igMV τ (xs (i + 1)))), (5, .int (cdX (cd1 eIA) (igC (xs (i + 1))))), (4, .int (nI i)), (3, .ref (a 50 0)), (2, .ref (a 30 0)), (1, .ref (a 0 0)), (0, .ref b)]) C0.hx C0.hb dL_law_275 hl (by decide) rfl (fun ls hl => ?_)
  refine lv_aload_n C0.hx C0.hb dL_law_277 rfl (lv_at hl 4 rfl) ?_
  refine x_Vi (As := []) (rest := []) C0 (mtX5_thrown l g a (igMS τ (xs (i + 1)) (decide (xs (i + 2) ≠ 0)))) hD (xDj_A C0.2.2.2.1).2.1 (cwV 0 C0.hts gL_law_X5_thrown rfl rfl rfl (by decide +kernel) ⟨Nat.le_trans (Nat.le_of_ble_eq_true rfl) hRf, Nat.le_trans (Nat.le_of_ble_eq_true rfl) hRl⟩) (x_recv (NL := NLM) ⟨C0.1, C0.hK, C0.2.2.1, (xDj_A C0.2.2.2.1).2.1, fun n hn => C0.2.2.2.2.1 n (NLA_M n hn), C0.2.2.2.2.2⟩ hD 30 (mM_n rfl rfl) rfl rfl) rfl hl rfl (Nat.le_of_ble_eq_true rfl) (by omega) (by omega) dL_law_278 ?_
  refine lv_iload C0.hx C0.hb dL_law_281 (lv_at hl 1 rfl) ?_
  refine lv_icmp_eq (tgt := 288) C0.hx C0.hb dL_law_283 (by decide) (fun _ => ?_) (fun h => absurd h1.symm h)
  refine lv_iload C0.hx C0.hb dL_law_288 (lv_at hl 1 rfl) ?_
  refine lv_if_ne (tgt := 312) C0.hx C0.hb dL_law_290 (by decide) (fun hk => ?_) (fun hk => ?_)
  · refine lv_goto (tgt := 1334) C0.hx C0.hb dL_law_312 (by decide) ?_
    exact kk _ _ H locs ls _ _ h3 hX hD hS (lv_sub hl [2, 3, 4, 5, 6] rfl) (by omega) (by omega)
  · have hk : (cdX (cd1 eIA) (igC (xs (i + 1)))) = 0 := Classical.byContradiction (fun z => by first | exact hk z | exact z hk)
    have hB := cd_0 hk
    have hr := h2 hB
    refine lv_aload_n C0.hx C0.hb dL_law_293 rfl (lv_at hl 3 rfl) ?_
    refine lv_iconst (v := nI 0) C0.hx C0.hb dL_law_294 (by decide) ?_
    refine x_lald C0 hX (x := (igMV τ (xs (i + 1))).toInt64) (by rw [wS_out hB, hr]) dL_law_295 ?_
    refine lv_iload C0.hx C0.hb dL_law_296 (lv_at hl 0 rfl) ?_
    refine x_bool C0.hx C0.hb (igM_01 okm hB) rfl dL_law_298 dL_law_301 dL_law_302 dL_law_305 ?_
    refine x_lceq (tgt := 312) C0.hx C0.hb rfl dL_law_306 dL_law_307 (by decide) ?_
    refine lv_goto (tgt := 1334) C0.hx C0.hb dL_law_312 (by decide) ?_
    exact kk _ _ H locs ls _ _ h3 hX hD hS (lv_sub hl [2, 3, 4, 5, 6] rfl) (by omega) (by omega)
set_option maxHeartbeats 4000000 in
set_option maxRecDepth 100000 in
theorem lc_2 {p : Program} {l : Launch} {e : Env} {R : Room} {s : State} {m : MethodId} {args : Array Value} {below : List Frame} {meth : Method} {c : Code} {H : Heap} {locs : List Loc} {cells slots : Nat} {Q : State → Prop} {ls : Array Slot} {g : xG} {a : xAd} {σ τ : xS} {A : Nat → Prop} {b L : Nat} {xs : Nat → Int32} {I : xS → xS → Prop} (C0 : xC p s m args c cL_law 7 wsL_law RL NLA g a A) (hfl : l.stackTraces = false) (hT : xZt s) (hZ : xZh A s s.heap) (hW9 : xZw s) (hV : va_X b L xs s s.heap) (hbl : b < s.heap.size) (hbA : ¬ A b) (hL : L ≤ 3584) (hRf : 11 ≤ R.frames) (hRl : 404 ≤ R.locals) (hok : ∀ σ τ, I σ τ → (okX σ ∧ okF σ) ∧ (okM τ ∧ acM τ)) (hX : va_P g.1 vwCl (xw NLL g a σ) H) (hD : va_P g.1 vwCl (xw NLM g a τ) H) (hS : va_S A s.heap H locs) (hI : I σ τ) {i : Nat} (hi : i + 7 ≤ L) (hl : lv_has ls 7 [(4, .int (nI i)), (3, .ref (a 50 0)), (2, .ref (a 30 0)), (1, .ref (a 0 0)), (0, .ref b)]) (hc1 : cells + 4 ≤ R.cells) (hs1 : slots + 24 ≤ R.slots)
    (kk : ∀ (σ1 τ1 : xS) (H1 : Heap) (locs1 : List Loc) (ls1 : Array Slot) (cells1 slots1 : Nat), I σ1 τ1 → va_P g.1 vwCl (xw NLL g a σ1) H1 → va_P g.1 vwCl (xw NLM g a τ1) H1 → va_S A s.heap H1 locs1 → lv_has ls1 7 [(4, .int (nI i)), (3, .ref (a 50 0)), (2, .ref (a 30 0)), (1, .ref (a 0 0)), (0, .ref b)] → cells1 ≤ cells + 4 → slots1 ≤ slots + 24 → W p l e R s m args below meth c H1 locs1 cells1 slots1 Q (F0 m 1334 ls1 [])) (hst : ∀ σ τ, I σ τ → ∀ (z1 : Int32) (z2 : Int32), SF I (cd1 eIA) (sfC σ z1 z2) σ (sfS σ z1 z2) (σ 11 0 (nv z1)) (sfMS τ z1 z2) (sfMV τ z1 z2)) : W p l e R s m args below meth c H locs cells slots Q (F0 m 315 ls []) := by
  obtain ⟨h1, h2, h3⟩ := hst σ τ hI (xs (i + 1)) (xs (i + 2))
  obtain ⟨⟨okx, okfx⟩, okm, acm⟩ := hok σ τ hI
  refine lv_aload_n C0.hx C0.hb dL_law_315 rfl (lv_at hl 3 rfl) ?_
  refine lv_aload_n C0.hx C0.hb dL_law_316 rfl (lv_at hl 4 rfl) ?_
  refine lv_iload C0.hx C0.hb dL_law_317 (lv_at hl 0 rfl) ?_
  refine lv_iconst (v := nI 1) C0.hx C0.hb dL_law_319 (by decide) ?_
  refine lv_iadd C0.hx C0.hb dL_law_320 ?_
  refine x_top (nI_add i 1) ?_
  refine x_sld C0 hV hbl hbA hS (by omega) hL dL_law_321 ?_
  refine lv_aload_n C0.hx C0.hb dL_law_322 rfl (lv_at hl 4 rfl) ?_
  refine lv_iload C0.hx C0.hb dL_law_323 (lv_at hl 0 rfl) ?_
  refine lv_iconst (v := nI 2) C0.hx C0.hb dL_law_325 (by decide) ?_
  refine lv_iadd C0.hx C0.hb dL_law_326 ?_
  refine x_top (nI_add i 2) ?_
  refine x_sld C0 hV hbl hbA hS (by omega) hL dL_law_327 ?_
  refine lv_aload_n C0.hx C0.hb dL_law_328 rfl (lv_at hl 1 rfl) ?_
  refine x_lS (As := [.ref (a 0 0), .int (xs (i + 1)), .int (xs (i + 2)), .ref (a 50 0)]) (rest := []) C0 (mtL_standFor l hfl g a σ (xs (i + 1)) (xs (i + 2)) okx okfx) hX hD hS hT hZ hW9 (vx_cwSW 4 C0.hts gL_law_L_standFor rfl rfl rfl (by decide +kernel) ⟨Nat.le_trans (Nat.le_of_ble_eq_true rfl) hRf, Nat.le_trans (Nat.le_of_ble_eq_true rfl) hRl⟩) rfl hl rfl (Nat.le_of_ble_eq_true rfl) (by omega) (by omega) dL_law_329 (fun H locs hX hD hS => ?_)
  refine lv_istore (lv' := [(5, .int (cdX (cd1 eIA) (sfC σ (xs (i + 1)) (xs (i + 2))))), (4, .int (nI i)), (3, .ref (a 50 0)), (2, .ref (a 30 0)), (1, .ref (a 0 0)), (0, .ref b)]) C0.hx C0.hb dL_law_332 hl (by decide) rfl (fun ls hl => ?_)
  refine lv_aload_n C0.hx C0.hb dL_law_334 rfl (lv_at hl 3 rfl) ?_
  refine lv_aload_n C0.hx C0.hb dL_law_335 rfl (lv_at hl 5 rfl) ?_
  refine lv_iload C0.hx C0.hb dL_law_336 (lv_at hl 1 rfl) ?_
  refine lv_iconst (v := nI 1) C0.hx C0.hb dL_law_338 (by decide) ?_
  refine lv_iadd C0.hx C0.hb dL_law_339 ?_
  refine x_top (nI_add i 1) ?_
  refine x_sld C0 hV hbl hbA hS (by omega) hL dL_law_340 ?_
  refine lv_aload_n C0.hx C0.hb dL_law_341 rfl (lv_at hl 5 rfl) ?_
  refine lv_iload C0.hx C0.hb dL_law_342 (lv_at hl 1 rfl) ?_
  refine lv_iconst (v := nI 2) C0.hx C0.hb dL_law_344 (by decide) ?_
  refine lv_iadd C0.hx C0.hb dL_law_345 ?_
  refine x_top (nI_add i 2) ?_
  refine x_sld C0 hV hbl hbA hS (by omega) hL dL_law_346 ?_
  refine x_lM (As := [.int (xs (i + 1)), .int (xs (i + 2))]) (rest := []) C0 (mtX5_standFor l g a τ (xs (i + 1)) (xs (i + 2)) okm) hX hD hS (cwV 2 C0.hts gL_law_X5_standFor rfl rfl rfl (by decide +kernel) ⟨Nat.le_trans (Nat.le_of_ble_eq_true rfl) hRf, Nat.le_trans (Nat.le_of_ble_eq_true rfl) hRl⟩) (x_recv (NL := NLM) ⟨C0.1, C0.hK, C0.2.2.1, (xDj_A C0.2.2.2.1).2.1, fun n hn => C0.2.2.2.2.1 n (NLA_M n hn), C0.2.2.2.2.2⟩ hD 30 (mM_n rfl rfl) rfl rfl) rfl hl rfl (Nat.le_of_ble_eq_true rfl) (by omega) (by omega) dL_law_347 (fun H locs hX hD hS => ?_)
  refine lv_istore (lv' := [(6, .int (sfMV τ (xs (i + 1)) (xs (i + 2)))), (5, .int (cdX (cd1 eIA) (sfC σ (xs (i + 1)) (xs (i + 2))))), (4, .int (nI i)), (3, .ref (a 50 0)), (2, .ref (a 30 0)), (1, .ref (a 0 0)), (0, .ref b)]) C0.hx C0.hb dL_law_350 hl (by decide) rfl (fun ls hl => ?_)
  refine lv_aload_n C0.hx C0.hb dL_law_352 rfl (lv_at hl 4 rfl) ?_
  refine x_Vi (As := []) (rest := []) C0 (mtX5_thrown l g a (sfMS τ (xs (i + 1)) (xs (i + 2)))) hD (xDj_A C0.2.2.2.1).2.1 (cwV 0 C0.hts gL_law_X5_thrown rfl rfl rfl (by decide +kernel) ⟨Nat.le_trans (Nat.le_of_ble_eq_true rfl) hRf, Nat.le_trans (Nat.le_of_ble_eq_true rfl) hRl⟩) (x_recv (NL := NLM) ⟨C0.1, C0.hK, C0.2.2.1, (xDj_A C0.2.2.2.1).2.1, fun n hn => C0.2.2.2.2.1 n (NLA_M n hn), C0.2.2.2.2.2⟩ hD 30 (mM_n rfl rfl) rfl rfl) rfl hl rfl (Nat.le_of_ble_eq_true rfl) (by omega) (by omega) dL_law_353 ?_
  refine lv_iload C0.hx C0.hb dL_law_356 (lv_at hl 1 rfl) ?_
  refine lv_icmp_eq (tgt := 363) C0.hx C0.hb dL_law_358 (by decide) (fun _ => ?_) (fun h => absurd h1.symm h)
  refine lv_iload C0.hx C0.hb dL_law_363 (lv_at hl 1 rfl) ?_
  refine lv_if_ne (tgt := 380) C0.hx C0.hb dL_law_365 (by decide) (fun hk => ?_) (fun hk => ?_)
  · refine lv_goto (tgt := 1334) C0.hx C0.hb dL_law_380 (by decide) ?_
    exact kk _ _ H locs ls _ _ h3 hX hD hS (lv_sub hl [2, 3, 4, 5, 6] rfl) (by omega) (by omega)
  · have hk : (cdX (cd1 eIA) (sfC σ (xs (i + 1)) (xs (i + 2)))) = 0 := Classical.byContradiction (fun z => by first | exact hk z | exact z hk)
    have hB := cd_0 hk
    have hr := h2 hB
    refine lv_aload_n C0.hx C0.hb dL_law_368 rfl (lv_at hl 3 rfl) ?_
    refine lv_iconst (v := nI 0) C0.hx C0.hb dL_law_369 (by decide) ?_
    refine x_lald C0 hX (x := (sfMV τ (xs (i + 1)) (xs (i + 2))).toInt64) (by rw [wS_out hB, hr]) dL_law_370 ?_
    refine lv_iload C0.hx C0.hb dL_law_371 (lv_at hl 0 rfl) ?_
    refine lv_i2l C0.hx C0.hb dL_law_373 rfl ?_
    refine x_lceq (tgt := 380) C0.hx C0.hb rfl dL_law_374 dL_law_375 (by decide) ?_
    refine lv_goto (tgt := 1334) C0.hx C0.hb dL_law_380 (by decide) ?_
    exact kk _ _ H locs ls _ _ h3 hX hD hS (lv_sub hl [2, 3, 4, 5, 6] rfl) (by omega) (by omega)
set_option maxHeartbeats 4000000 in
set_option maxRecDepth 100000 in
theorem lc_3 {p : Program} {l : Launch} {e : Env} {R : Room} {s : State} {m : MethodId} {args : Array Value} {below : List Frame} {meth : Method} {c : Code} {H : Heap} {locs : List Loc} {cells slots : Nat} {Q : State → Prop} {ls : Array Slot} {g : xG} {a : xAd} {σ τ : xS} {A : Nat → Prop} {b L : Nat} {xs : Nat → Int32} {I : xS → xS → Prop} (C0 : xC p s m args c cL_law 7 wsL_law RL NLA g a A) (hfl : l.stackTraces = false) (hT : xZt s) (hZ : xZh A s s.heap) (hW9 : xZw s) (hV : va_X b L xs s s.heap) (hbl : b < s.heap.size) (hbA : ¬ A b) (hL : L ≤ 3584) (hRf : 11 ≤ R.frames) (hRl : 404 ≤ R.locals) (hok : ∀ σ τ, I σ τ → (okX σ ∧ okF σ) ∧ (okM τ ∧ acM τ)) (hX : va_P g.1 vwCl (xw NLL g a σ) H) (hD : va_P g.1 vwCl (xw NLM g a τ) H) (hS : va_S A s.heap H locs) (hI : I σ τ) {i : Nat} (hi : i + 7 ≤ L) (hl : lv_has ls 7 [(4, .int (nI i)), (3, .ref (a 50 0)), (2, .ref (a 30 0)), (1, .ref (a 0 0)), (0, .ref b)]) (hc1 : cells + 4 ≤ R.cells) (hs1 : slots + 24 ≤ R.slots)
    (kk : ∀ (σ1 τ1 : xS) (H1 : Heap) (locs1 : List Loc) (ls1 : Array Slot) (cells1 slots1 : Nat), I σ1 τ1 → va_P g.1 vwCl (xw NLL g a σ1) H1 → va_P g.1 vwCl (xw NLM g a τ1) H1 → va_S A s.heap H1 locs1 → lv_has ls1 7 [(4, .int (nI i)), (3, .ref (a 50 0)), (2, .ref (a 30 0)), (1, .ref (a 0 0)), (0, .ref b)] → cells1 ≤ cells + 4 → slots1 ≤ slots + 24 → W p l e R s m args below meth c H1 locs1 cells1 slots1 Q (F0 m 1334 ls1 [])) (hst : ∀ σ τ, I σ τ → ∀ (z1 : Int32), SF I (cd1 eIA) (sdC z1) σ (sdS σ z1) (σ 2 0 0) (sdMS τ z1) (sdMV τ z1)) : W p l e R s m args below meth c H locs cells slots Q (F0 m 383 ls []) := by
  obtain ⟨h1, h2, h3⟩ := hst σ τ hI (xs (i + 1))
  obtain ⟨⟨okx, okfx⟩, okm, acm⟩ := hok σ τ hI
  refine lv_aload_n C0.hx C0.hb dL_law_383 rfl (lv_at hl 3 rfl) ?_
  refine lv_aload_n C0.hx C0.hb dL_law_384 rfl (lv_at hl 4 rfl) ?_
  refine lv_iload C0.hx C0.hb dL_law_385 (lv_at hl 0 rfl) ?_
  refine lv_iconst (v := nI 1) C0.hx C0.hb dL_law_387 (by decide) ?_
  refine lv_iadd C0.hx C0.hb dL_law_388 ?_
  refine x_top (nI_add i 1) ?_
  refine x_sld C0 hV hbl hbA hS (by omega) hL dL_law_389 ?_
  refine lv_aload_n C0.hx C0.hb dL_law_390 rfl (lv_at hl 1 rfl) ?_
  refine x_lS (As := [.ref (a 0 0), .int (xs (i + 1)), .ref (a 50 0)]) (rest := []) C0 (mtL_setDepth l hfl g a σ (xs (i + 1)) okx okfx) hX hD hS hT hZ hW9 (vx_cwSW 3 C0.hts gL_law_L_setDepth rfl rfl rfl (by decide +kernel) ⟨Nat.le_trans (Nat.le_of_ble_eq_true rfl) hRf, Nat.le_trans (Nat.le_of_ble_eq_true rfl) hRl⟩) rfl hl rfl (Nat.le_of_ble_eq_true rfl) (by omega) (by omega) dL_law_391 (fun H locs hX hD hS => ?_)
  refine lv_istore (lv' := [(5, .int (cdX (cd1 eIA) (sdC (xs (i + 1))))), (4, .int (nI i)), (3, .ref (a 50 0)), (2, .ref (a 30 0)), (1, .ref (a 0 0)), (0, .ref b)]) C0.hx C0.hb dL_law_394 hl (by decide) rfl (fun ls hl => ?_)
  refine lv_aload_n C0.hx C0.hb dL_law_396 rfl (lv_at hl 3 rfl) ?_
  refine lv_aload_n C0.hx C0.hb dL_law_397 rfl (lv_at hl 5 rfl) ?_
  refine lv_iload C0.hx C0.hb dL_law_398 (lv_at hl 1 rfl) ?_
  refine lv_iconst (v := nI 1) C0.hx C0.hb dL_law_400 (by decide) ?_
  refine lv_iadd C0.hx C0.hb dL_law_401 ?_
  refine x_top (nI_add i 1) ?_
  refine x_sld C0 hV hbl hbA hS (by omega) hL dL_law_402 ?_
  refine x_lM (As := [.int (xs (i + 1))]) (rest := []) C0 (mtX5_setDepth l g a τ (xs (i + 1)) okm) hX hD hS (cwV 1 C0.hts gL_law_X5_setDepth rfl rfl rfl (by decide +kernel) ⟨Nat.le_trans (Nat.le_of_ble_eq_true rfl) hRf, Nat.le_trans (Nat.le_of_ble_eq_true rfl) hRl⟩) (x_recv (NL := NLM) ⟨C0.1, C0.hK, C0.2.2.1, (xDj_A C0.2.2.2.1).2.1, fun n hn => C0.2.2.2.2.1 n (NLA_M n hn), C0.2.2.2.2.2⟩ hD 30 (mM_n rfl rfl) rfl rfl) rfl hl rfl (Nat.le_of_ble_eq_true rfl) (by omega) (by omega) dL_law_403 (fun H locs hX hD hS => ?_)
  refine lv_istore (lv' := [(6, .int (sdMV τ (xs (i + 1)))), (5, .int (cdX (cd1 eIA) (sdC (xs (i + 1))))), (4, .int (nI i)), (3, .ref (a 50 0)), (2, .ref (a 30 0)), (1, .ref (a 0 0)), (0, .ref b)]) C0.hx C0.hb dL_law_406 hl (by decide) rfl (fun ls hl => ?_)
  refine lv_aload_n C0.hx C0.hb dL_law_408 rfl (lv_at hl 4 rfl) ?_
  refine x_Vi (As := []) (rest := []) C0 (mtX5_thrown l g a (sdMS τ (xs (i + 1)))) hD (xDj_A C0.2.2.2.1).2.1 (cwV 0 C0.hts gL_law_X5_thrown rfl rfl rfl (by decide +kernel) ⟨Nat.le_trans (Nat.le_of_ble_eq_true rfl) hRf, Nat.le_trans (Nat.le_of_ble_eq_true rfl) hRl⟩) (x_recv (NL := NLM) ⟨C0.1, C0.hK, C0.2.2.1, (xDj_A C0.2.2.2.1).2.1, fun n hn => C0.2.2.2.2.1 n (NLA_M n hn), C0.2.2.2.2.2⟩ hD 30 (mM_n rfl rfl) rfl rfl) rfl hl rfl (Nat.le_of_ble_eq_true rfl) (by omega) (by omega) dL_law_409 ?_
  refine lv_iload C0.hx C0.hb dL_law_412 (lv_at hl 1 rfl) ?_
  refine lv_icmp_eq (tgt := 419) C0.hx C0.hb dL_law_414 (by decide) (fun _ => ?_) (fun h => absurd h1.symm h)
  refine lv_iload C0.hx C0.hb dL_law_419 (lv_at hl 1 rfl) ?_
  refine lv_if_ne (tgt := 436) C0.hx C0.hb dL_law_421 (by decide) (fun hk => ?_) (fun hk => ?_)
  · refine lv_goto (tgt := 1334) C0.hx C0.hb dL_law_436 (by decide) ?_
    exact kk _ _ H locs ls _ _ h3 hX hD hS (lv_sub hl [2, 3, 4, 5, 6] rfl) (by omega) (by omega)
  · have hk : (cdX (cd1 eIA) (sdC (xs (i + 1)))) = 0 := Classical.byContradiction (fun z => by first | exact hk z | exact z hk)
    have hB := cd_0 hk
    have hr := h2 hB
    refine lv_aload_n C0.hx C0.hb dL_law_424 rfl (lv_at hl 3 rfl) ?_
    refine lv_iconst (v := nI 0) C0.hx C0.hb dL_law_425 (by decide) ?_
    refine x_lald C0 hX (x := (sdMV τ (xs (i + 1))).toInt64) (by rw [wS_out hB, hr]) dL_law_426 ?_
    refine lv_iload C0.hx C0.hb dL_law_427 (lv_at hl 0 rfl) ?_
    refine lv_i2l C0.hx C0.hb dL_law_429 rfl ?_
    refine x_lceq (tgt := 436) C0.hx C0.hb rfl dL_law_430 dL_law_431 (by decide) ?_
    refine lv_goto (tgt := 1334) C0.hx C0.hb dL_law_436 (by decide) ?_
    exact kk _ _ H locs ls _ _ h3 hX hD hS (lv_sub hl [2, 3, 4, 5, 6] rfl) (by omega) (by omega)
set_option maxHeartbeats 4000000 in
set_option maxRecDepth 100000 in
theorem lc_4 {p : Program} {l : Launch} {e : Env} {R : Room} {s : State} {m : MethodId} {args : Array Value} {below : List Frame} {meth : Method} {c : Code} {H : Heap} {locs : List Loc} {cells slots : Nat} {Q : State → Prop} {ls : Array Slot} {g : xG} {a : xAd} {σ τ : xS} {A : Nat → Prop} {b L : Nat} {xs : Nat → Int32} {I : xS → xS → Prop} (C0 : xC p s m args c cL_law 7 wsL_law RL NLA g a A) (hfl : l.stackTraces = false) (hT : xZt s) (hZ : xZh A s s.heap) (hW9 : xZw s) (hV : va_X b L xs s s.heap) (hbl : b < s.heap.size) (hbA : ¬ A b) (hL : L ≤ 3584) (hRf : 11 ≤ R.frames) (hRl : 404 ≤ R.locals) (hok : ∀ σ τ, I σ τ → (okX σ ∧ okF σ) ∧ (okM τ ∧ acM τ)) (hX : va_P g.1 vwCl (xw NLL g a σ) H) (hD : va_P g.1 vwCl (xw NLM g a τ) H) (hS : va_S A s.heap H locs) (hI : I σ τ) {i : Nat} (hi : i + 7 ≤ L) (hl : lv_has ls 7 [(4, .int (nI i)), (3, .ref (a 50 0)), (2, .ref (a 30 0)), (1, .ref (a 0 0)), (0, .ref b)]) (hc1 : cells + 4 ≤ R.cells) (hs1 : slots + 24 ≤ R.slots)
    (kk : ∀ (σ1 τ1 : xS) (H1 : Heap) (locs1 : List Loc) (ls1 : Array Slot) (cells1 slots1 : Nat), I σ1 τ1 → va_P g.1 vwCl (xw NLL g a σ1) H1 → va_P g.1 vwCl (xw NLM g a τ1) H1 → va_S A s.heap H1 locs1 → lv_has ls1 7 [(4, .int (nI i)), (3, .ref (a 50 0)), (2, .ref (a 30 0)), (1, .ref (a 0 0)), (0, .ref b)] → cells1 ≤ cells + 4 → slots1 ≤ slots + 24 → W p l e R s m args below meth c H1 locs1 cells1 slots1 Q (F0 m 1334 ls1 [])) (hst : ∀ σ τ, I σ τ → ∀ (z1 : Int32) (z2 : Int32) (z3 : Int32) (z4 : Int32) (z5 : Int32) (z6 : Int32), SF I (cd1 eIA) (rpC σ z1 z2 z3 z4 z5 z6) σ (rpS σ z1 z2 z3 z4 z5 z6) (nI (nv (σ 3 0 0))) (rpMS τ z1 z2 z3 z4 z5 z6) (rpMV τ z1 z2 z3 z4 z5 z6)) : W p l e R s m args below meth c H locs cells slots Q (F0 m 439 ls []) := by
  obtain ⟨h1, h2, h3⟩ := hst σ τ hI (xs (i + 1)) (xs (i + 2)) (xs (i + 3)) (xs (i + 4)) (xs (i + 5)) (xs (i + 6))
  obtain ⟨⟨okx, okfx⟩, okm, acm⟩ := hok σ τ hI
  refine lv_aload_n C0.hx C0.hb dL_law_439 rfl (lv_at hl 3 rfl) ?_
  refine lv_aload_n C0.hx C0.hb dL_law_440 rfl (lv_at hl 4 rfl) ?_
  refine lv_iload C0.hx C0.hb dL_law_441 (lv_at hl 0 rfl) ?_
  refine lv_iconst (v := nI 1) C0.hx C0.hb dL_law_443 (by decide) ?_
  refine lv_iadd C0.hx C0.hb dL_law_444 ?_
  refine x_top (nI_add i 1) ?_
  refine x_sld C0 hV hbl hbA hS (by omega) hL dL_law_445 ?_
  refine lv_aload_n C0.hx C0.hb dL_law_446 rfl (lv_at hl 4 rfl) ?_
  refine lv_iload C0.hx C0.hb dL_law_447 (lv_at hl 0 rfl) ?_
  refine lv_iconst (v := nI 2) C0.hx C0.hb dL_law_449 (by decide) ?_
  refine lv_iadd C0.hx C0.hb dL_law_450 ?_
  refine x_top (nI_add i 2) ?_
  refine x_sld C0 hV hbl hbA hS (by omega) hL dL_law_451 ?_
  refine lv_aload_n C0.hx C0.hb dL_law_452 rfl (lv_at hl 4 rfl) ?_
  refine lv_iload C0.hx C0.hb dL_law_453 (lv_at hl 0 rfl) ?_
  refine lv_iconst (v := nI 3) C0.hx C0.hb dL_law_455 (by decide) ?_
  refine lv_iadd C0.hx C0.hb dL_law_456 ?_
  refine x_top (nI_add i 3) ?_
  refine x_sld C0 hV hbl hbA hS (by omega) hL dL_law_457 ?_
  refine lv_aload_n C0.hx C0.hb dL_law_458 rfl (lv_at hl 4 rfl) ?_
  refine lv_iload C0.hx C0.hb dL_law_459 (lv_at hl 0 rfl) ?_
  refine lv_iconst (v := nI 4) C0.hx C0.hb dL_law_461 (by decide) ?_
  refine lv_iadd C0.hx C0.hb dL_law_462 ?_
  refine x_top (nI_add i 4) ?_
  refine x_sld C0 hV hbl hbA hS (by omega) hL dL_law_463 ?_
  refine lv_aload_n C0.hx C0.hb dL_law_464 rfl (lv_at hl 4 rfl) ?_
  refine lv_iload C0.hx C0.hb dL_law_465 (lv_at hl 0 rfl) ?_
  refine lv_iconst (v := nI 5) C0.hx C0.hb dL_law_467 (by decide) ?_
  refine lv_iadd C0.hx C0.hb dL_law_468 ?_
  refine x_top (nI_add i 5) ?_
  refine x_sld C0 hV hbl hbA hS (by omega) hL dL_law_469 ?_
  refine lv_aload_n C0.hx C0.hb dL_law_470 rfl (lv_at hl 4 rfl) ?_
  refine lv_iload C0.hx C0.hb dL_law_471 (lv_at hl 0 rfl) ?_
  refine lv_bipush (v := nI 6) C0.hx C0.hb dL_law_473 (by decide) ?_
  refine lv_iadd C0.hx C0.hb dL_law_475 ?_
  refine x_top (nI_add i 6) ?_
  refine x_sld C0 hV hbl hbA hS (by omega) hL dL_law_476 ?_
  refine lv_aload_n C0.hx C0.hb dL_law_477 rfl (lv_at hl 1 rfl) ?_
  refine x_lS (As := [.ref (a 0 0), .int (xs (i + 1)), .int (xs (i + 2)), .int (xs (i + 3)), .int (xs (i + 4)), .int (xs (i + 5)), .int (xs (i + 6)), .ref (a 50 0)]) (rest := []) C0 (mtL_report l hfl g a σ (xs (i + 1)) (xs (i + 2)) (xs (i + 3)) (xs (i + 4)) (xs (i + 5)) (xs (i + 6)) okx okfx) hX hD hS hT hZ hW9 (vx_cwSW 8 C0.hts gL_law_L_report rfl rfl rfl (by decide +kernel) ⟨Nat.le_trans (Nat.le_of_ble_eq_true rfl) hRf, Nat.le_trans (Nat.le_of_ble_eq_true rfl) hRl⟩) rfl hl rfl (Nat.le_of_ble_eq_true rfl) (by omega) (by omega) dL_law_478 (fun H locs hX hD hS => ?_)
  refine lv_istore (lv' := [(5, .int (cdX (cd1 eIA) (rpC σ (xs (i + 1)) (xs (i + 2)) (xs (i + 3)) (xs (i + 4)) (xs (i + 5)) (xs (i + 6))))), (4, .int (nI i)), (3, .ref (a 50 0)), (2, .ref (a 30 0)), (1, .ref (a 0 0)), (0, .ref b)]) C0.hx C0.hb dL_law_481 hl (by decide) rfl (fun ls hl => ?_)
  refine lv_aload_n C0.hx C0.hb dL_law_483 rfl (lv_at hl 3 rfl) ?_
  refine lv_aload_n C0.hx C0.hb dL_law_484 rfl (lv_at hl 5 rfl) ?_
  refine lv_iload C0.hx C0.hb dL_law_485 (lv_at hl 1 rfl) ?_
  refine lv_iconst (v := nI 1) C0.hx C0.hb dL_law_487 (by decide) ?_
  refine lv_iadd C0.hx C0.hb dL_law_488 ?_
  refine x_top (nI_add i 1) ?_
  refine x_sld C0 hV hbl hbA hS (by omega) hL dL_law_489 ?_
  refine lv_aload_n C0.hx C0.hb dL_law_490 rfl (lv_at hl 5 rfl) ?_
  refine lv_iload C0.hx C0.hb dL_law_491 (lv_at hl 1 rfl) ?_
  refine lv_iconst (v := nI 2) C0.hx C0.hb dL_law_493 (by decide) ?_
  refine lv_iadd C0.hx C0.hb dL_law_494 ?_
  refine x_top (nI_add i 2) ?_
  refine x_sld C0 hV hbl hbA hS (by omega) hL dL_law_495 ?_
  refine lv_aload_n C0.hx C0.hb dL_law_496 rfl (lv_at hl 5 rfl) ?_
  refine lv_iload C0.hx C0.hb dL_law_497 (lv_at hl 1 rfl) ?_
  refine lv_iconst (v := nI 3) C0.hx C0.hb dL_law_499 (by decide) ?_
  refine lv_iadd C0.hx C0.hb dL_law_500 ?_
  refine x_top (nI_add i 3) ?_
  refine x_sld C0 hV hbl hbA hS (by omega) hL dL_law_501 ?_
  refine lv_aload_n C0.hx C0.hb dL_law_502 rfl (lv_at hl 5 rfl) ?_
  refine lv_iload C0.hx C0.hb dL_law_503 (lv_at hl 1 rfl) ?_
  refine lv_iconst (v := nI 4) C0.hx C0.hb dL_law_505 (by decide) ?_
  refine lv_iadd C0.hx C0.hb dL_law_506 ?_
  refine x_top (nI_add i 4) ?_
  refine x_sld C0 hV hbl hbA hS (by omega) hL dL_law_507 ?_
  refine lv_aload_n C0.hx C0.hb dL_law_508 rfl (lv_at hl 5 rfl) ?_
  refine lv_iload C0.hx C0.hb dL_law_509 (lv_at hl 1 rfl) ?_
  refine lv_iconst (v := nI 5) C0.hx C0.hb dL_law_511 (by decide) ?_
  refine lv_iadd C0.hx C0.hb dL_law_512 ?_
  refine x_top (nI_add i 5) ?_
  refine x_sld C0 hV hbl hbA hS (by omega) hL dL_law_513 ?_
  refine lv_aload_n C0.hx C0.hb dL_law_514 rfl (lv_at hl 5 rfl) ?_
  refine lv_iload C0.hx C0.hb dL_law_515 (lv_at hl 1 rfl) ?_
  refine lv_bipush (v := nI 6) C0.hx C0.hb dL_law_517 (by decide) ?_
  refine lv_iadd C0.hx C0.hb dL_law_519 ?_
  refine x_top (nI_add i 6) ?_
  refine x_sld C0 hV hbl hbA hS (by omega) hL dL_law_520 ?_
  refine x_lM (As := [.int (xs (i + 1)), .int (xs (i + 2)), .int (xs (i + 3)), .int (xs (i + 4)), .int (xs (i + 5)), .int (xs (i + 6))]) (rest := []) C0 (mtX5_report l g a τ (xs (i + 1)) (xs (i + 2)) (xs (i + 3)) (xs (i + 4)) (xs (i + 5)) (xs (i + 6)) okm) hX hD hS (cwV 6 C0.hts gL_law_X5_report rfl rfl rfl (by decide +kernel) ⟨Nat.le_trans (Nat.le_of_ble_eq_true rfl) hRf, Nat.le_trans (Nat.le_of_ble_eq_true rfl) hRl⟩) (x_recv (NL := NLM) ⟨C0.1, C0.hK, C0.2.2.1, (xDj_A C0.2.2.2.1).2.1, fun n hn => C0.2.2.2.2.1 n (NLA_M n hn), C0.2.2.2.2.2⟩ hD 30 (mM_n rfl rfl) rfl rfl) rfl hl rfl (Nat.le_of_ble_eq_true rfl) (by omega) (by omega) dL_law_521 (fun H locs hX hD hS => ?_)
  refine lv_istore (lv' := [(6, .int (rpMV τ (xs (i + 1)) (xs (i + 2)) (xs (i + 3)) (xs (i + 4)) (xs (i + 5)) (xs (i + 6)))), (5, .int (cdX (cd1 eIA) (rpC σ (xs (i + 1)) (xs (i + 2)) (xs (i + 3)) (xs (i + 4)) (xs (i + 5)) (xs (i + 6))))), (4, .int (nI i)), (3, .ref (a 50 0)), (2, .ref (a 30 0)), (1, .ref (a 0 0)), (0, .ref b)]) C0.hx C0.hb dL_law_524 hl (by decide) rfl (fun ls hl => ?_)
  refine lv_aload_n C0.hx C0.hb dL_law_526 rfl (lv_at hl 4 rfl) ?_
  refine x_Vi (As := []) (rest := []) C0 (mtX5_thrown l g a (rpMS τ (xs (i + 1)) (xs (i + 2)) (xs (i + 3)) (xs (i + 4)) (xs (i + 5)) (xs (i + 6)))) hD (xDj_A C0.2.2.2.1).2.1 (cwV 0 C0.hts gL_law_X5_thrown rfl rfl rfl (by decide +kernel) ⟨Nat.le_trans (Nat.le_of_ble_eq_true rfl) hRf, Nat.le_trans (Nat.le_of_ble_eq_true rfl) hRl⟩) (x_recv (NL := NLM) ⟨C0.1, C0.hK, C0.2.2.1, (xDj_A C0.2.2.2.1).2.1, fun n hn => C0.2.2.2.2.1 n (NLA_M n hn), C0.2.2.2.2.2⟩ hD 30 (mM_n rfl rfl) rfl rfl) rfl hl rfl (Nat.le_of_ble_eq_true rfl) (by omega) (by omega) dL_law_527 ?_
  refine lv_iload C0.hx C0.hb dL_law_530 (lv_at hl 1 rfl) ?_
  refine lv_icmp_eq (tgt := 537) C0.hx C0.hb dL_law_532 (by decide) (fun _ => ?_) (fun h => absurd h1.symm h)
  refine lv_iload C0.hx C0.hb dL_law_537 (lv_at hl 1 rfl) ?_
  refine lv_if_ne (tgt := 554) C0.hx C0.hb dL_law_539 (by decide) (fun hk => ?_) (fun hk => ?_)
  · refine lv_goto (tgt := 1334) C0.hx C0.hb dL_law_554 (by decide) ?_
    exact kk _ _ H locs ls _ _ h3 hX hD hS (lv_sub hl [2, 3, 4, 5, 6] rfl) (by omega) (by omega)
  · have hk : (cdX (cd1 eIA) (rpC σ (xs (i + 1)) (xs (i + 2)) (xs (i + 3)) (xs (i + 4)) (xs (i + 5)) (xs (i + 6)))) = 0 := Classical.byContradiction (fun z => by first | exact hk z | exact z hk)
    have hB := cd_0 hk
    have hr := h2 hB
    refine lv_aload_n C0.hx C0.hb dL_law_542 rfl (lv_at hl 3 rfl) ?_
    refine lv_iconst (v := nI 0) C0.hx C0.hb dL_law_543 (by decide) ?_
    refine x_lald C0 hX (x := (rpMV τ (xs (i + 1)) (xs (i + 2)) (xs (i + 3)) (xs (i + 4)) (xs (i + 5)) (xs (i + 6))).toInt64) (by rw [wS_out hB, hr]) dL_law_544 ?_
    refine lv_iload C0.hx C0.hb dL_law_545 (lv_at hl 0 rfl) ?_
    refine lv_i2l C0.hx C0.hb dL_law_547 rfl ?_
    refine x_lceq (tgt := 554) C0.hx C0.hb rfl dL_law_548 dL_law_549 (by decide) ?_
    refine lv_goto (tgt := 1334) C0.hx C0.hb dL_law_554 (by decide) ?_
    exact kk _ _ H locs ls _ _ h3 hX hD hS (lv_sub hl [2, 3, 4, 5, 6] rfl) (by omega) (by omega)
set_option maxHeartbeats 4000000 in
set_option maxRecDepth 100000 in
theorem lc_5 {p : Program} {l : Launch} {e : Env} {R : Room} {s : State} {m : MethodId} {args : Array Value} {below : List Frame} {meth : Method} {c : Code} {H : Heap} {locs : List Loc} {cells slots : Nat} {Q : State → Prop} {ls : Array Slot} {g : xG} {a : xAd} {σ τ : xS} {A : Nat → Prop} {b L : Nat} {xs : Nat → Int32} {I : xS → xS → Prop} (C0 : xC p s m args c cL_law 7 wsL_law RL NLA g a A) (hfl : l.stackTraces = false) (hT : xZt s) (hZ : xZh A s s.heap) (hW9 : xZw s) (hV : va_X b L xs s s.heap) (hbl : b < s.heap.size) (hbA : ¬ A b) (hL : L ≤ 3584) (hRf : 11 ≤ R.frames) (hRl : 404 ≤ R.locals) (hok : ∀ σ τ, I σ τ → (okX σ ∧ okF σ) ∧ (okM τ ∧ acM τ)) (hX : va_P g.1 vwCl (xw NLL g a σ) H) (hD : va_P g.1 vwCl (xw NLM g a τ) H) (hS : va_S A s.heap H locs) (hI : I σ τ) {i : Nat} (hi : i + 7 ≤ L) (hl : lv_has ls 7 [(4, .int (nI i)), (3, .ref (a 50 0)), (2, .ref (a 30 0)), (1, .ref (a 0 0)), (0, .ref b)]) (hc1 : cells + 4 ≤ R.cells) (hs1 : slots + 24 ≤ R.slots)
    (kk : ∀ (σ1 τ1 : xS) (H1 : Heap) (locs1 : List Loc) (ls1 : Array Slot) (cells1 slots1 : Nat), I σ1 τ1 → va_P g.1 vwCl (xw NLL g a σ1) H1 → va_P g.1 vwCl (xw NLM g a τ1) H1 → va_S A s.heap H1 locs1 → lv_has ls1 7 [(4, .int (nI i)), (3, .ref (a 50 0)), (2, .ref (a 30 0)), (1, .ref (a 0 0)), (0, .ref b)] → cells1 ≤ cells + 4 → slots1 ≤ slots + 24 → W p l e R s m args below meth c H1 locs1 cells1 slots1 Q (F0 m 1334 ls1 [])) (hst : ∀ σ τ, I σ τ → σ 3 0 0 = τ 30 0 2 ∧ I σ (m0 τ)) : W p l e R s m args below meth c H locs cells slots Q (F0 m 557 ls []) := by
  obtain ⟨h1, h3⟩ := hst σ τ hI
  obtain ⟨⟨okx, okfx⟩, okm, acm⟩ := hok σ τ hI
  have hXX : va_P g.1 vwCl (xw NLX g a σ) H := xwf_sub hX NLX_L
  refine lv_aload_n C0.hx C0.hb dL_law_557 rfl (lv_at hl 3 rfl) ?_
  refine x_Vi (As := []) (rest := []) C0 (mtX4_reports l g a σ okx) hXX (xDj_L (xDj_A C0.2.2.2.1).1).1 (cwV 0 C0.hts gL_law_X4_reports rfl rfl rfl (by decide +kernel) ⟨Nat.le_trans (Nat.le_of_ble_eq_true rfl) hRf, Nat.le_trans (Nat.le_of_ble_eq_true rfl) hRl⟩) (x_recv (NL := NLX) ⟨C0.1, C0.hK, C0.2.2.1, (xDj_L (xDj_A C0.2.2.2.1).1).1, fun n hn => C0.2.2.2.2.1 n (NLA_X n hn), C0.2.2.2.2.2⟩ hXX 0 (mX_n rfl) rfl rfl) rfl hl rfl (Nat.le_of_ble_eq_true rfl) (by omega) (by omega) dL_law_558 ?_
  refine lv_aload_n C0.hx C0.hb dL_law_561 rfl (lv_at hl 2 rfl) ?_
  refine x_lM (As := []) (rest := [.int (σ 3 0 0)]) C0 (mtX5_reports l g a τ) hX hD hS (cwV 0 C0.hts gL_law_X5_reports rfl rfl rfl (by decide +kernel) ⟨Nat.le_trans (Nat.le_of_ble_eq_true rfl) hRf, Nat.le_trans (Nat.le_of_ble_eq_true rfl) hRl⟩) (x_recv (NL := NLM) ⟨C0.1, C0.hK, C0.2.2.1, (xDj_A C0.2.2.2.1).2.1, fun n hn => C0.2.2.2.2.1 n (NLA_M n hn), C0.2.2.2.2.2⟩ hD 30 (mM_n rfl rfl) rfl rfl) rfl hl rfl (Nat.le_of_ble_eq_true rfl) (by omega) (by omega) dL_law_562 (fun H locs hX hD hS => ?_)
  refine lv_icmp_eq (tgt := 1334) C0.hx C0.hb dL_law_565 (by decide) (fun _ => ?_) (fun h => absurd h1 h)
  exact kk σ _ H locs ls _ _ h3 hX hD hS hl (by omega) (by omega)
set_option maxHeartbeats 4000000 in
set_option maxRecDepth 100000 in
theorem lc_6 {p : Program} {l : Launch} {e : Env} {R : Room} {s : State} {m : MethodId} {args : Array Value} {below : List Frame} {meth : Method} {c : Code} {H : Heap} {locs : List Loc} {cells slots : Nat} {Q : State → Prop} {ls : Array Slot} {g : xG} {a : xAd} {σ τ : xS} {A : Nat → Prop} {b L : Nat} {xs : Nat → Int32} {I : xS → xS → Prop} (C0 : xC p s m args c cL_law 7 wsL_law RL NLA g a A) (hfl : l.stackTraces = false) (hT : xZt s) (hZ : xZh A s s.heap) (hW9 : xZw s) (hV : va_X b L xs s s.heap) (hbl : b < s.heap.size) (hbA : ¬ A b) (hL : L ≤ 3584) (hRf : 11 ≤ R.frames) (hRl : 404 ≤ R.locals) (hok : ∀ σ τ, I σ τ → (okX σ ∧ okF σ) ∧ (okM τ ∧ acM τ)) (hX : va_P g.1 vwCl (xw NLL g a σ) H) (hD : va_P g.1 vwCl (xw NLM g a τ) H) (hS : va_S A s.heap H locs) (hI : I σ τ) {i : Nat} (hi : i + 7 ≤ L) (hl : lv_has ls 7 [(4, .int (nI i)), (3, .ref (a 50 0)), (2, .ref (a 30 0)), (1, .ref (a 0 0)), (0, .ref b)]) (hc1 : cells + 4 ≤ R.cells) (hs1 : slots + 24 ≤ R.slots)
    (kk : ∀ (σ1 τ1 : xS) (H1 : Heap) (locs1 : List Loc) (ls1 : Array Slot) (cells1 slots1 : Nat), I σ1 τ1 → va_P g.1 vwCl (xw NLL g a σ1) H1 → va_P g.1 vwCl (xw NLM g a τ1) H1 → va_S A s.heap H1 locs1 → lv_has ls1 7 [(4, .int (nI i)), (3, .ref (a 50 0)), (2, .ref (a 30 0)), (1, .ref (a 0 0)), (0, .ref b)] → cells1 ≤ cells + 4 → slots1 ≤ slots + 24 → W p l e R s m args below meth c H1 locs1 cells1 slots1 Q (F0 m 1334 ls1 [])) (hst : ∀ σ τ, I σ τ → ∀ (z1 : Int32) (z2 : Int32), SF I (cd1 eIO) (frC σ z1 z2) σ σ (σ 24 (nv z1) (nv z2)) (frMS τ z1 z2) (frMV τ z1 z2)) : W p l e R s m args below meth c H locs cells slots Q (F0 m 570 ls []) := by
  obtain ⟨h1, h2, h3⟩ := hst σ τ hI (xs (i + 1)) (xs (i + 2))
  obtain ⟨⟨okx, okfx⟩, okm, acm⟩ := hok σ τ hI
  refine lv_aload_n C0.hx C0.hb dL_law_570 rfl (lv_at hl 3 rfl) ?_
  refine lv_aload_n C0.hx C0.hb dL_law_571 rfl (lv_at hl 4 rfl) ?_
  refine lv_iload C0.hx C0.hb dL_law_572 (lv_at hl 0 rfl) ?_
  refine lv_iconst (v := nI 1) C0.hx C0.hb dL_law_574 (by decide) ?_
  refine lv_iadd C0.hx C0.hb dL_law_575 ?_
  refine x_top (nI_add i 1) ?_
  refine x_sld C0 hV hbl hbA hS (by omega) hL dL_law_576 ?_
  refine lv_aload_n C0.hx C0.hb dL_law_577 rfl (lv_at hl 4 rfl) ?_
  refine lv_iload C0.hx C0.hb dL_law_578 (lv_at hl 0 rfl) ?_
  refine lv_iconst (v := nI 2) C0.hx C0.hb dL_law_580 (by decide) ?_
  refine lv_iadd C0.hx C0.hb dL_law_581 ?_
  refine x_top (nI_add i 2) ?_
  refine x_sld C0 hV hbl hbA hS (by omega) hL dL_law_582 ?_
  refine lv_aload_n C0.hx C0.hb dL_law_583 rfl (lv_at hl 1 rfl) ?_
  refine x_lS (As := [.ref (a 0 0), .int (xs (i + 1)), .int (xs (i + 2)), .ref (a 50 0)]) (rest := []) C0 (mtL_frame l hfl g a σ (xs (i + 1)) (xs (i + 2)) okx) hX hD hS hT hZ hW9 (vx_cwSW 4 C0.hts gL_law_L_frame rfl rfl rfl (by decide +kernel) ⟨Nat.le_trans (Nat.le_of_ble_eq_true rfl) hRf, Nat.le_trans (Nat.le_of_ble_eq_true rfl) hRl⟩) rfl hl rfl (Nat.le_of_ble_eq_true rfl) (by omega) (by omega) dL_law_584 (fun H locs hX hD hS => ?_)
  refine lv_istore (lv' := [(5, .int (cdX (cd1 eIO) (frC σ (xs (i + 1)) (xs (i + 2))))), (4, .int (nI i)), (3, .ref (a 50 0)), (2, .ref (a 30 0)), (1, .ref (a 0 0)), (0, .ref b)]) C0.hx C0.hb dL_law_587 hl (by decide) rfl (fun ls hl => ?_)
  refine lv_aload_n C0.hx C0.hb dL_law_589 rfl (lv_at hl 3 rfl) ?_
  refine lv_aload_n C0.hx C0.hb dL_law_590 rfl (lv_at hl 5 rfl) ?_
  refine lv_iload C0.hx C0.hb dL_law_591 (lv_at hl 1 rfl) ?_
  refine lv_iconst (v := nI 1) C0.hx C0.hb dL_law_593 (by decide) ?_
  refine lv_iadd C0.hx C0.hb dL_law_594 ?_
  refine x_top (nI_add i 1) ?_
  refine x_sld C0 hV hbl hbA hS (by omega) hL dL_law_595 ?_
  refine lv_aload_n C0.hx C0.hb dL_law_596 rfl (lv_at hl 5 rfl) ?_
  refine lv_iload C0.hx C0.hb dL_law_597 (lv_at hl 1 rfl) ?_
  refine lv_iconst (v := nI 2) C0.hx C0.hb dL_law_599 (by decide) ?_
  refine lv_iadd C0.hx C0.hb dL_law_600 ?_
  refine x_top (nI_add i 2) ?_
  refine x_sld C0 hV hbl hbA hS (by omega) hL dL_law_601 ?_
  refine x_lM (As := [.int (xs (i + 1)), .int (xs (i + 2))]) (rest := []) C0 (mtX5_frame l g a τ (xs (i + 1)) (xs (i + 2)) okm) hX hD hS (cwV 2 C0.hts gL_law_X5_frame rfl rfl rfl (by decide +kernel) ⟨Nat.le_trans (Nat.le_of_ble_eq_true rfl) hRf, Nat.le_trans (Nat.le_of_ble_eq_true rfl) hRl⟩) (x_recv (NL := NLM) ⟨C0.1, C0.hK, C0.2.2.1, (xDj_A C0.2.2.2.1).2.1, fun n hn => C0.2.2.2.2.1 n (NLA_M n hn), C0.2.2.2.2.2⟩ hD 30 (mM_n rfl rfl) rfl rfl) rfl hl rfl (Nat.le_of_ble_eq_true rfl) (by omega) (by omega) dL_law_602 (fun H locs hX hD hS => ?_)
  refine lv_istore (lv' := [(6, .int (frMV τ (xs (i + 1)) (xs (i + 2)))), (5, .int (cdX (cd1 eIO) (frC σ (xs (i + 1)) (xs (i + 2))))), (4, .int (nI i)), (3, .ref (a 50 0)), (2, .ref (a 30 0)), (1, .ref (a 0 0)), (0, .ref b)]) C0.hx C0.hb dL_law_605 hl (by decide) rfl (fun ls hl => ?_)
  refine lv_aload_n C0.hx C0.hb dL_law_607 rfl (lv_at hl 4 rfl) ?_
  refine x_Vi (As := []) (rest := []) C0 (mtX5_thrown l g a (frMS τ (xs (i + 1)) (xs (i + 2)))) hD (xDj_A C0.2.2.2.1).2.1 (cwV 0 C0.hts gL_law_X5_thrown rfl rfl rfl (by decide +kernel) ⟨Nat.le_trans (Nat.le_of_ble_eq_true rfl) hRf, Nat.le_trans (Nat.le_of_ble_eq_true rfl) hRl⟩) (x_recv (NL := NLM) ⟨C0.1, C0.hK, C0.2.2.1, (xDj_A C0.2.2.2.1).2.1, fun n hn => C0.2.2.2.2.1 n (NLA_M n hn), C0.2.2.2.2.2⟩ hD 30 (mM_n rfl rfl) rfl rfl) rfl hl rfl (Nat.le_of_ble_eq_true rfl) (by omega) (by omega) dL_law_608 ?_
  refine lv_iload C0.hx C0.hb dL_law_611 (lv_at hl 1 rfl) ?_
  refine lv_icmp_eq (tgt := 618) C0.hx C0.hb dL_law_613 (by decide) (fun _ => ?_) (fun h => absurd h1.symm h)
  refine lv_iload C0.hx C0.hb dL_law_618 (lv_at hl 1 rfl) ?_
  refine lv_if_ne (tgt := 635) C0.hx C0.hb dL_law_620 (by decide) (fun hk => ?_) (fun hk => ?_)
  · refine lv_goto (tgt := 1334) C0.hx C0.hb dL_law_635 (by decide) ?_
    exact kk _ _ H locs ls _ _ h3 hX hD hS (lv_sub hl [2, 3, 4, 5, 6] rfl) (by omega) (by omega)
  · have hk : (cdX (cd1 eIO) (frC σ (xs (i + 1)) (xs (i + 2)))) = 0 := Classical.byContradiction (fun z => by first | exact hk z | exact z hk)
    have hB := cd_0 hk
    have hr := h2 hB
    refine lv_aload_n C0.hx C0.hb dL_law_623 rfl (lv_at hl 3 rfl) ?_
    refine lv_iconst (v := nI 0) C0.hx C0.hb dL_law_624 (by decide) ?_
    refine x_lald C0 hX (x := (frMV τ (xs (i + 1)) (xs (i + 2))).toInt64) (by rw [wS_out hB, hr]) dL_law_625 ?_
    refine lv_iload C0.hx C0.hb dL_law_626 (lv_at hl 0 rfl) ?_
    refine lv_i2l C0.hx C0.hb dL_law_628 rfl ?_
    refine x_lceq (tgt := 635) C0.hx C0.hb rfl dL_law_629 dL_law_630 (by decide) ?_
    refine lv_goto (tgt := 1334) C0.hx C0.hb dL_law_635 (by decide) ?_
    exact kk _ _ H locs ls _ _ h3 hX hD hS (lv_sub hl [2, 3, 4, 5, 6] rfl) (by omega) (by omega)
set_option maxHeartbeats 4000000 in
set_option maxRecDepth 100000 in
theorem lc_7 {p : Program} {l : Launch} {e : Env} {R : Room} {s : State} {m : MethodId} {args : Array Value} {below : List Frame} {meth : Method} {c : Code} {H : Heap} {locs : List Loc} {cells slots : Nat} {Q : State → Prop} {ls : Array Slot} {g : xG} {a : xAd} {σ τ : xS} {A : Nat → Prop} {b L : Nat} {xs : Nat → Int32} {I : xS → xS → Prop} (C0 : xC p s m args c cL_law 7 wsL_law RL NLA g a A) (hfl : l.stackTraces = false) (hT : xZt s) (hZ : xZh A s s.heap) (hW9 : xZw s) (hV : va_X b L xs s s.heap) (hbl : b < s.heap.size) (hbA : ¬ A b) (hL : L ≤ 3584) (hRf : 11 ≤ R.frames) (hRl : 404 ≤ R.locals) (hok : ∀ σ τ, I σ τ → (okX σ ∧ okF σ) ∧ (okM τ ∧ acM τ)) (hX : va_P g.1 vwCl (xw NLL g a σ) H) (hD : va_P g.1 vwCl (xw NLM g a τ) H) (hS : va_S A s.heap H locs) (hI : I σ τ) {i : Nat} (hi : i + 7 ≤ L) (hl : lv_has ls 7 [(4, .int (nI i)), (3, .ref (a 50 0)), (2, .ref (a 30 0)), (1, .ref (a 0 0)), (0, .ref b)]) (hc1 : cells + 4 ≤ R.cells) (hs1 : slots + 24 ≤ R.slots)
    (kk : ∀ (σ1 τ1 : xS) (H1 : Heap) (locs1 : List Loc) (ls1 : Array Slot) (cells1 slots1 : Nat), I σ1 τ1 → va_P g.1 vwCl (xw NLL g a σ1) H1 → va_P g.1 vwCl (xw NLM g a τ1) H1 → va_S A s.heap H1 locs1 → lv_has ls1 7 [(4, .int (nI i)), (3, .ref (a 50 0)), (2, .ref (a 30 0)), (1, .ref (a 0 0)), (0, .ref b)] → cells1 ≤ cells + 4 → slots1 ≤ slots + 24 → W p l e R s m args below meth c H1 locs1 cells1 slots1 Q (F0 m 1334 ls1 [])) (hst : ∀ σ τ, I σ τ → ∀ (z1 : Int32) (z2 : Int32), SF I (cd1 eIO) (frC σ z1 z2) σ σ (σ 25 (nv z1) (nv z2)) (maMS τ z1 z2) (maMV τ z1 z2)) : W p l e R s m args below meth c H locs cells slots Q (F0 m 638 ls []) := by
  obtain ⟨h1, h2, h3⟩ := hst σ τ hI (xs (i + 1)) (xs (i + 2))
  obtain ⟨⟨okx, okfx⟩, okm, acm⟩ := hok σ τ hI
  refine lv_aload_n C0.hx C0.hb dL_law_638 rfl (lv_at hl 3 rfl) ?_
  refine lv_aload_n C0.hx C0.hb dL_law_639 rfl (lv_at hl 4 rfl) ?_
  refine lv_iload C0.hx C0.hb dL_law_640 (lv_at hl 0 rfl) ?_
  refine lv_iconst (v := nI 1) C0.hx C0.hb dL_law_642 (by decide) ?_
  refine lv_iadd C0.hx C0.hb dL_law_643 ?_
  refine x_top (nI_add i 1) ?_
  refine x_sld C0 hV hbl hbA hS (by omega) hL dL_law_644 ?_
  refine lv_aload_n C0.hx C0.hb dL_law_645 rfl (lv_at hl 4 rfl) ?_
  refine lv_iload C0.hx C0.hb dL_law_646 (lv_at hl 0 rfl) ?_
  refine lv_iconst (v := nI 2) C0.hx C0.hb dL_law_648 (by decide) ?_
  refine lv_iadd C0.hx C0.hb dL_law_649 ?_
  refine x_top (nI_add i 2) ?_
  refine x_sld C0 hV hbl hbA hS (by omega) hL dL_law_650 ?_
  refine lv_aload_n C0.hx C0.hb dL_law_651 rfl (lv_at hl 1 rfl) ?_
  refine x_lS (As := [.ref (a 0 0), .int (xs (i + 1)), .int (xs (i + 2)), .ref (a 50 0)]) (rest := []) C0 (mtL_matters l hfl g a σ (xs (i + 1)) (xs (i + 2)) okx) hX hD hS hT hZ hW9 (vx_cwSW 4 C0.hts gL_law_L_matters rfl rfl rfl (by decide +kernel) ⟨Nat.le_trans (Nat.le_of_ble_eq_true rfl) hRf, Nat.le_trans (Nat.le_of_ble_eq_true rfl) hRl⟩) rfl hl rfl (Nat.le_of_ble_eq_true rfl) (by omega) (by omega) dL_law_652 (fun H locs hX hD hS => ?_)
  refine lv_istore (lv' := [(5, .int (cdX (cd1 eIO) (frC σ (xs (i + 1)) (xs (i + 2))))), (4, .int (nI i)), (3, .ref (a 50 0)), (2, .ref (a 30 0)), (1, .ref (a 0 0)), (0, .ref b)]) C0.hx C0.hb dL_law_655 hl (by decide) rfl (fun ls hl => ?_)
  refine lv_aload_n C0.hx C0.hb dL_law_657 rfl (lv_at hl 3 rfl) ?_
  refine lv_aload_n C0.hx C0.hb dL_law_658 rfl (lv_at hl 5 rfl) ?_
  refine lv_iload C0.hx C0.hb dL_law_659 (lv_at hl 1 rfl) ?_
  refine lv_iconst (v := nI 1) C0.hx C0.hb dL_law_661 (by decide) ?_
  refine lv_iadd C0.hx C0.hb dL_law_662 ?_
  refine x_top (nI_add i 1) ?_
  refine x_sld C0 hV hbl hbA hS (by omega) hL dL_law_663 ?_
  refine lv_aload_n C0.hx C0.hb dL_law_664 rfl (lv_at hl 5 rfl) ?_
  refine lv_iload C0.hx C0.hb dL_law_665 (lv_at hl 1 rfl) ?_
  refine lv_iconst (v := nI 2) C0.hx C0.hb dL_law_667 (by decide) ?_
  refine lv_iadd C0.hx C0.hb dL_law_668 ?_
  refine x_top (nI_add i 2) ?_
  refine x_sld C0 hV hbl hbA hS (by omega) hL dL_law_669 ?_
  refine x_lM (As := [.int (xs (i + 1)), .int (xs (i + 2))]) (rest := []) C0 (mtX5_matters l g a τ (xs (i + 1)) (xs (i + 2)) okm acm) hX hD hS (cwV 2 C0.hts gL_law_X5_matters rfl rfl rfl (by decide +kernel) ⟨Nat.le_trans (Nat.le_of_ble_eq_true rfl) hRf, Nat.le_trans (Nat.le_of_ble_eq_true rfl) hRl⟩) (x_recv (NL := NLM) ⟨C0.1, C0.hK, C0.2.2.1, (xDj_A C0.2.2.2.1).2.1, fun n hn => C0.2.2.2.2.1 n (NLA_M n hn), C0.2.2.2.2.2⟩ hD 30 (mM_n rfl rfl) rfl rfl) rfl hl rfl (Nat.le_of_ble_eq_true rfl) (by omega) (by omega) dL_law_670 (fun H locs hX hD hS => ?_)
  refine lv_istore (lv' := [(6, .int (maMV τ (xs (i + 1)) (xs (i + 2)))), (5, .int (cdX (cd1 eIO) (frC σ (xs (i + 1)) (xs (i + 2))))), (4, .int (nI i)), (3, .ref (a 50 0)), (2, .ref (a 30 0)), (1, .ref (a 0 0)), (0, .ref b)]) C0.hx C0.hb dL_law_673 hl (by decide) rfl (fun ls hl => ?_)
  refine lv_aload_n C0.hx C0.hb dL_law_675 rfl (lv_at hl 4 rfl) ?_
  refine x_Vi (As := []) (rest := []) C0 (mtX5_thrown l g a (maMS τ (xs (i + 1)) (xs (i + 2)))) hD (xDj_A C0.2.2.2.1).2.1 (cwV 0 C0.hts gL_law_X5_thrown rfl rfl rfl (by decide +kernel) ⟨Nat.le_trans (Nat.le_of_ble_eq_true rfl) hRf, Nat.le_trans (Nat.le_of_ble_eq_true rfl) hRl⟩) (x_recv (NL := NLM) ⟨C0.1, C0.hK, C0.2.2.1, (xDj_A C0.2.2.2.1).2.1, fun n hn => C0.2.2.2.2.1 n (NLA_M n hn), C0.2.2.2.2.2⟩ hD 30 (mM_n rfl rfl) rfl rfl) rfl hl rfl (Nat.le_of_ble_eq_true rfl) (by omega) (by omega) dL_law_676 ?_
  refine lv_iload C0.hx C0.hb dL_law_679 (lv_at hl 1 rfl) ?_
  refine lv_icmp_eq (tgt := 686) C0.hx C0.hb dL_law_681 (by decide) (fun _ => ?_) (fun h => absurd h1.symm h)
  refine lv_iload C0.hx C0.hb dL_law_686 (lv_at hl 1 rfl) ?_
  refine lv_if_ne (tgt := 703) C0.hx C0.hb dL_law_688 (by decide) (fun hk => ?_) (fun hk => ?_)
  · refine lv_goto (tgt := 1334) C0.hx C0.hb dL_law_703 (by decide) ?_
    exact kk _ _ H locs ls _ _ h3 hX hD hS (lv_sub hl [2, 3, 4, 5, 6] rfl) (by omega) (by omega)
  · have hk : (cdX (cd1 eIO) (frC σ (xs (i + 1)) (xs (i + 2)))) = 0 := Classical.byContradiction (fun z => by first | exact hk z | exact z hk)
    have hB := cd_0 hk
    have hr := h2 hB
    refine lv_aload_n C0.hx C0.hb dL_law_691 rfl (lv_at hl 3 rfl) ?_
    refine lv_iconst (v := nI 0) C0.hx C0.hb dL_law_692 (by decide) ?_
    refine x_lald C0 hX (x := (maMV τ (xs (i + 1)) (xs (i + 2))).toInt64) (by rw [wS_out hB, hr]) dL_law_693 ?_
    refine lv_iload C0.hx C0.hb dL_law_694 (lv_at hl 0 rfl) ?_
    refine lv_i2l C0.hx C0.hb dL_law_696 rfl ?_
    refine x_lceq (tgt := 703) C0.hx C0.hb rfl dL_law_697 dL_law_698 (by decide) ?_
    refine lv_goto (tgt := 1334) C0.hx C0.hb dL_law_703 (by decide) ?_
    exact kk _ _ H locs ls _ _ h3 hX hD hS (lv_sub hl [2, 3, 4, 5, 6] rfl) (by omega) (by omega)
set_option maxHeartbeats 4000000 in
set_option maxRecDepth 100000 in
theorem lc_8 {p : Program} {l : Launch} {e : Env} {R : Room} {s : State} {m : MethodId} {args : Array Value} {below : List Frame} {meth : Method} {c : Code} {H : Heap} {locs : List Loc} {cells slots : Nat} {Q : State → Prop} {ls : Array Slot} {g : xG} {a : xAd} {σ τ : xS} {A : Nat → Prop} {b L : Nat} {xs : Nat → Int32} {I : xS → xS → Prop} (C0 : xC p s m args c cL_law 7 wsL_law RL NLA g a A) (hfl : l.stackTraces = false) (hT : xZt s) (hZ : xZh A s s.heap) (hW9 : xZw s) (hV : va_X b L xs s s.heap) (hbl : b < s.heap.size) (hbA : ¬ A b) (hL : L ≤ 3584) (hRf : 11 ≤ R.frames) (hRl : 404 ≤ R.locals) (hok : ∀ σ τ, I σ τ → (okX σ ∧ okF σ) ∧ (okM τ ∧ acM τ)) (hX : va_P g.1 vwCl (xw NLL g a σ) H) (hD : va_P g.1 vwCl (xw NLM g a τ) H) (hS : va_S A s.heap H locs) (hI : I σ τ) {i : Nat} (hi : i + 7 ≤ L) (hl : lv_has ls 7 [(4, .int (nI i)), (3, .ref (a 50 0)), (2, .ref (a 30 0)), (1, .ref (a 0 0)), (0, .ref b)]) (hc1 : cells + 4 ≤ R.cells) (hs1 : slots + 24 ≤ R.slots)
    (kk : ∀ (σ1 τ1 : xS) (H1 : Heap) (locs1 : List Loc) (ls1 : Array Slot) (cells1 slots1 : Nat), I σ1 τ1 → va_P g.1 vwCl (xw NLL g a σ1) H1 → va_P g.1 vwCl (xw NLM g a τ1) H1 → va_S A s.heap H1 locs1 → lv_has ls1 7 [(4, .int (nI i)), (3, .ref (a 50 0)), (2, .ref (a 30 0)), (1, .ref (a 0 0)), (0, .ref b)] → cells1 ≤ cells + 4 → slots1 ≤ slots + 24 → W p l e R s m args below meth c H1 locs1 cells1 slots1 Q (F0 m 1334 ls1 [])) (hst : ∀ σ τ, I σ τ → ∀ (z1 : Int32), SF I (cd1 eIO) (r1C σ z1) σ σ (σ 19 0 (nv z1)) (bkMS τ z1) (bkMV τ z1)) : W p l e R s m args below meth c H locs cells slots Q (F0 m 706 ls []) := by
  obtain ⟨h1, h2, h3⟩ := hst σ τ hI (xs (i + 1))
  obtain ⟨⟨okx, okfx⟩, okm, acm⟩ := hok σ τ hI
  refine lv_aload_n C0.hx C0.hb dL_law_706 rfl (lv_at hl 3 rfl) ?_
  refine lv_aload_n C0.hx C0.hb dL_law_707 rfl (lv_at hl 4 rfl) ?_
  refine lv_iload C0.hx C0.hb dL_law_708 (lv_at hl 0 rfl) ?_
  refine lv_iconst (v := nI 1) C0.hx C0.hb dL_law_710 (by decide) ?_
  refine lv_iadd C0.hx C0.hb dL_law_711 ?_
  refine x_top (nI_add i 1) ?_
  refine x_sld C0 hV hbl hbA hS (by omega) hL dL_law_712 ?_
  refine lv_aload_n C0.hx C0.hb dL_law_713 rfl (lv_at hl 1 rfl) ?_
  refine x_lS (As := [.ref (a 0 0), .int (xs (i + 1)), .ref (a 50 0)]) (rest := []) C0 (mtL_bucket l hfl g a σ (xs (i + 1)) okx) hX hD hS hT hZ hW9 (vx_cwSW 3 C0.hts gL_law_L_bucket rfl rfl rfl (by decide +kernel) ⟨Nat.le_trans (Nat.le_of_ble_eq_true rfl) hRf, Nat.le_trans (Nat.le_of_ble_eq_true rfl) hRl⟩) rfl hl rfl (Nat.le_of_ble_eq_true rfl) (by omega) (by omega) dL_law_714 (fun H locs hX hD hS => ?_)
  refine lv_istore (lv' := [(5, .int (cdX (cd1 eIO) (r1C σ (xs (i + 1))))), (4, .int (nI i)), (3, .ref (a 50 0)), (2, .ref (a 30 0)), (1, .ref (a 0 0)), (0, .ref b)]) C0.hx C0.hb dL_law_717 hl (by decide) rfl (fun ls hl => ?_)
  refine lv_aload_n C0.hx C0.hb dL_law_719 rfl (lv_at hl 3 rfl) ?_
  refine lv_aload_n C0.hx C0.hb dL_law_720 rfl (lv_at hl 5 rfl) ?_
  refine lv_iload C0.hx C0.hb dL_law_721 (lv_at hl 1 rfl) ?_
  refine lv_iconst (v := nI 1) C0.hx C0.hb dL_law_723 (by decide) ?_
  refine lv_iadd C0.hx C0.hb dL_law_724 ?_
  refine x_top (nI_add i 1) ?_
  refine x_sld C0 hV hbl hbA hS (by omega) hL dL_law_725 ?_
  refine x_lM (As := [.int (xs (i + 1))]) (rest := []) C0 (mtX5_bucket l g a τ (xs (i + 1)) okm acm) hX hD hS (cwV 1 C0.hts gL_law_X5_bucket rfl rfl rfl (by decide +kernel) ⟨Nat.le_trans (Nat.le_of_ble_eq_true rfl) hRf, Nat.le_trans (Nat.le_of_ble_eq_true rfl) hRl⟩) (x_recv (NL := NLM) ⟨C0.1, C0.hK, C0.2.2.1, (xDj_A C0.2.2.2.1).2.1, fun n hn => C0.2.2.2.2.1 n (NLA_M n hn), C0.2.2.2.2.2⟩ hD 30 (mM_n rfl rfl) rfl rfl) rfl hl rfl (Nat.le_of_ble_eq_true rfl) (by omega) (by omega) dL_law_726 (fun H locs hX hD hS => ?_)
  refine lv_istore (lv' := [(6, .int (bkMV τ (xs (i + 1)))), (5, .int (cdX (cd1 eIO) (r1C σ (xs (i + 1))))), (4, .int (nI i)), (3, .ref (a 50 0)), (2, .ref (a 30 0)), (1, .ref (a 0 0)), (0, .ref b)]) C0.hx C0.hb dL_law_729 hl (by decide) rfl (fun ls hl => ?_)
  refine lv_aload_n C0.hx C0.hb dL_law_731 rfl (lv_at hl 4 rfl) ?_
  refine x_Vi (As := []) (rest := []) C0 (mtX5_thrown l g a (bkMS τ (xs (i + 1)))) hD (xDj_A C0.2.2.2.1).2.1 (cwV 0 C0.hts gL_law_X5_thrown rfl rfl rfl (by decide +kernel) ⟨Nat.le_trans (Nat.le_of_ble_eq_true rfl) hRf, Nat.le_trans (Nat.le_of_ble_eq_true rfl) hRl⟩) (x_recv (NL := NLM) ⟨C0.1, C0.hK, C0.2.2.1, (xDj_A C0.2.2.2.1).2.1, fun n hn => C0.2.2.2.2.1 n (NLA_M n hn), C0.2.2.2.2.2⟩ hD 30 (mM_n rfl rfl) rfl rfl) rfl hl rfl (Nat.le_of_ble_eq_true rfl) (by omega) (by omega) dL_law_732 ?_
  refine lv_iload C0.hx C0.hb dL_law_735 (lv_at hl 1 rfl) ?_
  refine lv_icmp_eq (tgt := 742) C0.hx C0.hb dL_law_737 (by decide) (fun _ => ?_) (fun h => absurd h1.symm h)
  refine lv_iload C0.hx C0.hb dL_law_742 (lv_at hl 1 rfl) ?_
  refine lv_if_ne (tgt := 759) C0.hx C0.hb dL_law_744 (by decide) (fun hk => ?_) (fun hk => ?_)
  · refine lv_goto (tgt := 1334) C0.hx C0.hb dL_law_759 (by decide) ?_
    exact kk _ _ H locs ls _ _ h3 hX hD hS (lv_sub hl [2, 3, 4, 5, 6] rfl) (by omega) (by omega)
  · have hk : (cdX (cd1 eIO) (r1C σ (xs (i + 1)))) = 0 := Classical.byContradiction (fun z => by first | exact hk z | exact z hk)
    have hB := cd_0 hk
    have hr := h2 hB
    refine lv_aload_n C0.hx C0.hb dL_law_747 rfl (lv_at hl 3 rfl) ?_
    refine lv_iconst (v := nI 0) C0.hx C0.hb dL_law_748 (by decide) ?_
    refine x_lald C0 hX (x := (bkMV τ (xs (i + 1))).toInt64) (by rw [wS_out hB, hr]) dL_law_749 ?_
    refine lv_iload C0.hx C0.hb dL_law_750 (lv_at hl 0 rfl) ?_
    refine lv_i2l C0.hx C0.hb dL_law_752 rfl ?_
    refine x_lceq (tgt := 759) C0.hx C0.hb rfl dL_law_753 dL_law_754 (by decide) ?_
    refine lv_goto (tgt := 1334) C0.hx C0.hb dL_law_759 (by decide) ?_
    exact kk _ _ H locs ls _ _ h3 hX hD hS (lv_sub hl [2, 3, 4, 5, 6] rfl) (by omega) (by omega)
set_option maxHeartbeats 4000000 in
set_option maxRecDepth 100000 in
theorem lc_9 {p : Program} {l : Launch} {e : Env} {R : Room} {s : State} {m : MethodId} {args : Array Value} {below : List Frame} {meth : Method} {c : Code} {H : Heap} {locs : List Loc} {cells slots : Nat} {Q : State → Prop} {ls : Array Slot} {g : xG} {a : xAd} {σ τ : xS} {A : Nat → Prop} {b L : Nat} {xs : Nat → Int32} {I : xS → xS → Prop} (C0 : xC p s m args c cL_law 7 wsL_law RL NLA g a A) (hfl : l.stackTraces = false) (hT : xZt s) (hZ : xZh A s s.heap) (hW9 : xZw s) (hV : va_X b L xs s s.heap) (hbl : b < s.heap.size) (hbA : ¬ A b) (hL : L ≤ 3584) (hRf : 11 ≤ R.frames) (hRl : 404 ≤ R.locals) (hok : ∀ σ τ, I σ τ → (okX σ ∧ okF σ) ∧ (okM τ ∧ acM τ)) (hX : va_P g.1 vwCl (xw NLL g a σ) H) (hD : va_P g.1 vwCl (xw NLM g a τ) H) (hS : va_S A s.heap H locs) (hI : I σ τ) {i : Nat} (hi : i + 7 ≤ L) (hl : lv_has ls 7 [(4, .int (nI i)), (3, .ref (a 50 0)), (2, .ref (a 30 0)), (1, .ref (a 0 0)), (0, .ref b)]) (hc1 : cells + 4 ≤ R.cells) (hs1 : slots + 24 ≤ R.slots)
    (kk : ∀ (σ1 τ1 : xS) (H1 : Heap) (locs1 : List Loc) (ls1 : Array Slot) (cells1 slots1 : Nat), I σ1 τ1 → va_P g.1 vwCl (xw NLL g a σ1) H1 → va_P g.1 vwCl (xw NLM g a τ1) H1 → va_S A s.heap H1 locs1 → lv_has ls1 7 [(4, .int (nI i)), (3, .ref (a 50 0)), (2, .ref (a 30 0)), (1, .ref (a 0 0)), (0, .ref b)] → cells1 ≤ cells + 4 → slots1 ≤ slots + 24 → W p l e R s m args below meth c H1 locs1 cells1 slots1 Q (F0 m 1334 ls1 [])) (hst : ∀ σ τ, I σ τ → nI (buL σ (nv (σ 3 0 0))) = bsMV τ ∧ I σ (nm0 τ)) : W p l e R s m args below meth c H locs cells slots Q (F0 m 762 ls []) := by
  obtain ⟨h1, h3⟩ := hst σ τ hI
  obtain ⟨⟨okx, okfx⟩, okm, acm⟩ := hok σ τ hI
  have hXX : va_P g.1 vwCl (xw NLX g a σ) H := xwf_sub hX NLX_L
  refine lv_aload_n C0.hx C0.hb dL_law_762 rfl (lv_at hl 3 rfl) ?_
  refine x_Vi (As := []) (rest := []) C0 (mtX4_buckets l g a σ okx) hXX (xDj_L (xDj_A C0.2.2.2.1).1).1 (cwV 0 C0.hts gL_law_X4_buckets rfl rfl rfl (by decide +kernel) ⟨Nat.le_trans (Nat.le_of_ble_eq_true rfl) hRf, Nat.le_trans (Nat.le_of_ble_eq_true rfl) hRl⟩) (x_recv (NL := NLX) ⟨C0.1, C0.hK, C0.2.2.1, (xDj_L (xDj_A C0.2.2.2.1).1).1, fun n hn => C0.2.2.2.2.1 n (NLA_X n hn), C0.2.2.2.2.2⟩ hXX 0 (mX_n rfl) rfl rfl) rfl hl rfl (Nat.le_of_ble_eq_true rfl) (by omega) (by omega) dL_law_763 ?_
  refine lv_aload_n C0.hx C0.hb dL_law_766 rfl (lv_at hl 2 rfl) ?_
  refine x_lM (As := []) (rest := [.int (nI (buL σ (nv (σ 3 0 0))))]) C0 (mtX5_buckets l g a τ okm acm) hX hD hS (cwV 0 C0.hts gL_law_X5_buckets rfl rfl rfl (by decide +kernel) ⟨Nat.le_trans (Nat.le_of_ble_eq_true rfl) hRf, Nat.le_trans (Nat.le_of_ble_eq_true rfl) hRl⟩) (x_recv (NL := NLM) ⟨C0.1, C0.hK, C0.2.2.1, (xDj_A C0.2.2.2.1).2.1, fun n hn => C0.2.2.2.2.1 n (NLA_M n hn), C0.2.2.2.2.2⟩ hD 30 (mM_n rfl rfl) rfl rfl) rfl hl rfl (Nat.le_of_ble_eq_true rfl) (by omega) (by omega) dL_law_767 (fun H locs hX hD hS => ?_)
  refine lv_icmp_eq (tgt := 1334) C0.hx C0.hb dL_law_770 (by decide) (fun _ => ?_) (fun h => absurd h1 h)
  exact kk σ _ H locs ls _ _ h3 hX hD hS hl (by omega) (by omega)
set_option maxHeartbeats 4000000 in
set_option maxRecDepth 100000 in
theorem lc_10 {p : Program} {l : Launch} {e : Env} {R : Room} {s : State} {m : MethodId} {args : Array Value} {below : List Frame} {meth : Method} {c : Code} {H : Heap} {locs : List Loc} {cells slots : Nat} {Q : State → Prop} {ls : Array Slot} {g : xG} {a : xAd} {σ τ : xS} {A : Nat → Prop} {b L : Nat} {xs : Nat → Int32} {I : xS → xS → Prop} (C0 : xC p s m args c cL_law 7 wsL_law RL NLA g a A) (hfl : l.stackTraces = false) (hT : xZt s) (hZ : xZh A s s.heap) (hW9 : xZw s) (hV : va_X b L xs s s.heap) (hbl : b < s.heap.size) (hbA : ¬ A b) (hL : L ≤ 3584) (hRf : 11 ≤ R.frames) (hRl : 404 ≤ R.locals) (hok : ∀ σ τ, I σ τ → (okX σ ∧ okF σ) ∧ (okM τ ∧ acM τ)) (hX : va_P g.1 vwCl (xw NLL g a σ) H) (hD : va_P g.1 vwCl (xw NLM g a τ) H) (hS : va_S A s.heap H locs) (hI : I σ τ) {i : Nat} (hi : i + 7 ≤ L) (hl : lv_has ls 7 [(4, .int (nI i)), (3, .ref (a 50 0)), (2, .ref (a 30 0)), (1, .ref (a 0 0)), (0, .ref b)]) (hc1 : cells + 4 ≤ R.cells) (hs1 : slots + 24 ≤ R.slots)
    (kk : ∀ (σ1 τ1 : xS) (H1 : Heap) (locs1 : List Loc) (ls1 : Array Slot) (cells1 slots1 : Nat), I σ1 τ1 → va_P g.1 vwCl (xw NLL g a σ1) H1 → va_P g.1 vwCl (xw NLM g a τ1) H1 → va_S A s.heap H1 locs1 → lv_has ls1 7 [(4, .int (nI i)), (3, .ref (a 50 0)), (2, .ref (a 30 0)), (1, .ref (a 0 0)), (0, .ref b)] → cells1 ≤ cells + 4 → slots1 ≤ slots + 24 → W p l e R s m args below meth c H1 locs1 cells1 slots1 Q (F0 m 1334 ls1 [])) (hst : ∀ σ τ, I σ τ → ∀ (z1 : Int32), SF I (cd1 eIO) (r1C σ z1) σ σ (nI (siL σ (σ 19 0 (nv z1)) 4)) (bkMS τ z1) (szMV τ z1)) : W p l e R s m args below meth c H locs cells slots Q (F0 m 775 ls []) := by
  obtain ⟨h1, h2, h3⟩ := hst σ τ hI (xs (i + 1))
  obtain ⟨⟨okx, okfx⟩, okm, acm⟩ := hok σ τ hI
  refine lv_aload_n C0.hx C0.hb dL_law_775 rfl (lv_at hl 3 rfl) ?_
  refine lv_aload_n C0.hx C0.hb dL_law_776 rfl (lv_at hl 4 rfl) ?_
  refine lv_iload C0.hx C0.hb dL_law_777 (lv_at hl 0 rfl) ?_
  refine lv_iconst (v := nI 1) C0.hx C0.hb dL_law_779 (by decide) ?_
  refine lv_iadd C0.hx C0.hb dL_law_780 ?_
  refine x_top (nI_add i 1) ?_
  refine x_sld C0 hV hbl hbA hS (by omega) hL dL_law_781 ?_
  refine lv_aload_n C0.hx C0.hb dL_law_782 rfl (lv_at hl 1 rfl) ?_
  refine x_lS (As := [.ref (a 0 0), .int (xs (i + 1)), .ref (a 50 0)]) (rest := []) C0 (mtL_size l hfl g a σ (xs (i + 1)) okx) hX hD hS hT hZ hW9 (vx_cwSW 3 C0.hts gL_law_L_size rfl rfl rfl (by decide +kernel) ⟨Nat.le_trans (Nat.le_of_ble_eq_true rfl) hRf, Nat.le_trans (Nat.le_of_ble_eq_true rfl) hRl⟩) rfl hl rfl (Nat.le_of_ble_eq_true rfl) (by omega) (by omega) dL_law_783 (fun H locs hX hD hS => ?_)
  refine lv_istore (lv' := [(5, .int (cdX (cd1 eIO) (r1C σ (xs (i + 1))))), (4, .int (nI i)), (3, .ref (a 50 0)), (2, .ref (a 30 0)), (1, .ref (a 0 0)), (0, .ref b)]) C0.hx C0.hb dL_law_786 hl (by decide) rfl (fun ls hl => ?_)
  refine lv_aload_n C0.hx C0.hb dL_law_788 rfl (lv_at hl 3 rfl) ?_
  refine lv_aload_n C0.hx C0.hb dL_law_789 rfl (lv_at hl 5 rfl) ?_
  refine lv_iload C0.hx C0.hb dL_law_790 (lv_at hl 1 rfl) ?_
  refine lv_iconst (v := nI 1) C0.hx C0.hb dL_law_792 (by decide) ?_
  refine lv_iadd C0.hx C0.hb dL_law_793 ?_
  refine x_top (nI_add i 1) ?_
  refine x_sld C0 hV hbl hbA hS (by omega) hL dL_law_794 ?_
  refine x_lM (As := [.int (xs (i + 1))]) (rest := []) C0 (mtX5_size l g a τ (xs (i + 1)) okm acm) hX hD hS (cwV 1 C0.hts gL_law_X5_size rfl rfl rfl (by decide +kernel) ⟨Nat.le_trans (Nat.le_of_ble_eq_true rfl) hRf, Nat.le_trans (Nat.le_of_ble_eq_true rfl) hRl⟩) (x_recv (NL := NLM) ⟨C0.1, C0.hK, C0.2.2.1, (xDj_A C0.2.2.2.1).2.1, fun n hn => C0.2.2.2.2.1 n (NLA_M n hn), C0.2.2.2.2.2⟩ hD 30 (mM_n rfl rfl) rfl rfl) rfl hl rfl (Nat.le_of_ble_eq_true rfl) (by omega) (by omega) dL_law_795 (fun H locs hX hD hS => ?_)
  refine lv_istore (lv' := [(6, .int (szMV τ (xs (i + 1)))), (5, .int (cdX (cd1 eIO) (r1C σ (xs (i + 1))))), (4, .int (nI i)), (3, .ref (a 50 0)), (2, .ref (a 30 0)), (1, .ref (a 0 0)), (0, .ref b)]) C0.hx C0.hb dL_law_798 hl (by decide) rfl (fun ls hl => ?_)
  refine lv_aload_n C0.hx C0.hb dL_law_800 rfl (lv_at hl 4 rfl) ?_
  refine x_Vi (As := []) (rest := []) C0 (mtX5_thrown l g a (bkMS τ (xs (i + 1)))) hD (xDj_A C0.2.2.2.1).2.1 (cwV 0 C0.hts gL_law_X5_thrown rfl rfl rfl (by decide +kernel) ⟨Nat.le_trans (Nat.le_of_ble_eq_true rfl) hRf, Nat.le_trans (Nat.le_of_ble_eq_true rfl) hRl⟩) (x_recv (NL := NLM) ⟨C0.1, C0.hK, C0.2.2.1, (xDj_A C0.2.2.2.1).2.1, fun n hn => C0.2.2.2.2.1 n (NLA_M n hn), C0.2.2.2.2.2⟩ hD 30 (mM_n rfl rfl) rfl rfl) rfl hl rfl (Nat.le_of_ble_eq_true rfl) (by omega) (by omega) dL_law_801 ?_
  refine lv_iload C0.hx C0.hb dL_law_804 (lv_at hl 1 rfl) ?_
  refine lv_icmp_eq (tgt := 811) C0.hx C0.hb dL_law_806 (by decide) (fun _ => ?_) (fun h => absurd h1.symm h)
  refine lv_iload C0.hx C0.hb dL_law_811 (lv_at hl 1 rfl) ?_
  refine lv_if_ne (tgt := 828) C0.hx C0.hb dL_law_813 (by decide) (fun hk => ?_) (fun hk => ?_)
  · refine lv_goto (tgt := 1334) C0.hx C0.hb dL_law_828 (by decide) ?_
    exact kk _ _ H locs ls _ _ h3 hX hD hS (lv_sub hl [2, 3, 4, 5, 6] rfl) (by omega) (by omega)
  · have hk : (cdX (cd1 eIO) (r1C σ (xs (i + 1)))) = 0 := Classical.byContradiction (fun z => by first | exact hk z | exact z hk)
    have hB := cd_0 hk
    have hr := h2 hB
    refine lv_aload_n C0.hx C0.hb dL_law_816 rfl (lv_at hl 3 rfl) ?_
    refine lv_iconst (v := nI 0) C0.hx C0.hb dL_law_817 (by decide) ?_
    refine x_lald C0 hX (x := (szMV τ (xs (i + 1))).toInt64) (by rw [wS_out hB, hr]) dL_law_818 ?_
    refine lv_iload C0.hx C0.hb dL_law_819 (lv_at hl 0 rfl) ?_
    refine lv_i2l C0.hx C0.hb dL_law_821 rfl ?_
    refine x_lceq (tgt := 828) C0.hx C0.hb rfl dL_law_822 dL_law_823 (by decide) ?_
    refine lv_goto (tgt := 1334) C0.hx C0.hb dL_law_828 (by decide) ?_
    exact kk _ _ H locs ls _ _ h3 hX hD hS (lv_sub hl [2, 3, 4, 5, 6] rfl) (by omega) (by omega)
set_option maxHeartbeats 4000000 in
set_option maxRecDepth 100000 in
theorem lc_11 {p : Program} {l : Launch} {e : Env} {R : Room} {s : State} {m : MethodId} {args : Array Value} {below : List Frame} {meth : Method} {c : Code} {H : Heap} {locs : List Loc} {cells slots : Nat} {Q : State → Prop} {ls : Array Slot} {g : xG} {a : xAd} {σ τ : xS} {A : Nat → Prop} {b L : Nat} {xs : Nat → Int32} {I : xS → xS → Prop} (C0 : xC p s m args c cL_law 7 wsL_law RL NLA g a A) (hfl : l.stackTraces = false) (hT : xZt s) (hZ : xZh A s s.heap) (hW9 : xZw s) (hV : va_X b L xs s s.heap) (hbl : b < s.heap.size) (hbA : ¬ A b) (hL : L ≤ 3584) (hRf : 11 ≤ R.frames) (hRl : 404 ≤ R.locals) (hok : ∀ σ τ, I σ τ → (okX σ ∧ okF σ) ∧ (okM τ ∧ acM τ)) (hX : va_P g.1 vwCl (xw NLL g a σ) H) (hD : va_P g.1 vwCl (xw NLM g a τ) H) (hS : va_S A s.heap H locs) (hI : I σ τ) {i : Nat} (hi : i + 7 ≤ L) (hl : lv_has ls 7 [(4, .int (nI i)), (3, .ref (a 50 0)), (2, .ref (a 30 0)), (1, .ref (a 0 0)), (0, .ref b)]) (hc1 : cells + 4 ≤ R.cells) (hs1 : slots + 24 ≤ R.slots)
    (kk : ∀ (σ1 τ1 : xS) (H1 : Heap) (locs1 : List Loc) (ls1 : Array Slot) (cells1 slots1 : Nat), I σ1 τ1 → va_P g.1 vwCl (xw NLL g a σ1) H1 → va_P g.1 vwCl (xw NLM g a τ1) H1 → va_S A s.heap H1 locs1 → lv_has ls1 7 [(4, .int (nI i)), (3, .ref (a 50 0)), (2, .ref (a 30 0)), (1, .ref (a 0 0)), (0, .ref b)] → cells1 ≤ cells + 4 → slots1 ≤ slots + 24 → W p l e R s m args below meth c H1 locs1 cells1 slots1 Q (F0 m 1334 ls1 [])) (hst : ∀ σ τ, I σ τ → ∀ (z1 : Int32) (z2 : Int32), SF I (cd1 eIA) (ssC z1 z2) σ (ssS σ z1 z2) (σ 5 0 (nv z1)) (ssMS τ z1 z2) (ssMV τ z1 z2)) : W p l e R s m args below meth c H locs cells slots Q (F0 m 831 ls []) := by
  obtain ⟨h1, h2, h3⟩ := hst σ τ hI (xs (i + 1)) (xs (i + 2))
  obtain ⟨⟨okx, okfx⟩, okm, acm⟩ := hok σ τ hI
  refine lv_aload_n C0.hx C0.hb dL_law_831 rfl (lv_at hl 3 rfl) ?_
  refine lv_aload_n C0.hx C0.hb dL_law_832 rfl (lv_at hl 4 rfl) ?_
  refine lv_iload C0.hx C0.hb dL_law_833 (lv_at hl 0 rfl) ?_
  refine lv_iconst (v := nI 1) C0.hx C0.hb dL_law_835 (by decide) ?_
  refine lv_iadd C0.hx C0.hb dL_law_836 ?_
  refine x_top (nI_add i 1) ?_
  refine x_sld C0 hV hbl hbA hS (by omega) hL dL_law_837 ?_
  refine lv_aload_n C0.hx C0.hb dL_law_838 rfl (lv_at hl 4 rfl) ?_
  refine lv_iload C0.hx C0.hb dL_law_839 (lv_at hl 0 rfl) ?_
  refine lv_iconst (v := nI 2) C0.hx C0.hb dL_law_841 (by decide) ?_
  refine lv_iadd C0.hx C0.hb dL_law_842 ?_
  refine x_top (nI_add i 2) ?_
  refine x_sld C0 hV hbl hbA hS (by omega) hL dL_law_843 ?_
  refine lv_aload_n C0.hx C0.hb dL_law_844 rfl (lv_at hl 1 rfl) ?_
  refine x_lS (As := [.ref (a 0 0), .int (xs (i + 1)), .int (xs (i + 2)), .ref (a 50 0)]) (rest := []) C0 (mtL_setSessions l hfl g a σ (xs (i + 1)) (xs (i + 2)) okx) hX hD hS hT hZ hW9 (vx_cwSW 4 C0.hts gL_law_L_setSessions rfl rfl rfl (by decide +kernel) ⟨Nat.le_trans (Nat.le_of_ble_eq_true rfl) hRf, Nat.le_trans (Nat.le_of_ble_eq_true rfl) hRl⟩) rfl hl rfl (Nat.le_of_ble_eq_true rfl) (by omega) (by omega) dL_law_845 (fun H locs hX hD hS => ?_)
  refine lv_istore (lv' := [(5, .int (cdX (cd1 eIA) (ssC (xs (i + 1)) (xs (i + 2))))), (4, .int (nI i)), (3, .ref (a 50 0)), (2, .ref (a 30 0)), (1, .ref (a 0 0)), (0, .ref b)]) C0.hx C0.hb dL_law_848 hl (by decide) rfl (fun ls hl => ?_)
  refine lv_aload_n C0.hx C0.hb dL_law_850 rfl (lv_at hl 3 rfl) ?_
  refine lv_aload_n C0.hx C0.hb dL_law_851 rfl (lv_at hl 5 rfl) ?_
  refine lv_iload C0.hx C0.hb dL_law_852 (lv_at hl 1 rfl) ?_
  refine lv_iconst (v := nI 1) C0.hx C0.hb dL_law_854 (by decide) ?_
  refine lv_iadd C0.hx C0.hb dL_law_855 ?_
  refine x_top (nI_add i 1) ?_
  refine x_sld C0 hV hbl hbA hS (by omega) hL dL_law_856 ?_
  refine lv_aload_n C0.hx C0.hb dL_law_857 rfl (lv_at hl 5 rfl) ?_
  refine lv_iload C0.hx C0.hb dL_law_858 (lv_at hl 1 rfl) ?_
  refine lv_iconst (v := nI 2) C0.hx C0.hb dL_law_860 (by decide) ?_
  refine lv_iadd C0.hx C0.hb dL_law_861 ?_
  refine x_top (nI_add i 2) ?_
  refine x_sld C0 hV hbl hbA hS (by omega) hL dL_law_862 ?_
  refine x_lM (As := [.int (xs (i + 1)), .int (xs (i + 2))]) (rest := []) C0 (mtX5_setSessions l g a τ (xs (i + 1)) (xs (i + 2)) okm) hX hD hS (cwV 2 C0.hts gL_law_X5_setSessions rfl rfl rfl (by decide +kernel) ⟨Nat.le_trans (Nat.le_of_ble_eq_true rfl) hRf, Nat.le_trans (Nat.le_of_ble_eq_true rfl) hRl⟩) (x_recv (NL := NLM) ⟨C0.1, C0.hK, C0.2.2.1, (xDj_A C0.2.2.2.1).2.1, fun n hn => C0.2.2.2.2.1 n (NLA_M n hn), C0.2.2.2.2.2⟩ hD 30 (mM_n rfl rfl) rfl rfl) rfl hl rfl (Nat.le_of_ble_eq_true rfl) (by omega) (by omega) dL_law_863 (fun H locs hX hD hS => ?_)
  refine lv_istore (lv' := [(6, .int (ssMV τ (xs (i + 1)) (xs (i + 2)))), (5, .int (cdX (cd1 eIA) (ssC (xs (i + 1)) (xs (i + 2))))), (4, .int (nI i)), (3, .ref (a 50 0)), (2, .ref (a 30 0)), (1, .ref (a 0 0)), (0, .ref b)]) C0.hx C0.hb dL_law_866 hl (by decide) rfl (fun ls hl => ?_)
  refine lv_aload_n C0.hx C0.hb dL_law_868 rfl (lv_at hl 4 rfl) ?_
  refine x_Vi (As := []) (rest := []) C0 (mtX5_thrown l g a (ssMS τ (xs (i + 1)) (xs (i + 2)))) hD (xDj_A C0.2.2.2.1).2.1 (cwV 0 C0.hts gL_law_X5_thrown rfl rfl rfl (by decide +kernel) ⟨Nat.le_trans (Nat.le_of_ble_eq_true rfl) hRf, Nat.le_trans (Nat.le_of_ble_eq_true rfl) hRl⟩) (x_recv (NL := NLM) ⟨C0.1, C0.hK, C0.2.2.1, (xDj_A C0.2.2.2.1).2.1, fun n hn => C0.2.2.2.2.1 n (NLA_M n hn), C0.2.2.2.2.2⟩ hD 30 (mM_n rfl rfl) rfl rfl) rfl hl rfl (Nat.le_of_ble_eq_true rfl) (by omega) (by omega) dL_law_869 ?_
  refine lv_iload C0.hx C0.hb dL_law_872 (lv_at hl 1 rfl) ?_
  refine lv_icmp_eq (tgt := 879) C0.hx C0.hb dL_law_874 (by decide) (fun _ => ?_) (fun h => absurd h1.symm h)
  refine lv_iload C0.hx C0.hb dL_law_879 (lv_at hl 1 rfl) ?_
  refine lv_if_ne (tgt := 896) C0.hx C0.hb dL_law_881 (by decide) (fun hk => ?_) (fun hk => ?_)
  · refine lv_goto (tgt := 1334) C0.hx C0.hb dL_law_896 (by decide) ?_
    exact kk _ _ H locs ls _ _ h3 hX hD hS (lv_sub hl [2, 3, 4, 5, 6] rfl) (by omega) (by omega)
  · have hk : (cdX (cd1 eIA) (ssC (xs (i + 1)) (xs (i + 2)))) = 0 := Classical.byContradiction (fun z => by first | exact hk z | exact z hk)
    have hB := cd_0 hk
    have hr := h2 hB
    refine lv_aload_n C0.hx C0.hb dL_law_884 rfl (lv_at hl 3 rfl) ?_
    refine lv_iconst (v := nI 0) C0.hx C0.hb dL_law_885 (by decide) ?_
    refine x_lald C0 hX (x := (ssMV τ (xs (i + 1)) (xs (i + 2))).toInt64) (by rw [wS_out hB, hr]) dL_law_886 ?_
    refine lv_iload C0.hx C0.hb dL_law_887 (lv_at hl 0 rfl) ?_
    refine lv_i2l C0.hx C0.hb dL_law_889 rfl ?_
    refine x_lceq (tgt := 896) C0.hx C0.hb rfl dL_law_890 dL_law_891 (by decide) ?_
    refine lv_goto (tgt := 1334) C0.hx C0.hb dL_law_896 (by decide) ?_
    exact kk _ _ H locs ls _ _ h3 hX hD hS (lv_sub hl [2, 3, 4, 5, 6] rfl) (by omega) (by omega)
set_option maxHeartbeats 4000000 in
set_option maxRecDepth 100000 in
theorem lc_12 {p : Program} {l : Launch} {e : Env} {R : Room} {s : State} {m : MethodId} {args : Array Value} {below : List Frame} {meth : Method} {c : Code} {H : Heap} {locs : List Loc} {cells slots : Nat} {Q : State → Prop} {ls : Array Slot} {g : xG} {a : xAd} {σ τ : xS} {A : Nat → Prop} {b L : Nat} {xs : Nat → Int32} {I : xS → xS → Prop} (C0 : xC p s m args c cL_law 7 wsL_law RL NLA g a A) (hfl : l.stackTraces = false) (hT : xZt s) (hZ : xZh A s s.heap) (hW9 : xZw s) (hV : va_X b L xs s s.heap) (hbl : b < s.heap.size) (hbA : ¬ A b) (hL : L ≤ 3584) (hRf : 11 ≤ R.frames) (hRl : 404 ≤ R.locals) (hok : ∀ σ τ, I σ τ → (okX σ ∧ okF σ) ∧ (okM τ ∧ acM τ)) (hX : va_P g.1 vwCl (xw NLL g a σ) H) (hD : va_P g.1 vwCl (xw NLM g a τ) H) (hS : va_S A s.heap H locs) (hI : I σ τ) {i : Nat} (hi : i + 7 ≤ L) (hl : lv_has ls 7 [(4, .int (nI i)), (3, .ref (a 50 0)), (2, .ref (a 30 0)), (1, .ref (a 0 0)), (0, .ref b)]) (hc1 : cells + 4 ≤ R.cells) (hs1 : slots + 24 ≤ R.slots)
    (kk : ∀ (σ1 τ1 : xS) (H1 : Heap) (locs1 : List Loc) (ls1 : Array Slot) (cells1 slots1 : Nat), I σ1 τ1 → va_P g.1 vwCl (xw NLL g a σ1) H1 → va_P g.1 vwCl (xw NLM g a τ1) H1 → va_S A s.heap H1 locs1 → lv_has ls1 7 [(4, .int (nI i)), (3, .ref (a 50 0)), (2, .ref (a 30 0)), (1, .ref (a 0 0)), (0, .ref b)] → cells1 ≤ cells + 4 → slots1 ≤ slots + 24 → W p l e R s m args below meth c H1 locs1 cells1 slots1 Q (F0 m 1334 ls1 [])) (hst : ∀ σ τ, I σ τ → ∀ (z1 : Int32), SF I (cd1 eIA) (slC z1) σ (slS σ z1) (σ 0 0 0) (slMS τ z1) (slMV τ z1)) : W p l e R s m args below meth c H locs cells slots Q (F0 m 899 ls []) := by
  obtain ⟨h1, h2, h3⟩ := hst σ τ hI (xs (i + 1))
  obtain ⟨⟨okx, okfx⟩, okm, acm⟩ := hok σ τ hI
  refine lv_aload_n C0.hx C0.hb dL_law_899 rfl (lv_at hl 3 rfl) ?_
  refine lv_aload_n C0.hx C0.hb dL_law_900 rfl (lv_at hl 4 rfl) ?_
  refine lv_iload C0.hx C0.hb dL_law_901 (lv_at hl 0 rfl) ?_
  refine lv_iconst (v := nI 1) C0.hx C0.hb dL_law_903 (by decide) ?_
  refine lv_iadd C0.hx C0.hb dL_law_904 ?_
  refine x_top (nI_add i 1) ?_
  refine x_sld C0 hV hbl hbA hS (by omega) hL dL_law_905 ?_
  refine lv_aload_n C0.hx C0.hb dL_law_906 rfl (lv_at hl 1 rfl) ?_
  refine x_lS (As := [.ref (a 0 0), .int (xs (i + 1)), .ref (a 50 0)]) (rest := []) C0 (mtL_setLimit l hfl g a σ (xs (i + 1))) hX hD hS hT hZ hW9 (vx_cwSW 3 C0.hts gL_law_L_setLimit rfl rfl rfl (by decide +kernel) ⟨Nat.le_trans (Nat.le_of_ble_eq_true rfl) hRf, Nat.le_trans (Nat.le_of_ble_eq_true rfl) hRl⟩) rfl hl rfl (Nat.le_of_ble_eq_true rfl) (by omega) (by omega) dL_law_907 (fun H locs hX hD hS => ?_)
  refine lv_istore (lv' := [(5, .int (cdX (cd1 eIA) (slC (xs (i + 1))))), (4, .int (nI i)), (3, .ref (a 50 0)), (2, .ref (a 30 0)), (1, .ref (a 0 0)), (0, .ref b)]) C0.hx C0.hb dL_law_910 hl (by decide) rfl (fun ls hl => ?_)
  refine lv_aload_n C0.hx C0.hb dL_law_912 rfl (lv_at hl 3 rfl) ?_
  refine lv_aload_n C0.hx C0.hb dL_law_913 rfl (lv_at hl 5 rfl) ?_
  refine lv_iload C0.hx C0.hb dL_law_914 (lv_at hl 1 rfl) ?_
  refine lv_iconst (v := nI 1) C0.hx C0.hb dL_law_916 (by decide) ?_
  refine lv_iadd C0.hx C0.hb dL_law_917 ?_
  refine x_top (nI_add i 1) ?_
  refine x_sld C0 hV hbl hbA hS (by omega) hL dL_law_918 ?_
  refine x_lM (As := [.int (xs (i + 1))]) (rest := []) C0 (mtX5_setLimit l g a τ (xs (i + 1)) okm) hX hD hS (cwV 1 C0.hts gL_law_X5_setLimit rfl rfl rfl (by decide +kernel) ⟨Nat.le_trans (Nat.le_of_ble_eq_true rfl) hRf, Nat.le_trans (Nat.le_of_ble_eq_true rfl) hRl⟩) (x_recv (NL := NLM) ⟨C0.1, C0.hK, C0.2.2.1, (xDj_A C0.2.2.2.1).2.1, fun n hn => C0.2.2.2.2.1 n (NLA_M n hn), C0.2.2.2.2.2⟩ hD 30 (mM_n rfl rfl) rfl rfl) rfl hl rfl (Nat.le_of_ble_eq_true rfl) (by omega) (by omega) dL_law_919 (fun H locs hX hD hS => ?_)
  refine lv_istore (lv' := [(6, .int (slMV τ (xs (i + 1)))), (5, .int (cdX (cd1 eIA) (slC (xs (i + 1))))), (4, .int (nI i)), (3, .ref (a 50 0)), (2, .ref (a 30 0)), (1, .ref (a 0 0)), (0, .ref b)]) C0.hx C0.hb dL_law_922 hl (by decide) rfl (fun ls hl => ?_)
  refine lv_aload_n C0.hx C0.hb dL_law_924 rfl (lv_at hl 4 rfl) ?_
  refine x_Vi (As := []) (rest := []) C0 (mtX5_thrown l g a (slMS τ (xs (i + 1)))) hD (xDj_A C0.2.2.2.1).2.1 (cwV 0 C0.hts gL_law_X5_thrown rfl rfl rfl (by decide +kernel) ⟨Nat.le_trans (Nat.le_of_ble_eq_true rfl) hRf, Nat.le_trans (Nat.le_of_ble_eq_true rfl) hRl⟩) (x_recv (NL := NLM) ⟨C0.1, C0.hK, C0.2.2.1, (xDj_A C0.2.2.2.1).2.1, fun n hn => C0.2.2.2.2.1 n (NLA_M n hn), C0.2.2.2.2.2⟩ hD 30 (mM_n rfl rfl) rfl rfl) rfl hl rfl (Nat.le_of_ble_eq_true rfl) (by omega) (by omega) dL_law_925 ?_
  refine lv_iload C0.hx C0.hb dL_law_928 (lv_at hl 1 rfl) ?_
  refine lv_icmp_eq (tgt := 935) C0.hx C0.hb dL_law_930 (by decide) (fun _ => ?_) (fun h => absurd h1.symm h)
  refine lv_iload C0.hx C0.hb dL_law_935 (lv_at hl 1 rfl) ?_
  refine lv_if_ne (tgt := 952) C0.hx C0.hb dL_law_937 (by decide) (fun hk => ?_) (fun hk => ?_)
  · refine lv_goto (tgt := 1334) C0.hx C0.hb dL_law_952 (by decide) ?_
    exact kk _ _ H locs ls _ _ h3 hX hD hS (lv_sub hl [2, 3, 4, 5, 6] rfl) (by omega) (by omega)
  · have hk : (cdX (cd1 eIA) (slC (xs (i + 1)))) = 0 := Classical.byContradiction (fun z => by first | exact hk z | exact z hk)
    have hB := cd_0 hk
    have hr := h2 hB
    refine lv_aload_n C0.hx C0.hb dL_law_940 rfl (lv_at hl 3 rfl) ?_
    refine lv_iconst (v := nI 0) C0.hx C0.hb dL_law_941 (by decide) ?_
    refine x_lald C0 hX (x := (slMV τ (xs (i + 1))).toInt64) (by rw [wS_out hB, hr]) dL_law_942 ?_
    refine lv_iload C0.hx C0.hb dL_law_943 (lv_at hl 0 rfl) ?_
    refine lv_i2l C0.hx C0.hb dL_law_945 rfl ?_
    refine x_lceq (tgt := 952) C0.hx C0.hb rfl dL_law_946 dL_law_947 (by decide) ?_
    refine lv_goto (tgt := 1334) C0.hx C0.hb dL_law_952 (by decide) ?_
    exact kk _ _ H locs ls _ _ h3 hX hD hS (lv_sub hl [2, 3, 4, 5, 6] rfl) (by omega) (by omega)
set_option maxHeartbeats 4000000 in
set_option maxRecDepth 100000 in
theorem lc_13 {p : Program} {l : Launch} {e : Env} {R : Room} {s : State} {m : MethodId} {args : Array Value} {below : List Frame} {meth : Method} {c : Code} {H : Heap} {locs : List Loc} {cells slots : Nat} {Q : State → Prop} {ls : Array Slot} {g : xG} {a : xAd} {σ τ : xS} {A : Nat → Prop} {b L : Nat} {xs : Nat → Int32} {I : xS → xS → Prop} (C0 : xC p s m args c cL_law 7 wsL_law RL NLA g a A) (hfl : l.stackTraces = false) (hT : xZt s) (hZ : xZh A s s.heap) (hW9 : xZw s) (hV : va_X b L xs s s.heap) (hbl : b < s.heap.size) (hbA : ¬ A b) (hL : L ≤ 3584) (hRf : 11 ≤ R.frames) (hRl : 404 ≤ R.locals) (hok : ∀ σ τ, I σ τ → (okX σ ∧ okF σ) ∧ (okM τ ∧ acM τ)) (hX : va_P g.1 vwCl (xw NLL g a σ) H) (hD : va_P g.1 vwCl (xw NLM g a τ) H) (hS : va_S A s.heap H locs) (hI : I σ τ) {i : Nat} (hi : i + 7 ≤ L) (hl : lv_has ls 7 [(4, .int (nI i)), (3, .ref (a 50 0)), (2, .ref (a 30 0)), (1, .ref (a 0 0)), (0, .ref b)]) (hc1 : cells + 4 ≤ R.cells) (hs1 : slots + 24 ≤ R.slots)
    (kk : ∀ (σ1 τ1 : xS) (H1 : Heap) (locs1 : List Loc) (ls1 : Array Slot) (cells1 slots1 : Nat), I σ1 τ1 → va_P g.1 vwCl (xw NLL g a σ1) H1 → va_P g.1 vwCl (xw NLM g a τ1) H1 → va_S A s.heap H1 locs1 → lv_has ls1 7 [(4, .int (nI i)), (3, .ref (a 50 0)), (2, .ref (a 30 0)), (1, .ref (a 0 0)), (0, .ref b)] → cells1 ≤ cells + 4 → slots1 ≤ slots + 24 → W p l e R s m args below meth c H1 locs1 cells1 slots1 Q (F0 m 1334 ls1 [])) (hst : ∀ σ τ, I σ τ → ∀ (z1 : Int32) (z2 : Int32), SF I (cd1 eIO) (frC σ z1 z2) σ σ (nI (rtX σ (σ 19 0 (nv z1)) (nv z2))) (rtMS τ z1 z2) (rtMV τ z1 z2)) : W p l e R s m args below meth c H locs cells slots Q (F0 m 955 ls []) := by
  obtain ⟨h1, h2, h3⟩ := hst σ τ hI (xs (i + 1)) (xs (i + 2))
  obtain ⟨⟨okx, okfx⟩, okm, acm⟩ := hok σ τ hI
  refine lv_aload_n C0.hx C0.hb dL_law_955 rfl (lv_at hl 3 rfl) ?_
  refine lv_aload_n C0.hx C0.hb dL_law_956 rfl (lv_at hl 4 rfl) ?_
  refine lv_iload C0.hx C0.hb dL_law_957 (lv_at hl 0 rfl) ?_
  refine lv_iconst (v := nI 1) C0.hx C0.hb dL_law_959 (by decide) ?_
  refine lv_iadd C0.hx C0.hb dL_law_960 ?_
  refine x_top (nI_add i 1) ?_
  refine x_sld C0 hV hbl hbA hS (by omega) hL dL_law_961 ?_
  refine lv_aload_n C0.hx C0.hb dL_law_962 rfl (lv_at hl 4 rfl) ?_
  refine lv_iload C0.hx C0.hb dL_law_963 (lv_at hl 0 rfl) ?_
  refine lv_iconst (v := nI 2) C0.hx C0.hb dL_law_965 (by decide) ?_
  refine lv_iadd C0.hx C0.hb dL_law_966 ?_
  refine x_top (nI_add i 2) ?_
  refine x_sld C0 hV hbl hbA hS (by omega) hL dL_law_967 ?_
  refine lv_aload_n C0.hx C0.hb dL_law_968 rfl (lv_at hl 1 rfl) ?_
  refine x_lS (As := [.ref (a 0 0), .int (xs (i + 1)), .int (xs (i + 2)), .ref (a 50 0)]) (rest := []) C0 (mtL_rate l hfl g a σ (xs (i + 1)) (xs (i + 2)) okx) hX hD hS hT hZ hW9 (vx_cwSW 4 C0.hts gL_law_L_rate rfl rfl rfl (by decide +kernel) ⟨Nat.le_trans (Nat.le_of_ble_eq_true rfl) hRf, Nat.le_trans (Nat.le_of_ble_eq_true rfl) hRl⟩) rfl hl rfl (Nat.le_of_ble_eq_true rfl) (by omega) (by omega) dL_law_969 (fun H locs hX hD hS => ?_)
  refine lv_istore (lv' := [(5, .int (cdX (cd1 eIO) (frC σ (xs (i + 1)) (xs (i + 2))))), (4, .int (nI i)), (3, .ref (a 50 0)), (2, .ref (a 30 0)), (1, .ref (a 0 0)), (0, .ref b)]) C0.hx C0.hb dL_law_972 hl (by decide) rfl (fun ls hl => ?_)
  refine lv_aload_n C0.hx C0.hb dL_law_974 rfl (lv_at hl 3 rfl) ?_
  refine lv_aload_n C0.hx C0.hb dL_law_975 rfl (lv_at hl 5 rfl) ?_
  refine lv_iload C0.hx C0.hb dL_law_976 (lv_at hl 1 rfl) ?_
  refine lv_iconst (v := nI 1) C0.hx C0.hb dL_law_978 (by decide) ?_
  refine lv_iadd C0.hx C0.hb dL_law_979 ?_
  refine x_top (nI_add i 1) ?_
  refine x_sld C0 hV hbl hbA hS (by omega) hL dL_law_980 ?_
  refine lv_aload_n C0.hx C0.hb dL_law_981 rfl (lv_at hl 5 rfl) ?_
  refine lv_iload C0.hx C0.hb dL_law_982 (lv_at hl 1 rfl) ?_
  refine lv_iconst (v := nI 2) C0.hx C0.hb dL_law_984 (by decide) ?_
  refine lv_iadd C0.hx C0.hb dL_law_985 ?_
  refine x_top (nI_add i 2) ?_
  refine x_sld C0 hV hbl hbA hS (by omega) hL dL_law_986 ?_
  refine x_lM (As := [.int (xs (i + 1)), .int (xs (i + 2))]) (rest := []) C0 (mtX5_rate l g a τ (xs (i + 1)) (xs (i + 2)) okm acm) hX hD hS (cwV 2 C0.hts gL_law_X5_rate rfl rfl rfl (by decide +kernel) ⟨Nat.le_trans (Nat.le_of_ble_eq_true rfl) hRf, Nat.le_trans (Nat.le_of_ble_eq_true rfl) hRl⟩) (x_recv (NL := NLM) ⟨C0.1, C0.hK, C0.2.2.1, (xDj_A C0.2.2.2.1).2.1, fun n hn => C0.2.2.2.2.1 n (NLA_M n hn), C0.2.2.2.2.2⟩ hD 30 (mM_n rfl rfl) rfl rfl) rfl hl rfl (Nat.le_of_ble_eq_true rfl) (by omega) (by omega) dL_law_987 (fun H locs hX hD hS => ?_)
  refine lv_istore (lv' := [(6, .int (rtMV τ (xs (i + 1)) (xs (i + 2)))), (5, .int (cdX (cd1 eIO) (frC σ (xs (i + 1)) (xs (i + 2))))), (4, .int (nI i)), (3, .ref (a 50 0)), (2, .ref (a 30 0)), (1, .ref (a 0 0)), (0, .ref b)]) C0.hx C0.hb dL_law_990 hl (by decide) rfl (fun ls hl => ?_)
  refine lv_aload_n C0.hx C0.hb dL_law_992 rfl (lv_at hl 4 rfl) ?_
  refine x_Vi (As := []) (rest := []) C0 (mtX5_thrown l g a (rtMS τ (xs (i + 1)) (xs (i + 2)))) hD (xDj_A C0.2.2.2.1).2.1 (cwV 0 C0.hts gL_law_X5_thrown rfl rfl rfl (by decide +kernel) ⟨Nat.le_trans (Nat.le_of_ble_eq_true rfl) hRf, Nat.le_trans (Nat.le_of_ble_eq_true rfl) hRl⟩) (x_recv (NL := NLM) ⟨C0.1, C0.hK, C0.2.2.1, (xDj_A C0.2.2.2.1).2.1, fun n hn => C0.2.2.2.2.1 n (NLA_M n hn), C0.2.2.2.2.2⟩ hD 30 (mM_n rfl rfl) rfl rfl) rfl hl rfl (Nat.le_of_ble_eq_true rfl) (by omega) (by omega) dL_law_993 ?_
  refine lv_iload C0.hx C0.hb dL_law_996 (lv_at hl 1 rfl) ?_
  refine lv_icmp_eq (tgt := 1003) C0.hx C0.hb dL_law_998 (by decide) (fun _ => ?_) (fun h => absurd h1.symm h)
  refine lv_iload C0.hx C0.hb dL_law_1003 (lv_at hl 1 rfl) ?_
  refine lv_if_ne (tgt := 1020) C0.hx C0.hb dL_law_1005 (by decide) (fun hk => ?_) (fun hk => ?_)
  · refine lv_goto (tgt := 1334) C0.hx C0.hb dL_law_1020 (by decide) ?_
    exact kk _ _ H locs ls _ _ h3 hX hD hS (lv_sub hl [2, 3, 4, 5, 6] rfl) (by omega) (by omega)
  · have hk : (cdX (cd1 eIO) (frC σ (xs (i + 1)) (xs (i + 2)))) = 0 := Classical.byContradiction (fun z => by first | exact hk z | exact z hk)
    have hB := cd_0 hk
    have hr := h2 hB
    refine lv_aload_n C0.hx C0.hb dL_law_1008 rfl (lv_at hl 3 rfl) ?_
    refine lv_iconst (v := nI 0) C0.hx C0.hb dL_law_1009 (by decide) ?_
    refine x_lald C0 hX (x := (rtMV τ (xs (i + 1)) (xs (i + 2))).toInt64) (by rw [wS_out hB, hr]) dL_law_1010 ?_
    refine lv_iload C0.hx C0.hb dL_law_1011 (lv_at hl 0 rfl) ?_
    refine lv_i2l C0.hx C0.hb dL_law_1013 rfl ?_
    refine x_lceq (tgt := 1020) C0.hx C0.hb rfl dL_law_1014 dL_law_1015 (by decide) ?_
    refine lv_goto (tgt := 1334) C0.hx C0.hb dL_law_1020 (by decide) ?_
    exact kk _ _ H locs ls _ _ h3 hX hD hS (lv_sub hl [2, 3, 4, 5, 6] rfl) (by omega) (by omega)
set_option maxHeartbeats 4000000 in
set_option maxRecDepth 100000 in
theorem lc_14 {p : Program} {l : Launch} {e : Env} {R : Room} {s : State} {m : MethodId} {args : Array Value} {below : List Frame} {meth : Method} {c : Code} {H : Heap} {locs : List Loc} {cells slots : Nat} {Q : State → Prop} {ls : Array Slot} {g : xG} {a : xAd} {σ τ : xS} {A : Nat → Prop} {b L : Nat} {xs : Nat → Int32} {I : xS → xS → Prop} (C0 : xC p s m args c cL_law 7 wsL_law RL NLA g a A) (hfl : l.stackTraces = false) (hT : xZt s) (hZ : xZh A s s.heap) (hW9 : xZw s) (hV : va_X b L xs s s.heap) (hbl : b < s.heap.size) (hbA : ¬ A b) (hL : L ≤ 3584) (hRf : 11 ≤ R.frames) (hRl : 404 ≤ R.locals) (hok : ∀ σ τ, I σ τ → (okX σ ∧ okF σ) ∧ (okM τ ∧ acM τ)) (hX : va_P g.1 vwCl (xw NLL g a σ) H) (hD : va_P g.1 vwCl (xw NLM g a τ) H) (hS : va_S A s.heap H locs) (hI : I σ τ) {i : Nat} (hi : i + 7 ≤ L) (hl : lv_has ls 7 [(4, .int (nI i)), (3, .ref (a 50 0)), (2, .ref (a 30 0)), (1, .ref (a 0 0)), (0, .ref b)]) (hc1 : cells + 4 ≤ R.cells) (hs1 : slots + 24 ≤ R.slots)
    (kk : ∀ (σ1 τ1 : xS) (H1 : Heap) (locs1 : List Loc) (ls1 : Array Slot) (cells1 slots1 : Nat), I σ1 τ1 → va_P g.1 vwCl (xw NLL g a σ1) H1 → va_P g.1 vwCl (xw NLM g a τ1) H1 → va_S A s.heap H1 locs1 → lv_has ls1 7 [(4, .int (nI i)), (3, .ref (a 50 0)), (2, .ref (a 30 0)), (1, .ref (a 0 0)), (0, .ref b)] → cells1 ≤ cells + 4 → slots1 ≤ slots + 24 → W p l e R s m args below meth c H1 locs1 cells1 slots1 Q (F0 m 1334 ls1 [])) (hst : ∀ σ τ, I σ τ → ∀ (z1 : Int32) (z2 : Int32), SF I (cd1 eIO) (frC σ z1 z2) σ σ (ucX σ (σ 19 0 (nv z1)) (nv z2)) (usMS τ z1 z2) (usMV τ z1 z2)) : W p l e R s m args below meth c H locs cells slots Q (F0 m 1023 ls []) := by
  obtain ⟨h1, h2, h3⟩ := hst σ τ hI (xs (i + 1)) (xs (i + 2))
  obtain ⟨⟨okx, okfx⟩, okm, acm⟩ := hok σ τ hI
  refine lv_aload_n C0.hx C0.hb dL_law_1023 rfl (lv_at hl 3 rfl) ?_
  refine lv_aload_n C0.hx C0.hb dL_law_1024 rfl (lv_at hl 4 rfl) ?_
  refine lv_iload C0.hx C0.hb dL_law_1025 (lv_at hl 0 rfl) ?_
  refine lv_iconst (v := nI 1) C0.hx C0.hb dL_law_1027 (by decide) ?_
  refine lv_iadd C0.hx C0.hb dL_law_1028 ?_
  refine x_top (nI_add i 1) ?_
  refine x_sld C0 hV hbl hbA hS (by omega) hL dL_law_1029 ?_
  refine lv_aload_n C0.hx C0.hb dL_law_1030 rfl (lv_at hl 4 rfl) ?_
  refine lv_iload C0.hx C0.hb dL_law_1031 (lv_at hl 0 rfl) ?_
  refine lv_iconst (v := nI 2) C0.hx C0.hb dL_law_1033 (by decide) ?_
  refine lv_iadd C0.hx C0.hb dL_law_1034 ?_
  refine x_top (nI_add i 2) ?_
  refine x_sld C0 hV hbl hbA hS (by omega) hL dL_law_1035 ?_
  refine lv_aload_n C0.hx C0.hb dL_law_1036 rfl (lv_at hl 1 rfl) ?_
  refine x_lS (As := [.ref (a 0 0), .int (xs (i + 1)), .int (xs (i + 2)), .ref (a 50 0)]) (rest := []) C0 (mtL_users l hfl g a σ (xs (i + 1)) (xs (i + 2)) okx) hX hD hS hT hZ hW9 (vx_cwSW 4 C0.hts gL_law_L_users rfl rfl rfl (by decide +kernel) ⟨Nat.le_trans (Nat.le_of_ble_eq_true rfl) hRf, Nat.le_trans (Nat.le_of_ble_eq_true rfl) hRl⟩) rfl hl rfl (Nat.le_of_ble_eq_true rfl) (by omega) (by omega) dL_law_1037 (fun H locs hX hD hS => ?_)
  refine lv_istore (lv' := [(5, .int (cdX (cd1 eIO) (frC σ (xs (i + 1)) (xs (i + 2))))), (4, .int (nI i)), (3, .ref (a 50 0)), (2, .ref (a 30 0)), (1, .ref (a 0 0)), (0, .ref b)]) C0.hx C0.hb dL_law_1040 hl (by decide) rfl (fun ls hl => ?_)
  refine lv_aload_n C0.hx C0.hb dL_law_1042 rfl (lv_at hl 3 rfl) ?_
  refine lv_aload_n C0.hx C0.hb dL_law_1043 rfl (lv_at hl 5 rfl) ?_
  refine lv_iload C0.hx C0.hb dL_law_1044 (lv_at hl 1 rfl) ?_
  refine lv_iconst (v := nI 1) C0.hx C0.hb dL_law_1046 (by decide) ?_
  refine lv_iadd C0.hx C0.hb dL_law_1047 ?_
  refine x_top (nI_add i 1) ?_
  refine x_sld C0 hV hbl hbA hS (by omega) hL dL_law_1048 ?_
  refine lv_aload_n C0.hx C0.hb dL_law_1049 rfl (lv_at hl 5 rfl) ?_
  refine lv_iload C0.hx C0.hb dL_law_1050 (lv_at hl 1 rfl) ?_
  refine lv_iconst (v := nI 2) C0.hx C0.hb dL_law_1052 (by decide) ?_
  refine lv_iadd C0.hx C0.hb dL_law_1053 ?_
  refine x_top (nI_add i 2) ?_
  refine x_sld C0 hV hbl hbA hS (by omega) hL dL_law_1054 ?_
  refine x_lM (As := [.int (xs (i + 1)), .int (xs (i + 2))]) (rest := []) C0 (mtX5_users l g a τ (xs (i + 1)) (xs (i + 2)) okm acm) hX hD hS (cwV 2 C0.hts gL_law_X5_users rfl rfl rfl (by decide +kernel) ⟨Nat.le_trans (Nat.le_of_ble_eq_true rfl) hRf, Nat.le_trans (Nat.le_of_ble_eq_true rfl) hRl⟩) (x_recv (NL := NLM) ⟨C0.1, C0.hK, C0.2.2.1, (xDj_A C0.2.2.2.1).2.1, fun n hn => C0.2.2.2.2.1 n (NLA_M n hn), C0.2.2.2.2.2⟩ hD 30 (mM_n rfl rfl) rfl rfl) rfl hl rfl (Nat.le_of_ble_eq_true rfl) (by omega) (by omega) dL_law_1055 (fun H locs hX hD hS => ?_)
  refine lv_istore (lv' := [(6, .int (usMV τ (xs (i + 1)) (xs (i + 2)))), (5, .int (cdX (cd1 eIO) (frC σ (xs (i + 1)) (xs (i + 2))))), (4, .int (nI i)), (3, .ref (a 50 0)), (2, .ref (a 30 0)), (1, .ref (a 0 0)), (0, .ref b)]) C0.hx C0.hb dL_law_1058 hl (by decide) rfl (fun ls hl => ?_)
  refine lv_aload_n C0.hx C0.hb dL_law_1060 rfl (lv_at hl 4 rfl) ?_
  refine x_Vi (As := []) (rest := []) C0 (mtX5_thrown l g a (usMS τ (xs (i + 1)) (xs (i + 2)))) hD (xDj_A C0.2.2.2.1).2.1 (cwV 0 C0.hts gL_law_X5_thrown rfl rfl rfl (by decide +kernel) ⟨Nat.le_trans (Nat.le_of_ble_eq_true rfl) hRf, Nat.le_trans (Nat.le_of_ble_eq_true rfl) hRl⟩) (x_recv (NL := NLM) ⟨C0.1, C0.hK, C0.2.2.1, (xDj_A C0.2.2.2.1).2.1, fun n hn => C0.2.2.2.2.1 n (NLA_M n hn), C0.2.2.2.2.2⟩ hD 30 (mM_n rfl rfl) rfl rfl) rfl hl rfl (Nat.le_of_ble_eq_true rfl) (by omega) (by omega) dL_law_1061 ?_
  refine lv_iload C0.hx C0.hb dL_law_1064 (lv_at hl 1 rfl) ?_
  refine lv_icmp_eq (tgt := 1071) C0.hx C0.hb dL_law_1066 (by decide) (fun _ => ?_) (fun h => absurd h1.symm h)
  refine lv_iload C0.hx C0.hb dL_law_1071 (lv_at hl 1 rfl) ?_
  refine lv_if_ne (tgt := 1088) C0.hx C0.hb dL_law_1073 (by decide) (fun hk => ?_) (fun hk => ?_)
  · refine lv_goto (tgt := 1334) C0.hx C0.hb dL_law_1088 (by decide) ?_
    exact kk _ _ H locs ls _ _ h3 hX hD hS (lv_sub hl [2, 3, 4, 5, 6] rfl) (by omega) (by omega)
  · have hk : (cdX (cd1 eIO) (frC σ (xs (i + 1)) (xs (i + 2)))) = 0 := Classical.byContradiction (fun z => by first | exact hk z | exact z hk)
    have hB := cd_0 hk
    have hr := h2 hB
    refine lv_aload_n C0.hx C0.hb dL_law_1076 rfl (lv_at hl 3 rfl) ?_
    refine lv_iconst (v := nI 0) C0.hx C0.hb dL_law_1077 (by decide) ?_
    refine x_lald C0 hX (x := (usMV τ (xs (i + 1)) (xs (i + 2))).toInt64) (by rw [wS_out hB, hr]) dL_law_1078 ?_
    refine lv_iload C0.hx C0.hb dL_law_1079 (lv_at hl 0 rfl) ?_
    refine lv_i2l C0.hx C0.hb dL_law_1081 rfl ?_
    refine x_lceq (tgt := 1088) C0.hx C0.hb rfl dL_law_1082 dL_law_1083 (by decide) ?_
    refine lv_goto (tgt := 1334) C0.hx C0.hb dL_law_1088 (by decide) ?_
    exact kk _ _ H locs ls _ _ h3 hX hD hS (lv_sub hl [2, 3, 4, 5, 6] rfl) (by omega) (by omega)
set_option maxHeartbeats 4000000 in
set_option maxRecDepth 100000 in
theorem lc_15 {p : Program} {l : Launch} {e : Env} {R : Room} {s : State} {m : MethodId} {args : Array Value} {below : List Frame} {meth : Method} {c : Code} {H : Heap} {locs : List Loc} {cells slots : Nat} {Q : State → Prop} {ls : Array Slot} {g : xG} {a : xAd} {σ τ : xS} {A : Nat → Prop} {b L : Nat} {xs : Nat → Int32} {I : xS → xS → Prop} (C0 : xC p s m args c cL_law 7 wsL_law RL NLA g a A) (hfl : l.stackTraces = false) (hT : xZt s) (hZ : xZh A s s.heap) (hW9 : xZw s) (hV : va_X b L xs s s.heap) (hbl : b < s.heap.size) (hbA : ¬ A b) (hL : L ≤ 3584) (hRf : 11 ≤ R.frames) (hRl : 404 ≤ R.locals) (hok : ∀ σ τ, I σ τ → (okX σ ∧ okF σ) ∧ (okM τ ∧ acM τ)) (hX : va_P g.1 vwCl (xw NLL g a σ) H) (hD : va_P g.1 vwCl (xw NLM g a τ) H) (hS : va_S A s.heap H locs) (hI : I σ τ) {i : Nat} (hi : i + 7 ≤ L) (hl : lv_has ls 7 [(4, .int (nI i)), (3, .ref (a 50 0)), (2, .ref (a 30 0)), (1, .ref (a 0 0)), (0, .ref b)]) (hc1 : cells + 4 ≤ R.cells) (hs1 : slots + 24 ≤ R.slots)
    (kk : ∀ (σ1 τ1 : xS) (H1 : Heap) (locs1 : List Loc) (ls1 : Array Slot) (cells1 slots1 : Nat), I σ1 τ1 → va_P g.1 vwCl (xw NLL g a σ1) H1 → va_P g.1 vwCl (xw NLM g a τ1) H1 → va_S A s.heap H1 locs1 → lv_has ls1 7 [(4, .int (nI i)), (3, .ref (a 50 0)), (2, .ref (a 30 0)), (1, .ref (a 0 0)), (0, .ref b)] → cells1 ≤ cells + 4 → slots1 ≤ slots + 24 → W p l e R s m args below meth c H1 locs1 cells1 slots1 Q (F0 m 1334 ls1 [])) (hst : ∀ σ τ, I σ τ → ∀ (z1 : Int32), SF I (cd1 eIA) (v1C z1) σ σ (gaX σ (nv z1)) (gaMS τ z1) (gaMV τ z1)) : W p l e R s m args below meth c H locs cells slots Q (F0 m 1091 ls []) := by
  obtain ⟨h1, h2, h3⟩ := hst σ τ hI (xs (i + 1))
  obtain ⟨⟨okx, okfx⟩, okm, acm⟩ := hok σ τ hI
  refine lv_aload_n C0.hx C0.hb dL_law_1091 rfl (lv_at hl 3 rfl) ?_
  refine lv_aload_n C0.hx C0.hb dL_law_1092 rfl (lv_at hl 4 rfl) ?_
  refine lv_iload C0.hx C0.hb dL_law_1093 (lv_at hl 0 rfl) ?_
  refine lv_iconst (v := nI 1) C0.hx C0.hb dL_law_1095 (by decide) ?_
  refine lv_iadd C0.hx C0.hb dL_law_1096 ?_
  refine x_top (nI_add i 1) ?_
  refine x_sld C0 hV hbl hbA hS (by omega) hL dL_law_1097 ?_
  refine lv_aload_n C0.hx C0.hb dL_law_1098 rfl (lv_at hl 1 rfl) ?_
  refine x_lS (As := [.ref (a 0 0), .int (xs (i + 1)), .ref (a 50 0)]) (rest := []) C0 (mtL_gate l hfl g a σ (xs (i + 1)) okx) hX hD hS hT hZ hW9 (vx_cwSW 3 C0.hts gL_law_L_gate rfl rfl rfl (by decide +kernel) ⟨Nat.le_trans (Nat.le_of_ble_eq_true rfl) hRf, Nat.le_trans (Nat.le_of_ble_eq_true rfl) hRl⟩) rfl hl rfl (Nat.le_of_ble_eq_true rfl) (by omega) (by omega) dL_law_1099 (fun H locs hX hD hS => ?_)
  refine lv_istore (lv' := [(5, .int (cdX (cd1 eIA) (v1C (xs (i + 1))))), (4, .int (nI i)), (3, .ref (a 50 0)), (2, .ref (a 30 0)), (1, .ref (a 0 0)), (0, .ref b)]) C0.hx C0.hb dL_law_1102 hl (by decide) rfl (fun ls hl => ?_)
  refine lv_aload_n C0.hx C0.hb dL_law_1104 rfl (lv_at hl 3 rfl) ?_
  refine lv_aload_n C0.hx C0.hb dL_law_1105 rfl (lv_at hl 5 rfl) ?_
  refine lv_iload C0.hx C0.hb dL_law_1106 (lv_at hl 1 rfl) ?_
  refine lv_iconst (v := nI 1) C0.hx C0.hb dL_law_1108 (by decide) ?_
  refine lv_iadd C0.hx C0.hb dL_law_1109 ?_
  refine x_top (nI_add i 1) ?_
  refine x_sld C0 hV hbl hbA hS (by omega) hL dL_law_1110 ?_
  refine x_lM (As := [.int (xs (i + 1))]) (rest := []) C0 (mtX5_gate l g a τ (xs (i + 1)) okm acm) hX hD hS (cwV 1 C0.hts gL_law_X5_gate rfl rfl rfl (by decide +kernel) ⟨Nat.le_trans (Nat.le_of_ble_eq_true rfl) hRf, Nat.le_trans (Nat.le_of_ble_eq_true rfl) hRl⟩) (x_recv (NL := NLM) ⟨C0.1, C0.hK, C0.2.2.1, (xDj_A C0.2.2.2.1).2.1, fun n hn => C0.2.2.2.2.1 n (NLA_M n hn), C0.2.2.2.2.2⟩ hD 30 (mM_n rfl rfl) rfl rfl) rfl hl rfl (Nat.le_of_ble_eq_true rfl) (by omega) (by omega) dL_law_1111 (fun H locs hX hD hS => ?_)
  refine lv_istore (lv' := [(6, .int (gaMV τ (xs (i + 1)))), (5, .int (cdX (cd1 eIA) (v1C (xs (i + 1))))), (4, .int (nI i)), (3, .ref (a 50 0)), (2, .ref (a 30 0)), (1, .ref (a 0 0)), (0, .ref b)]) C0.hx C0.hb dL_law_1114 hl (by decide) rfl (fun ls hl => ?_)
  refine lv_aload_n C0.hx C0.hb dL_law_1116 rfl (lv_at hl 4 rfl) ?_
  refine x_Vi (As := []) (rest := []) C0 (mtX5_thrown l g a (gaMS τ (xs (i + 1)))) hD (xDj_A C0.2.2.2.1).2.1 (cwV 0 C0.hts gL_law_X5_thrown rfl rfl rfl (by decide +kernel) ⟨Nat.le_trans (Nat.le_of_ble_eq_true rfl) hRf, Nat.le_trans (Nat.le_of_ble_eq_true rfl) hRl⟩) (x_recv (NL := NLM) ⟨C0.1, C0.hK, C0.2.2.1, (xDj_A C0.2.2.2.1).2.1, fun n hn => C0.2.2.2.2.1 n (NLA_M n hn), C0.2.2.2.2.2⟩ hD 30 (mM_n rfl rfl) rfl rfl) rfl hl rfl (Nat.le_of_ble_eq_true rfl) (by omega) (by omega) dL_law_1117 ?_
  refine lv_iload C0.hx C0.hb dL_law_1120 (lv_at hl 1 rfl) ?_
  refine lv_icmp_eq (tgt := 1127) C0.hx C0.hb dL_law_1122 (by decide) (fun _ => ?_) (fun h => absurd h1.symm h)
  refine lv_iload C0.hx C0.hb dL_law_1127 (lv_at hl 1 rfl) ?_
  refine lv_if_ne (tgt := 1144) C0.hx C0.hb dL_law_1129 (by decide) (fun hk => ?_) (fun hk => ?_)
  · refine lv_goto (tgt := 1334) C0.hx C0.hb dL_law_1144 (by decide) ?_
    exact kk _ _ H locs ls _ _ h3 hX hD hS (lv_sub hl [2, 3, 4, 5, 6] rfl) (by omega) (by omega)
  · have hk : (cdX (cd1 eIA) (v1C (xs (i + 1)))) = 0 := Classical.byContradiction (fun z => by first | exact hk z | exact z hk)
    have hB := cd_0 hk
    have hr := h2 hB
    refine lv_aload_n C0.hx C0.hb dL_law_1132 rfl (lv_at hl 3 rfl) ?_
    refine lv_iconst (v := nI 0) C0.hx C0.hb dL_law_1133 (by decide) ?_
    refine x_lald C0 hX (x := (gaMV τ (xs (i + 1))).toInt64) (by rw [wS_out hB, hr]) dL_law_1134 ?_
    refine lv_iload C0.hx C0.hb dL_law_1135 (lv_at hl 0 rfl) ?_
    refine lv_i2l C0.hx C0.hb dL_law_1137 rfl ?_
    refine x_lceq (tgt := 1144) C0.hx C0.hb rfl dL_law_1138 dL_law_1139 (by decide) ?_
    refine lv_goto (tgt := 1334) C0.hx C0.hb dL_law_1144 (by decide) ?_
    exact kk _ _ H locs ls _ _ h3 hX hD hS (lv_sub hl [2, 3, 4, 5, 6] rfl) (by omega) (by omega)
set_option maxHeartbeats 4000000 in
set_option maxRecDepth 100000 in
theorem lc_16 {p : Program} {l : Launch} {e : Env} {R : Room} {s : State} {m : MethodId} {args : Array Value} {below : List Frame} {meth : Method} {c : Code} {H : Heap} {locs : List Loc} {cells slots : Nat} {Q : State → Prop} {ls : Array Slot} {g : xG} {a : xAd} {σ τ : xS} {A : Nat → Prop} {b L : Nat} {xs : Nat → Int32} {I : xS → xS → Prop} (C0 : xC p s m args c cL_law 7 wsL_law RL NLA g a A) (hfl : l.stackTraces = false) (hT : xZt s) (hZ : xZh A s s.heap) (hW9 : xZw s) (hV : va_X b L xs s s.heap) (hbl : b < s.heap.size) (hbA : ¬ A b) (hL : L ≤ 3584) (hRf : 11 ≤ R.frames) (hRl : 404 ≤ R.locals) (hok : ∀ σ τ, I σ τ → (okX σ ∧ okF σ) ∧ (okM τ ∧ acM τ)) (hX : va_P g.1 vwCl (xw NLL g a σ) H) (hD : va_P g.1 vwCl (xw NLM g a τ) H) (hS : va_S A s.heap H locs) (hI : I σ τ) {i : Nat} (hi : i + 7 ≤ L) (hl : lv_has ls 7 [(4, .int (nI i)), (3, .ref (a 50 0)), (2, .ref (a 30 0)), (1, .ref (a 0 0)), (0, .ref b)]) (hc1 : cells + 4 ≤ R.cells) (hs1 : slots + 24 ≤ R.slots)
    (kk : ∀ (σ1 τ1 : xS) (H1 : Heap) (locs1 : List Loc) (ls1 : Array Slot) (cells1 slots1 : Nat), I σ1 τ1 → va_P g.1 vwCl (xw NLL g a σ1) H1 → va_P g.1 vwCl (xw NLM g a τ1) H1 → va_S A s.heap H1 locs1 → lv_has ls1 7 [(4, .int (nI i)), (3, .ref (a 50 0)), (2, .ref (a 30 0)), (1, .ref (a 0 0)), (0, .ref b)] → cells1 ≤ cells + 4 → slots1 ≤ slots + 24 → W p l e R s m args below meth c H1 locs1 cells1 slots1 Q (F0 m 1334 ls1 [])) (hst : ∀ σ τ, I σ τ → ∀ (z1 : Int32), SF I (cd1 eIA) (v1C z1) σ σ (woX σ (nv z1)) (woMS τ z1) (woMV τ z1)) : W p l e R s m args below meth c H locs cells slots Q (F0 m 1147 ls []) := by
  obtain ⟨h1, h2, h3⟩ := hst σ τ hI (xs (i + 1))
  obtain ⟨⟨okx, okfx⟩, okm, acm⟩ := hok σ τ hI
  refine lv_aload_n C0.hx C0.hb dL_law_1147 rfl (lv_at hl 3 rfl) ?_
  refine lv_aload_n C0.hx C0.hb dL_law_1148 rfl (lv_at hl 4 rfl) ?_
  refine lv_iload C0.hx C0.hb dL_law_1149 (lv_at hl 0 rfl) ?_
  refine lv_iconst (v := nI 1) C0.hx C0.hb dL_law_1151 (by decide) ?_
  refine lv_iadd C0.hx C0.hb dL_law_1152 ?_
  refine x_top (nI_add i 1) ?_
  refine x_sld C0 hV hbl hbA hS (by omega) hL dL_law_1153 ?_
  refine lv_aload_n C0.hx C0.hb dL_law_1154 rfl (lv_at hl 1 rfl) ?_
  refine x_lS (As := [.ref (a 0 0), .int (xs (i + 1)), .ref (a 50 0)]) (rest := []) C0 (mtL_worst l hfl g a σ (xs (i + 1)) okx) hX hD hS hT hZ hW9 (vx_cwSW 3 C0.hts gL_law_L_worst rfl rfl rfl (by decide +kernel) ⟨Nat.le_trans (Nat.le_of_ble_eq_true rfl) hRf, Nat.le_trans (Nat.le_of_ble_eq_true rfl) hRl⟩) rfl hl rfl (Nat.le_of_ble_eq_true rfl) (by omega) (by omega) dL_law_1155 (fun H locs hX hD hS => ?_)
  refine lv_istore (lv' := [(5, .int (cdX (cd1 eIA) (v1C (xs (i + 1))))), (4, .int (nI i)), (3, .ref (a 50 0)), (2, .ref (a 30 0)), (1, .ref (a 0 0)), (0, .ref b)]) C0.hx C0.hb dL_law_1158 hl (by decide) rfl (fun ls hl => ?_)
  refine lv_aload_n C0.hx C0.hb dL_law_1160 rfl (lv_at hl 3 rfl) ?_
  refine lv_aload_n C0.hx C0.hb dL_law_1161 rfl (lv_at hl 5 rfl) ?_
  refine lv_iload C0.hx C0.hb dL_law_1162 (lv_at hl 1 rfl) ?_
  refine lv_iconst (v := nI 1) C0.hx C0.hb dL_law_1164 (by decide) ?_
  refine lv_iadd C0.hx C0.hb dL_law_1165 ?_
  refine x_top (nI_add i 1) ?_
  refine x_sld C0 hV hbl hbA hS (by omega) hL dL_law_1166 ?_
  refine x_lM (As := [.int (xs (i + 1))]) (rest := []) C0 (mtX5_worst l g a τ (xs (i + 1)) okm acm) hX hD hS (cwV 1 C0.hts gL_law_X5_worst rfl rfl rfl (by decide +kernel) ⟨Nat.le_trans (Nat.le_of_ble_eq_true rfl) hRf, Nat.le_trans (Nat.le_of_ble_eq_true rfl) hRl⟩) (x_recv (NL := NLM) ⟨C0.1, C0.hK, C0.2.2.1, (xDj_A C0.2.2.2.1).2.1, fun n hn => C0.2.2.2.2.1 n (NLA_M n hn), C0.2.2.2.2.2⟩ hD 30 (mM_n rfl rfl) rfl rfl) rfl hl rfl (Nat.le_of_ble_eq_true rfl) (by omega) (by omega) dL_law_1167 (fun H locs hX hD hS => ?_)
  refine lv_istore (lv' := [(6, .int (woMV τ (xs (i + 1)))), (5, .int (cdX (cd1 eIA) (v1C (xs (i + 1))))), (4, .int (nI i)), (3, .ref (a 50 0)), (2, .ref (a 30 0)), (1, .ref (a 0 0)), (0, .ref b)]) C0.hx C0.hb dL_law_1170 hl (by decide) rfl (fun ls hl => ?_)
  refine lv_aload_n C0.hx C0.hb dL_law_1172 rfl (lv_at hl 4 rfl) ?_
  refine x_Vi (As := []) (rest := []) C0 (mtX5_thrown l g a (woMS τ (xs (i + 1)))) hD (xDj_A C0.2.2.2.1).2.1 (cwV 0 C0.hts gL_law_X5_thrown rfl rfl rfl (by decide +kernel) ⟨Nat.le_trans (Nat.le_of_ble_eq_true rfl) hRf, Nat.le_trans (Nat.le_of_ble_eq_true rfl) hRl⟩) (x_recv (NL := NLM) ⟨C0.1, C0.hK, C0.2.2.1, (xDj_A C0.2.2.2.1).2.1, fun n hn => C0.2.2.2.2.1 n (NLA_M n hn), C0.2.2.2.2.2⟩ hD 30 (mM_n rfl rfl) rfl rfl) rfl hl rfl (Nat.le_of_ble_eq_true rfl) (by omega) (by omega) dL_law_1173 ?_
  refine lv_iload C0.hx C0.hb dL_law_1176 (lv_at hl 1 rfl) ?_
  refine lv_icmp_eq (tgt := 1183) C0.hx C0.hb dL_law_1178 (by decide) (fun _ => ?_) (fun h => absurd h1.symm h)
  refine lv_iload C0.hx C0.hb dL_law_1183 (lv_at hl 1 rfl) ?_
  refine lv_if_ne (tgt := 1200) C0.hx C0.hb dL_law_1185 (by decide) (fun hk => ?_) (fun hk => ?_)
  · refine lv_goto (tgt := 1334) C0.hx C0.hb dL_law_1200 (by decide) ?_
    exact kk _ _ H locs ls _ _ h3 hX hD hS (lv_sub hl [2, 3, 4, 5, 6] rfl) (by omega) (by omega)
  · have hk : (cdX (cd1 eIA) (v1C (xs (i + 1)))) = 0 := Classical.byContradiction (fun z => by first | exact hk z | exact z hk)
    have hB := cd_0 hk
    have hr := h2 hB
    refine lv_aload_n C0.hx C0.hb dL_law_1188 rfl (lv_at hl 3 rfl) ?_
    refine lv_iconst (v := nI 0) C0.hx C0.hb dL_law_1189 (by decide) ?_
    refine x_lald C0 hX (x := (woMV τ (xs (i + 1))).toInt64) (by rw [wS_out hB, hr]) dL_law_1190 ?_
    refine lv_iload C0.hx C0.hb dL_law_1191 (lv_at hl 0 rfl) ?_
    refine lv_i2l C0.hx C0.hb dL_law_1193 rfl ?_
    refine x_lceq (tgt := 1200) C0.hx C0.hb rfl dL_law_1194 dL_law_1195 (by decide) ?_
    refine lv_goto (tgt := 1334) C0.hx C0.hb dL_law_1200 (by decide) ?_
    exact kk _ _ H locs ls _ _ h3 hX hD hS (lv_sub hl [2, 3, 4, 5, 6] rfl) (by omega) (by omega)
set_option maxHeartbeats 4000000 in
set_option maxRecDepth 100000 in
theorem lc_17 {p : Program} {l : Launch} {e : Env} {R : Room} {s : State} {m : MethodId} {args : Array Value} {below : List Frame} {meth : Method} {c : Code} {H : Heap} {locs : List Loc} {cells slots : Nat} {Q : State → Prop} {ls : Array Slot} {g : xG} {a : xAd} {σ τ : xS} {A : Nat → Prop} {b L : Nat} {xs : Nat → Int32} {I : xS → xS → Prop} (C0 : xC p s m args c cL_law 7 wsL_law RL NLA g a A) (hfl : l.stackTraces = false) (hT : xZt s) (hZ : xZh A s s.heap) (hW9 : xZw s) (hV : va_X b L xs s s.heap) (hbl : b < s.heap.size) (hbA : ¬ A b) (hL : L ≤ 3584) (hRf : 11 ≤ R.frames) (hRl : 404 ≤ R.locals) (hok : ∀ σ τ, I σ τ → (okX σ ∧ okF σ) ∧ (okM τ ∧ acM τ)) (hX : va_P g.1 vwCl (xw NLL g a σ) H) (hD : va_P g.1 vwCl (xw NLM g a τ) H) (hS : va_S A s.heap H locs) (hI : I σ τ) {i : Nat} (hi : i + 7 ≤ L) (hl : lv_has ls 7 [(4, .int (nI i)), (3, .ref (a 50 0)), (2, .ref (a 30 0)), (1, .ref (a 0 0)), (0, .ref b)]) (hc1 : cells + 4 ≤ R.cells) (hs1 : slots + 24 ≤ R.slots)
    (kk : ∀ (σ1 τ1 : xS) (H1 : Heap) (locs1 : List Loc) (ls1 : Array Slot) (cells1 slots1 : Nat), I σ1 τ1 → va_P g.1 vwCl (xw NLL g a σ1) H1 → va_P g.1 vwCl (xw NLM g a τ1) H1 → va_S A s.heap H1 locs1 → lv_has ls1 7 [(4, .int (nI i)), (3, .ref (a 50 0)), (2, .ref (a 30 0)), (1, .ref (a 0 0)), (0, .ref b)] → cells1 ≤ cells + 4 → slots1 ≤ slots + 24 → W p l e R s m args below meth c H1 locs1 cells1 slots1 Q (F0 m 1334 ls1 [])) (hst : ∀ σ τ, I σ τ → ∀ (z1 : Int32) (z2 : Int32), SF I (cd1 eIO) (fxC σ z1 z2) σ (fxS σ z1 z2) (σ 15 0 (nv z1)) (fxMS τ z1 z2) (fxMV τ z1 z2)) : W p l e R s m args below meth c H locs cells slots Q (F0 m 1203 ls []) := by
  obtain ⟨h1, h2, h3⟩ := hst σ τ hI (xs (i + 1)) (xs (i + 2))
  obtain ⟨⟨okx, okfx⟩, okm, acm⟩ := hok σ τ hI
  refine lv_aload_n C0.hx C0.hb dL_law_1203 rfl (lv_at hl 3 rfl) ?_
  refine lv_aload_n C0.hx C0.hb dL_law_1204 rfl (lv_at hl 4 rfl) ?_
  refine lv_iload C0.hx C0.hb dL_law_1205 (lv_at hl 0 rfl) ?_
  refine lv_iconst (v := nI 1) C0.hx C0.hb dL_law_1207 (by decide) ?_
  refine lv_iadd C0.hx C0.hb dL_law_1208 ?_
  refine x_top (nI_add i 1) ?_
  refine x_sld C0 hV hbl hbA hS (by omega) hL dL_law_1209 ?_
  refine lv_aload_n C0.hx C0.hb dL_law_1210 rfl (lv_at hl 4 rfl) ?_
  refine lv_iload C0.hx C0.hb dL_law_1211 (lv_at hl 0 rfl) ?_
  refine lv_iconst (v := nI 2) C0.hx C0.hb dL_law_1213 (by decide) ?_
  refine lv_iadd C0.hx C0.hb dL_law_1214 ?_
  refine x_top (nI_add i 2) ?_
  refine x_sld C0 hV hbl hbA hS (by omega) hL dL_law_1215 ?_
  refine lv_aload_n C0.hx C0.hb dL_law_1216 rfl (lv_at hl 1 rfl) ?_
  refine x_lS (As := [.ref (a 0 0), .int (xs (i + 1)), .int (xs (i + 2)), .ref (a 50 0)]) (rest := []) C0 (mtL_fix l hfl g a σ (xs (i + 1)) (xs (i + 2)) okx) hX hD hS hT hZ hW9 (vx_cwSW 4 C0.hts gL_law_L_fix rfl rfl rfl (by decide +kernel) ⟨Nat.le_trans (Nat.le_of_ble_eq_true rfl) hRf, Nat.le_trans (Nat.le_of_ble_eq_true rfl) hRl⟩) rfl hl rfl (Nat.le_of_ble_eq_true rfl) (by omega) (by omega) dL_law_1217 (fun H locs hX hD hS => ?_)
  refine lv_istore (lv' := [(5, .int (cdX (cd1 eIO) (fxC σ (xs (i + 1)) (xs (i + 2))))), (4, .int (nI i)), (3, .ref (a 50 0)), (2, .ref (a 30 0)), (1, .ref (a 0 0)), (0, .ref b)]) C0.hx C0.hb dL_law_1220 hl (by decide) rfl (fun ls hl => ?_)
  refine lv_aload_n C0.hx C0.hb dL_law_1222 rfl (lv_at hl 3 rfl) ?_
  refine lv_aload_n C0.hx C0.hb dL_law_1223 rfl (lv_at hl 5 rfl) ?_
  refine lv_iload C0.hx C0.hb dL_law_1224 (lv_at hl 1 rfl) ?_
  refine lv_iconst (v := nI 1) C0.hx C0.hb dL_law_1226 (by decide) ?_
  refine lv_iadd C0.hx C0.hb dL_law_1227 ?_
  refine x_top (nI_add i 1) ?_
  refine x_sld C0 hV hbl hbA hS (by omega) hL dL_law_1228 ?_
  refine lv_aload_n C0.hx C0.hb dL_law_1229 rfl (lv_at hl 5 rfl) ?_
  refine lv_iload C0.hx C0.hb dL_law_1230 (lv_at hl 1 rfl) ?_
  refine lv_iconst (v := nI 2) C0.hx C0.hb dL_law_1232 (by decide) ?_
  refine lv_iadd C0.hx C0.hb dL_law_1233 ?_
  refine x_top (nI_add i 2) ?_
  refine x_sld C0 hV hbl hbA hS (by omega) hL dL_law_1234 ?_
  refine x_lM (As := [.int (xs (i + 1)), .int (xs (i + 2))]) (rest := []) C0 (mtX5_fix l g a τ (xs (i + 1)) (xs (i + 2)) okm) hX hD hS (cwV 2 C0.hts gL_law_X5_fix rfl rfl rfl (by decide +kernel) ⟨Nat.le_trans (Nat.le_of_ble_eq_true rfl) hRf, Nat.le_trans (Nat.le_of_ble_eq_true rfl) hRl⟩) (x_recv (NL := NLM) ⟨C0.1, C0.hK, C0.2.2.1, (xDj_A C0.2.2.2.1).2.1, fun n hn => C0.2.2.2.2.1 n (NLA_M n hn), C0.2.2.2.2.2⟩ hD 30 (mM_n rfl rfl) rfl rfl) rfl hl rfl (Nat.le_of_ble_eq_true rfl) (by omega) (by omega) dL_law_1235 (fun H locs hX hD hS => ?_)
  refine lv_istore (lv' := [(6, .int (fxMV τ (xs (i + 1)) (xs (i + 2)))), (5, .int (cdX (cd1 eIO) (fxC σ (xs (i + 1)) (xs (i + 2))))), (4, .int (nI i)), (3, .ref (a 50 0)), (2, .ref (a 30 0)), (1, .ref (a 0 0)), (0, .ref b)]) C0.hx C0.hb dL_law_1238 hl (by decide) rfl (fun ls hl => ?_)
  refine lv_aload_n C0.hx C0.hb dL_law_1240 rfl (lv_at hl 4 rfl) ?_
  refine x_Vi (As := []) (rest := []) C0 (mtX5_thrown l g a (fxMS τ (xs (i + 1)) (xs (i + 2)))) hD (xDj_A C0.2.2.2.1).2.1 (cwV 0 C0.hts gL_law_X5_thrown rfl rfl rfl (by decide +kernel) ⟨Nat.le_trans (Nat.le_of_ble_eq_true rfl) hRf, Nat.le_trans (Nat.le_of_ble_eq_true rfl) hRl⟩) (x_recv (NL := NLM) ⟨C0.1, C0.hK, C0.2.2.1, (xDj_A C0.2.2.2.1).2.1, fun n hn => C0.2.2.2.2.1 n (NLA_M n hn), C0.2.2.2.2.2⟩ hD 30 (mM_n rfl rfl) rfl rfl) rfl hl rfl (Nat.le_of_ble_eq_true rfl) (by omega) (by omega) dL_law_1241 ?_
  refine lv_iload C0.hx C0.hb dL_law_1244 (lv_at hl 1 rfl) ?_
  refine lv_icmp_eq (tgt := 1251) C0.hx C0.hb dL_law_1246 (by decide) (fun _ => ?_) (fun h => absurd h1.symm h)
  refine lv_iload C0.hx C0.hb dL_law_1251 (lv_at hl 1 rfl) ?_
  refine lv_if_ne (tgt := 1268) C0.hx C0.hb dL_law_1253 (by decide) (fun hk => ?_) (fun hk => ?_)
  · refine lv_goto (tgt := 1334) C0.hx C0.hb dL_law_1268 (by decide) ?_
    exact kk _ _ H locs ls _ _ h3 hX hD hS (lv_sub hl [2, 3, 4, 5, 6] rfl) (by omega) (by omega)
  · have hk : (cdX (cd1 eIO) (fxC σ (xs (i + 1)) (xs (i + 2)))) = 0 := Classical.byContradiction (fun z => by first | exact hk z | exact z hk)
    have hB := cd_0 hk
    have hr := h2 hB
    refine lv_aload_n C0.hx C0.hb dL_law_1256 rfl (lv_at hl 3 rfl) ?_
    refine lv_iconst (v := nI 0) C0.hx C0.hb dL_law_1257 (by decide) ?_
    refine x_lald C0 hX (x := (fxMV τ (xs (i + 1)) (xs (i + 2))).toInt64) (by rw [wS_out hB, hr]) dL_law_1258 ?_
    refine lv_iload C0.hx C0.hb dL_law_1259 (lv_at hl 0 rfl) ?_
    refine lv_i2l C0.hx C0.hb dL_law_1261 rfl ?_
    refine x_lceq (tgt := 1268) C0.hx C0.hb rfl dL_law_1262 dL_law_1263 (by decide) ?_
    refine lv_goto (tgt := 1334) C0.hx C0.hb dL_law_1268 (by decide) ?_
    exact kk _ _ H locs ls _ _ h3 hX hD hS (lv_sub hl [2, 3, 4, 5, 6] rfl) (by omega) (by omega)
set_option maxHeartbeats 4000000 in
set_option maxRecDepth 100000 in
theorem lc_18 {p : Program} {l : Launch} {e : Env} {R : Room} {s : State} {m : MethodId} {args : Array Value} {below : List Frame} {meth : Method} {c : Code} {H : Heap} {locs : List Loc} {cells slots : Nat} {Q : State → Prop} {ls : Array Slot} {g : xG} {a : xAd} {σ τ : xS} {A : Nat → Prop} {b L : Nat} {xs : Nat → Int32} {I : xS → xS → Prop} (C0 : xC p s m args c cL_law 7 wsL_law RL NLA g a A) (hfl : l.stackTraces = false) (hT : xZt s) (hZ : xZh A s s.heap) (hW9 : xZw s) (hV : va_X b L xs s s.heap) (hbl : b < s.heap.size) (hbA : ¬ A b) (hL : L ≤ 3584) (hRf : 11 ≤ R.frames) (hRl : 404 ≤ R.locals) (hok : ∀ σ τ, I σ τ → (okX σ ∧ okF σ) ∧ (okM τ ∧ acM τ)) (hX : va_P g.1 vwCl (xw NLL g a σ) H) (hD : va_P g.1 vwCl (xw NLM g a τ) H) (hS : va_S A s.heap H locs) (hI : I σ τ) {i : Nat} (hi : i + 7 ≤ L) (hl : lv_has ls 7 [(4, .int (nI i)), (3, .ref (a 50 0)), (2, .ref (a 30 0)), (1, .ref (a 0 0)), (0, .ref b)]) (hc1 : cells + 4 ≤ R.cells) (hs1 : slots + 24 ≤ R.slots)
    (kk : ∀ (σ1 τ1 : xS) (H1 : Heap) (locs1 : List Loc) (ls1 : Array Slot) (cells1 slots1 : Nat), I σ1 τ1 → va_P g.1 vwCl (xw NLL g a σ1) H1 → va_P g.1 vwCl (xw NLM g a τ1) H1 → va_S A s.heap H1 locs1 → lv_has ls1 7 [(4, .int (nI i)), (3, .ref (a 50 0)), (2, .ref (a 30 0)), (1, .ref (a 0 0)), (0, .ref b)] → cells1 ≤ cells + 4 → slots1 ≤ slots + 24 → W p l e R s m args below meth c H1 locs1 cells1 slots1 Q (F0 m 1334 ls1 [])) (hst : ∀ σ τ, I σ τ → ∀ (z1 : Int32), SF I (cd1 eIO) (hoC σ z1) σ σ (bI (hoX σ (nv z1))) (hoMS τ z1) (bI (hoMV τ z1))) : W p l e R s m args below meth c H locs cells slots Q (F0 m 1271 ls []) := by
  obtain ⟨h1, h2, h3⟩ := hst σ τ hI (xs (i + 1))
  obtain ⟨⟨okx, okfx⟩, okm, acm⟩ := hok σ τ hI
  refine lv_aload_n C0.hx C0.hb dL_law_1271 rfl (lv_at hl 3 rfl) ?_
  refine lv_aload_n C0.hx C0.hb dL_law_1272 rfl (lv_at hl 4 rfl) ?_
  refine lv_iload C0.hx C0.hb dL_law_1273 (lv_at hl 0 rfl) ?_
  refine lv_iconst (v := nI 1) C0.hx C0.hb dL_law_1275 (by decide) ?_
  refine lv_iadd C0.hx C0.hb dL_law_1276 ?_
  refine x_top (nI_add i 1) ?_
  refine x_sld C0 hV hbl hbA hS (by omega) hL dL_law_1277 ?_
  refine lv_aload_n C0.hx C0.hb dL_law_1278 rfl (lv_at hl 1 rfl) ?_
  refine x_lS (As := [.ref (a 0 0), .int (xs (i + 1)), .ref (a 50 0)]) (rest := []) C0 (mtL_holds l hfl g a σ (xs (i + 1)) okx) hX hD hS hT hZ hW9 (vx_cwSW 3 C0.hts gL_law_L_holds rfl rfl rfl (by decide +kernel) ⟨Nat.le_trans (Nat.le_of_ble_eq_true rfl) hRf, Nat.le_trans (Nat.le_of_ble_eq_true rfl) hRl⟩) rfl hl rfl (Nat.le_of_ble_eq_true rfl) (by omega) (by omega) dL_law_1279 (fun H locs hX hD hS => ?_)
  refine lv_istore (lv' := [(5, .int (cdX (cd1 eIO) (hoC σ (xs (i + 1))))), (4, .int (nI i)), (3, .ref (a 50 0)), (2, .ref (a 30 0)), (1, .ref (a 0 0)), (0, .ref b)]) C0.hx C0.hb dL_law_1282 hl (by decide) rfl (fun ls hl => ?_)
  refine lv_aload_n C0.hx C0.hb dL_law_1284 rfl (lv_at hl 3 rfl) ?_
  refine lv_aload_n C0.hx C0.hb dL_law_1285 rfl (lv_at hl 5 rfl) ?_
  refine lv_iload C0.hx C0.hb dL_law_1286 (lv_at hl 1 rfl) ?_
  refine lv_iconst (v := nI 1) C0.hx C0.hb dL_law_1288 (by decide) ?_
  refine lv_iadd C0.hx C0.hb dL_law_1289 ?_
  refine x_top (nI_add i 1) ?_
  refine x_sld C0 hV hbl hbA hS (by omega) hL dL_law_1290 ?_
  refine x_lM (As := [.int (xs (i + 1))]) (rest := []) C0 (mtX5_holds l g a τ (xs (i + 1)) okm acm) hX hD hS (cwV 1 C0.hts gL_law_X5_holds rfl rfl rfl (by decide +kernel) ⟨Nat.le_trans (Nat.le_of_ble_eq_true rfl) hRf, Nat.le_trans (Nat.le_of_ble_eq_true rfl) hRl⟩) (x_recv (NL := NLM) ⟨C0.1, C0.hK, C0.2.2.1, (xDj_A C0.2.2.2.1).2.1, fun n hn => C0.2.2.2.2.1 n (NLA_M n hn), C0.2.2.2.2.2⟩ hD 30 (mM_n rfl rfl) rfl rfl) rfl hl rfl (Nat.le_of_ble_eq_true rfl) (by omega) (by omega) dL_law_1291 (fun H locs hX hD hS => ?_)
  refine lv_istore (lv' := [(6, .int (bI (hoMV τ (xs (i + 1))))), (5, .int (cdX (cd1 eIO) (hoC σ (xs (i + 1))))), (4, .int (nI i)), (3, .ref (a 50 0)), (2, .ref (a 30 0)), (1, .ref (a 0 0)), (0, .ref b)]) C0.hx C0.hb dL_law_1294 hl (by decide) rfl (fun ls hl => ?_)
  refine lv_aload_n C0.hx C0.hb dL_law_1296 rfl (lv_at hl 4 rfl) ?_
  refine x_Vi (As := []) (rest := []) C0 (mtX5_thrown l g a (hoMS τ (xs (i + 1)))) hD (xDj_A C0.2.2.2.1).2.1 (cwV 0 C0.hts gL_law_X5_thrown rfl rfl rfl (by decide +kernel) ⟨Nat.le_trans (Nat.le_of_ble_eq_true rfl) hRf, Nat.le_trans (Nat.le_of_ble_eq_true rfl) hRl⟩) (x_recv (NL := NLM) ⟨C0.1, C0.hK, C0.2.2.1, (xDj_A C0.2.2.2.1).2.1, fun n hn => C0.2.2.2.2.1 n (NLA_M n hn), C0.2.2.2.2.2⟩ hD 30 (mM_n rfl rfl) rfl rfl) rfl hl rfl (Nat.le_of_ble_eq_true rfl) (by omega) (by omega) dL_law_1297 ?_
  refine lv_iload C0.hx C0.hb dL_law_1300 (lv_at hl 1 rfl) ?_
  refine lv_icmp_eq (tgt := 1307) C0.hx C0.hb dL_law_1302 (by decide) (fun _ => ?_) (fun h => absurd h1.symm h)
  refine lv_iload C0.hx C0.hb dL_law_1307 (lv_at hl 1 rfl) ?_
  refine lv_if_ne (tgt := 1331) C0.hx C0.hb dL_law_1309 (by decide) (fun hk => ?_) (fun hk => ?_)
  · refine lv_goto (tgt := 1334) C0.hx C0.hb dL_law_1331 (by decide) ?_
    exact kk _ _ H locs ls _ _ h3 hX hD hS (lv_sub hl [2, 3, 4, 5, 6] rfl) (by omega) (by omega)
  · have hk : (cdX (cd1 eIO) (hoC σ (xs (i + 1)))) = 0 := Classical.byContradiction (fun z => by first | exact hk z | exact z hk)
    have hB := cd_0 hk
    have hr := h2 hB
    refine lv_aload_n C0.hx C0.hb dL_law_1312 rfl (lv_at hl 3 rfl) ?_
    refine lv_iconst (v := nI 0) C0.hx C0.hb dL_law_1313 (by decide) ?_
    refine x_lald C0 hX (x := (bI (hoMV τ (xs (i + 1)))).toInt64) (by rw [wS_out hB, hr]) dL_law_1314 ?_
    refine lv_iload C0.hx C0.hb dL_law_1315 (lv_at hl 0 rfl) ?_
    refine x_bool C0.hx C0.hb (bI_01 _) rfl dL_law_1317 dL_law_1320 dL_law_1321 dL_law_1324 ?_
    refine x_lceq (tgt := 1331) C0.hx C0.hb rfl dL_law_1325 dL_law_1326 (by decide) ?_
    refine lv_goto (tgt := 1334) C0.hx C0.hb dL_law_1331 (by decide) ?_
    exact kk _ _ H locs ls _ _ h3 hX hD hS (lv_sub hl [2, 3, 4, 5, 6] rfl) (by omega) (by omega)

/-! ===== the law: its world and its steps ===== -/
def NLA : xNL := NLL ++ NLM
theorem NLA_L : ∀ n ∈ NLL, n ∈ NLA := fun _ h => List.mem_append_left _ h
theorem NLA_M : ∀ n ∈ NLM, n ∈ NLA := fun _ h => List.mem_append_right _ h
theorem NLA_X : ∀ n ∈ NLX, n ∈ NLA := fun _ h => NLA_L _ (NLX_L _ h)
theorem xDj_A {a : xAd} (h : xDj NLA a) : xDj NLL a ∧ xDj NLM a ∧ ∀ n ∈ NLL, ∀ n' ∈ NLM, a n.1 n.2 ≠ a n'.1 n'.2 := by
  rw [xDj_nd] at h
  unfold NLA at h
  rw [List.map_append, List.nodup_append] at h
  refine ⟨xDj_nd.mpr h.1, xDj_nd.mpr h.2.1, fun n hn n' hn' e => ?_⟩
  first
    | exact h.2.2 _ (List.mem_map.mpr ⟨n, hn, rfl⟩) _ (List.mem_map.mpr ⟨n', hn', rfl⟩) e
    | exact h.2.2 (List.mem_map.mpr ⟨n, hn, rfl⟩) (by rw [e]; exact List.mem_map.mpr ⟨n', hn', rfl⟩)
/-- what a throwing call of the class and the reference's call have to do with each other -/
def SF (I : xS → xS → Prop) (f : String → Int32) (L : List (Bool × String)) (σ σ' : xS) (r : Int32) (τ' : xS) (rM : Int32) : Prop := cdX f L = τ' 30 0 0 ∧ (chB L = true → r = rM) ∧ I (wS L σ σ' r) τ'
theorem cd_0 {e1 : String} : ∀ {L : List (Bool × String)}, cdX (cd1 e1) L = 0 → chB L = true
  | [], _ => rfl
  | (c, e) :: L, h => by
    unfold cdX at h
    by_cases hc : c = true
    · rw [if_pos hc] at h
      have := cd_0 h
      unfold chB at this ⊢
      rw [List.all_cons, this, hc]
      rfl
    · rw [if_neg hc] at h
      unfold cd1 at h
      exfalso
      by_cases he : e = e1
      · rw [if_pos he] at h; exact absurd h (by decide)
      · rw [if_neg he] at h; exact absurd h (by decide)
theorem wS_out {L : List (Bool × String)} {σ σ' : xS} {r : Int32} (h : chB L = true) : wS L σ σ' r 50 0 0 = r := by
  unfold wS
  rw [if_pos h, up3_self]
section XLAW
variable {p : Program} {l : Launch} {e : Env} {R : Room} {s : State} {m : MethodId} {args : Array Value} {below : List Frame} {meth : Method} {c : Code} {H : Heap} {locs : List Loc} {cells slots : Nat} {Q : State → Prop}
variable {cc : ByteArray} {pc nL : Nat} {ls : Array Slot} {rest : List Value} {Ts : List Cond} {own : String} {g : xG} {a : xAd} {σ τ σ' τ' : xS}
variable {mc ms n index maxL : Nat} {y : MethodName} {bytes : ByteArray} {ret : Option FieldType} {ws : List Cond} {rm : Room} {C : String} {b : Nat} {As : List Value} {st0 : List Value} {r : Int32} {A : Nat → Prop} {hh : List (Nat × Nat × Nat × Nat)}
theorem x_lS (C0 : xC p s m args c cc nL Ts own NLA g a A) (hM : xMl l y ws rm mc ms g a σ As r σ') (hX : va_P g.1 vwCl (xw NLL g a σ) H) (hD : va_P g.1 vwCl (xw NLM g a τ) H) (hS : va_S A s.heap H locs) (hT : xZt s) (hZ : xZh A s s.heap) (hW9 : xZw s) (cw : vx_CSW R s args own index y bytes maxL ret hh ws rm mc ms n) (hn : As.length = n) {lv : List (Nat × Value)} (hl : lv_has ls nL lv) (hst : st0 = As.reverse ++ rest) (hW : (rest.map fun v => v.category).sum ≤ 8) (hc1 : cells + mc ≤ R.cells) (hs1 : slots + ms ≤ R.slots) (hdg : decode cc pc = .ok (.invokestatic index, 3))
    (kk : ∀ (H1 : Heap) (locs1 : List Loc), va_P g.1 vwCl (xw NLL g a σ') H1 → va_P g.1 vwCl (xw NLM g a τ) H1 → va_S A s.heap H1 locs1 → W p l e R s m args below meth c H1 locs1 (cells + mc) (slots + ms) Q (F0 m (pc + 3) ls (.int r :: rest))) : W p l e R s m args below meth c H locs cells slots Q (F0 m pc ls st0) := by
  have h2 := xA_sub (NL' := NLL) C0 hS NLA_L
  have hj := xDj_A C0.2.2.2.1
  refine va_calli (vx_runSW (g := F0 m pc ls st0) (As := As) (rest := rest) C0.1 (hM H.size) cw ⟨xFBw, fun U hU hW => ⟨rfl, by rw [hU], ⟨by rw [hU]; exact hX, va_K.moved hW.alike C0.hK, xN.warm hW C0.2.2.1, hj.1⟩, xZt.warm hW hT, xZh_now C0 hS NLA_L hZ hU hW, xZw.moved hW.alike hW9⟩⟩ rfl hn hl.1 hst (lv_room hW) hdg ⟨hc1, hs1⟩) hS (fun q _ h => h2 q h) (fun q h => h2 q h) (fun q u t H1 locs1 ht hvm hw hB hz hk hS1 => ?_)
  obtain ⟨rfl, rfl⟩ := hw
  rw [ht] at hB
  exact kk H1 locs1 hB (xwf_kept (NL' := NLL) hD hk (fun n hn n' hn' => (hj.2.2 n' hn' n hn).symm)) hS1
theorem x_lM (C0 : xC p s m args c cc nL Ts own NLA g a A) (hM : xMw l y ws rm NLM g a τ (.ref b :: As) r τ') (hX : va_P g.1 vwCl (xw NLL g a σ) H) (hD : va_P g.1 vwCl (xw NLM g a τ) H) (hS : va_S A s.heap H locs) (cw : CallW R s args own C index y bytes maxL ret ws rm 0 0 n) (hrecv : ∃ cell : Cell, H[b]? = some cell ∧ cell.vm.isStatics = false ∧ s.vm.findClass C = some cell.cls) (hn : As.length = n) {lv : List (Nat × Value)} (hl : lv_has ls nL lv) (hst : st0 = As.reverse ++ .ref b :: rest) (hW : (rest.map fun v => v.category).sum ≤ 8) (hc1 : cells ≤ R.cells) (hs1 : slots ≤ R.slots) (hdg : decode cc pc = .ok (.invokevirtual index, 3))
    (kk : ∀ (H1 : Heap) (locs1 : List Loc), va_P g.1 vwCl (xw NLL g a σ) H1 → va_P g.1 vwCl (xw NLM g a τ') H1 → va_S A s.heap H1 locs1 → W p l e R s m args below meth c H1 locs1 cells slots Q (F0 m (pc + 3) ls (.int r :: rest))) : W p l e R s m args below meth c H locs cells slots Q (F0 m pc ls st0) := by
  have h2 := xA_sub (NL' := NLM) C0 hS NLA_M
  have hj := xDj_A C0.2.2.2.1
  refine va_calli (va_runV (g := F0 m pc ls st0) (As := As) (rest := rest) C0.1 (hM H.size) cw ⟨xFBs, hrecv, x_pres C0 hD hj.2.1⟩ rfl hn hl.1 hst (lv_room hW) hdg ⟨hc1, hs1⟩) hS (fun q _ h => h2 q h) (fun q h => h2 q h) (fun q u t H1 locs1 ht hvm hw hB hz hk hS1 => ?_)
  obtain ⟨rfl, rfl⟩ := hw
  rw [ht] at hB
  exact kk H1 locs1 (xwf_kept (NL' := NLM) hX hk (fun n hn n' hn' => hj.2.2 n hn n' hn')) hB hS1
/-- a place of the script -/
theorem x_sld (C0 : xC p s m args c cc nL Ts own NLA g a A) {L : Nat} {xs : Nat → Int32} (hV : va_X b L xs s s.heap) (hbl : b < s.heap.size) (hbA : ¬ A b) (hS : va_S A s.heap H locs) {j : Nat} (hj : j < L) (hL : L ≤ 3584) (hdg : decode cc pc = .ok (.iaload, 1))
    (kk : W p l e R s m args below meth c H locs cells slots Q (F0 m (pc + 1) ls (.int (xs j) :: rest))) : W p l e R s m args below meth c H locs cells slots Q (F0 m pc ls (.int (nI j) :: .ref b :: rest)) := by
  refine va_sld C0.hx C0.hb hV hbl hbA hS (x_vpin hj (by omega)) hdg ?_
  rw [nI_clamp (by omega)]
  exact kk
/-- the long of the out array -/
theorem x_lald (C0 : xC p s m args c cc nL Ts own NLA g a A) (hX : va_P g.1 vwCl (xw NLL g a σ) H) {x : Int64} (hx : (σ 50 0 0).toInt64 = x) (hdg : decode cc pc = .ok (.laload, 1))
    (kk : W p l e R s m args below meth c H locs cells slots Q (F0 m (pc + 1) ls (.long x :: rest))) : W p l e R s m args below meth c H locs cells slots Q (F0 m pc ls (.int (nI 0) :: .ref (a 50 0) :: rest)) := by
  subst hx
  obtain ⟨q0, -, h2⟩ := xwf_get (xB g a) a σ NLL_50
  have he : xB g a 50 (σ 50 0) = xLa g 1 (σ 50 0) := rfl
  rw [he] at h2
  refine va_lald C0.hx C0.hb C0.hK hX q0 3 h2 rfl (x_vpin (j := 0) (by decide) (by decide)) hdg ?_
  rw [nI_clamp (by decide)]
  exact kk
/-- an int that is compared with 0, as a boolean -/
theorem x_boo (hexec : p.tables.exec = Jvm.exec) (hb : c.code = cc) {x : Int32} (d1 : decode cc pc = .ok (.ifCond .eq 7, 3)) (d2 : decode cc (pc + 3) = .ok (.iconst 1, 1)) (d3 : decode cc (pc + 4) = .ok (.goto 4, 3)) (d4 : decode cc (pc + 7) = .ok (.iconst 0, 1))
    (kk : W p l e R s m args below meth c H locs cells slots Q (F0 m (pc + 8) ls (.int (bI (decide (x ≠ 0))) :: rest))) : W p l e R s m args below meth c H locs cells slots Q (F0 m pc ls (.int x :: rest)) := by
  refine lv_if_eq (tgt := pc + 7) hexec hb d1 (by omega) (fun h => ?_) (fun h => ?_)
  · refine lv_iconst (v := nI 0) hexec hb d4 (by decide) ?_
    have e : bI (decide (x ≠ 0)) = nI 0 := by rw [h]; rfl
    rw [e] at kk
    exact kk
  · refine lv_iconst (v := nI 1) hexec hb d2 (by decide) ?_
    refine lv_goto (tgt := pc + 8) hexec hb d3 (by omega) ?_
    have e : bI (decide (x ≠ 0)) = nI 1 := by rw [decide_eq_true h]; rfl
    rw [e] at kk
    exact kk
/-- a boolean as a long -/
theorem x_bool (hexec : p.tables.exec = Jvm.exec) (hb : c.code = cc) {x : Int32} {v : Int64} (h01 : x = 0 ∨ x = 1) (hv : v = x.toInt64) (d1 : decode cc pc = .ok (.ifCond .eq 7, 3)) (d2 : decode cc (pc + 3) = .ok (.lconst 1, 1)) (d3 : decode cc (pc + 4) = .ok (.goto 4, 3)) (d4 : decode cc (pc + 7) = .ok (.lconst 0, 1))
    (kk : W p l e R s m args below meth c H locs cells slots Q (F0 m (pc + 8) ls (.long v :: rest))) : W p l e R s m args below meth c H locs cells slots Q (F0 m pc ls (.int x :: rest)) := by
  subst hv
  refine lv_if_eq (tgt := pc + 7) hexec hb d1 (by omega) (fun h => ?_) (fun h => ?_)
  · refine lv_lconst (v := 0) hexec hb d4 rfl ?_
    subst h
    exact kk
  · refine lv_lconst (v := 1) hexec hb d2 rfl ?_
    refine lv_goto (tgt := pc + 8) hexec hb d3 (by omega) ?_
    rcases h01 with h1 | h1
    · exact absurd h1 h
    · subst h1
      exact kk
/-- longs that are equal -/
theorem x_lceq (hexec : p.tables.exec = Jvm.exec) (hb : c.code = cc) {x y : Int64} (hxy : x = y) {off : Int} {tgt : Nat} (d1 : decode cc pc = .ok (.lcmp, 1)) (d2 : decode cc (pc + 1) = .ok (.ifCond .eq off, 3)) (ht : ((pc + 1 : Nat) : Int) + off = (tgt : Int))
    (kk : W p l e R s m args below meth c H locs cells slots Q (F0 m tgt ls rest)) : W p l e R s m args below meth c H locs cells slots Q (F0 m pc ls (.long y :: .long x :: rest)) := by
  subst hxy
  refine W.lcmp hexec hb d1 ?_
  have e : lg_cmp x x = 0 := by unfold lg_cmp; simp
  rw [e]
  exact lv_if_eq hexec hb d2 ht (fun _ => kk) (fun h => absurd rfl h)
end XLAW

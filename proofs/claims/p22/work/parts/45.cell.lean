/-! ===== the script's place, or a number of its own ===== -/
theorem xFBc {As : List Value} {g : xG} {a : xAd} {σ : xS} {b L : Nat} {xs : Nat → Int32} : FrameBlind (va_Pc As (fun U => xPre [] g a σ U ∧ va_X b L xs U U.heap)) := fun v U g' mk q => by
  obtain ⟨q0, ⟨q1, q2, q3, q4⟩, q5⟩ := q
  exact ⟨q0, ⟨q1, va_K.moved (u := U) (U := U.calling g' mk v) (Vm.Alike.refl U.vm) q2, xN.same (s := U) (U := U.calling g' mk v) rfl q3, q4⟩, q5⟩
theorem va_X.moved9 {b L : Nat} {xs : Nat → Int32} {u U : State} {H : Heap} (hvm : u.vm.Alike U.vm) (h : va_X b L xs u H) : va_X b L xs U H := by
  obtain ⟨scr, h1, h2, h3, h4, h5⟩ := h
  exact ⟨scr, h1, State.isArrayOf_alike hvm h2, h3, h4, h5⟩
theorem mtL_cell (l : Launch) (g : xG) (a : xAd) (σ : xS) (b L : Nat) (xs : Nat → Int32) (hL : L ≤ 260) (k : Nat) (hk : k < 1000) : Met l yL_cell wsL_cell ({ frames := 0, cells := 0, slots := 0, locals := 0 }) (va_Pc [.ref b, .int (nI k)] (fun U => xPre [] g a σ U ∧ va_X b L xs U U.heap)) (vp_Si (fun _ => True)) 0 0 (fun _ => False) := by
  refine Met.ofW (cc := cL_cell) (maxL := 2) (ret := (some .int)) (by decide) rfl ?_
  intro p e s m args below meth c s₁ B hml hv
  obtain ⟨rfl, ⟨hP, hK, hN, hj⟩, hV⟩ := hv
  have hr := B.returns
  have hlocks := B.notSynchronized
  have C0 : xC p s m _ c cL_cell 2 wsL_cell RL [] g a (xA [] a s.heap.size) := ⟨⟨B.exec, B.bytes, hml, findClass_of_methodNamed B.named, atoms_spec (ws := wsL_cell) B.pre⟩, hK, hN, hj, fun n h => Or.inl ⟨n, h, rfl⟩, fun q h => Or.inr h⟩
  have hS : va_S (xA [] a s.heap.size) s.heap s.heap [] := va_S.rf
  have hbl : b < s.heap.size := by
    obtain ⟨scr, h, -⟩ := hV
    exact (Array.getElem?_eq_some_iff.mp h).1
  have hbA : ¬ xA [] a s.heap.size b := by
    intro h
    rcases h with ⟨n, hn, -⟩ | h
    · exact nomatch hn
    · omega
  have hl := lv_entry ([.ref b, .int (nI k)]) (n := 2) (Nat.le_of_ble_eq_true rfl)
  rw [lg_entry_eq]
  generalize (lg_sl ([.ref b, .int (nI k)]) ++ List.replicate (2 - (lg_sl ([.ref b, .int (nI k)])).length) Slot.unset).toArray = ls at hl ⊢
  have hl : lv_has ls 2 [(0, .ref b), (1, .int (nI k))] := hl
  refine lv_iload_n C0.hx C0.hb dL_cell_0 rfl (lv_at hl 1 rfl) ?_
  refine lv_aload_n C0.hx C0.hb dL_cell_1 rfl (lv_at hl 0 rfl) ?_
  refine va_slen C0.hx C0.hb hV hbl hbA hS dL_cell_2 ?_
  refine x_icmp_ge (x := k) (y := L) (tgt := 12) C0.hx C0.hb (by omega) (by omega) dL_cell_3 (by decide) (fun c1 => ?_) (fun c1 => ?_)
  · refine lv_ldc C0.hx C0.hb C0.1.2.2.2.1 (C0.hts _ (show Cond.constant RL 7 (49223 : Int32) ∈ wsL_cell by decide +kernel)) dL_cell_12 ?_
    refine lv_iload_n C0.hx C0.hb dL_cell_14 rfl (lv_at hl 1 rfl) ?_
    refine lv_bipush (v := nI 33) C0.hx C0.hb dL_cell_15 (by decide) ?_
    refine lv_iadd C0.hx C0.hb dL_cell_17 ?_
    refine lv_imul C0.hx C0.hb dL_cell_18 ?_
    refine lv_ldc C0.hx C0.hb C0.1.2.2.2.1 (C0.hts _ (show Cond.constant RL 8 (3037959 : Int32) ∈ wsL_cell by decide +kernel)) dL_cell_19 ?_
    refine lv_iadd C0.hx C0.hb dL_cell_21 ?_
    exact W.iret C0.hx C0.hb hr (fun t ht hW => ⟨_, rfl, trivial, ht⟩) (fun q h => nomatch h) dL_cell_22
  · refine lv_aload_n C0.hx C0.hb dL_cell_6 rfl (lv_at hl 0 rfl) ?_
    refine lv_iload_n C0.hx C0.hb dL_cell_7 rfl (lv_at hl 1 rfl) ?_
    refine va_sld C0.hx C0.hb hV hbl hbA hS (x_vpin c1 (by omega)) dL_cell_8 ?_
    refine lv_goto (tgt := 22) C0.hx C0.hb dL_cell_9 (by decide) ?_
    exact W.iret C0.hx C0.hb hr (fun t ht hW => ⟨_, rfl, trivial, ht⟩) (fun q h => nomatch h) dL_cell_22
theorem x_joinC {p : Program} {l : Launch} {e : Env} {R : Room} {s : State} {m : MethodId} {args : Array Value} {below : List Frame} {meth : Method} {c : Code} {H : Heap} {locs : List Loc} {cells slots k2 n2 : Nat} {Q : State → Prop} {pc : Nat} {ls : Array Slot} {st : List Value} {α : Type} (tgt : Nat) (I : α → Heap → List Loc → Array Slot → Prop) (stk : α → List Value) (hk : ∀ (x : α) (H : Heap) (locs : List Loc) (ls : Array Slot), I x H locs ls → W p l e R s m args below meth c H locs k2 n2 Q (F0 m tgt ls (stk x))) (hb : (∀ (x : α) (H : Heap) (locs : List Loc) (ls : Array Slot), I x H locs ls → W p l e R s m args below meth c H locs k2 n2 Q (F0 m tgt ls (stk x))) → W p l e R s m args below meth c H locs cells slots Q (F0 m pc ls st)) : W p l e R s m args below meth c H locs cells slots Q (F0 m pc ls st) := hb hk
/-- what the law's turns want of an invariant -/
def LawH (I : xS → Prop) : Prop := (∀ σ, I σ → okX σ ∧ okF σ ∧ okP σ) ∧ (∀ σ z n, I σ → n = nv (σ 30 0 0) → n < 12 → (okX (rpQ σ z n) ∧ okF (rpQ σ z n) ∧ chOk (rpA (rpQ σ z n) n) ∧ nv (rpQ σ z n 3 0 0) = n) ∧ I (rpE σ z n)) ∧ (∀ σ z, I σ → (okX (rgS σ z) ∧ okF (rgS σ z) ∧ (∀ E, chEx (rgL σ z) E → E = eIS) ∧ (rgC σ z = true → nv (σ 31 0 (rgV z)) ≠ 6 → caV (rgL σ z) (rgN σ z 6 0 (nv (nI (rgV z)))) = nI (nv (σ 31 0 (rgV z)) + 1)) ∧ (rgC σ z = false → caV (rgL σ z) (rgN σ z 6 0 (nv (nI (rgV z)))) = -3)) ∧ I (rgE σ z)) ∧ (∀ σ z, I σ → RuH σ z ∧ I (ruE σ z)) ∧ (∀ σ z, I σ → (okX (seS σ z) ∧ chOk (ssC (nI (seV z)) (seS σ z 31 0 (4 + seV z))) ∧ seS σ z 5 0 (nv (nI (seV z))) = nI (nv (σ 31 0 (4 + seV z)))) ∧ I (seE σ z)) ∧ (∀ σ z, I σ → nv (σ 30 0 0) ≠ 0 → (okX (fiS σ z) ∧ chOk (fxC (fiS σ z) (nI (fiN σ z)) (fiS σ z 38 0 (fiN σ z))) ∧ fiS σ z 15 0 (nv (nI (fiN σ z))) = σ 38 0 (fiN σ z)) ∧ I (fiE σ z)) ∧ ∀ σ, I σ → Iso (nsS σ) ∧ I (nsS σ)
def s1P (σ : xS) : xS := up3 (up3 σ 30 0 1 (nI 2)) 30 0 2 (nI 100)
def mLP (σ : xS) : Nat → xS
  | 0 => s1P σ
  | k + 1 => up3 (mLP σ k) 31 0 (14 + k) (nI k)

/-! ===== what the class's state and the law's arrays have to do with each other ===== -/
def Wf1 (σ : xS) : Prop := ∀ r, r < nv (σ 3 0 0) → ∃ b : Nat, b < 10000 ∧ σ 23 r 0 = nI b
def Fr (σ : xS) : Prop := ∀ r, r < nv (σ 3 0 0) → ∀ p, p < 4 → σ 24 r p = fnX σ (nv (σ 12 0 r)) (σ 23 r p)
def CO (σ : xS) : Prop := (okX σ ∧ okF σ) ∧ Wf1 σ ∧ Fr σ ∧ ∀ r, r < nv (σ 3 0 0) → Kd σ r
theorem bT_30 {t : Nat} (h : bT t = true) : t < 30 := by
  simp [bT] at h
  omega
theorem CO.congr {σ τ : xS} (h : ∀ t, t < 30 → τ t = σ t) (c : CO σ) : CO τ := by
  obtain ⟨⟨o, of⟩, w, f, d⟩ := c
  refine ⟨⟨o.ne (fun t i j ht => by rw [h t (bT_30 ht)]), of.ne (fun i j => by rw [h 24 (by decide)])⟩, fun r hr => ?_, fun r hr p hp => ?_, fun r hr => ?_⟩
  · rw [h 3 (by decide)] at hr
    rw [h 23 (by decide)]
    exact w r hr
  · rw [h 3 (by decide)] at hr
    rw [h 24 (by decide), h 12 (by decide), h 23 (by decide), f r hr p hp]
    exact (fnX_congr (by rw [h 6 (by decide)]) (fun k => ⟨by rw [h 20 (by decide)], by rw [h 21 (by decide)], by rw [h 22 (by decide)]⟩)).symm
  · rw [h 3 (by decide)] at hr
    exact (d r hr).congr (fun p _ => by rw [h 24 (by decide)]) (by rw [h 10 (by decide)]) (by rw [h 11 (by decide)]) (by rw [h 2 (by decide)]) (fun p _ => by rw [h 25 (by decide)]) (by rw [h 12 (by decide)]) (by rw [h 23 (by decide)]) (fun j _ => by rw [h 18 (by decide)]) (by rw [h 19 (by decide)])
def st6 (σ : xS) : Nat → Int32 := fun t => σ 31 0 (14 + t)
def Ac (σ : xS) : Prop := ∀ f, f < 6 → ∃ k, fxF (st6 σ) (itF (st6 σ) k f)
def LO (ρ : xS) : Prop := okP ρ ∧ Ac ρ ∧ 1 ≤ nv (ρ 30 0 1) ∧ 1 ≤ nv (ρ 30 0 2)
theorem pB_30 {t : Nat} (h : pB t = true) : 30 ≤ t ∧ t ≠ 39 := by
  simp [pB] at h
  omega
theorem Ac.congr {σ τ : xS} (h : st6 τ = st6 σ) (c : Ac σ) : Ac τ := by
  unfold Ac
  rw [h]
  exact c
theorem LO.congr {σ τ : xS} (h : ∀ t, 30 ≤ t → t ≠ 39 → τ t = σ t) (c : LO σ) : LO τ := by
  obtain ⟨o, a, d, l⟩ := c
  refine ⟨o.ne (fun t i j ht => by rw [h t (pB_30 ht).1 (pB_30 ht).2]), a.congr (by unfold st6; rw [h 31 (by decide) (by decide)]), ?_, ?_⟩
  · rw [h 30 (by decide) (by decide)]; exact d
  · rw [h 30 (by decide) (by decide)]; exact l
def LkB (χ ρ : xS) : Prop := (χ 3 0 0 = ρ 30 0 0 ∧ χ 2 0 0 = ρ 30 0 1 ∧ χ 0 0 0 = ρ 30 0 2) ∧ (∀ v, v < 4 → χ 6 0 v = ρ 31 0 v ∧ χ 5 0 v = ρ 31 0 (4 + v)) ∧ (∀ f, f < 6 → χ 10 0 f = ρ 31 0 (8 + f) ∧ χ 11 0 f = ρ 31 0 (14 + f)) ∧ (∀ v k, v < 4 → k < 6 → χ 20 v k = ρ 32 0 (6 * v + k) ∧ χ 21 v k = ρ 33 0 (6 * v + k) ∧ χ 22 v k = ρ 34 0 (6 * v + k)) ∧ (∀ r, r < 12 → χ 12 0 r = ρ 35 0 r ∧ χ 13 0 r = ρ 36 0 r ∧ χ 15 0 r = ρ 38 0 r) ∧ ∀ r p, r < 12 → p < 4 → χ 23 r p = ρ 37 0 (4 * r + p)
theorem LkB.congr {χ χ' ρ ρ' : xS} (h1 : ∀ t i j, lT t = true → χ' t i j = χ t i j) (h2 : ∀ t, 30 ≤ t → t ≠ 39 → ρ' t = ρ t) (l : LkB χ ρ) : LkB χ' ρ' := by
  obtain ⟨⟨a1, a2, a3⟩, b, c, d, e, f⟩ := l
  have g := fun t (h : 30 ≤ t) (h' : t ≠ 39) => h2 t h h'
  refine ⟨⟨?_, ?_, ?_⟩, fun v hv => ?_, fun u hu => ?_, fun v k hv hk => ?_, fun r hr => ?_, fun r p hr hp => ?_⟩
  · rw [h1 3 0 0 rfl, g 30 (by decide) (by decide)]; exact a1
  · rw [h1 2 0 0 rfl, g 30 (by decide) (by decide)]; exact a2
  · rw [h1 0 0 0 rfl, g 30 (by decide) (by decide)]; exact a3
  · rw [h1 6 0 v rfl, h1 5 0 v rfl, g 31 (by decide) (by decide)]; exact b v hv
  · rw [h1 10 0 u rfl, h1 11 0 u rfl, g 31 (by decide) (by decide)]; exact c u hu
  · rw [h1 20 v k rfl, h1 21 v k rfl, h1 22 v k rfl, g 32 (by decide) (by decide), g 33 (by decide) (by decide), g 34 (by decide) (by decide)]; exact d v k hv hk
  · rw [h1 12 0 r rfl, h1 13 0 r rfl, h1 15 0 r rfl, g 35 (by decide) (by decide), g 36 (by decide) (by decide), g 38 (by decide) (by decide)]; exact e r hr
  · rw [h1 23 r p rfl, g 37 (by decide) (by decide)]; exact f r p hr hp
def Jv (σ : xS) : Prop := CO σ ∧ LO σ ∧ LkB σ σ
theorem oM_lt {ρ χ : xS} {t : Nat} (h : t < 30) : oM ρ χ t = χ t := by
  funext i
  unfold oM
  rw [if_neg (by omega)]
theorem oM_ge {ρ χ : xS} {t : Nat} (h : 30 ≤ t) : oM ρ χ t = ρ t := by
  funext i
  unfold oM
  rw [if_pos h]
theorem lT_30 {t : Nat} (h : lT t = true) : t < 30 := by
  simp [lT] at h
  omega
theorem Jv_mk {χ ρ : xS} (c : CO χ) (l : LO ρ) (k : LkB χ ρ) : Jv (oM ρ χ) :=
  ⟨c.congr (fun t h => oM_lt h), l.congr (fun t h _ => oM_ge h), k.congr (fun t i j h => by rw [oM_lt (lT_30 h)]) (fun t h _ => oM_ge h)⟩
theorem ns_tag {σ : xS} {t : Nat} (h : t ≠ 39) : nsS σ t = σ t := by
  funext i
  funext j
  exact nsL_ne _ t i j h
theorem Jv_ns {σ : xS} (h : Jv σ) : Jv (nsS σ) :=
  ⟨h.1.congr (fun t ht => ns_tag (by omega)), h.2.1.congr (fun t _ ht => ns_tag ht), h.2.2.congr (fun t i j ht => by rw [ns_tag (by have := lT_30 ht; omega)]) (fun t _ ht => ns_tag ht)⟩
section JV
variable {σ : xS}
theorem Jv.okx (h : Jv σ) : okX σ := h.1.1.1
theorem Jv.okf (h : Jv σ) : okF σ := h.1.1.2
theorem Jv.okp (h : Jv σ) : okP σ := h.2.1.1
theorem Jv.n (h : Jv σ) : nv (σ 3 0 0) = nv (σ 30 0 0) ∧ nv (σ 3 0 0) ≤ 12 := by
  have e := congrArg nv h.2.2.1.1
  have := h.okp.n.2
  exact ⟨e, by omega⟩
theorem Jv.ver (h : Jv σ) {r : Nat} (hr : r < 12) : nv (σ 12 0 r) = nv (σ 35 0 r) ∧ nv (σ 35 0 r) < 4 := ⟨congrArg nv (h.2.2.2.2.2.2.1 r hr).1, (h.okp.ver hr).2⟩
end JV

section
-- ===== PART A: goes FIRST, ahead of the names: the tables' words, and 'selects' of the private methods out of them =====
/-- a private method of a class that the tables say can be made, by its rows of tables_1 -/
def lw_okq (q : MethodName × Nat) : Prop := (q.1.cls ≠ "java/lang/invoke/MethodHandle" ∧ q.1.cls ≠ "java/lang/invoke/VarHandle") ∧ Cond.instantiable q.1.cls q.2 ∈ tables_1 ∧ Cond.privateMethod q.1 ∈ tables_1 ∧ Cond.instanceMethod q.1 ∈ tables_1
theorem lw_p0 : lw_okq (⟨"java/lang/Throwable", "fillInStackTrace", "(I)Ljava/lang/Throwable;"⟩, 6) := ⟨⟨by decide +kernel, by decide +kernel⟩, List.mem_of_getElem? (i := 189) (by decide +kernel), List.mem_of_getElem? (i := 187) (by decide +kernel), List.mem_of_getElem? (i := 188) (by decide +kernel)⟩
theorem lw_p1 : lw_okq (⟨"CrashBuckets", "checkReport", "(I)V"⟩, 6) := ⟨⟨by decide +kernel, by decide +kernel⟩, List.mem_of_getElem? (i := 15) (by decide +kernel), List.mem_of_getElem? (i := 223) (by decide +kernel), List.mem_of_getElem? (i := 224) (by decide +kernel)⟩
theorem lw_p2 : lw_okq (⟨"CrashBuckets", "countIn", "(II)I"⟩, 6) := ⟨⟨by decide +kernel, by decide +kernel⟩, List.mem_of_getElem? (i := 15) (by decide +kernel), List.mem_of_getElem? (i := 287) (by decide +kernel), List.mem_of_getElem? (i := 288) (by decide +kernel)⟩
theorem lw_p3 : lw_okq (⟨"CrashBuckets", "isOf", "(III)Z"⟩, 6) := ⟨⟨by decide +kernel, by decide +kernel⟩, List.mem_of_getElem? (i := 15) (by decide +kernel), List.mem_of_getElem? (i := 291) (by decide +kernel), List.mem_of_getElem? (i := 292) (by decide +kernel)⟩
theorem lw_p4 : lw_okq (⟨"CrashBuckets$AddressMaps", "isFull", "(I)Z"⟩, 4) := ⟨⟨by decide +kernel, by decide +kernel⟩, List.mem_of_getElem? (i := 23) (by decide +kernel), List.mem_of_getElem? (i := 303) (by decide +kernel), List.mem_of_getElem? (i := 304) (by decide +kernel)⟩
theorem lw_p5 : lw_okq (⟨"CrashBuckets$AddressMaps", "overlaps", "(III)Z"⟩, 4) := ⟨⟨by decide +kernel, by decide +kernel⟩, List.mem_of_getElem? (i := 23) (by decide +kernel), List.mem_of_getElem? (i := 323) (by decide +kernel), List.mem_of_getElem? (i := 324) (by decide +kernel)⟩
theorem lw_p6 : lw_okq (⟨"CrashBuckets$AddressMaps", "add", "(IIII)V"⟩, 4) := ⟨⟨by decide +kernel, by decide +kernel⟩, List.mem_of_getElem? (i := 23) (by decide +kernel), List.mem_of_getElem? (i := 328) (by decide +kernel), List.mem_of_getElem? (i := 329) (by decide +kernel)⟩
theorem lw_p7 : lw_okq (⟨"CrashBuckets$Buckets", "readStacksOf", "(ILCrashBuckets$Reports;LCrashBuckets$AddressMaps;)V"⟩, 4) := ⟨⟨by decide +kernel, by decide +kernel⟩, List.mem_of_getElem? (i := 98) (by decide +kernel), List.mem_of_getElem? (i := 332) (by decide +kernel), List.mem_of_getElem? (i := 333) (by decide +kernel)⟩
theorem lw_p8 : lw_okq (⟨"CrashBuckets$Buckets", "readStack", "(ILCrashBuckets$Reports;LCrashBuckets$AddressMaps;)V"⟩, 4) := ⟨⟨by decide +kernel, by decide +kernel⟩, List.mem_of_getElem? (i := 98) (by decide +kernel), List.mem_of_getElem? (i := 336) (by decide +kernel), List.mem_of_getElem? (i := 337) (by decide +kernel)⟩
theorem lw_p9 : lw_okq (⟨"CrashBuckets$AddressMaps", "functionAt", "(II)I"⟩, 4) := ⟨⟨by decide +kernel, by decide +kernel⟩, List.mem_of_getElem? (i := 23) (by decide +kernel), List.mem_of_getElem? (i := 340) (by decide +kernel), List.mem_of_getElem? (i := 341) (by decide +kernel)⟩
theorem lw_p10 : lw_okq (⟨"CrashBuckets$Buckets", "sortAll", "(LCrashBuckets$Reports;LCrashBuckets$Rules;)V"⟩, 4) := ⟨⟨by decide +kernel, by decide +kernel⟩, List.mem_of_getElem? (i := 98) (by decide +kernel), List.mem_of_getElem? (i := 344) (by decide +kernel), List.mem_of_getElem? (i := 345) (by decide +kernel)⟩
theorem lw_p11 : lw_okq (⟨"CrashBuckets$Buckets", "sort", "(ILCrashBuckets$Reports;LCrashBuckets$Rules;)V"⟩, 4) := ⟨⟨by decide +kernel, by decide +kernel⟩, List.mem_of_getElem? (i := 98) (by decide +kernel), List.mem_of_getElem? (i := 348) (by decide +kernel), List.mem_of_getElem? (i := 349) (by decide +kernel)⟩
theorem lw_p12 : lw_okq (⟨"CrashBuckets$Buckets", "pickMattering", "(ILCrashBuckets$Rules;)V"⟩, 4) := ⟨⟨by decide +kernel, by decide +kernel⟩, List.mem_of_getElem? (i := 98) (by decide +kernel), List.mem_of_getElem? (i := 352) (by decide +kernel), List.mem_of_getElem? (i := 353) (by decide +kernel)⟩
theorem lw_p13 : lw_okq (⟨"CrashBuckets$Rules", "inTheEnd", "(I)I"⟩, 3) := ⟨⟨by decide +kernel, by decide +kernel⟩, List.mem_of_getElem? (i := 46) (by decide +kernel), List.mem_of_getElem? (i := 356) (by decide +kernel), List.mem_of_getElem? (i := 357) (by decide +kernel)⟩
theorem lw_p14 : lw_okq (⟨"CrashBuckets$Buckets", "signatureOf", "(ILCrashBuckets$Reports;)I"⟩, 4) := ⟨⟨by decide +kernel, by decide +kernel⟩, List.mem_of_getElem? (i := 98) (by decide +kernel), List.mem_of_getElem? (i := 360) (by decide +kernel), List.mem_of_getElem? (i := 361) (by decide +kernel)⟩
theorem lw_p15 : lw_okq (⟨"CrashBuckets$Rules", "leadsTo", "(II)Z"⟩, 3) := ⟨⟨by decide +kernel, by decide +kernel⟩, List.mem_of_getElem? (i := 46) (by decide +kernel), List.mem_of_getElem? (i := 368) (by decide +kernel), List.mem_of_getElem? (i := 369) (by decide +kernel)⟩
def lw_privs_1 : List (MethodName × Nat) := [(⟨"java/lang/Throwable", "fillInStackTrace", "(I)Ljava/lang/Throwable;"⟩, 6), (⟨"CrashBuckets", "checkReport", "(I)V"⟩, 6), (⟨"CrashBuckets", "countIn", "(II)I"⟩, 6), (⟨"CrashBuckets", "isOf", "(III)Z"⟩, 6), (⟨"CrashBuckets$AddressMaps", "isFull", "(I)Z"⟩, 4), (⟨"CrashBuckets$AddressMaps", "overlaps", "(III)Z"⟩, 4), (⟨"CrashBuckets$AddressMaps", "add", "(IIII)V"⟩, 4), (⟨"CrashBuckets$Buckets", "readStacksOf", "(ILCrashBuckets$Reports;LCrashBuckets$AddressMaps;)V"⟩, 4), (⟨"CrashBuckets$Buckets", "readStack", "(ILCrashBuckets$Reports;LCrashBuckets$AddressMaps;)V"⟩, 4), (⟨"CrashBuckets$AddressMaps", "functionAt", "(II)I"⟩, 4), (⟨"CrashBuckets$Buckets", "sortAll", "(LCrashBuckets$Reports;LCrashBuckets$Rules;)V"⟩, 4), (⟨"CrashBuckets$Buckets", "sort", "(ILCrashBuckets$Reports;LCrashBuckets$Rules;)V"⟩, 4), (⟨"CrashBuckets$Buckets", "pickMattering", "(ILCrashBuckets$Rules;)V"⟩, 4), (⟨"CrashBuckets$Rules", "inTheEnd", "(I)I"⟩, 3), (⟨"CrashBuckets$Buckets", "signatureOf", "(ILCrashBuckets$Reports;)I"⟩, 4), (⟨"CrashBuckets$Rules", "leadsTo", "(II)Z"⟩, 3)]
theorem lw_r1 : ∀ q ∈ lw_privs_1, lw_okq q := List.forall_mem_cons.mpr ⟨lw_p0, List.forall_mem_cons.mpr ⟨lw_p1, List.forall_mem_cons.mpr ⟨lw_p2, List.forall_mem_cons.mpr ⟨lw_p3, List.forall_mem_cons.mpr ⟨lw_p4, List.forall_mem_cons.mpr ⟨lw_p5, List.forall_mem_cons.mpr ⟨lw_p6, List.forall_mem_cons.mpr ⟨lw_p7, List.forall_mem_cons.mpr ⟨lw_p8, List.forall_mem_cons.mpr ⟨lw_p9, List.forall_mem_cons.mpr ⟨lw_p10, List.forall_mem_cons.mpr ⟨lw_p11, List.forall_mem_cons.mpr ⟨lw_p12, List.forall_mem_cons.mpr ⟨lw_p13, List.forall_mem_cons.mpr ⟨lw_p14, List.forall_mem_cons.mpr ⟨lw_p15, fun _ h => absurd h List.not_mem_nil⟩⟩⟩⟩⟩⟩⟩⟩⟩⟩⟩⟩⟩⟩⟩⟩
theorem lw_p16 : lw_okq (⟨"CrashBuckets", "greatestRateBefore", "(II)I"⟩, 6) := ⟨⟨by decide +kernel, by decide +kernel⟩, List.mem_of_getElem? (i := 15) (by decide +kernel), List.mem_of_getElem? (i := 378) (by decide +kernel), List.mem_of_getElem? (i := 379) (by decide +kernel)⟩
theorem lw_p17 : lw_okq (⟨"CrashBuckets", "rateOf", "(II)I"⟩, 6) := ⟨⟨by decide +kernel, by decide +kernel⟩, List.mem_of_getElem? (i := 15) (by decide +kernel), List.mem_of_getElem? (i := 382) (by decide +kernel), List.mem_of_getElem? (i := 383) (by decide +kernel)⟩
theorem lw_p18 : lw_okq (⟨"CrashBuckets", "usersOf", "(II)I"⟩, 6) := ⟨⟨by decide +kernel, by decide +kernel⟩, List.mem_of_getElem? (i := 15) (by decide +kernel), List.mem_of_getElem? (i := 403) (by decide +kernel), List.mem_of_getElem? (i := 404) (by decide +kernel)⟩
theorem lw_p19 : lw_okq (⟨"CrashBuckets$Buckets", "isName", "(I)Z"⟩, 4) := ⟨⟨by decide +kernel, by decide +kernel⟩, List.mem_of_getElem? (i := 98) (by decide +kernel), List.mem_of_getElem? (i := 423) (by decide +kernel), List.mem_of_getElem? (i := 424) (by decide +kernel)⟩
theorem lw_p20 : lw_okq (⟨"CrashBuckets$Reports", "add", "(II)I"⟩, 5) := ⟨⟨by decide +kernel, by decide +kernel⟩, List.mem_of_getElem? (i := 68) (by decide +kernel), List.mem_of_getElem? (i := 464) (by decide +kernel), List.mem_of_getElem? (i := 465) (by decide +kernel)⟩
theorem lw_p21 : lw_okq (⟨"CrashBuckets$Reports", "setStack", "(IIIII)V"⟩, 5) := ⟨⟨by decide +kernel, by decide +kernel⟩, List.mem_of_getElem? (i := 68) (by decide +kernel), List.mem_of_getElem? (i := 468) (by decide +kernel), List.mem_of_getElem? (i := 469) (by decide +kernel)⟩
def lw_privs_2 : List (MethodName × Nat) := [(⟨"CrashBuckets", "greatestRateBefore", "(II)I"⟩, 6), (⟨"CrashBuckets", "rateOf", "(II)I"⟩, 6), (⟨"CrashBuckets", "usersOf", "(II)I"⟩, 6), (⟨"CrashBuckets$Buckets", "isName", "(I)Z"⟩, 4), (⟨"CrashBuckets$Reports", "add", "(II)I"⟩, 5), (⟨"CrashBuckets$Reports", "setStack", "(IIIII)V"⟩, 5)]
theorem lw_r2 : ∀ q ∈ lw_privs_2, lw_okq q := List.forall_mem_cons.mpr ⟨lw_p16, List.forall_mem_cons.mpr ⟨lw_p17, List.forall_mem_cons.mpr ⟨lw_p18, List.forall_mem_cons.mpr ⟨lw_p19, List.forall_mem_cons.mpr ⟨lw_p20, List.forall_mem_cons.mpr ⟨lw_p21, fun _ h => absurd h List.not_mem_nil⟩⟩⟩⟩⟩⟩
def lw_privs : List (MethodName × Nat) := lw_privs_1 ++ (lw_privs_2)
def lw_tbl : List Cond := k2_sels lw_privs ++ tables_1
theorem lw_privs_ok : ∀ q ∈ lw_privs, lw_okq q := by
  show ∀ q ∈ lw_privs_1 ++ (lw_privs_2), lw_okq q
  exact List.forall_mem_append.mpr ⟨lw_r1, lw_r2⟩
end
section
/-- an array of arrays is known by its component -/
def va_AOA (ty : FieldType) (U : State) : Prop := (Cond.arrayOver (.array ty)).before #[] U = true
theorem va_AOA.of {ty : FieldType} {A : Array Value} {U : State} (h : (Cond.arrayOver (.array ty)).before A U = true) : va_AOA ty U := h
theorem va_AOA.use {ty : FieldType} {A : Array Value} {U : State} (h : va_AOA ty U) : (Cond.arrayOver (.array ty)).before A U = true := h
/-! ===== BEGIN words of one list among another's, by their places ===== -/
theorem goodIn_r {big : List Cond} (ws : List Cond) (ps : List Nat) (hp : ws = ps.filterMap (fun i => big[i]?)) (h : ws.all goodWord = true) : GoodIn big ws := by
  intro w hw
  have h1 := List.all_eq_true.mp h w hw
  rw [hp] at hw
  obtain ⟨i, -, hi⟩ := List.mem_filterMap.mp hw
  have hm : w ∈ big := by first | exact List.mem_of_getElem? hi | exact List.getElem?_mem hi
  exact ⟨hm, good_of_word h1⟩
theorem goodIn_app {big a b : List Cond} (ha : GoodIn big a) (hb : GoodIn big b) : GoodIn big (a ++ b) := fun w h => (List.mem_append.mp h).elim (ha w) (hb w)
theorem goodIn_ca {big a b : List Cond} {c : Cond} (ha : GoodIn big (c :: a)) (hb : GoodIn big b) : GoodIn big (c :: (a ++ b)) := fun w h => (List.mem_cons.mp h).elim (fun e => ha w (List.mem_cons.mpr (Or.inl e))) (fun h => (List.mem_append.mp h).elim (fun h => ha w (List.mem_cons.mpr (Or.inr h))) (hb w))
theorem goodIn_sub {big ws : List Cond} (hm : ∀ w ∈ ws, w ∈ big) (h : ws.all goodWord = true) : GoodIn big ws := fun w hw => ⟨hm w hw, good_of_word (List.all_eq_true.mp h w hw)⟩
/-! ===== END ===== -/

/-! ===== BEGIN new T[n][m]: the outer array a place, the inner ones among the pooled ===== -/
/-- f, but v at every address of l -/
def vr_up {α : Type} (f : Nat → α) (l : List Nat) (v : α) : Nat → α := fun a => if a ∈ l then v else f a
theorem vr_up_in {α : Type} {f : Nat → α} {l : List Nat} {v : α} {a : Nat} (h : a ∈ l) : vr_up f l v a = v := if_pos h
theorem vr_up_ne {α : Type} {f : Nat → α} {l : List Nat} {v : α} {a : Nat} (h : a ∉ l) : vr_up f l v a = f a := if_neg h
theorem vr_rows {L l : List Nat} {f : Nat → va_E} {e : va_E} (h : ∀ a, a ∈ l → a ∉ L) : va_pl L f ++ l.map (fun a => (a, e)) = va_pl (L ++ l) (vr_up f l e) := by
  unfold va_pl
  rw [List.map_append]
  congr 1
  · apply List.map_congr_left
    intro a ha
    rw [vr_up_ne (fun q => h a q ha)]
  · apply List.map_congr_left
    intro a ha
    rw [vr_up_in ha]
theorem vr_lay {X rows : va_W} {x : Nat × va_E} {pl : va_W} {D : va_G} {cl : List vw_C} {H : Heap} (hP : va_P D cl (((X ++ pl) ++ [x]) ++ rows) H) : va_P D cl ((X ++ [x]) ++ (pl ++ rows)) H := by
  rw [List.append_assoc (X ++ pl)] at hP
  have h := va_P.swap hP
  rw [← List.append_assoc X] at h
  have h2 := va_P.swap h
  rw [List.append_assoc (X ++ [x])] at h2
  exact h2
theorem vr_layD {X rows : va_W} {x : Nat × va_E} {pl : va_W} {A : Nat → Prop} (hD : va_D A (((X ++ pl) ++ [x]) ++ rows)) : va_D A ((X ++ [x]) ++ (pl ++ rows)) := by
  rw [List.append_assoc (X ++ pl)] at hD
  have h := va_D.swap hD
  rw [← List.append_assoc X] at h
  have h2 := va_D.swap h
  rw [List.append_assoc (X ++ [x])] at h2
  exact h2
theorem vr_outer (c : ClassId) (N h0 : Nat) : ∀ i : Nat, Jvm.Free.Multi.outerC c N h0 i = arrV c N (fun j => va_rf (if j < i then some (h0 + 1 + j) else none))
  | 0 => by
    show ({ cls := c, slots := Array.replicate N .null, vm := .none } : Cell) = _
    rw [arrV_new]
    refine congrArg (arrV c N) (funext fun j => ?_)
    simp [va_rf]
  | i + 1 => by
    show (Jvm.Free.Multi.outerC c N h0 i).setSlot i (.ref (h0 + 1 + i)) = _
    rw [vr_outer c N h0 i, arrV_store]
    refine congrArg (arrV c N) (funext fun j => ?_)
    by_cases e : j = i
    · subst e
      simp [updV, va_rf]
    · by_cases h : j < i
      · simp [updV, e, h, Nat.lt_succ_of_lt h]
      · simp [updV, e, h, show ¬ j < i + 1 by omega]
section VGM
variable {p : Program} {l : Launch} {e : Env} {R : Room} {s : State} {m : MethodId} {args : Array Value} {below : List Frame} {meth : Method} {c : Code} {H : Heap} {locs : List Loc} {cells slots : Nat} {Q : State → Prop}
variable {cc : ByteArray} {pc : Nat} {ls : Array Slot} {rest : List Value} {D : va_G} {cl : List vw_C} {A : Nat → Prop} {a : Nat} {tys : List (ClassId × FieldType)} {ws : va_W} {H0 : Heap}
theorem va_mna {X : va_W} {L : List Nat} {f : Nat → va_E} {cc : ByteArray} (hexec : p.tables.exec = Jvm.exec) (hb : c.code = cc) {own : String} {index : Nat} {ty : FieldType} {cy : ClassId} (hown : s.vm.findClass own = some m.cls) (hclink : (Cond.classLink own index ("[" ++ (FieldType.array ty).toString)).before args s = true) (hover : va_AOA ty s) (harr : (Cond.arrayClass ty).before args s = true) (hcy : s.vm.findClass (FieldType.array ty).toString = some cy)
    (hK : va_K D cl tys s) (hP : va_P D cl (X ++ va_pl L f) H) (hD : va_D A (X ++ va_pl L f)) (hS : va_S A H0 H locs) (hA : ∀ q, H0.size ≤ q → A q) {n k : Int32} {N' K' : Nat} {z : vp_A} (hn : ¬ n < 0) (hk : ¬ k < 0) (hN : n.toNatClampNeg = N') (hM : k.toNatClampNeg = K')
    (hb1 : N' * 4 ≤ 536870912) (hb2 : K' * componentBytes ty ≤ 536870912) (hb3 : K' ≤ 536870912) (hdf : fits ty (defaultValue ty) = true) (hdd : (defaultValue ty).isDefault = true) (hcells : cells + (1 + N') ≤ R.cells) (hslots : slots + (N' + N' * K') ≤ R.slots) (hz : ∀ c : ClassId, Jvm.Free.Multi.innerC c K' (defaultValue ty) = vp_cell c z) (hdg : decode cc pc = .ok (.multianewarray index 2, 4))
    (kk : ∀ (q : Nat) (r : Nat → Nat) (cA : ClassId) (H1 : Heap), (∀ i j : Nat, i < N' → j < N' → r i = r j → i = j) → (∀ i : Nat, i < N' → r i ∉ L) → va_K D cl (tys ++ [(cA, .array ty)]) s →
      va_P D cl ((X ++ [(q, .inl (cA, N', .inr (.inr (.inr (.inr (fun i => if i < N' then some (r i) else none))))))]) ++ va_pl (L ++ (List.range N').map r) (vr_up f ((List.range N').map r) (.inl (cy, z)))) H1 → va_D A ((X ++ [(q, .inl (cA, N', .inr (.inr (.inr (.inr (fun i => if i < N' then some (r i) else none))))))]) ++ va_pl (L ++ (List.range N').map r) (vr_up f ((List.range N').map r) (.inl (cy, z)))) → va_S A H0 H1 locs →
      W p l e R s m args below meth c H1 locs (cells + 1 + N') (slots + N' + N' * K') Q (F0 m (pc + 4) ls (.ref q :: rest))) : W p l e R s m args below meth c H locs cells slots Q (F0 m pc ls (.int k :: .int n :: rest)) := by
  subst hN
  subst hM
  intro T hT Xs
  obtain ⟨vm₁, cA, comp, -, fA, fC, hO, -, X', step⟩ := Xs.multianewarray2F hexec hown hclink (va_AOA.use hover) harr (g := F0 m pc ls (.int k :: .int n :: rest)) rfl (by rw [hb]; exact hdg) rfl hn hk hb1 hb2 hb3 hdf hdd hcells hslots
  have ec : some cy = some comp := hcy.symm.trans fC
  cases ec
  generalize hF : Jvm.Free.Multi.fill (T.setVm vm₁) cA cy n.toNatClampNeg k.toNatClampNeg (defaultValue ty) n.toNatClampNeg = F at X' step
  have hTh : (T.setVm vm₁).heap = H := hT
  obtain ⟨f1, f2, -, -⟩ := Jvm.Free.Multi.fill_facts (T.setVm vm₁) cA cy n.toNatClampNeg k.toNatClampNeg (defaultValue ty) n.toNatClampNeg
  rw [hF, hTh] at f1 f2
  have hold : ∀ x : Nat, x < H.size → F.heap[x]? = H[x]? := fun x hx => by
    have := Jvm.Free.Multi.fill_old (T.setVm vm₁) cA cy n.toNatClampNeg k.toNatClampNeg (defaultValue ty) (a := x) (by rw [hTh]; exact hx) n.toNatClampNeg
    rw [hF, hTh] at this
    exact this
  have hrow : ∀ j : Nat, j < n.toNatClampNeg → F.heap[H.size + 1 + j]? = some (vp_cell cy z) := fun j hj => by
    have := Jvm.Free.Multi.fill_inner (T.setVm vm₁) cA cy n.toNatClampNeg k.toNatClampNeg (defaultValue ty) n.toNatClampNeg j hj
    rw [hF, hTh, hz] at this
    exact this
  have hout : Jvm.Free.Multi.outerC cA n.toNatClampNeg H.size n.toNatClampNeg = vp_cell cA (n.toNatClampNeg, .inr (.inr (.inr (.inr (fun i => if i < n.toNatClampNeg then some (H.size + 1 + i) else none))))) := by
    rw [vp_cell_q]
    exact vr_outer cA n.toNatClampNeg H.size n.toNatClampNeg
  rw [hout] at f2
  have hlt : ∀ a, a ∈ L → a < H.size := fun a ha => by
    obtain ⟨k9, hk9⟩ := va_pl_get (X := X) (f := f) ha
    exact (hP k9 _ hk9).lt
  have hnl : ∀ i : Nat, i < n.toNatClampNeg → H.size + 1 + i ∉ L := fun i _ h => by
    have := hlt _ h
    omega
  have hnm : ∀ a, a ∈ (List.range n.toNatClampNeg).map (fun i => H.size + 1 + i) → a ∉ L := fun a ha h => by
    obtain ⟨i, -, rfl⟩ := List.mem_map.mp ha
    have := hlt _ h
    omega
  have hP0 : va_P D cl (X ++ va_pl L f) F.heap := hP.kept (fun k9 x hx => hold x.1 ((hP k9 x hx).lt))
  have hP1 : va_P D cl ((X ++ va_pl L f) ++ [(H.size, .inl (cA, n.toNatClampNeg, .inr (.inr (.inr (.inr (fun i => if i < n.toNatClampNeg then some (H.size + 1 + i) else none))))))]) F.heap := hP0.app (fun k9 x hx => by
    have h0 : k9 < 1 := (List.getElem?_eq_some_iff.mp hx).1
    rw [show k9 = 0 by omega] at hx
    cases hx
    exact f2)
  have hP2 : va_P D cl (((X ++ va_pl L f) ++ [(H.size, .inl (cA, n.toNatClampNeg, .inr (.inr (.inr (.inr (fun i => if i < n.toNatClampNeg then some (H.size + 1 + i) else none))))))]) ++ ((List.range n.toNatClampNeg).map (fun i => H.size + 1 + i)).map (fun a => (a, .inl (cy, z)))) F.heap := hP1.app (fun k9 x hx => by
    obtain ⟨a, ha, rfl⟩ := List.mem_map.mp (List.mem_of_getElem? hx)
    obtain ⟨i, hi, rfl⟩ := List.mem_map.mp ha
    exact hrow i (List.mem_range.mp hi))
  have hD2 : va_D A (((X ++ va_pl L f) ++ [(H.size, .inl (cA, n.toNatClampNeg, .inr (.inr (.inr (.inr (fun i => if i < n.toNatClampNeg then some (H.size + 1 + i) else none))))))]) ++ ((List.range n.toNatClampNeg).map (fun i => H.size + 1 + i)).map (fun a => (a, .inl (cy, z)))) := by
    have hD1 := hD.push (e := .inl (cA, n.toNatClampNeg, .inr (.inr (.inr (.inr (fun i => if i < n.toNatClampNeg then some (H.size + 1 + i) else none)))))) hP rfl (hA _ hS.1)
    generalize hW1 : (X ++ va_pl L f) ++ [(H.size, .inl (cA, n.toNatClampNeg, .inr (.inr (.inr (.inr (fun i => if i < n.toNatClampNeg then some (H.size + 1 + i) else none))))))] = W1 at hD1 hP1 ⊢
    have hle : ∀ (k9 : Nat) (x : Nat × va_E), W1[k9]? = some x → x.1 ≤ H.size := fun k9 x hx => by
      rw [← hW1] at hx
      by_cases hl : k9 < (X ++ va_pl L f).length
      · rw [List.getElem?_append_left hl] at hx
        exact Nat.le_of_lt ((hP k9 x hx).lt)
      · rw [List.getElem?_append_right (by omega)] at hx
        have h0 : k9 - (X ++ va_pl L f).length < 1 := (List.getElem?_eq_some_iff.mp hx).1
        rw [show k9 - (X ++ va_pl L f).length = 0 by omega] at hx
        cases hx
        exact Nat.le_refl _
    have hr : ∀ (k9 : Nat) (x : Nat × va_E), (((List.range n.toNatClampNeg).map (fun i => H.size + 1 + i)).map (fun a => ((a, .inl (cy, z)) : Nat × va_E)))[k9]? = some x → x.1 = H.size + 1 + k9 := fun k9 x hx => by
      rw [List.getElem?_map, List.getElem?_map] at hx
      by_cases h9 : k9 < n.toNatClampNeg
      · rw [List.getElem?_range h9] at hx
        cases hx
        rfl
      · have hn0 : (List.range n.toNatClampNeg)[k9]? = none := List.getElem?_eq_none (by rw [List.length_range]; omega)
        rw [hn0] at hx
        cases hx
    refine ⟨fun i j x y hi hj hxy => ?_, fun k9 x hx => ?_⟩
    · by_cases h1 : i < W1.length <;> by_cases h2 : j < W1.length
      · rw [List.getElem?_append_left h1] at hi
        rw [List.getElem?_append_left h2] at hj
        exact hD1.1 i j x y hi hj hxy
      · rw [List.getElem?_append_left h1] at hi
        rw [List.getElem?_append_right (by omega)] at hj
        have := hle _ _ hi
        have := hr _ _ hj
        omega
      · rw [List.getElem?_append_right (by omega)] at hi
        rw [List.getElem?_append_left h2] at hj
        have := hle _ _ hj
        have := hr _ _ hi
        omega
      · rw [List.getElem?_append_right (by omega)] at hi hj
        have := hr _ _ hi
        have := hr _ _ hj
        omega
    · by_cases h1 : k9 < W1.length
      · rw [List.getElem?_append_left h1] at hx
        exact hD1.2 k9 x hx
      · rw [List.getElem?_append_right (by omega)] at hx
        have := hr _ _ hx
        exact hA _ (by have := hS.1; omega)
  have hAr : ArrOfT s cA (.array ty) := fun N9 z9 => by
    obtain ⟨-, k9, hk9, cm9, hkk9⟩ := (hO 0 0 0).1
    exact ⟨(fun q hq => by cases hq), k9, hk9, cm9, hkk9⟩
  have hK2 : va_K D cl (tys ++ [(cA, .array ty)]) s := ⟨hK.1, fun k9 x hx => by
    by_cases hl : k9 < tys.length
    · rw [List.getElem?_append_left hl] at hx
      exact hK.2 k9 x hx
    · rw [List.getElem?_append_right (by omega)] at hx
      have h0 : k9 - tys.length < 1 := (List.getElem?_eq_some_iff.mp hx).1
      rw [show k9 - tys.length = 0 by omega] at hx
      cases hx
      exact ⟨hAr, fA⟩⟩
  obtain ⟨t, a1, b1⟩ := kk H.size (fun i => H.size + 1 + i) cA F.heap (fun i j _ _ h => by have h9 : H.size + 1 + i = H.size + 1 + j := h; omega) hnl hK2 (by rw [← vr_rows hnm]; exact vr_lay hP2) (by rw [← vr_rows hnm]; exact vr_layD hD2) ⟨by rw [f1]; have := hS.1; omega, fun x h1 h2 => (hold x (Nat.lt_of_lt_of_le h1 hS.1)).trans (hS.2.1 x h1 h2), hS.2.2⟩ F rfl X'
  refine ⟨t, step t ?_, b1⟩
  have e : T.heap.size = H.size := by rw [hT]
  rw [e]
  exact a1
end VGM
/-! ===== END ===== -/

/-! ===== BEGIN exceptions that leave a method, and their catching by the caller (launches without stack traces) ===== -/
section VXA
/-! The laws vx_back, vx_callV, vx_callS, vx_callSW, vx_throw0, vx_throwS follow proofs of the library, with one case more: JvmDerived/Free/Laws.lean (Back.of_free), Shelf42/LK1.lean (callV, callS), Shelf/KitTraced.lean (throwNew0V, throwNewS). -/
/-- where a method has thrown q: the class by its name, the cell, what was written, the world -/
def vx_T (XC : String → State → State → Prop) (st : State) (q : Addr) (t : State) (mc ms : Nat) (free : Addr → Prop) : Prop :=
  ∃ (E : String) (ce : Cell) (L : List Loc), XC E st t ∧ t.heap[q]? = some ce ∧ ce.vm = .none ∧ st.vm.findClass E = some ce.cls ∧ st.WarmedH t.vm ∧ st.sameButNew ({ t with vm := st.vm } : State) L mc ms ∧ ∀ z ∈ L, free z.base
def vx_Q (Qc : Array Value → State → Outcome → State → Prop) (XC : String → State → State → Prop) (mc ms : Nat) (free : Addr → Prop) : Array Value → State → Outcome → State → Prop := fun a st o t =>
  (Qc a st o t ∧ ∃ L, FrameEnd st o t L mc ms ∧ ∀ q ∈ L, free q.base) ∨ ∃ q, o = .threw q ∧ vx_T XC st q t mc ms free
/-- a callee that returns or throws -/
def vx_Met (l : Launch) (y : MethodName) (ws : List Cond) (rm : Room) (Pc : Array Value → State → Prop) (Qc : Array Value → State → Outcome → State → Prop) (XC : String → State → State → Prop) (mc ms : Nat) (free : Addr → Prop) : Prop :=
  MetFree l y (headSpec ws rm) Pc (fun _ _ _ _ _ => True) (vx_Q Qc XC mc ms free)
def vx_Post (XC : String → State → State → Prop) (mc ms : Nat) (free : Addr → Prop) : Pt → Array Value → Addr → Pt → Prop := fun A a q B =>
  ∃ (g : JFrame) (mk : MethodId) (t : State) (L : List Loc) (E : String) (ce : Cell), B.U.heap = t.heap ∧ B.U.vm = t.vm ∧ XC E (A.U.calling g mk a) t ∧ t.heap[q]? = some ce ∧ ce.vm = .none ∧ A.U.vm.findClass E = some ce.cls ∧ B.locs = A.locs ++ L ∧ (∀ z ∈ L, free z.base) ∧ B.cells = A.cells + mc ∧ B.slots = A.slots + ms
def vx_Back (l : Launch) (R : Room) (p : Program) (e : Env) (below : List Frame) (s : State) (sargs : Array Value) (y : MethodName) (len W9 : Nat)
    (Pre : Pt → Array Value → Prop) (Post : Pt → Array Value → Option Value → Pt → Prop) (PostX : Pt → Array Value → Addr → Pt → Prop) : Prop :=
  ∀ (m : MethodId) (meth : Method) (c : Code) (A : Pt) (g : JFrame) (ig : Instr) (mk : MethodId) (a : Array Value),
    Stand p l e R s m sargs below meth c A.U A.locs A.cells A.slots → g.method = m → g.locals.size = c.maxLocals → decode c.code g.pc = .ok (ig, len) →
    2 * g.monitorRoom + (g.stack.map fun v => v.category).sum ≤ W9 → A.U.methodNamed? y = some mk → Pre A a →
    (∃ (v : Option Value) (B : Pt), Stand p l e R s m sargs below meth c B.U B.locs B.cells B.slots ∧ Post A a v B ∧
      Steps p.tables e below (doInvoke e (A.U.setTop g) [] mk a).1 (B.U.setTop { g with pc := g.pc + len, stack := v.toList ++ g.stack })) ∨
    (∃ (q : Addr) (B : Pt), Stand p l e R s m sargs below meth c B.U B.locs B.cells B.slots ∧ PostX A a q B ∧
      Steps p.tables e below (doInvoke e (A.U.setTop g) [] mk a).1 ((B.U.setTop g).pushFrame (.throwing q)))
section Payer
variable {l : Launch} {R : Room} {p : Program} {e : Env} {below : List Frame} {s : State} {sargs : Array Value} {y : MethodName} {len W9 : Nat}
theorem vx_back {ws : List Cond} {rm : Room} {Pc : Array Value → State → Prop} {Qc : Array Value → State → Outcome → State → Prop} {XC : String → State → State → Prop} {mc ms : Nat} {free : Addr → Prop} {bytes : ByteArray} {maxL : Nat} {ret : Option FieldType}
    (hM : vx_Met l y ws rm Pc Qc XC mc ms free) (hblind : FrameBlind Pc) (hrc : rm.cells = mc) (hrs : rm.slots = ms)
    (hframes : rm.frames + 1 ≤ R.frames) (hlocals : W9 + (maxL + 11) + rm.locals ≤ R.locals)
    (hws : ∀ w ∈ ws, ∀ a' U, s.WarmedH U.vm → w.before a' U = true) (hcode : Cond.code y bytes maxL ret ∈ ws) (hinit : ∀ a' U, s.WarmedH U.vm → (Cond.initialized y.cls).before a' U = true) :
    vx_Back l R p e below s sargs y len W9 (PreOf R mc ms Pc) (PostOf Qc mc ms free) (vx_Post XC mc ms free) := by
  intro m meth c A g ig mk a X hg hsize hdg hW hn hp
  have h1 : (headSpec ws rm).pre.before a A.U = true := atoms_intro fun w hw => hws w hw _ _ X.warmed
  have h2 : (Cond.code y bytes maxL ret).before a A.U = true := hws _ hcode _ _ X.warmed
  have h3 : (Cond.initialized y.cls).before a A.U = true := hinit _ _ X.warmed
  have h4 : A.cells + (headSpec ws rm).room.cells ≤ R.cells := by rw [show (headSpec ws rm).room.cells = mc from hrc]; exact hp.1
  have h5 : A.slots + (headSpec ws rm).room.slots ≤ R.slots := by rw [show (headSpec ws rm).room.slots = ms from hrs]; exact hp.2.1
  have hPc : Pc a (A.U.calling g mk a) := hblind _ _ _ _ hp.2.2
  obtain ⟨U, Ls, c0, s0⟩ := A
  dsimp only [Pt.U, Pt.locs, Pt.cells, Pt.slots] at h1 h2 h3 h4 h5 X hn hPc ⊢
  obtain ⟨methY, cY, hmY, hcY, -, hlY, -, -, -, -⟩ := Cond.code_spec hn h2
  obtain ⟨kY, hkY, -⟩ := className_of_methodNamed hn
  have hinitY : kY.init = .initialized := Cond.initialized_spec (findClass_of_methodNamed hn) hkY h3
  have h : At U g.method c below := by rw [hg]; exact X.here
  have hlocals9 : W9 + (maxL + 11) + (headSpec ws rm).room.locals ≤ R.locals := hlocals
  have happ : (headSpec ws rm).appliesLoose y e.platform (U.calling g mk a) = true :=
    Spec.appliesLoose_calling (g := g) h hdg hn hkY hinitY
      (X.room_calling (g := g) (R' := (headSpec ws rm).room) hsize hmY hcY hframes (by rw [hlY]; omega) h4 h5) h1
  obtain ⟨mid, hmid⟩ := h.above
  have hfr : (U.setTop g).frames = (.java g :: mid) ++ below := by rw [State.frames_setTop' g h.top, hmid]; rfl
  obtain ⟨o, s₂, hsteps, -, hend, hq⟩ := Steps.callFree hM p X.admits X.cas X.clock (acts := []) hfr happ hPc trivial
  have hq' : vx_Q Qc XC mc ms free a (U.calling g mk a) o s₂ := hq
  rw [State.frames_setTop' g h.top] at hend
  obtain ⟨g₀, hg0⟩ := Option.isSome_iff_exists.mp h.top
  obtain ⟨r, hr⟩ := State.topJava?_eq_some.mp hg0
  have hr' : (({ U with heap := s₂.heap, slotsUsed := s₂.slotsUsed } : State).setVm s₂.vm).frames = .java g₀ :: r := hr
  rcases hq' with ⟨hqc, L, hfe, hL⟩ | ⟨q, rfl, E, ce, L, hx, hce, hcv, hcl, hW₂, hsm, hL⟩
  · obtain ⟨⟨v, rfl⟩, hW₂, e2, q2, q3, q4, q5, q6⟩ := id hfe
    have e3 : s₂ = ({ (U.calling g mk a).setFrames s₂.frames with heap := s₂.heap, slotsUsed := s₂.slotsUsed } : State).setVm s₂.vm := by
      have : s₂ = ({ s₂ with vm := (U.calling g mk a).vm } : State).setVm s₂.vm := rfl
      rw [e2] at this
      exact this
    obtain ⟨c₂, i₂, len₂, hc₂, hd₂, hf₂⟩ := hend
    have hW' : U.WarmedH s₂.vm := hW₂
    have hcc : c₂ = c := by
      have h1 : s₂.code? g.method = U.code? g.method := by
        rw [State.code?_eq, State.code?_eq, hW'.alike.method?]
      exact Option.some.inj (hc₂.symm.trans (h1.trans h.code))
    subst hcc
    have hlen : len₂ = len := by rw [hdg] at hd₂; cases hd₂; rfl
    subst hlen
    have hs₂ : s₂ = (({ U with heap := s₂.heap, slotsUsed := s₂.slotsUsed } : State).setVm s₂.vm).setTop { g with pc := g.pc + len₂, stack := v.toList ++ g.stack } := by
      refine e3.trans ?_
      rw [hf₂, State.calling_eq h.top, State.setFrames_setFrames, State.setTop_of_frames _ hr', hr]
      rfl
    have hsame : U.sameButNew ({ U with heap := s₂.heap, slotsUsed := s₂.slotsUsed } : State) L mc ms := by
      refine ⟨?_, q2, q3, q4, q5, q6⟩
      obtain ⟨t, ht, -⟩ := State.frames_cons hr
      show ({ U with heap := s₂.heap, slotsUsed := s₂.slotsUsed } : State) = { U.setFrames U.frames with heap := s₂.heap, slotsUsed := s₂.slotsUsed }
      rw [State.setFrames_self ht]
    subst hg
    refine Or.inl ⟨v, ⟨(({ U with heap := s₂.heap, slotsUsed := s₂.slotsUsed } : State).setVm s₂.vm), Ls ++ L, c0 + mc, s0 + ms⟩,
      ⟨X.admits, X.cas, X.clock, X.frames, X.room, X.hears, X.method, X.code, (X.here.setHeapUsed s₂.heap s₂.slotsUsed).setVm hW'.alike, X.tail, State.WarmedH.trans X.warmed hW', X.limits, X.bytes, X.same.trans (hsame.setVm s.vm)⟩,
      ⟨g, mk, s₂, L, rfl, rfl, hqc, rfl, hL, rfl, rfl⟩, ?_⟩
    show Steps p.tables e below _ ((({ U with heap := s₂.heap, slotsUsed := s₂.slotsUsed } : State).setVm s₂.vm).setTop { g with pc := g.pc + len₂, stack := v.toList ++ g.stack })
    rw [← hs₂]
    exact hsteps
  · obtain ⟨e2, q2, q3, q4, q5, q6⟩ := id hsm
    have e3 : s₂ = ({ (U.calling g mk a).setFrames s₂.frames with heap := s₂.heap, slotsUsed := s₂.slotsUsed } : State).setVm s₂.vm := by
      have : s₂ = ({ s₂ with vm := (U.calling g mk a).vm } : State).setVm s₂.vm := rfl
      rw [e2] at this
      exact this
    have hf₂ : s₂.frames = .throwing q :: .java g :: U.frames.tail := hend
    have hW' : U.WarmedH s₂.vm := hW₂
    have hs₂ : s₂ = ((({ U with heap := s₂.heap, slotsUsed := s₂.slotsUsed } : State).setVm s₂.vm).setTop g).pushFrame (.throwing q) := by
      refine e3.trans ?_
      rw [hf₂, State.calling_eq h.top, State.setFrames_setFrames, State.pushFrame, State.frames_setTop _ hr', State.setTop_of_frames _ hr', State.setFrames_setFrames, hr]
      rfl
    have hsame : U.sameButNew ({ U with heap := s₂.heap, slotsUsed := s₂.slotsUsed } : State) L mc ms := by
      refine ⟨?_, q2, q3, q4, q5, q6⟩
      obtain ⟨t, ht, -⟩ := State.frames_cons hr
      show ({ U with heap := s₂.heap, slotsUsed := s₂.slotsUsed } : State) = { U.setFrames U.frames with heap := s₂.heap, slotsUsed := s₂.slotsUsed }
      rw [State.setFrames_self ht]
    subst hg
    refine Or.inr ⟨q, ⟨(({ U with heap := s₂.heap, slotsUsed := s₂.slotsUsed } : State).setVm s₂.vm), Ls ++ L, c0 + mc, s0 + ms⟩,
      ⟨X.admits, X.cas, X.clock, X.frames, X.room, X.hears, X.method, X.code, (X.here.setHeapUsed s₂.heap s₂.slotsUsed).setVm hW'.alike, X.tail, State.WarmedH.trans X.warmed hW', X.limits, X.bytes, X.same.trans (hsame.setVm s.vm)⟩,
      ⟨g, mk, s₂, L, E, ce, rfl, rfl, hx, hce, hcv, hcl, rfl, hL, rfl, rfl⟩, ?_⟩
    show Steps p.tables e below _ (((({ U with heap := s₂.heap, slotsUsed := s₂.slotsUsed } : State).setVm s₂.vm).setTop g).pushFrame (.throwing q))
    rw [← hs₂]
    exact hsteps
end Payer
section Calls
variable {p : Program} {l : Launch} {e : Env} {R : Room} {s : State} {m : MethodId} {args : Array Value} {below : List Frame} {meth : Method} {c : Code} {T : State} {locs : List Loc} {cells slots : Nat}
theorem vx_callV (X : Stand p l e R s m args below meth c T locs cells slots) (hexec : p.tables.exec = Jvm.exec) {own C : String} {index : Nat} {y : MethodName} {bytes : ByteArray} {maxL : Nat} {ret : Option FieldType}
    (hown : s.vm.findClass own = some m.cls) (hlink : (Cond.methodLink own index y).before args s = true) (hinst : (Cond.instanceMethod y).before args s = true) (hsel : (Cond.selects C y y).before args s = true)
    (hcode : (Cond.code y bytes maxL ret).before args s = true) (hy : y.cls ≠ "java/lang/invoke/MethodHandle" ∧ y.cls ≠ "java/lang/invoke/VarHandle")
    {W9 : Nat} {Pre : Pt → Array Value → Prop} {Post : Pt → Array Value → Option Value → Pt → Prop} {PostX : Pt → Array Value → Addr → Pt → Prop} (hK : vx_Back l R p e below s args y 3 W9 Pre Post PostX)
    {b : Addr} {cellB : Cell} (hcell : T.heap[b]? = some cellB) (hobj : cellB.vm.isStatics = false) (hcls : s.vm.findClass C = some cellB.cls)
    {g : JFrame} (hg : g.method = m) (hsize : g.locals.size = c.maxLocals) {argsL rest : List Value} (hlen : ∀ sig, parseMethodDescriptor y.desc = some sig → argsL.length = sig.parameters.length)
    (hstack : g.stack = argsL.reverse ++ .ref b :: rest) (hW : 2 * g.monitorRoom + (rest.map fun v => v.category).sum ≤ W9) (hdg : decode c.code g.pc = .ok (.invokevirtual index, 3))
    (hpre : ∀ vm₁, s.WarmedH vm₁ → Pre ⟨T.setVm vm₁, locs, cells, slots⟩ (Value.ref b :: argsL).toArray) :
    (∃ (v : Option Value) (vm₁ : Vm) (B : Pt), s.WarmedH vm₁ ∧ Stand p l e R s m args below meth c B.U B.locs B.cells B.slots ∧ Post ⟨T.setVm vm₁, locs, cells, slots⟩ (Value.ref b :: argsL).toArray v B ∧
      ∀ target, Steps p.tables e below (B.U.setTop { g with pc := g.pc + 3, stack := v.toList ++ rest }) target → Steps p.tables e below (T.setTop g) target) ∨
    (∃ (q : Addr) (vm₁ : Vm) (B : Pt), s.WarmedH vm₁ ∧ Stand p l e R s m args below meth c B.U B.locs B.cells B.slots ∧ PostX ⟨T.setVm vm₁, locs, cells, slots⟩ (Value.ref b :: argsL).toArray q B ∧
      Steps p.tables e below (T.setTop g) ((B.U.setTop { g with stack := rest }).pushFrame (.throwing q))) := by
  obtain ⟨mk, methM, hnamed, hmethM, hstM, habM⟩ := Cond.instanceMethod_spec hinst
  obtain ⟨methM', cM, hmethM', -, -, -, -, -, -, hsigM⟩ := Cond.code_spec hnamed hcode
  cases hmethM.symm.trans hmethM'
  obtain ⟨c2, r2, m2, q1, q2, q3, q4, kP, hkP, hkPi⟩ := Cond.selects_spec hsel
  cases hcls.symm.trans q1
  cases (State.methodFound?_of_named hnamed hy).symm.trans q2
  cases hnamed.symm.trans q3
  have hselP : selectMethod e.platform s.vm cellB.cls mk = .method mk := by rw [Launch.admits_selectMethod X.admits]; exact q4
  obtain ⟨vm₁, X₁, hstep₁⟩ := X.invokevirtual hexec hown hlink hnamed hmethM hstM hkP hkPi hy (a := b) (cell := cellB) hcell
    (fun z h => by rw [h] at hobj; cases hobj) hselP hmethM habM hkP hkPi (g := g) hg (argsL := argsL) (rest := rest) (hlen _ hsigM) hstack hdg
  rcases hK m meth c ⟨T.setVm vm₁, locs, cells, slots⟩ { g with stack := rest } (.invokevirtual index) mk (Value.ref b :: argsL).toArray X₁ hg hsize hdg hW (X₁.named hnamed) (hpre vm₁ X₁.warmed) with ⟨v, B, X', hpost, hsteps⟩ | ⟨q, B, X', hpost, hsteps⟩
  · exact Or.inl ⟨v, vm₁, B, X₁.warmed, X', hpost, fun target h => hstep₁ _ fun acts => by rw [doInvoke_state]; exact hsteps.trans h⟩
  · exact Or.inr ⟨q, vm₁, B, X₁.warmed, X', hpost, hstep₁ _ fun acts => by rw [doInvoke_state]; exact hsteps⟩
theorem vx_callS (X : Stand p l e R s m args below meth c T locs cells slots) (hexec : p.tables.exec = Jvm.exec) {own : String} {index : Nat} {y : MethodName} {bytes : ByteArray} {maxL : Nat} {ret : Option FieldType}
    (hown : s.vm.findClass own = some m.cls) (hlink : (Cond.methodLink own index y).before args s = true) (hstat : (Cond.static y).before args s = true) (hinit : (Cond.initialized y.cls).before args s = true)
    (hcode : (Cond.code y bytes maxL ret).before args s = true) (hy : y.cls ≠ "java/lang/invoke/MethodHandle" ∧ y.cls ≠ "java/lang/invoke/VarHandle")
    {W9 : Nat} {Pre : Pt → Array Value → Prop} {Post : Pt → Array Value → Option Value → Pt → Prop} {PostX : Pt → Array Value → Addr → Pt → Prop} (hK : vx_Back l R p e below s args y 3 W9 Pre Post PostX)
    {g : JFrame} (hg : g.method = m) (hsize : g.locals.size = c.maxLocals) {argsL rest : List Value} (hlen : ∀ sig, parseMethodDescriptor y.desc = some sig → argsL.length = sig.parameters.length)
    (hstack : g.stack = argsL.reverse ++ rest) (hW : 2 * g.monitorRoom + (rest.map fun v => v.category).sum ≤ W9) (hdg : decode c.code g.pc = .ok (.invokestatic index, 3))
    (hpre : ∀ vm₁, s.WarmedH vm₁ → Pre ⟨T.setVm vm₁, locs, cells, slots⟩ argsL.toArray) :
    (∃ (v : Option Value) (vm₁ : Vm) (B : Pt), s.WarmedH vm₁ ∧ Stand p l e R s m args below meth c B.U B.locs B.cells B.slots ∧ Post ⟨T.setVm vm₁, locs, cells, slots⟩ argsL.toArray v B ∧
      ∀ target, Steps p.tables e below (B.U.setTop { g with pc := g.pc + 3, stack := v.toList ++ rest }) target → Steps p.tables e below (T.setTop g) target) ∨
    (∃ (q : Addr) (vm₁ : Vm) (B : Pt), s.WarmedH vm₁ ∧ Stand p l e R s m args below meth c B.U B.locs B.cells B.slots ∧ PostX ⟨T.setVm vm₁, locs, cells, slots⟩ argsL.toArray q B ∧
      Steps p.tables e below (T.setTop g) ((B.U.setTop { g with stack := rest }).pushFrame (.throwing q))) := by
  obtain ⟨mk, hnamed⟩ := Cond.code_named hcode
  obtain ⟨methM, cM, hmethM, -, -, -, -, -, -, hsigM⟩ := Cond.code_spec hnamed hcode
  have hstatic : methM.isStatic = true := Cond.static_spec hnamed hmethM hstat
  obtain ⟨kP, hkP, -⟩ := className_of_methodNamed hnamed
  have hinitP : kP.init = .initialized := Cond.initialized_spec (findClass_of_methodNamed hnamed) hkP hinit
  obtain ⟨vm₁, X₁, hstep₁⟩ := X.invokestatic hexec hown hlink hnamed hmethM hstatic hkP hinitP hy (g := g) hg (argsL := argsL) (rest := rest) (hlen _ hsigM) hstack hdg
  rcases hK m meth c ⟨T.setVm vm₁, locs, cells, slots⟩ { g with stack := rest } (.invokestatic index) mk argsL.toArray X₁ hg hsize hdg hW (X₁.named hnamed) (hpre vm₁ X₁.warmed) with ⟨v, B, X', hpost, hsteps⟩ | ⟨q, B, X', hpost, hsteps⟩
  · exact Or.inl ⟨v, vm₁, B, X₁.warmed, X', hpost, fun target h => hstep₁ _ fun acts => by rw [doInvoke_state]; exact hsteps.trans h⟩
  · exact Or.inr ⟨q, vm₁, B, X₁.warmed, X', hpost, hstep₁ _ fun acts => by rw [doInvoke_state]; exact hsteps⟩
end Calls
theorem vx_cls {s : State} {T : State} {vm₁ : Vm} {E : String} {k : ClassId} (hW : s.WarmedH vm₁) (h : (T.setVm vm₁).vm.findClass E = some k) : s.vm.findClass E = some k := by
  have h1 : vm₁.findClass E = some k := h
  rw [hW.alike.findClass] at h1
  exact h1
/-- the method's frame g, with q thrown over it -/
def vx_W (p : Program) (l : Launch) (e : Env) (R : Room) (s : State) (m : MethodId) (args : Array Value) (below : List Frame) (meth : Method) (c : Code) (H : Heap) (locs : List Loc) (cells slots : Nat) (Q : State → Prop) (g : JFrame) (q : Addr) : Prop :=
  ∀ T : State, T.heap = H → Stand p l e R s m args below meth c T locs cells slots → ∃ t, Steps p.tables e below ((T.setTop g).pushFrame (.throwing q)) t ∧ Q t
def vx_Run (p : Program) (l : Launch) (e : Env) (R : Room) (s : State) (m : MethodId) (args : Array Value) (below : List Frame) (meth : Method) (c : Code) (H : Heap) (locs : List Loc) (cells slots mc ms : Nat) (g : JFrame) (rest : List Value) (Qa : State → Outcome → State → Prop) (XC : String → State → State → Prop) (free : Addr → Prop) : Prop :=
  ∀ T : State, T.heap = H → Stand p l e R s m args below meth c T locs cells slots →
    (∃ (v : Option Value) (st₀ t T' : State) (L : List Loc), st₀.heap = H ∧ Stand p l e R s m args below meth c T' (locs ++ L) (cells + mc) (slots + ms) ∧ (∀ q ∈ L, free q.base) ∧ T'.heap = t.heap ∧ T'.vm = t.vm ∧ Qa st₀ (.returned v) t ∧
      Goes p e below T g T' { g with pc := g.pc + 3, stack := v.toList ++ rest }) ∨
    (∃ (q : Addr) (st₀ t T' : State) (L : List Loc) (E : String) (ce : Cell), st₀.heap = H ∧ Stand p l e R s m args below meth c T' (locs ++ L) (cells + mc) (slots + ms) ∧ (∀ z ∈ L, free z.base) ∧ T'.heap = t.heap ∧ T'.vm = t.vm ∧ XC E st₀ t ∧ t.heap[q]? = some ce ∧ ce.vm = .none ∧ s.vm.findClass E = some ce.cls ∧
      Steps p.tables e below (T.setTop g) ((T'.setTop { g with stack := rest }).pushFrame (.throwing q)))
def vx_X {S : Type} (px : S → Prop) (B : String → S → State → Prop) (A : Nat → Prop) : String → State → State → Prop := fun E st t => ∃ u : S, px u ∧ B E u t ∧ va_F A st t
section Runs
variable {p : Program} {l : Launch} {e : Env} {R : Room} {s : State} {m : MethodId} {args : Array Value} {below : List Frame} {meth : Method} {c : Code} {H : Heap} {locs : List Loc} {cells slots : Nat}
variable {y : MethodName} {bytes cc : ByteArray} {maxL nL mc ms n index : Nat} {ret : Option FieldType} {ws : List Cond} {rm : Room} {Pc : Array Value → State → Prop} {Qc : Array Value → State → Outcome → State → Prop} {XC : String → State → State → Prop} {free : Addr → Prop} {Ts : List Cond} {own C : String} {b : Addr} {As rest : List Value} {g : JFrame}
theorem vx_callBack (cb : CallB R s args own index y bytes maxL ret ws rm mc ms n) (hM : vx_Met l y ws rm Pc Qc XC mc ms free) (hbl : FrameBlind Pc) : vx_Back l R p e below s args y 3 8 (PreOf R mc ms Pc) (PostOf Qc mc ms free) (vx_Post XC mc ms free) := by
  obtain ⟨hrc, hrs, hfr, hlo, hws, hcw, -, hini, -⟩ := cb
  exact vx_back (bytes := bytes) (maxL := maxL) (ret := ret) hM hbl hrc hrs hfr hlo hws hcw (fun a' U hW => word_at hW (Or.inl (by first | rfl | simp [Cond.onTables, Cond.keeps, Cond.steady])) hini)
theorem vx_runV (S : CallFix p m c cc nL s args Ts own) (hM : vx_Met l y ws rm Pc Qc XC mc ms free) (cw : CallW R s args own C index y bytes maxL ret ws rm mc ms n) (hp : PreV s H C b Pc As)
    (hg : g.method = m) (hn : As.length = n) (hsize : g.locals.size = nL) (hstack : g.stack = As.reverse ++ .ref b :: rest) (hW : 2 * g.monitorRoom + (rest.map fun v => v.category).sum ≤ 8) (hdg : decode cc g.pc = .ok (.invokevirtual index, 3)) (hf : cells + mc ≤ R.cells ∧ slots + ms ≤ R.slots) :
    vx_Run p l e R s m args below meth c H locs cells slots mc ms g rest (Qc (Value.ref b :: As).toArray) XC free := by
  have hK : vx_Back l R p e below s args y 3 8 (PreOf R mc ms Pc) (PostOf Qc mc ms free) (vx_Post XC mc ms free) := vx_callBack cw.1 hM hp.1
  obtain ⟨⟨-, -, -, -, -, -, hcode, -, hy, hlen, hl⟩, hin, hse⟩ := cw
  obtain ⟨hx, hb, hml, ho, -⟩ := S
  obtain ⟨-, ⟨cellB, hcB, hoB, hclB⟩, hPc⟩ := hp
  intro T hT X
  rcases vx_callV X hx (C := C) (bytes := bytes) (maxL := maxL) (ret := ret) ho hl hin hse hcode hy hK (by rw [hT]; exact hcB) hoB hclB hg (hsize.trans hml.symm) (argsL := As) (rest := rest) (fun sig h => hn.trans (hlen sig h)) hstack hW (by rw [hb]; exact hdg)
    (fun vm₁ hW₁ => ⟨hf.1, hf.2, hPc (T.setVm vm₁) hT hW₁⟩) with ⟨v, vm₁, ⟨U', l2, c2, s2⟩, hW₁, X', ⟨g', mk, t, L, e1, e2, hq, h1, hL, h2, h3⟩, st⟩ | ⟨q, vm₁, ⟨U', l2, c2, s2⟩, hW₁, X', ⟨g', mk, t, L, E, ce, e1, e2, hq, hce, hcv, hcl, h1, hL, h2, h3⟩, st⟩
  · dsimp only [Pt.U, Pt.locs, Pt.cells, Pt.slots] at X' e1 e2 h1 h2 h3 st
    subst h1; subst h2; subst h3
    exact Or.inl ⟨v, (T.setVm vm₁).calling g' mk (Value.ref b :: As).toArray, t, U', L, hT, X', hL, e1, e2, hq, st⟩
  · dsimp only [Pt.U, Pt.locs, Pt.cells, Pt.slots] at X' e1 e2 h1 h2 h3 st hcl
    subst h1; subst h2; subst h3
    exact Or.inr ⟨q, (T.setVm vm₁).calling g' mk (Value.ref b :: As).toArray, t, U', L, E, ce, hT, X', hL, e1, e2, hq, hce, hcv, vx_cls hW₁ hcl, st⟩
theorem vx_runS (S : CallFix p m c cc nL s args Ts own) (hM : vx_Met l y ws rm Pc Qc XC mc ms free) (cw : CallB R s args own index y bytes maxL ret ws rm mc ms n ∧ (Cond.static y).before args s = true) (hp : PreS s H Pc As)
    (hg : g.method = m) (hn : As.length = n) (hsize : g.locals.size = nL) (hstack : g.stack = As.reverse ++ rest) (hW : 2 * g.monitorRoom + (rest.map fun v => v.category).sum ≤ 8) (hdg : decode cc g.pc = .ok (.invokestatic index, 3)) (hf : cells + mc ≤ R.cells ∧ slots + ms ≤ R.slots) :
    vx_Run p l e R s m args below meth c H locs cells slots mc ms g rest (Qc As.toArray) XC free := by
  have hK : vx_Back l R p e below s args y 3 8 (PreOf R mc ms Pc) (PostOf Qc mc ms free) (vx_Post XC mc ms free) := vx_callBack cw.1 hM hp.1
  obtain ⟨⟨-, -, -, -, -, -, hcode, hini, hy, hlen, hl⟩, hstt⟩ := cw
  obtain ⟨hx, hb, hml, ho, -⟩ := S
  intro T hT X
  rcases vx_callS X hx (bytes := bytes) (maxL := maxL) (ret := ret) ho hl hstt hini hcode hy hK hg (hsize.trans hml.symm) (argsL := As) (rest := rest) (fun sig h => hn.trans (hlen sig h)) hstack hW (by rw [hb]; exact hdg)
    (fun vm₁ hW₁ => ⟨hf.1, hf.2, hp.2 (T.setVm vm₁) hT hW₁⟩) with ⟨v, vm₁, ⟨U', l2, c2, s2⟩, hW₁, X', ⟨g', mk, t, L, e1, e2, hq, h1, hL, h2, h3⟩, st⟩ | ⟨q, vm₁, ⟨U', l2, c2, s2⟩, hW₁, X', ⟨g', mk, t, L, E, ce, e1, e2, hq, hce, hcv, hcl, h1, hL, h2, h3⟩, st⟩
  · dsimp only [Pt.U, Pt.locs, Pt.cells, Pt.slots] at X' e1 e2 h1 h2 h3 st
    subst h1; subst h2; subst h3
    exact Or.inl ⟨v, (T.setVm vm₁).calling g' mk As.toArray, t, U', L, hT, X', hL, e1, e2, hq, st⟩
  · dsimp only [Pt.U, Pt.locs, Pt.cells, Pt.slots] at X' e1 e2 h1 h2 h3 st hcl
    subst h1; subst h2; subst h3
    exact Or.inr ⟨q, (T.setVm vm₁).calling g' mk As.toArray, t, U', L, E, ce, hT, X', hL, e1, e2, hq, hce, hcv, vx_cls hW₁ hcl, st⟩
end Runs
section Rows
variable {p : Program} {l : Launch} {e : Env} {R : Room} {s : State} {m : MethodId} {args : Array Value} {below : List Frame} {meth : Method} {c : Code} {H : Heap} {locs : List Loc} {cells slots : Nat} {Q : State → Prop}
variable {mc ms : Nat} {free : Addr → Prop} {A0 A1 : Nat → Prop} {H0 : Heap} {a : Array Value} {pc : Nat} {ls : Array Slot} {st0 rest : List Value}
theorem vx_keep {st₀ t T' : State} {L : List Loc} (h0 : st₀.heap = H) (e1 : T'.heap = t.heap) (hS : va_S A0 H0 H locs) (hA : ∀ q, q < H.size → A1 q → A0 q) (hf : ∀ q, free q → A0 q) (hL : ∀ q ∈ L, free q.base) (hF : va_F A1 st₀ t) :
    H.size ≤ T'.heap.size ∧ (∀ q : Nat, q < H.size → ¬ A1 q → T'.heap[q]? = H[q]?) ∧ va_S A0 H0 T'.heap (locs ++ L) := by
  obtain ⟨hz, hk⟩ := hF
  rw [h0] at hz hk
  exact ⟨by rw [e1]; exact hz, fun q h1 h2 => by rw [e1]; exact hk q h1 h2,
    ⟨Nat.le_trans hS.1 (by rw [e1]; exact hz), fun q h1 h2 => by rw [e1, hk q (Nat.lt_of_lt_of_le h1 hS.1) (fun z => h2 (hA q (Nat.lt_of_lt_of_le h1 hS.1) z))]; exact hS.2.1 q h1 h2, fun q hq => by
      rcases List.mem_append.mp hq with h | h
      · exact hS.2.2 q h
      · exact hf _ (hL q h)⟩⟩
theorem vx_calli {S SX : Type} {post : Int32 → S → Prop} {px : SX → Prop} {B : S → State → Prop} {BX : String → SX → State → Prop} {AX : Nat → Prop} (hr : vx_Run p l e R s m args below meth c H locs cells slots mc ms (F0 m pc ls st0) rest (va_Qi post B A1 a) (vx_X px BX AX) free) (hS : va_S A0 H0 H locs) (hA : ∀ q, q < H.size → A1 q → A0 q) (hf : ∀ q, free q → A0 q) (hAX : ∀ q, q < H.size → AX q → A0 q)
    (kx : ∀ (E : String) (ce : Cell) (q9 : Addr) (u : SX) (t : State) (H1 : Heap) (locs1 : List Loc), t.heap = H1 → s.vm.Alike t.vm → px u → BX E u t → H.size ≤ H1.size → (∀ q : Nat, q < H.size → ¬ AX q → H1[q]? = H[q]?) → va_S A0 H0 H1 locs1 → H1[q9]? = some ce → ce.vm = .none → s.vm.findClass E = some ce.cls → vx_W p l e R s m args below meth c H1 locs1 (cells + mc) (slots + ms) Q (F0 m pc ls rest) q9)
    (kk : ∀ (r : Int32) (u : S) (t : State) (H1 : Heap) (locs1 : List Loc), t.heap = H1 → s.vm.Alike t.vm → post r u → B u t → H.size ≤ H1.size → (∀ q : Nat, q < H.size → ¬ A1 q → H1[q]? = H[q]?) → va_S A0 H0 H1 locs1 → W p l e R s m args below meth c H1 locs1 (cells + mc) (slots + ms) Q (F0 m (pc + 3) ls (.int r :: rest))) : W p l e R s m args below meth c H locs cells slots Q (F0 m pc ls st0) := by
  intro T hT X
  rcases hr T hT X with ⟨v, st₀, t, T', L, h0, X', hL, e1, e2, ⟨⟨r, u, hv, hp, hb⟩, hF⟩, st⟩ | ⟨q, st₀, t, T', L, E, ce, h0, X', hL, e1, e2, ⟨u, hp, hb, hF⟩, hce, hcv, hcl, st⟩
  · cases hv
    obtain ⟨k1, k2, k3⟩ := vx_keep h0 e1 hS hA hf hL hF
    obtain ⟨t2, a1, b1⟩ := kk r u t T'.heap (locs ++ L) e1.symm (by rw [← e2]; exact X'.warmed.alike) hp hb k1 k2 k3 T' rfl X'
    exact ⟨t2, st t2 a1, b1⟩
  · obtain ⟨k1, k2, k3⟩ := vx_keep h0 e1 hS hAX hf hL hF
    obtain ⟨t2, a1, b1⟩ := kx E ce q u t T'.heap (locs ++ L) e1.symm (by rw [← e2]; exact X'.warmed.alike) hp hb k1 k2 k3 (by rw [e1]; exact hce) hcv hcl T' rfl X'
    exact ⟨t2, st.trans a1, b1⟩
theorem vx_calll {S SX : Type} {post : Int64 → S → Prop} {px : SX → Prop} {B : S → State → Prop} {BX : String → SX → State → Prop} {AX : Nat → Prop} (hr : vx_Run p l e R s m args below meth c H locs cells slots mc ms (F0 m pc ls st0) rest (va_Ql post B A1 a) (vx_X px BX AX) free) (hS : va_S A0 H0 H locs) (hA : ∀ q, q < H.size → A1 q → A0 q) (hf : ∀ q, free q → A0 q) (hAX : ∀ q, q < H.size → AX q → A0 q)
    (kx : ∀ (E : String) (ce : Cell) (q9 : Addr) (u : SX) (t : State) (H1 : Heap) (locs1 : List Loc), t.heap = H1 → s.vm.Alike t.vm → px u → BX E u t → H.size ≤ H1.size → (∀ q : Nat, q < H.size → ¬ AX q → H1[q]? = H[q]?) → va_S A0 H0 H1 locs1 → H1[q9]? = some ce → ce.vm = .none → s.vm.findClass E = some ce.cls → vx_W p l e R s m args below meth c H1 locs1 (cells + mc) (slots + ms) Q (F0 m pc ls rest) q9)
    (kk : ∀ (r : Int64) (u : S) (t : State) (H1 : Heap) (locs1 : List Loc), t.heap = H1 → s.vm.Alike t.vm → post r u → B u t → H.size ≤ H1.size → (∀ q : Nat, q < H.size → ¬ A1 q → H1[q]? = H[q]?) → va_S A0 H0 H1 locs1 → W p l e R s m args below meth c H1 locs1 (cells + mc) (slots + ms) Q (F0 m (pc + 3) ls (.long r :: rest))) : W p l e R s m args below meth c H locs cells slots Q (F0 m pc ls st0) := by
  intro T hT X
  rcases hr T hT X with ⟨v, st₀, t, T', L, h0, X', hL, e1, e2, ⟨⟨r, u, hv, hp, hb⟩, hF⟩, st⟩ | ⟨q, st₀, t, T', L, E, ce, h0, X', hL, e1, e2, ⟨u, hp, hb, hF⟩, hce, hcv, hcl, st⟩
  · cases hv
    obtain ⟨k1, k2, k3⟩ := vx_keep h0 e1 hS hA hf hL hF
    obtain ⟨t2, a1, b1⟩ := kk r u t T'.heap (locs ++ L) e1.symm (by rw [← e2]; exact X'.warmed.alike) hp hb k1 k2 k3 T' rfl X'
    exact ⟨t2, st t2 a1, b1⟩
  · obtain ⟨k1, k2, k3⟩ := vx_keep h0 e1 hS hAX hf hL hF
    obtain ⟨t2, a1, b1⟩ := kx E ce q u t T'.heap (locs ++ L) e1.symm (by rw [← e2]; exact X'.warmed.alike) hp hb k1 k2 k3 (by rw [e1]; exact hce) hcv hcl T' rfl X'
    exact ⟨t2, st.trans a1, b1⟩
theorem vx_callf {S SX : Type} {post : UInt32 → S → Prop} {px : SX → Prop} {B : S → State → Prop} {BX : String → SX → State → Prop} {AX : Nat → Prop} (hr : vx_Run p l e R s m args below meth c H locs cells slots mc ms (F0 m pc ls st0) rest (va_Qf post B A1 a) (vx_X px BX AX) free) (hS : va_S A0 H0 H locs) (hA : ∀ q, q < H.size → A1 q → A0 q) (hf : ∀ q, free q → A0 q) (hAX : ∀ q, q < H.size → AX q → A0 q)
    (kx : ∀ (E : String) (ce : Cell) (q9 : Addr) (u : SX) (t : State) (H1 : Heap) (locs1 : List Loc), t.heap = H1 → s.vm.Alike t.vm → px u → BX E u t → H.size ≤ H1.size → (∀ q : Nat, q < H.size → ¬ AX q → H1[q]? = H[q]?) → va_S A0 H0 H1 locs1 → H1[q9]? = some ce → ce.vm = .none → s.vm.findClass E = some ce.cls → vx_W p l e R s m args below meth c H1 locs1 (cells + mc) (slots + ms) Q (F0 m pc ls rest) q9)
    (kk : ∀ (r : UInt32) (u : S) (t : State) (H1 : Heap) (locs1 : List Loc), t.heap = H1 → s.vm.Alike t.vm → post r u → B u t → H.size ≤ H1.size → (∀ q : Nat, q < H.size → ¬ A1 q → H1[q]? = H[q]?) → va_S A0 H0 H1 locs1 → W p l e R s m args below meth c H1 locs1 (cells + mc) (slots + ms) Q (F0 m (pc + 3) ls (.float r :: rest))) : W p l e R s m args below meth c H locs cells slots Q (F0 m pc ls st0) := by
  intro T hT X
  rcases hr T hT X with ⟨v, st₀, t, T', L, h0, X', hL, e1, e2, ⟨⟨r, u, hv, hp, hb⟩, hF⟩, st⟩ | ⟨q, st₀, t, T', L, E, ce, h0, X', hL, e1, e2, ⟨u, hp, hb, hF⟩, hce, hcv, hcl, st⟩
  · cases hv
    obtain ⟨k1, k2, k3⟩ := vx_keep h0 e1 hS hA hf hL hF
    obtain ⟨t2, a1, b1⟩ := kk r u t T'.heap (locs ++ L) e1.symm (by rw [← e2]; exact X'.warmed.alike) hp hb k1 k2 k3 T' rfl X'
    exact ⟨t2, st t2 a1, b1⟩
  · obtain ⟨k1, k2, k3⟩ := vx_keep h0 e1 hS hAX hf hL hF
    obtain ⟨t2, a1, b1⟩ := kx E ce q u t T'.heap (locs ++ L) e1.symm (by rw [← e2]; exact X'.warmed.alike) hp hb k1 k2 k3 (by rw [e1]; exact hce) hcv hcl T' rfl X'
    exact ⟨t2, st.trans a1, b1⟩
theorem vx_calld {S SX : Type} {post : UInt64 → S → Prop} {px : SX → Prop} {B : S → State → Prop} {BX : String → SX → State → Prop} {AX : Nat → Prop} (hr : vx_Run p l e R s m args below meth c H locs cells slots mc ms (F0 m pc ls st0) rest (va_Qd post B A1 a) (vx_X px BX AX) free) (hS : va_S A0 H0 H locs) (hA : ∀ q, q < H.size → A1 q → A0 q) (hf : ∀ q, free q → A0 q) (hAX : ∀ q, q < H.size → AX q → A0 q)
    (kx : ∀ (E : String) (ce : Cell) (q9 : Addr) (u : SX) (t : State) (H1 : Heap) (locs1 : List Loc), t.heap = H1 → s.vm.Alike t.vm → px u → BX E u t → H.size ≤ H1.size → (∀ q : Nat, q < H.size → ¬ AX q → H1[q]? = H[q]?) → va_S A0 H0 H1 locs1 → H1[q9]? = some ce → ce.vm = .none → s.vm.findClass E = some ce.cls → vx_W p l e R s m args below meth c H1 locs1 (cells + mc) (slots + ms) Q (F0 m pc ls rest) q9)
    (kk : ∀ (r : UInt64) (u : S) (t : State) (H1 : Heap) (locs1 : List Loc), t.heap = H1 → s.vm.Alike t.vm → post r u → B u t → H.size ≤ H1.size → (∀ q : Nat, q < H.size → ¬ A1 q → H1[q]? = H[q]?) → va_S A0 H0 H1 locs1 → W p l e R s m args below meth c H1 locs1 (cells + mc) (slots + ms) Q (F0 m (pc + 3) ls (.double r :: rest))) : W p l e R s m args below meth c H locs cells slots Q (F0 m pc ls st0) := by
  intro T hT X
  rcases hr T hT X with ⟨v, st₀, t, T', L, h0, X', hL, e1, e2, ⟨⟨r, u, hv, hp, hb⟩, hF⟩, st⟩ | ⟨q, st₀, t, T', L, E, ce, h0, X', hL, e1, e2, ⟨u, hp, hb, hF⟩, hce, hcv, hcl, st⟩
  · cases hv
    obtain ⟨k1, k2, k3⟩ := vx_keep h0 e1 hS hA hf hL hF
    obtain ⟨t2, a1, b1⟩ := kk r u t T'.heap (locs ++ L) e1.symm (by rw [← e2]; exact X'.warmed.alike) hp hb k1 k2 k3 T' rfl X'
    exact ⟨t2, st t2 a1, b1⟩
  · obtain ⟨k1, k2, k3⟩ := vx_keep h0 e1 hS hAX hf hL hF
    obtain ⟨t2, a1, b1⟩ := kx E ce q u t T'.heap (locs ++ L) e1.symm (by rw [← e2]; exact X'.warmed.alike) hp hb k1 k2 k3 (by rw [e1]; exact hce) hcv hcl T' rfl X'
    exact ⟨t2, st.trans a1, b1⟩
theorem vx_callv {S SX : Type} {post : S → Prop} {px : SX → Prop} {B : S → State → Prop} {BX : String → SX → State → Prop} {AX : Nat → Prop} (hr : vx_Run p l e R s m args below meth c H locs cells slots mc ms (F0 m pc ls st0) rest (va_Qv post B A1 a) (vx_X px BX AX) free) (hS : va_S A0 H0 H locs) (hA : ∀ q, q < H.size → A1 q → A0 q) (hf : ∀ q, free q → A0 q) (hAX : ∀ q, q < H.size → AX q → A0 q)
    (kx : ∀ (E : String) (ce : Cell) (q9 : Addr) (u : SX) (t : State) (H1 : Heap) (locs1 : List Loc), t.heap = H1 → s.vm.Alike t.vm → px u → BX E u t → H.size ≤ H1.size → (∀ q : Nat, q < H.size → ¬ AX q → H1[q]? = H[q]?) → va_S A0 H0 H1 locs1 → H1[q9]? = some ce → ce.vm = .none → s.vm.findClass E = some ce.cls → vx_W p l e R s m args below meth c H1 locs1 (cells + mc) (slots + ms) Q (F0 m pc ls rest) q9)
    (kk : ∀ (u : S) (t : State) (H1 : Heap) (locs1 : List Loc), t.heap = H1 → s.vm.Alike t.vm → post u → B u t → H.size ≤ H1.size → (∀ q : Nat, q < H.size → ¬ A1 q → H1[q]? = H[q]?) → va_S A0 H0 H1 locs1 → W p l e R s m args below meth c H1 locs1 (cells + mc) (slots + ms) Q (F0 m (pc + 3) ls (rest))) : W p l e R s m args below meth c H locs cells slots Q (F0 m pc ls st0) := by
  intro T hT X
  rcases hr T hT X with ⟨v, st₀, t, T', L, h0, X', hL, e1, e2, ⟨⟨u, hv, hp, hb⟩, hF⟩, st⟩ | ⟨q, st₀, t, T', L, E, ce, h0, X', hL, e1, e2, ⟨u, hp, hb, hF⟩, hce, hcv, hcl, st⟩
  · cases hv
    obtain ⟨k1, k2, k3⟩ := vx_keep h0 e1 hS hA hf hL hF
    obtain ⟨t2, a1, b1⟩ := kk u t T'.heap (locs ++ L) e1.symm (by rw [← e2]; exact X'.warmed.alike) hp hb k1 k2 k3 T' rfl X'
    exact ⟨t2, st t2 a1, b1⟩
  · obtain ⟨k1, k2, k3⟩ := vx_keep h0 e1 hS hAX hf hL hF
    obtain ⟨t2, a1, b1⟩ := kx E ce q u t T'.heap (locs ++ L) e1.symm (by rw [← e2]; exact X'.warmed.alike) hp hb k1 k2 k3 (by rw [e1]; exact hce) hcv hcl T' rfl X'
    exact ⟨t2, st.trans a1, b1⟩
/-- caught by the row x of this method's table; the rows ahead don't take it -/
theorem vx_catch {own name : String} {E : String} {ce : Cell} {q : Addr} (hown : s.vm.findClass own = some m.cls) (pre : List ExceptionTableEntry) (x : ExceptionTableEntry) (suf : List ExceptionTableEntry) (hsplit : c.exceptionTable.toList = pre ++ x :: suf)
    (hpass : ∀ z ∈ pre, covers z pc = false ∨ (z.catchType ≠ 0 ∧ ∃ nm : String, (Cond.classLink own z.catchType nm).before args s = true ∧ va_Nc E nm s)) (hx : covers x pc = true) (h0 : x.catchType ≠ 0)
    (hlink : (Cond.classLink own x.catchType name).before args s = true) (hcast : (Cond.castable E name).before args s = true) (hcell : H[q]? = some ce) (hv : ce.vm = .none) (hcl : s.vm.findClass E = some ce.cls)
    (kk : W p l e R s m args below meth c H locs cells slots Q (F0 m x.handlerPc ls [.ref q])) : vx_W p l e R s m args below meth c H locs cells slots Q (F0 m pc ls rest) q := by
  intro T hT X
  have hpl : e.platform.magicAccessors = ({} : Platform).magicAccessors := by rw [X.admits.platform]
  obtain ⟨c3, c4, hc3, hc4, hasg⟩ := Cond.castable_spec hcast
  cases Option.some.inj (hc3.symm.trans hcl)
  obtain ⟨c5, hc5, hcl5⟩ := Cond.classLink_spec hown hlink e.platform hpl
  cases Option.some.inj (hc4.symm.trans hc5)
  obtain ⟨vm', X', st⟩ := X.thenCaughtThrough q (g := F0 m pc ls rest) rfl (Steps.refl _) (by rw [hT]; exact hcell) (by rw [hv]; rfl) (by obtain ⟨k9, h9, -⟩ := Vm.findClass_spec hcl; exact ⟨k9, h9⟩) pre x suf hsplit
    (fun z hz => by
      rcases hpass z hz with h | ⟨hz0, nm, hl1, hn1⟩
      · exact Or.inl h
      · obtain ⟨c6, hc6, hcl6⟩ := Cond.classLink_spec hown hl1 e.platform hpl
        obtain ⟨a8, b8, h1, h2, h3⟩ := hn1
        cases Option.some.inj (h1.symm.trans hcl)
        cases Option.some.inj (h2.symm.trans hc6)
        exact Or.inr ⟨hz0, _, hcl6, h3⟩) hx (Or.inr ⟨h0, c4, hcl5, hasg⟩)
  obtain ⟨t, a1, b1⟩ := kk (T.setVm vm') hT X'
  exact ⟨t, st.trans a1, b1⟩
end Rows
section Ends
variable {p : Program} {l : Launch} {e : Env} {R : Room} {s : State} {m : MethodId} {args : Array Value} {below : List Frame} {meth : Method} {c : Code} {H : Heap} {locs : List Loc} {cells slots : Nat} {Q : State → Prop}
variable {mc ms : Nat} {free : Addr → Prop} {A0 A1 : Nat → Prop} {H0 : Heap} {a : Array Value} {ls : Array Slot} {st0 rest : List Value}
variable {Qc : Array Value → State → Outcome → State → Prop} {XC : String → State → State → Prop}
/-- what a body that may throw owes at its end -/
def vx_MQ (below : List Frame) (Qc : Array Value → State → Outcome → State → Prop) (XC : String → State → State → Prop) (a : Array Value) (s : State) (mc ms : Nat) (free : Addr → Prop) : State → Prop := fun t =>
  ∃ o, t.status = .running ∧ Ended t below o ∧ vx_Q Qc XC mc ms free a s o t
theorem vx_ret {g : JFrame} {mc ms : Nat} (k : W p l e R s m args below meth c H locs cells slots (MQ below Qc args s mc ms free) g) : W p l e R s m args below meth c H locs cells slots (vx_MQ below Qc XC args s mc ms free) g := by
  intro T hT X
  obtain ⟨t, a1, o, b1, b2, b3, b4⟩ := k T hT X
  exact ⟨t, a1, o, b1, b2, Or.inl ⟨b3, b4⟩⟩
/-- not caught here: it goes on to the caller -/
theorem vx_widen {g : JFrame} {q : Addr} {k n : Nat} (h1 : cells ≤ k) (h2 : slots ≤ n) (kk : vx_W p l e R s m args below meth c H locs k n Q g q) : vx_W p l e R s m args below meth c H locs cells slots Q g q := fun T hT X => kk T hT (stand_widen X h1 h2)
theorem vx_out {pc : Nat} {E : String} {ce : Cell} {q : Addr} {mc ms : Nat} (hout : ∀ x ∈ c.exceptionTable.toList, covers x pc = false) (hlocks : meth.locks = false) (hcell : H[q]? = some ce) (hv : ce.vm = .none) (hcl : s.vm.findClass E = some ce.cls)
    (hx : ∀ t : State, t.heap = H → s.vm.Alike t.vm → XC E s t) (hf : ∀ z ∈ locs, free z.base) (hc : cells ≤ mc) (hs : slots ≤ ms) :
    vx_W p l e R s m args below meth c H locs cells slots (vx_MQ below Qc XC args s mc ms free) (F0 m pc ls rest) q := by
  intro T hT X
  obtain ⟨st1, hrun, hend, hW, hsm⟩ := X.leaveThrown q (g := F0 m pc ls rest) rfl rfl rfl hout hlocks
  have hcell9 : (T.setFrames (.throwing q :: below)).heap[q]? = some ce := by
    show T.heap[q]? = some ce
    rw [hT]; exact hcell
  exact ⟨_, st1, .threw q, hrun, hend, Or.inr ⟨q, rfl, E, ce, locs, hx _ hT hW.alike, hcell9, hv, hcl, hW, hsm.mono hc hs, hf⟩⟩
theorem vx_frame {U : State} {k n : Nat} (h : s.sameButNew ({ U with vm := s.vm } : State) locs k n) : s.heap.size ≤ U.heap.size ∧ ∀ q : Nat, q < s.heap.size → (∀ z ∈ locs, z.base ≠ q) → U.heap[q]? = s.heap[q]? := by
  obtain ⟨-, h2, -, -, -, h6⟩ := h
  refine ⟨h2, fun q hq hz => ?_⟩
  obtain ⟨c9, e1, e2, e3, e4⟩ := h6 q _ (Array.getElem?_eq_getElem hq)
  have hs : c9.slots = (s.heap[q]).slots := Array.ext_getElem? fun i => e4 i fun hm => hz _ hm rfl
  have h9 : c9 = s.heap[q] := by
    rw [hs] at e2
    exact e2
  have e5 : U.heap[q]? = some c9 := e1
  rw [e5, h9, Array.getElem?_eq_getElem hq]
/-- the words of a throw but the four that speak of the heap -/
def vx_no (w : Cond) : Bool := decide (w ≠ .isRef (.static Bundle.tN "UNASSIGNED_STACK" Bundle.steD)) && decide (w ≠ .isRef (.static Bundle.tN "SUPPRESSED_SENTINEL" Bundle.listD)) && decide (w ≠ .laysStatic Bundle.tN "UNASSIGNED_STACK" Bundle.steD) && decide (w ≠ .laysStatic Bundle.tN "SUPPRESSED_SENTINEL" Bundle.listD)
def vx_at0 (own : String) (ic : Nat) (X : String) (names : List String) : List Cond := (Bundle.ownAtoms0 own ic X names).filter vx_no
def vx_atS (own : String) (ic : Nat) (X : String) (names : List String) : List Cond := (Bundle.ownAtoms own ic X names).filter vx_no
/-- a word that the tables alone decide, or a good one -/
def vx_ot (w : Cond) : Bool := w.onTables || goodWord w
theorem vx_ot_at {args a' : Array Value} {s U : State} {w : Cond} (hW : s.WarmedH U.vm) (hvm : s.vm = U.vm) (hg : vx_ot w = true) (h : w.before args s = true) : w.before a' U = true := by
  simp only [vx_ot, Bool.or_eq_true] at hg
  rcases hg with hg | hg
  · exact va_tabs hg hvm h
  · exact word_at hW (good_of_word hg) h
/-- a list's words: the good ones out of the method's own list, the others by premises of their own -/
theorem vx_hat {args : Array Value} {s : State} {L B : List Cond} (h1 : ∀ w ∈ L.filter goodWord, w.before args s = true) (h2 : ∀ w ∈ L.filter (fun w => !goodWord w), w ∈ B) (h3 : ∀ w ∈ B, w.before args s = true) : ∀ w ∈ L, w.before args s = true := by
  intro w hw
  by_cases g : goodWord w = true
  · exact h1 w (List.mem_filter.mpr ⟨hw, g⟩)
  · refine h3 w (h2 w (List.mem_filter.mpr ⟨hw, ?_⟩))
    show (!goodWord w) = true
    cases hgw : goodWord w
    · rfl
    · exact absurd hgw g
theorem vx_c {args : Array Value} {s : State} {w : Cond} {B : List Cond} (h : w.before args s = true) (t : ∀ w ∈ B, w.before args s = true) : ∀ w' ∈ w :: B, w'.before args s = true := fun w' h' => (List.mem_cons.mp h').elim (fun e => by rw [e]; exact h) (t w')
theorem vx_n {args : Array Value} {s : State} : ∀ w ∈ ([] : List Cond), w.before args s = true := fun _ h => nomatch h
theorem vx_own {args : Array Value} {s : State} {L : List Cond} (h1 : ∀ w ∈ L.filter vx_no, w.before args s = true)
    (hU : (Cond.isRef (.static Bundle.tN "UNASSIGNED_STACK" Bundle.steD)).before args s = true) (hN : (Cond.isRef (.static Bundle.tN "SUPPRESSED_SENTINEL" Bundle.listD)).before args s = true)
    (lU : (Cond.laysStatic Bundle.tN "UNASSIGNED_STACK" Bundle.steD).before args s = true) (lN : (Cond.laysStatic Bundle.tN "SUPPRESSED_SENTINEL" Bundle.listD).before args s = true) : ∀ w ∈ L, w.before args s = true := by
  intro w hw
  by_cases e1 : w = .isRef (.static Bundle.tN "UNASSIGNED_STACK" Bundle.steD)
  · rw [e1]; exact hU
  · by_cases e2 : w = .isRef (.static Bundle.tN "SUPPRESSED_SENTINEL" Bundle.listD)
    · rw [e2]; exact hN
    · by_cases e3 : w = .laysStatic Bundle.tN "UNASSIGNED_STACK" Bundle.steD
      · rw [e3]; exact lU
      · by_cases e4 : w = .laysStatic Bundle.tN "SUPPRESSED_SENTINEL" Bundle.listD
        · rw [e4]; exact lN
        · exact h1 w (List.mem_filter.mpr ⟨hw, by unfold vx_no; rw [decide_eq_true e1, decide_eq_true e2, decide_eq_true e3, decide_eq_true e4]; rfl⟩)
/-- where a static field lies, its class's statics cell in H -/
def vx_L (C n d : String) (A : Nat → Prop) (U : State) (H : Heap) : Prop := ∃ (c : ClassId) (k : Class) (i : Nat) (f : Field) (a : Nat) (cell : Cell), U.vm.findClass C = some c ∧ U.fieldFound? C n d = some (c, k, i, f) ∧ f.isStatic = true ∧ k.statics = some a ∧ H[a]? = some cell ∧ cell.vm.isStatics = true ∧ cell.cls = c ∧ f.slot < cell.slots.size ∧ k.staticTypes[f.slot]? = some f.type ∧ ¬ A a
theorem vx_L.moved {C n d : String} {A : Nat → Prop} {u U : State} {H : Heap} (hvm : u.vm.Alike U.vm) (h : vx_L C n d A u H) : vx_L C n d A U H := by
  obtain ⟨c, k, i, f, a, cell, h1, h2, h3, h4, h5, h6, h7, h8, h9, h10⟩ := h
  obtain ⟨k', hi', he⟩ := State.fieldFound?_setVm hvm h2
  exact ⟨c, k', i, f, a, cell, by rw [hvm.findClass]; exact h1, hi', h3, by rw [he]; exact h4, h5, h6, h7, h8, by rw [he]; exact h9, h10⟩
theorem vx_L.kept {C n d : String} {A : Nat → Prop} {U : State} {H H1 : Heap} (h : vx_L C n d A U H) (hq : ∀ a : Nat, a < H.size → ¬ A a → H1[a]? = H[a]?) : vx_L C n d A U H1 := by
  obtain ⟨c, k, i, f, a, cell, h1, h2, h3, h4, h5, h6, h7, h8, h9, h10⟩ := h
  exact ⟨c, k, i, f, a, cell, h1, h2, h3, h4, by rw [hq a (Array.getElem?_eq_some_iff.mp h5).1 h10]; exact h5, h6, h7, h8, h9, h10⟩
theorem vx_L.narrow {C n d : String} {A B : Nat → Prop} {U : State} {H : Heap} (h : vx_L C n d A U H) (hAB : ∀ q, B q → A q) : vx_L C n d B U H := by
  obtain ⟨c, k, i, f, a, cell, h1, h2, h3, h4, h5, h6, h7, h8, h9, h10⟩ := h
  exact ⟨c, k, i, f, a, cell, h1, h2, h3, h4, h5, h6, h7, h8, h9, fun z => h10 (hAB _ z)⟩
theorem vx_L.word {C n d : String} {A : Nat → Prop} {s : State} {args : Array Value} (h : vx_L C n d A s s.heap) : (Cond.laysStatic C n d).before args s = true := by
  obtain ⟨c, k, i, f, a, cell, h1, h2, h3, h4, h5, h6, h7, h8, h9, -⟩ := h
  show (Cond.laysStatic C n d).holds args s none s [] = true
  exact Cond.laysStatic_of h1 h2 h3 h4 h5 h6 h7 h8 h9
/-- .. and what it holds: null or some reference -/
def vx_Zq (C n d : String) (A : Nat → Prop) (U : State) (H : Heap) : Prop := va_Zq C n d A U H ∧ vx_L C n d A U H
theorem vx_Zq.moved {C n d : String} {A : Nat → Prop} {u U : State} {H : Heap} (hvm : u.vm.Alike U.vm) (h : vx_Zq C n d A u H) : vx_Zq C n d A U H := ⟨va_Zq.moved hvm h.1, vx_L.moved hvm h.2⟩
theorem vx_Zq.kept {C n d : String} {A : Nat → Prop} {U : State} {H H1 : Heap} (h : vx_Zq C n d A U H) (hq : ∀ a : Nat, a < H.size → ¬ A a → H1[a]? = H[a]?) : vx_Zq C n d A U H1 := ⟨va_Zq.kept h.1 hq, vx_L.kept h.2 hq⟩
theorem vx_Zq.narrow {C n d : String} {A B : Nat → Prop} {U : State} {H : Heap} (h : vx_Zq C n d A U H) (hAB : ∀ q, B q → A q) : vx_Zq C n d B U H := ⟨va_Zq.narrow h.1 hAB, vx_L.narrow h.2 hAB⟩
theorem vx_Zqof {args : Array Value} {s : State} {C n d : String} {A : Nat → Prop} (hl : (Cond.laysStatic C n d).before args s = true) (hini : (Cond.initialized C).before args s = true) (h : (Cond.isRef (.static C n d)).before args s = true) (hA : ∀ a : Nat, a < s.heap.size → ¬ A a) : vx_Zq C n d A s s.heap := by
  refine ⟨va_Zqof hl hini h hA, ?_⟩
  obtain ⟨c, k, i, f, a, cell, h1, h2, h3, h4, h5, h6, h7, h8, h9⟩ := Cond.laysStatic_spec hl
  exact ⟨c, k, i, f, a, cell, h1, h2, h3, h4, h5, h6, h7, h8, h9, hA a (Array.getElem?_eq_some_iff.mp h5).1⟩
theorem vx_isRef {C n d : String} {v : Value} {A : Nat → Prop} {s : State} {args : Array Value} (h : va_Z C n d v A s s.heap) (hv : v.isRef = true) : (Cond.isRef (.static C n d)).before args s = true := by
  obtain ⟨cf, kf, fi, f, a, cell, h1, h2, h3, h4, h5, h6, h7, -⟩ := h
  have he : (Term.static C n d).eval args s none [] s = some v := by
    simp [Term.eval, State.fieldNamed?, h1, h2, h4, h5, h6, h7]
  simp only [Cond.before, Cond.holds, Cond.value, he]
  cases v <;> simp_all [Value.isRef]
theorem vx_isRefq {C n d : String} {A : Nat → Prop} {s : State} {args : Array Value} (h : va_Zq C n d A s s.heap) : (Cond.isRef (.static C n d)).before args s = true := by
  rcases h with h | ⟨t, h⟩
  · exact vx_isRef h rfl
  · exact vx_isRef h rfl
/-- the same frame, seen from here: as if the method were called anew in this heap -/
theorem vx_rebase {T : State} (X : Stand p l e R s m args below meth c T locs cells slots) {R' : Room} (hf : R'.frames ≤ R.frames) (hl : R'.locals ≤ R.locals) (hc : cells + R'.cells ≤ R.cells) (hs : slots + R'.slots ≤ R.slots) :
    Stand p l e R' ((T.setVm s.vm).setFrames (.invoking m args :: below)) m args below meth c T [] 0 0 := by
  have htop : (T.setVm s.vm).topJava?.isSome := X.here.top
  have hF : ((T.setVm s.vm).setFrames (.invoking m args :: below)).frames = .invoking m args :: below := State.frames_setFrames _ (State.cur_lt_of_top htop)
  obtain ⟨g₀, hg0⟩ := Option.isSome_iff_exists.mp htop
  obtain ⟨r, hr⟩ := State.topJava?_eq_some.mp hg0
  have hl9 : e.platform.stackLimits (T.setVm s.vm).me = e.platform.stackLimits s.me := X.limits
  have hb9 : (T.setVm s.vm).me.stackBytes = s.me.stackBytes := X.bytes
  refine ⟨X.admits, X.cas, X.clock, hF, ?_, X.hears, X.method, X.code, X.here, X.tail, X.warmed, ?_, ?_, ?_⟩
  · have h := X.room
    have hU : ((T.setVm s.vm).setFrames (.invoking m args :: below)).localsInUse = s.localsInUse := by
      rw [State.localsInUse_invoking hF (meth := meth) (c := c) X.method X.code, State.localsInUse_invoking X.frames X.method X.code]
    simp only [State.hasRoom, Bool.and_eq_true, decide_eq_true_eq] at h ⊢
    obtain ⟨⟨⟨⟨h1, h2, h3, h4, h5, h6⟩, h7⟩, h8⟩, h9⟩ := h
    rw [X.frames, List.length_cons] at h2 h3
    have q1 := X.heapSize
    have q2 := X.used
    simp only [hF, hU, List.length_cons, State.stackLimits_setFrames, State.stackBytes_setFrames, hl9, hb9]
    refine ⟨⟨⟨⟨by omega, by omega, by omega, by omega, by omega, h6⟩, ?_⟩, ?_⟩, X.book⟩
    · show T.heap.size + R'.cells ≤ e.platform.maxCells
      omega
    · show T.slotsUsed + R'.slots ≤ e.platform.maxSlots
      omega
  · rw [State.stackLimits_setFrames]; rfl
  · rw [State.stackBytes_setFrames]; rfl
  · refine ⟨?_, Nat.le_refl _, Nat.le_refl _, ?_, ?_, fun a c9 h9 => ⟨c9, h9, rfl, rfl, fun _ _ => rfl⟩⟩
    · obtain ⟨t, ht, -⟩ := State.frames_cons hr
      show T.setVm s.vm = { ((T.setVm s.vm).setFrames (.invoking m args :: below)).setFrames (T.setVm s.vm).frames with heap := T.heap, slotsUsed := T.slotsUsed }
      rw [State.setFrames_setFrames, State.setFrames_self ht]
      rfl
    · show T.slotsUsed = T.slotsUsed + ((T.heap.toList.drop T.heap.size).map (·.slots.size)).sum
      rw [List.drop_eq_nil_of_le (Nat.le_of_eq Array.length_toList)]
      rfl
    · show ((T.heap.toList.drop T.heap.size).map (·.slots.size)).sum ≤ 0
      rw [List.drop_eq_nil_of_le (Nat.le_of_eq Array.length_toList)]
      exact Nat.le_refl _
/-- 'throw new E()': new; dup; invokespecial; athrow -/
theorem vx_throw0 {cc : ByteArray} {pc : Nat} (hexec : p.tables.exec = Jvm.exec) (hb : c.code = cc) (hl : l.stackTraces = false) {own cls : String} {names : List String} {ik ic mc ms : Nat} {A : Nat → Prop}
    (hown : s.vm.findClass own = some m.cls) (hcls : Bundle.fit cls = true) (hnames : ∀ n ∈ names, Bundle.fit n = true)
    (hk : (Cond.classLink own ik cls).before args s = true) (hini : (Cond.initialized cls).before args s = true) (hat : ∀ w ∈ vx_at0 own ic cls names, w.before args s = true)
    (hgood : ∀ w ∈ Cond.classLink own ik cls :: Cond.initialized cls :: vx_at0 own ic cls names, vx_ot w = true)
    (hU : vx_Zq Bundle.tN "UNASSIGNED_STACK" Bundle.steD A s s.heap) (hN : vx_Zq Bundle.tN "SUPPRESSED_SENTINEL" Bundle.listD A s s.heap) (hS : va_S A s.heap H locs) (hsize : ls.size = c.maxLocals)
    (d0 : decode cc pc = .ok (.new ik, 3)) (d3 : decode cc (pc + 3) = .ok (.dup, 1)) (d4 : decode cc (pc + 4) = .ok (.invokespecial ic, 3)) (d7 : decode cc (pc + 7) = .ok (.athrow, 1))
    (hout : ∀ x ∈ c.exceptionTable.toList, covers x (pc + 7) = false)
    (hRframes : names.length + 3 < R.frames) (hRlocals : (rest.map fun v => v.category).sum + (13 * (names.length + 1) + 42) ≤ R.locals) (hRcells : cells + 1 ≤ R.cells) (hRslots : slots + 6 ≤ R.slots) (hlocks : meth.locks = false)
    (hx : ∀ t : State, s.vm.Alike t.vm → H.size ≤ t.heap.size → (∀ q : Nat, q < H.size → t.heap[q]? = H[q]?) → XC cls s t)
    (hf : ∀ z ∈ locs, free z.base) (hc : cells + 1 ≤ mc) (hs : slots + 6 ≤ ms) :
    W p l e R s m args below meth c H locs cells slots (vx_MQ below Qc XC args s mc ms free) (F0 m pc ls rest) := by
  intro T hT X
  have htr : e.platform.stackTraces = false := (show e.platform.stackTraces = l.stackTraces by rw [X.admits.platform]).trans hl
  have Y := vx_rebase X (R' := { frames := R.frames, locals := R.locals, cells := 1, slots := 6 }) (Nat.le_refl _) (Nat.le_refl _) hRcells hRslots
  obtain ⟨s', hA⟩ : ∃ z, z = (T.setVm s.vm).setFrames (.invoking m args :: below) := ⟨_, rfl⟩
  rw [← hA] at Y
  have hvm : s'.vm = s.vm := by rw [hA]; rfl
  have hhp : s'.heap = H := by rw [hA]; exact hT
  have hW0 : s.WarmedH s'.vm := by rw [hvm]; exact State.WarmedH.refl s
  have hat' : ∀ w ∈ vx_at0 own ic cls names, w.before args s' = true := fun w hw => vx_ot_at hW0 hvm.symm (hgood w (List.mem_cons_of_mem _ (List.mem_cons_of_mem _ hw))) (hat w hw)
  have hk' : (Cond.classLink own ik cls).before args s' = true := vx_ot_at hW0 hvm.symm (hgood _ List.mem_cons_self) hk
  have hini' : (Cond.initialized cls).before args s' = true := vx_ot_at hW0 hvm.symm (hgood _ (List.mem_cons_of_mem _ List.mem_cons_self)) hini
  have hU' : vx_Zq Bundle.tN "UNASSIGNED_STACK" Bundle.steD A s' s'.heap := by rw [hhp]; exact vx_Zq.moved hW0.alike (hU.kept hS.2.1)
  have hN' : vx_Zq Bundle.tN "SUPPRESSED_SENTINEL" Bundle.listD A s' s'.heap := by rw [hhp]; exact vx_Zq.moved hW0.alike (hN.kept hS.2.1)
  have h : ∀ w ∈ Bundle.ownAtoms0 own ic cls names, w.before args s' = true := vx_own hat' (vx_isRefq hU'.1) (vx_isRefq hN'.1) hU'.2.word hN'.2.word
  have hown' : s'.vm.findClass own = some m.cls := by rw [hvm]; exact hown
  have hins : (Cond.instantiable cls 6).before args s' = true := h _ (by simp [Bundle.ownAtoms0])
  obtain ⟨vm₁, cX, kX, hfX, hkX, -, -, X₁, st1⟩ := Y.newCold hexec (own := own) (C := cls) (index := ik) (n := 6) hown' hk' hins hini'
    (g := F0 m pc ls rest) rfl (by rw [hb]; exact d0) (Nat.le_refl _) (Nat.le_refl _)
  generalize hT1 : (T.setVm vm₁).pushCell { cls := cX, slots := kX.instanceTypes.map defaultValue, vm := .none } = T1 at X₁ st1
  have hcat : (Value.ref T.heap.size).category = 1 := rfl
  have hcellA : T1.heap[T.heap.size]? = some (freshCell cX kX) := by rw [← hT1]; exact State.heap_pushCell_size _ _
  have d3' : decode c.code (pc + 3) = .ok (.dup, 1) := by rw [hb]; exact d3
  obtain ⟨U, hsteps, hrun, hend, hW, hsame, ce, hce, hO⟩ := X₁.ctorThrow0 hexec htr (own := own) (cls := cls) (names := names) (ic := ic) hown' hcls hnames h (fun x hx => nomatch hx) hfX hkX hcellA (by rw [hhp, hT]; exact Nat.le_refl _)
    (g := { method := m, pc := pc + 4, locals := ls, stack := .ref T.heap.size :: .ref T.heap.size :: rest, locked := none }) rfl hsize rfl rfl (rest := rest) rfl
    (by rw [hb]; exact d4) (by rw [hb]; exact d7) hout hRframes (by simp only [List.map_cons, List.sum_cons, hcat]; omega) hlocks
  obtain ⟨f1, f2⟩ := vx_frame hsame
  rw [hhp] at f1 f2
  have hWs : s.WarmedH U.vm := State.WarmedH.trans hW0 hW
  have hcl : s.vm.findClass cls = some ce.cls := by
    have h9 := hO.cls
    rw [hvm] at h9
    exact h9
  have hall : s.sameButNew ({ U with vm := s.vm } : State) locs mc ms := by
    subst hA
    obtain ⟨e1, e2⟩ := hsame
    rw [State.setFrames_setFrames] at e1
    have h2 : (T.setVm s.vm).sameButNew ({ U with vm := s.vm } : State) [] (0 + 1) (0 + 6) := ⟨e1, e2⟩
    have h3 := X.same.trans h2
    rw [List.append_nil] at h3
    exact h3.mono hc hs
  refine ⟨U, ?_, .threw T.heap.size, hrun, hend, Or.inr ⟨T.heap.size, rfl, cls, ce, locs, hx U hWs.alike f1 (fun q hq => f2 q hq (fun z hz => nomatch hz)), hce, hO.vm, hcl, hWs, hall, hf⟩⟩
  refine st1 _ ?_
  show Steps p.tables e below (T1.setTop { method := m, pc := pc + 3, locals := ls, stack := .ref T.heap.size :: rest, locked := none }) _
  jvm_step X₁.here [X₁.here.top, hexec, d3', Value.category]
  exact hsteps
/-- 'throw new E("text")': new; dup; ldc; invokespecial; athrow -/
theorem vx_throwS {cc : ByteArray} {pc : Nat} (hexec : p.tables.exec = Jvm.exec) (hb : c.code = cc) (hl : l.stackTraces = false) {own cls text : String} {names : List String} {ik is ic mc ms sa : Nat} {A : Nat → Prop}
    (hown : s.vm.findClass own = some m.cls) (hcls : Bundle.fit cls = true) (hnames : ∀ n ∈ names, Bundle.fit n = true)
    (hk : (Cond.classLink own ik cls).before args s = true) (hini : (Cond.initialized cls).before args s = true) (hstr : vk_R own is text sa s) (hat : ∀ w ∈ vx_atS own ic cls names, w.before args s = true)
    (hgood : ∀ w ∈ Cond.classLink own ik cls :: Cond.initialized cls :: vx_atS own ic cls names, vx_ot w = true)
    (hU : vx_Zq Bundle.tN "UNASSIGNED_STACK" Bundle.steD A s s.heap) (hN : vx_Zq Bundle.tN "SUPPRESSED_SENTINEL" Bundle.listD A s s.heap) (hS : va_S A s.heap H locs) (hsize : ls.size = c.maxLocals)
    (d0 : decode cc pc = .ok (.new ik, 3)) (d3 : decode cc (pc + 3) = .ok (.dup, 1)) (d4 : decode cc (pc + 4) = .ok (.ldc is, 2)) (d6 : decode cc (pc + 6) = .ok (.invokespecial ic, 3)) (d9 : decode cc (pc + 9) = .ok (.athrow, 1))
    (hout : ∀ x ∈ c.exceptionTable.toList, covers x (pc + 9) = false)
    (hRframes : names.length + 3 < R.frames) (hRlocals : (rest.map fun v => v.category).sum + (13 * (names.length + 1) + 43) ≤ R.locals) (hRcells : cells + 1 ≤ R.cells) (hRslots : slots + 6 ≤ R.slots) (hlocks : meth.locks = false)
    (hx : ∀ t : State, s.vm.Alike t.vm → H.size ≤ t.heap.size → (∀ q : Nat, q < H.size → t.heap[q]? = H[q]?) → XC cls s t)
    (hf : ∀ z ∈ locs, free z.base) (hc : cells + 1 ≤ mc) (hs : slots + 6 ≤ ms) :
    W p l e R s m args below meth c H locs cells slots (vx_MQ below Qc XC args s mc ms free) (F0 m pc ls rest) := by
  intro T hT X
  have htr : e.platform.stackTraces = false := (show e.platform.stackTraces = l.stackTraces by rw [X.admits.platform]).trans hl
  have Y := vx_rebase X (R' := { frames := R.frames, locals := R.locals, cells := 1, slots := 6 }) (Nat.le_refl _) (Nat.le_refl _) hRcells hRslots
  obtain ⟨s', hA⟩ : ∃ z, z = (T.setVm s.vm).setFrames (.invoking m args :: below) := ⟨_, rfl⟩
  rw [← hA] at Y
  have hvm : s'.vm = s.vm := by rw [hA]; rfl
  have hhp : s'.heap = H := by rw [hA]; exact hT
  have hW0 : s.WarmedH s'.vm := by rw [hvm]; exact State.WarmedH.refl s
  have hat' : ∀ w ∈ vx_atS own ic cls names, w.before args s' = true := fun w hw => vx_ot_at hW0 hvm.symm (hgood w (List.mem_cons_of_mem _ (List.mem_cons_of_mem _ hw))) (hat w hw)
  have hk' : (Cond.classLink own ik cls).before args s' = true := vx_ot_at hW0 hvm.symm (hgood _ List.mem_cons_self) hk
  have hini' : (Cond.initialized cls).before args s' = true := vx_ot_at hW0 hvm.symm (hgood _ (List.mem_cons_of_mem _ List.mem_cons_self)) hini
  have hU' : vx_Zq Bundle.tN "UNASSIGNED_STACK" Bundle.steD A s' s'.heap := by rw [hhp]; exact vx_Zq.moved hW0.alike (hU.kept hS.2.1)
  have hN' : vx_Zq Bundle.tN "SUPPRESSED_SENTINEL" Bundle.listD A s' s'.heap := by rw [hhp]; exact vx_Zq.moved hW0.alike (hN.kept hS.2.1)
  have h : ∀ w ∈ Bundle.ownAtoms own ic cls names, w.before args s' = true := vx_own hat' (vx_isRefq hU'.1) (vx_isRefq hN'.1) hU'.2.word hN'.2.word
  have hown' : s'.vm.findClass own = some m.cls := by rw [hvm]; exact hown
  have hins : (Cond.instantiable cls 6).before args s' = true := h _ (by simp [Bundle.ownAtoms])
  obtain ⟨vm₁, cX, kX, hfX, hkX, -, -, X₁, st1⟩ := Y.newCold hexec (own := own) (C := cls) (index := ik) (n := 6) hown' hk' hins hini'
    (g := F0 m pc ls rest) rfl (by rw [hb]; exact d0) (Nat.le_refl _) (Nat.le_refl _)
  generalize hT1 : (T.setVm vm₁).pushCell { cls := cX, slots := kX.instanceTypes.map defaultValue, vm := .none } = T1 at X₁ st1
  have hcat : (Value.ref T.heap.size).category = 1 := rfl
  have hcellA : T1.heap[T.heap.size]? = some (freshCell cX kX) := by rw [← hT1]; exact State.heap_pushCell_size _ _
  have d3' : decode c.code (pc + 3) = .ok (.dup, 1) := by rw [hb]; exact d3
  have d4' : decode c.code (pc + 4) = .ok (.ldc is, 2) := by rw [hb]; exact d4
  have hstr' : vk_R own is text sa s' := vk_R.warm hW0 hstr
  obtain ⟨U, hsteps, hrun, hend, hW, hsame, ce, hce, hO⟩ := X₁.ctorThrowS hexec htr (own := own) (cls := cls) (names := names) (ic := ic) hown' hcls hnames h (fun x hx => nomatch hx) hfX hkX hcellA (by rw [hhp, hT]; exact Nat.le_refl _) (msg := .ref sa) rfl
    (g := { method := m, pc := pc + 6, locals := ls, stack := .ref sa :: .ref T.heap.size :: .ref T.heap.size :: rest, locked := none }) rfl hsize rfl rfl (rest := rest) rfl
    (by rw [hb]; exact d6) (by rw [hb]; exact d9) hout hRframes (by simp only [List.map_cons, List.sum_cons, hcat]; omega) hlocks
  obtain ⟨f1, f2⟩ := vx_frame hsame
  rw [hhp] at f1 f2
  have hWs : s.WarmedH U.vm := State.WarmedH.trans hW0 hW
  have hcl : s.vm.findClass cls = some ce.cls := by
    have h9 := hO.cls
    rw [hvm] at h9
    exact h9
  have hall : s.sameButNew ({ U with vm := s.vm } : State) locs mc ms := by
    subst hA
    obtain ⟨e1, e2⟩ := hsame
    rw [State.setFrames_setFrames] at e1
    have h2 : (T.setVm s.vm).sameButNew ({ U with vm := s.vm } : State) [] (0 + 1) (0 + 6) := ⟨e1, e2⟩
    have h3 := X.same.trans h2
    rw [List.append_nil] at h3
    exact h3.mono hc hs
  refine ⟨U, ?_, .threw T.heap.size, hrun, hend, Or.inr ⟨T.heap.size, rfl, cls, ce, locs, hx U hWs.alike f1 (fun q hq => f2 q hq (fun z hz => nomatch hz)), hce, hO.vm, hcl, hWs, hall, hf⟩⟩
  refine st1 _ ?_
  show Steps p.tables e below (T1.setTop { method := m, pc := pc + 3, locals := ls, stack := .ref T.heap.size :: rest, locked := none }) _
  jvm_step X₁.here [X₁.here.top, hexec, d3', Value.category]
  exact X₁.ldcString hexec (own := own) (text := text) (index := is) (a := sa) hown' hstr'.1 hstr'.2
    (g := { method := m, pc := pc + 4, locals := ls, stack := .ref T.heap.size :: .ref T.heap.size :: rest, locked := none }) rfl d4' _ hsteps
/-- 'throw new E("text")', the text by a wide index -/
theorem vx_throwSW {cc : ByteArray} {pc : Nat} (hexec : p.tables.exec = Jvm.exec) (hb : c.code = cc) (hl : l.stackTraces = false) {own cls text : String} {names : List String} {ik is ic mc ms sa : Nat} {A : Nat → Prop}
    (hown : s.vm.findClass own = some m.cls) (hcls : Bundle.fit cls = true) (hnames : ∀ n ∈ names, Bundle.fit n = true)
    (hk : (Cond.classLink own ik cls).before args s = true) (hini : (Cond.initialized cls).before args s = true) (hstr : vk_R own is text sa s) (hat : ∀ w ∈ vx_atS own ic cls names, w.before args s = true)
    (hgood : ∀ w ∈ Cond.classLink own ik cls :: Cond.initialized cls :: vx_atS own ic cls names, vx_ot w = true)
    (hU : vx_Zq Bundle.tN "UNASSIGNED_STACK" Bundle.steD A s s.heap) (hN : vx_Zq Bundle.tN "SUPPRESSED_SENTINEL" Bundle.listD A s s.heap) (hS : va_S A s.heap H locs) (hsize : ls.size = c.maxLocals)
    (d0 : decode cc pc = .ok (.new ik, 3)) (d3 : decode cc (pc + 3) = .ok (.dup, 1)) (d4 : decode cc (pc + 4) = .ok (.ldc_w is, 3)) (d7 : decode cc (pc + 7) = .ok (.invokespecial ic, 3)) (d10 : decode cc (pc + 10) = .ok (.athrow, 1))
    (hout : ∀ x ∈ c.exceptionTable.toList, covers x (pc + 10) = false)
    (hRframes : names.length + 3 < R.frames) (hRlocals : (rest.map fun v => v.category).sum + (13 * (names.length + 1) + 43) ≤ R.locals) (hRcells : cells + 1 ≤ R.cells) (hRslots : slots + 6 ≤ R.slots) (hlocks : meth.locks = false)
    (hx : ∀ t : State, s.vm.Alike t.vm → H.size ≤ t.heap.size → (∀ q : Nat, q < H.size → t.heap[q]? = H[q]?) → XC cls s t)
    (hf : ∀ z ∈ locs, free z.base) (hc : cells + 1 ≤ mc) (hs : slots + 6 ≤ ms) :
    W p l e R s m args below meth c H locs cells slots (vx_MQ below Qc XC args s mc ms free) (F0 m pc ls rest) := by
  intro T hT X
  have htr : e.platform.stackTraces = false := (show e.platform.stackTraces = l.stackTraces by rw [X.admits.platform]).trans hl
  have Y := vx_rebase X (R' := { frames := R.frames, locals := R.locals, cells := 1, slots := 6 }) (Nat.le_refl _) (Nat.le_refl _) hRcells hRslots
  obtain ⟨s', hA⟩ : ∃ z, z = (T.setVm s.vm).setFrames (.invoking m args :: below) := ⟨_, rfl⟩
  rw [← hA] at Y
  have hvm : s'.vm = s.vm := by rw [hA]; rfl
  have hhp : s'.heap = H := by rw [hA]; exact hT
  have hW0 : s.WarmedH s'.vm := by rw [hvm]; exact State.WarmedH.refl s
  have hat' : ∀ w ∈ vx_atS own ic cls names, w.before args s' = true := fun w hw => vx_ot_at hW0 hvm.symm (hgood w (List.mem_cons_of_mem _ (List.mem_cons_of_mem _ hw))) (hat w hw)
  have hk' : (Cond.classLink own ik cls).before args s' = true := vx_ot_at hW0 hvm.symm (hgood _ List.mem_cons_self) hk
  have hini' : (Cond.initialized cls).before args s' = true := vx_ot_at hW0 hvm.symm (hgood _ (List.mem_cons_of_mem _ List.mem_cons_self)) hini
  have hU' : vx_Zq Bundle.tN "UNASSIGNED_STACK" Bundle.steD A s' s'.heap := by rw [hhp]; exact vx_Zq.moved hW0.alike (hU.kept hS.2.1)
  have hN' : vx_Zq Bundle.tN "SUPPRESSED_SENTINEL" Bundle.listD A s' s'.heap := by rw [hhp]; exact vx_Zq.moved hW0.alike (hN.kept hS.2.1)
  have h : ∀ w ∈ Bundle.ownAtoms own ic cls names, w.before args s' = true := vx_own hat' (vx_isRefq hU'.1) (vx_isRefq hN'.1) hU'.2.word hN'.2.word
  have hown' : s'.vm.findClass own = some m.cls := by rw [hvm]; exact hown
  have hins : (Cond.instantiable cls 6).before args s' = true := h _ (by simp [Bundle.ownAtoms])
  obtain ⟨vm₁, cX, kX, hfX, hkX, -, -, X₁, st1⟩ := Y.newCold hexec (own := own) (C := cls) (index := ik) (n := 6) hown' hk' hins hini'
    (g := F0 m pc ls rest) rfl (by rw [hb]; exact d0) (Nat.le_refl _) (Nat.le_refl _)
  generalize hT1 : (T.setVm vm₁).pushCell { cls := cX, slots := kX.instanceTypes.map defaultValue, vm := .none } = T1 at X₁ st1
  have hcat : (Value.ref T.heap.size).category = 1 := rfl
  have hcellA : T1.heap[T.heap.size]? = some (freshCell cX kX) := by rw [← hT1]; exact State.heap_pushCell_size _ _
  have d3' : decode c.code (pc + 3) = .ok (.dup, 1) := by rw [hb]; exact d3
  have d4' : decode c.code (pc + 4) = .ok (.ldc_w is, 3) := by rw [hb]; exact d4
  have hstr' : vk_R own is text sa s' := vk_R.warm hW0 hstr
  obtain ⟨U, hsteps, hrun, hend, hW, hsame, ce, hce, hO⟩ := X₁.ctorThrowS hexec htr (own := own) (cls := cls) (names := names) (ic := ic) hown' hcls hnames h (fun x hx => nomatch hx) hfX hkX hcellA (by rw [hhp, hT]; exact Nat.le_refl _) (msg := .ref sa) rfl
    (g := { method := m, pc := pc + 7, locals := ls, stack := .ref sa :: .ref T.heap.size :: .ref T.heap.size :: rest, locked := none }) rfl hsize rfl rfl (rest := rest) rfl
    (by rw [hb]; exact d7) (by rw [hb]; exact d10) hout hRframes (by simp only [List.map_cons, List.sum_cons, hcat]; omega) hlocks
  obtain ⟨f1, f2⟩ := vx_frame hsame
  rw [hhp] at f1 f2
  have hWs : s.WarmedH U.vm := State.WarmedH.trans hW0 hW
  have hcl : s.vm.findClass cls = some ce.cls := by
    have h9 := hO.cls
    rw [hvm] at h9
    exact h9
  have hall : s.sameButNew ({ U with vm := s.vm } : State) locs mc ms := by
    subst hA
    obtain ⟨e1, e2⟩ := hsame
    rw [State.setFrames_setFrames] at e1
    have h2 : (T.setVm s.vm).sameButNew ({ U with vm := s.vm } : State) [] (0 + 1) (0 + 6) := ⟨e1, e2⟩
    have h3 := X.same.trans h2
    rw [List.append_nil] at h3
    exact h3.mono hc hs
  refine ⟨U, ?_, .threw T.heap.size, hrun, hend, Or.inr ⟨T.heap.size, rfl, cls, ce, locs, hx U hWs.alike f1 (fun q hq => f2 q hq (fun z hz => nomatch hz)), hce, hO.vm, hcl, hWs, hall, hf⟩⟩
  refine st1 _ ?_
  show Steps p.tables e below (T1.setTop { method := m, pc := pc + 3, locals := ls, stack := .ref T.heap.size :: rest, locked := none }) _
  jvm_step X₁.here [X₁.here.top, hexec, d3', Value.category]
  exact X₁.ldcStringW hexec (own := own) (text := text) (index := is) (a := sa) hown' hstr'.1 hstr'.2
    (g := { method := m, pc := pc + 4, locals := ls, stack := .ref T.heap.size :: .ref T.heap.size :: rest, locked := none }) rfl d4' _ hsteps
end Ends
section Bodies
variable {l : Launch}
theorem vx_ofW {y : MethodName} {ws ws' : List Cond} {rm : Room} {Pc : Array Value → State → Prop} {Qc : Array Value → State → Outcome → State → Prop} {XC : String → State → State → Prop} {mc ms : Nat} {free : Addr → Prop} {cc : ByteArray} {maxL : Nat} {ret : Option FieldType}
    (hy : plainName y.cls = true) (hw : ws = Cond.code y cc maxL ret :: ws')
    (body : ∀ p e s m args below meth c s₁, BodyLoose p l y (headSpec ws rm) cc maxL ret e s m args below meth c s₁ → c.maxLocals = maxL → (∀ x ∈ c.exceptionTable.toList, False) → Pc args s →
      W p l e (headSpec ws rm).room s m args below meth c s.heap [] 0 0 (vx_MQ below Qc XC args s mc ms free) (entryFrame m args maxL)) : vx_Met l y ws rm Pc Qc XC mc ms free := by
  refine MetFree.of_bodyS (code := cc) (maxLocals := maxL) (ret := ret) hy ?_ ?_
  · intro args s m h hn
    obtain ⟨meth, c, h1, h2, h3, h4, h5, h6, -, -⟩ := Cond.code_spec hn (atoms_spec (ws := ws) h _ (by rw [hw]; exact List.mem_cons_self))
    exact ⟨meth, c, h1, h2, h3, h4, h5, h6⟩
  · intro p e s m args below meth c s₁ B hml hP _
    have hh0 : s₁.heap = s.heap := by rw [B.state]; rfl
    have ht : ∀ x ∈ c.exceptionTable.toList, False := by
      obtain ⟨meth9, c9, h1, h2, -, -, -, -, h7, -⟩ := Cond.code_spec B.named (atoms_spec (ws := ws) B.pre _ (by rw [hw]; exact List.mem_cons_self))
      cases Option.some.inj (h1.symm.trans B.method)
      cases Option.some.inj (h2.symm.trans (Stand.of_body B).code)
      intro x hx
      rw [Array.isEmpty_iff.mp h7] at hx
      cases hx
    obtain ⟨t, a1, o, b1, b2, b3⟩ := body p e s m args below meth c s₁ B hml ht hP s₁ hh0 (Stand.of_body B)
    exact ⟨t, o, a1, b1, b2, b3⟩
/-- the table of a body with handlers -/
theorem vx_table {p : Program} {x y : MethodName} {S : Spec} {cc bytes : ByteArray} {maxL maxL' : Nat} {ret ret' : Option FieldType} {e : Env} {s s₁ : State} {m : MethodId} {args : Array Value} {below : List Frame} {meth : Method} {c : Code} {hh : List (Nat × Nat × Nat × Nat)}
    (B : BodyLoose p l y S cc maxL ret e s m args below meth c s₁) (h : (Cond.codeWith y bytes maxL' ret' hh).before args s = true) : c.exceptionTable.toList = tableOf hh := by
  obtain ⟨m9, meth9, c9, hn9, h1, h2, -, -, h6, -⟩ := Cond.codeWith_spec h
  cases Option.some.inj (hn9.symm.trans B.named)
  cases Option.some.inj (h1.symm.trans B.method)
  cases Option.some.inj (h2.symm.trans (Stand.of_body B).code)
  rw [← h6, table_eq]
end Bodies
end VXA
/-! ===== END ===== -/
/-! ===== BEGIN a static call of a method with an exception table ===== -/
section VXS
variable {p : Program} {l : Launch} {e : Env} {R : Room} {s : State} {m : MethodId} {args : Array Value} {below : List Frame} {meth : Method} {c : Code} {T : State} {H : Heap} {locs : List Loc} {cells slots : Nat}
abbrev vx_CSW (R : Room) (s : State) (args : Array Value) (own : String) (index : Nat) (y : MethodName) (bytes : ByteArray) (maxL : Nat) (ret : Option FieldType) (hh : List (Nat × Nat × Nat × Nat)) (ws : List Cond) (rm : Room) (mc ms n : Nat) : Prop :=
  (rm.cells = mc ∧ rm.slots = ms ∧ rm.frames + 1 ≤ R.frames ∧ 8 + (maxL + 11) + rm.locals ≤ R.locals ∧ (∀ w ∈ ws, ∀ (a' : Array Value) (U : State), s.WarmedH U.vm → w.before a' U = true) ∧ Cond.codeWith y bytes maxL ret hh ∈ ws) ∧
  (Cond.codeWith y bytes maxL ret hh).before args s = true ∧ (Cond.initialized y.cls).before args s = true ∧ (y.cls ≠ "java/lang/invoke/MethodHandle" ∧ y.cls ≠ "java/lang/invoke/VarHandle") ∧
  (∀ sig, parseMethodDescriptor y.desc = some sig → n = sig.parameters.length) ∧ (Cond.methodLink own index y).before args s = true ∧ (Cond.static y).before args s = true
theorem vx_cwSW {own : String} {index maxL mc ms : Nat} {y : MethodName} {bytes : ByteArray} {ret : Option FieldType} {hh : List (Nat × Nat × Nat × Nat)} {Ts ws ws' : List Cond} {rm : Room} (n : Nat) (ht : ∀ w ∈ Ts, w.before args s = true) (hT : GoodIn Ts (va_wsS own index y ws)) (hw : ws = Cond.codeWith y bytes maxL ret hh :: ws') (hrc : rm.cells = mc) (hrs : rm.slots = ms)
    (hd : y.cls ≠ "java/lang/invoke/MethodHandle" ∧ y.cls ≠ "java/lang/invoke/VarHandle" ∧ (parseMethodDescriptor y.desc).map (fun d => d.parameters.length) = some n) (hR : rm.frames + 1 ≤ R.frames ∧ 8 + (maxL + 11) + rm.locals ≤ R.locals) :
    vx_CSW R s args own index y bytes maxL ret hh ws rm mc ms n := by
  have ok : ∀ w ∈ va_wsS own index y ws, w.before args s = true := fun w h => ht w (hT w h).1
  have hG : GoodIn Ts ws := fun w h => hT w (by unfold va_wsS; exact List.mem_append_right _ h)
  have hc : Cond.codeWith y bytes maxL ret hh ∈ ws := by rw [hw]; exact List.mem_cons_self
  refine ⟨⟨hrc, hrs, hR.1, hR.2, pay_in ht hG, hc⟩, ht _ (hG _ hc).1, ok _ (by simp [va_wsS]), ⟨hd.1, hd.2.1⟩, fun sig h => ?_, ok _ (by simp [va_wsS]), ok _ (by simp [va_wsS])⟩
  have h2 := hd.2.2
  rw [h] at h2
  exact (Option.some.inj h2).symm
theorem vx_callSW (X : Stand p l e R s m args below meth c T locs cells slots) (hexec : p.tables.exec = Jvm.exec) {own : String} {index : Nat} {y : MethodName} {bytes : ByteArray} {maxL : Nat} {ret : Option FieldType} {hh : List (Nat × Nat × Nat × Nat)}
    (hown : s.vm.findClass own = some m.cls) (hlink : (Cond.methodLink own index y).before args s = true) (hstat : (Cond.static y).before args s = true) (hinit : (Cond.initialized y.cls).before args s = true)
    (hcode : (Cond.codeWith y bytes maxL ret hh).before args s = true) (hy : y.cls ≠ "java/lang/invoke/MethodHandle" ∧ y.cls ≠ "java/lang/invoke/VarHandle")
    {W9 : Nat} {Pre : Pt → Array Value → Prop} {Post : Pt → Array Value → Option Value → Pt → Prop} (hK : Back l R p e below s args y 3 W9 Pre Post)
    {g : JFrame} (hg : g.method = m) (hsize : g.locals.size = c.maxLocals) {argsL rest : List Value} (hlen : ∀ sig, parseMethodDescriptor y.desc = some sig → argsL.length = sig.parameters.length)
    (hstack : g.stack = argsL.reverse ++ rest) (hW : 2 * g.monitorRoom + (rest.map fun v => v.category).sum ≤ W9) (hdg : decode c.code g.pc = .ok (.invokestatic index, 3))
    (hpre : ∀ vm₁, s.WarmedH vm₁ → Pre ⟨T.setVm vm₁, locs, cells, slots⟩ argsL.toArray) :
    ∃ (v : Option Value) (vm₁ : Vm) (B : Pt), s.WarmedH vm₁ ∧ Stand p l e R s m args below meth c B.U B.locs B.cells B.slots ∧ Post ⟨T.setVm vm₁, locs, cells, slots⟩ argsL.toArray v B ∧
      ∀ target, Steps p.tables e below (B.U.setTop { g with pc := g.pc + 3, stack := v.toList ++ rest }) target → Steps p.tables e below (T.setTop g) target := by
  obtain ⟨mk, methM, cM, hnamed, hmethM, -, -, -, -, -, -, hsigM⟩ := Cond.codeWith_spec hcode
  have hstatic : methM.isStatic = true := Cond.static_spec hnamed hmethM hstat
  obtain ⟨kP, hkP, -⟩ := className_of_methodNamed hnamed
  have hinitP : kP.init = .initialized := Cond.initialized_spec (findClass_of_methodNamed hnamed) hkP hinit
  obtain ⟨vm₁, X₁, hstep₁⟩ := X.invokestatic hexec hown hlink hnamed hmethM hstatic hkP hinitP hy (g := g) hg (argsL := argsL) (rest := rest) (hlen _ hsigM) hstack hdg
  obtain ⟨v, B, X', hpost, hsteps⟩ := hK m meth c ⟨T.setVm vm₁, locs, cells, slots⟩ { g with stack := rest } (.invokestatic index) mk argsL.toArray X₁ hg hsize hdg hW (X₁.named hnamed) (hpre vm₁ X₁.warmed)
  exact ⟨v, vm₁, B, X₁.warmed, X', hpost, fun target h => hstep₁ _ fun acts => by rw [doInvoke_state]; exact hsteps.trans h⟩
theorem vx_runSW {y : MethodName} {bytes cc : ByteArray} {maxL nL mc ms n index : Nat} {ret : Option FieldType} {hh : List (Nat × Nat × Nat × Nat)} {ws : List Cond} {rm : Room} {Pc : Array Value → State → Prop} {Qc : Array Value → State → Outcome → State → Prop} {free : Addr → Prop} {Ts : List Cond} {own : String} {As rest : List Value} {g : JFrame}
    (S : CallFix p m c cc nL s args Ts own) (hM : Met l y ws rm Pc Qc mc ms free) (cw : vx_CSW R s args own index y bytes maxL ret hh ws rm mc ms n) (hp : PreS s H Pc As)
    (hg : g.method = m) (hn : As.length = n) (hsize : g.locals.size = nL) (hstack : g.stack = As.reverse ++ rest) (hW : 2 * g.monitorRoom + (rest.map fun v => v.category).sum ≤ 8) (hdg : decode cc g.pc = .ok (.invokestatic index, 3)) (hf : cells + mc ≤ R.cells ∧ slots + ms ≤ R.slots) :
    va_Run p l e R s m args below meth c H locs cells slots mc ms g rest (Qc As.toArray) (free) := by
  obtain ⟨⟨hrc, hrs, hfr, hlo, hws, hcw⟩, hcode, hini, hy, hlen, hl, hstt⟩ := cw
  have hK : Back l R p e below s args y 3 8 (PreOf R mc ms Pc) (PostOf Qc mc ms free) := va_backW (hh := hh) (bytes := bytes) (maxL := maxL) (ret := ret) hM hp.1 hrc hrs hfr hlo hws hcw (fun a' U hW => word_at hW (Or.inl (by first | rfl | simp [Cond.onTables, Cond.keeps, Cond.steady])) hini)
  obtain ⟨hx, hb, hml, ho, -⟩ := S
  intro T hT X
  obtain ⟨v, vm₁, ⟨U', l2, c2, s2⟩, hW₁, X', ⟨g', mk, t, L, e1, e2, hq, h1, hL, h2, h3⟩, st⟩ := vx_callSW X hx (hh := hh) (bytes := bytes) (maxL := maxL) (ret := ret) ho hl hstt hini hcode hy hK hg (hsize.trans hml.symm) (argsL := As) (rest := rest) (fun sig h => hn.trans (hlen sig h)) hstack hW (by rw [hb]; exact hdg)
    (fun vm₁ hW₁ => ⟨hf.1, hf.2, hp.2 (T.setVm vm₁) hT hW₁⟩)
  dsimp only [Pt.U, Pt.locs, Pt.cells, Pt.slots] at X' e1 e2 h1 h2 h3 st
  subst h1; subst h2; subst h3
  exact ⟨v, (T.setVm vm₁).calling g' mk As.toArray, t, U', L, hT, X', hL, e1, e2, hq, st⟩
/-- not caught here, past rows that name other classes: it goes on to the caller -/
theorem vx_outP {p : Program} {l : Launch} {e : Env} {R : Room} {s : State} {m : MethodId} {args : Array Value} {below : List Frame} {meth : Method} {c : Code} {H : Heap} {locs : List Loc} {cells slots : Nat} {free : Addr → Prop} {ls : Array Slot} {rest : List Value} {Qc : Array Value → State → Outcome → State → Prop} {XC : String → State → State → Prop}
    {pc : Nat} {own E : String} {ce : Cell} {q : Addr} {mc ms : Nat} (hown : s.vm.findClass own = some m.cls) (hlocks : meth.locks = false)
    (hpass : ∀ z ∈ c.exceptionTable.toList, covers z pc = false ∨ (z.catchType ≠ 0 ∧ ∃ nm : String, (Cond.classLink own z.catchType nm).before args s = true ∧ va_Nc E nm s)) (hcell : H[q]? = some ce) (hv : ce.vm = .none) (hcl : s.vm.findClass E = some ce.cls)
    (hx : ∀ t : State, t.heap = H → s.vm.Alike t.vm → XC E s t) (hf : ∀ z ∈ locs, free z.base) (hc : cells ≤ mc) (hs : slots ≤ ms) :
    vx_W p l e R s m args below meth c H locs cells slots (vx_MQ below Qc XC args s mc ms free) (F0 m pc ls rest) q := by
  intro T hT X
  have hpl : e.platform.magicAccessors = ({} : Platform).magicAccessors := by rw [X.admits.platform]
  obtain ⟨vm', hW', X', st⟩ := X.outThrough hlocks q (g := F0 m pc ls rest) rfl rfl rfl (cell := ce) (by rw [hT]; exact hcell) (by rw [hv]; rfl)
    (by obtain ⟨k9, h9, -⟩ := Vm.findClass_spec hcl; exact ⟨k9, h9⟩) (fun z hz => by
      rcases hpass z hz with h | ⟨hz0, nm, hl1, hn1⟩
      · exact Or.inl h
      · obtain ⟨c6, hc6, hcl6⟩ := Cond.classLink_spec hown hl1 e.platform hpl
        obtain ⟨a8, b8, h1, h2, h3⟩ := hn1
        cases Option.some.inj (h1.symm.trans hcl)
        cases Option.some.inj (h2.symm.trans hc6)
        exact Or.inr ⟨hz0, _, hcl6, h3⟩)
  obtain ⟨g₀, hfr⟩ := X'.frames_eq
  have hcell9 : ((T.setVm vm').setFrames (.throwing q :: below)).heap[q]? = some ce := by
    show T.heap[q]? = some ce
    rw [hT]; exact hcell
  have hend : Ended ((T.setVm vm').setFrames (.throwing q :: below)) below (.threw q) := State.frames_setFrames _ (State.cur_lt_of_frames hfr)
  refine ⟨(T.setVm vm').setFrames (.throwing q :: below), ?_, .threw q, X'.here.running, hend, Or.inr ⟨q, rfl, E, ce, locs, hx _ hT (X'.ends _).1.alike, hcell9, hv, hcl, (X'.ends _).1, (X'.ends _).2.mono hc hs, hf⟩⟩
  rw [X.pushThrowing_eq]
  exact st
/-- a thing of a world lies in the heap -/
theorem vx_lt {D : va_G} {cl : List vw_C} {ws : va_W} {H1 : Heap} (h : va_P D cl ws H1) {k : Nat} {q : Nat × va_E} (hk : ws[k]? = some q) : q.1 < H1.size := (h k q hk).lt
end VXS
/-! ===== END ===== -/
/-! ===== BEGIN methods with a table of their own: called by a name, returning or throwing ===== -/
section VXH
/-! vx_backW, vx_callVX, vx_callSX, vx_callVW, vx_runVW, vx_runVX, vx_runSX, vx_ofWH follow the same proofs as their sisters above (Free/Laws.lean, Shelf42/LK1.lean); vx_outP calls Shelf42/NT130.lean (outThrough). -/
section
variable {l : Launch} {R : Room} {p : Program} {e : Env} {below : List Frame} {s : State} {sargs : Array Value} {y : MethodName} {len W9 : Nat}
theorem vx_backW {ws : List Cond} {rm : Room} {Pc : Array Value → State → Prop} {Qc : Array Value → State → Outcome → State → Prop} {XC : String → State → State → Prop} {mc ms : Nat} {free : Addr → Prop} {bytes : ByteArray} {maxL : Nat} {ret : Option FieldType} {hh : List (Nat × Nat × Nat × Nat)}
    (hM : vx_Met l y ws rm Pc Qc XC mc ms free) (hblind : FrameBlind Pc) (hrc : rm.cells = mc) (hrs : rm.slots = ms)
    (hframes : rm.frames + 1 ≤ R.frames) (hlocals : W9 + (maxL + 11) + rm.locals ≤ R.locals)
    (hws : ∀ w ∈ ws, ∀ a' U, s.WarmedH U.vm → w.before a' U = true) (hcode : Cond.codeWith y bytes maxL ret hh ∈ ws) (hinit : ∀ a' U, s.WarmedH U.vm → (Cond.initialized y.cls).before a' U = true) :
    vx_Back l R p e below s sargs y len W9 (PreOf R mc ms Pc) (PostOf Qc mc ms free) (vx_Post XC mc ms free) := by
  intro m meth c A g ig mk a X hg hsize hdg hW hn hp
  have h1 : (headSpec ws rm).pre.before a A.U = true := atoms_intro fun w hw => hws w hw _ _ X.warmed
  have h2 : (Cond.codeWith y bytes maxL ret hh).before a A.U = true := hws _ hcode _ _ X.warmed
  have h3 : (Cond.initialized y.cls).before a A.U = true := hinit _ _ X.warmed
  have h4 : A.cells + (headSpec ws rm).room.cells ≤ R.cells := by rw [show (headSpec ws rm).room.cells = mc from hrc]; exact hp.1
  have h5 : A.slots + (headSpec ws rm).room.slots ≤ R.slots := by rw [show (headSpec ws rm).room.slots = ms from hrs]; exact hp.2.1
  have hPc : Pc a (A.U.calling g mk a) := hblind _ _ _ _ hp.2.2
  obtain ⟨U, Ls, c0, s0⟩ := A
  dsimp only [Pt.U, Pt.locs, Pt.cells, Pt.slots] at h1 h2 h3 h4 h5 X hn hPc ⊢
  obtain ⟨m9, methY, cY, hn9, hmY, hcY, -, hlY, -⟩ := Cond.codeWith_spec h2
  cases Option.some.inj (hn9.symm.trans hn)
  obtain ⟨kY, hkY, -⟩ := className_of_methodNamed hn
  have hinitY : kY.init = .initialized := Cond.initialized_spec (findClass_of_methodNamed hn) hkY h3
  have h : At U g.method c below := by rw [hg]; exact X.here
  have hlocals9 : W9 + (maxL + 11) + (headSpec ws rm).room.locals ≤ R.locals := hlocals
  have happ : (headSpec ws rm).appliesLoose y e.platform (U.calling g mk a) = true :=
    Spec.appliesLoose_calling (g := g) h hdg hn hkY hinitY
      (X.room_calling (g := g) (R' := (headSpec ws rm).room) hsize hmY hcY hframes (by rw [hlY]; omega) h4 h5) h1
  obtain ⟨mid, hmid⟩ := h.above
  have hfr : (U.setTop g).frames = (.java g :: mid) ++ below := by rw [State.frames_setTop' g h.top, hmid]; rfl
  obtain ⟨o, s₂, hsteps, -, hend, hq⟩ := Steps.callFree hM p X.admits X.cas X.clock (acts := []) hfr happ hPc trivial
  have hq' : vx_Q Qc XC mc ms free a (U.calling g mk a) o s₂ := hq
  rw [State.frames_setTop' g h.top] at hend
  obtain ⟨g₀, hg0⟩ := Option.isSome_iff_exists.mp h.top
  obtain ⟨r, hr⟩ := State.topJava?_eq_some.mp hg0
  have hr' : (({ U with heap := s₂.heap, slotsUsed := s₂.slotsUsed } : State).setVm s₂.vm).frames = .java g₀ :: r := hr
  rcases hq' with ⟨hqc, L, hfe, hL⟩ | ⟨q, rfl, E, ce, L, hx, hce, hcv, hcl, hW₂, hsm, hL⟩
  · obtain ⟨⟨v, rfl⟩, hW₂, e2, q2, q3, q4, q5, q6⟩ := id hfe
    have e3 : s₂ = ({ (U.calling g mk a).setFrames s₂.frames with heap := s₂.heap, slotsUsed := s₂.slotsUsed } : State).setVm s₂.vm := by
      have : s₂ = ({ s₂ with vm := (U.calling g mk a).vm } : State).setVm s₂.vm := rfl
      rw [e2] at this
      exact this
    obtain ⟨c₂, i₂, len₂, hc₂, hd₂, hf₂⟩ := hend
    have hW' : U.WarmedH s₂.vm := hW₂
    have hcc : c₂ = c := by
      have h1 : s₂.code? g.method = U.code? g.method := by
        rw [State.code?_eq, State.code?_eq, hW'.alike.method?]
      exact Option.some.inj (hc₂.symm.trans (h1.trans h.code))
    subst hcc
    have hlen : len₂ = len := by rw [hdg] at hd₂; cases hd₂; rfl
    subst hlen
    have hs₂ : s₂ = (({ U with heap := s₂.heap, slotsUsed := s₂.slotsUsed } : State).setVm s₂.vm).setTop { g with pc := g.pc + len₂, stack := v.toList ++ g.stack } := by
      refine e3.trans ?_
      rw [hf₂, State.calling_eq h.top, State.setFrames_setFrames, State.setTop_of_frames _ hr', hr]
      rfl
    have hsame : U.sameButNew ({ U with heap := s₂.heap, slotsUsed := s₂.slotsUsed } : State) L mc ms := by
      refine ⟨?_, q2, q3, q4, q5, q6⟩
      obtain ⟨t, ht, -⟩ := State.frames_cons hr
      show ({ U with heap := s₂.heap, slotsUsed := s₂.slotsUsed } : State) = { U.setFrames U.frames with heap := s₂.heap, slotsUsed := s₂.slotsUsed }
      rw [State.setFrames_self ht]
    subst hg
    refine Or.inl ⟨v, ⟨(({ U with heap := s₂.heap, slotsUsed := s₂.slotsUsed } : State).setVm s₂.vm), Ls ++ L, c0 + mc, s0 + ms⟩,
      ⟨X.admits, X.cas, X.clock, X.frames, X.room, X.hears, X.method, X.code, (X.here.setHeapUsed s₂.heap s₂.slotsUsed).setVm hW'.alike, X.tail, State.WarmedH.trans X.warmed hW', X.limits, X.bytes, X.same.trans (hsame.setVm s.vm)⟩,
      ⟨g, mk, s₂, L, rfl, rfl, hqc, rfl, hL, rfl, rfl⟩, ?_⟩
    show Steps p.tables e below _ ((({ U with heap := s₂.heap, slotsUsed := s₂.slotsUsed } : State).setVm s₂.vm).setTop { g with pc := g.pc + len₂, stack := v.toList ++ g.stack })
    rw [← hs₂]
    exact hsteps
  · obtain ⟨e2, q2, q3, q4, q5, q6⟩ := id hsm
    have e3 : s₂ = ({ (U.calling g mk a).setFrames s₂.frames with heap := s₂.heap, slotsUsed := s₂.slotsUsed } : State).setVm s₂.vm := by
      have : s₂ = ({ s₂ with vm := (U.calling g mk a).vm } : State).setVm s₂.vm := rfl
      rw [e2] at this
      exact this
    have hf₂ : s₂.frames = .throwing q :: .java g :: U.frames.tail := hend
    have hW' : U.WarmedH s₂.vm := hW₂
    have hs₂ : s₂ = ((({ U with heap := s₂.heap, slotsUsed := s₂.slotsUsed } : State).setVm s₂.vm).setTop g).pushFrame (.throwing q) := by
      refine e3.trans ?_
      rw [hf₂, State.calling_eq h.top, State.setFrames_setFrames, State.pushFrame, State.frames_setTop _ hr', State.setTop_of_frames _ hr', State.setFrames_setFrames, hr]
      rfl
    have hsame : U.sameButNew ({ U with heap := s₂.heap, slotsUsed := s₂.slotsUsed } : State) L mc ms := by
      refine ⟨?_, q2, q3, q4, q5, q6⟩
      obtain ⟨t, ht, -⟩ := State.frames_cons hr
      show ({ U with heap := s₂.heap, slotsUsed := s₂.slotsUsed } : State) = { U.setFrames U.frames with heap := s₂.heap, slotsUsed := s₂.slotsUsed }
      rw [State.setFrames_self ht]
    subst hg
    refine Or.inr ⟨q, ⟨(({ U with heap := s₂.heap, slotsUsed := s₂.slotsUsed } : State).setVm s₂.vm), Ls ++ L, c0 + mc, s0 + ms⟩,
      ⟨X.admits, X.cas, X.clock, X.frames, X.room, X.hears, X.method, X.code, (X.here.setHeapUsed s₂.heap s₂.slotsUsed).setVm hW'.alike, X.tail, State.WarmedH.trans X.warmed hW', X.limits, X.bytes, X.same.trans (hsame.setVm s.vm)⟩,
      ⟨g, mk, s₂, L, E, ce, rfl, rfl, hx, hce, hcv, hcl, rfl, hL, rfl, rfl⟩, ?_⟩
    show Steps p.tables e below _ (((({ U with heap := s₂.heap, slotsUsed := s₂.slotsUsed } : State).setVm s₂.vm).setTop g).pushFrame (.throwing q))
    rw [← hs₂]
    exact hsteps
end
variable {p : Program} {l : Launch} {e : Env} {R : Room} {s : State} {m : MethodId} {args : Array Value} {below : List Frame} {meth : Method} {c : Code} {T : State} {H : Heap} {locs : List Loc} {cells slots : Nat}
theorem vx_callVX (X : Stand p l e R s m args below meth c T locs cells slots) (hexec : p.tables.exec = Jvm.exec) {own C : String} {index : Nat} {y : MethodName} {bytes : ByteArray} {maxL : Nat} {ret : Option FieldType} {hh : List (Nat × Nat × Nat × Nat)}
    (hown : s.vm.findClass own = some m.cls) (hlink : (Cond.methodLink own index y).before args s = true) (hinst : (Cond.instanceMethod y).before args s = true) (hsel : (Cond.selects C y y).before args s = true)
    (hcode : (Cond.codeWith y bytes maxL ret hh).before args s = true) (hy : y.cls ≠ "java/lang/invoke/MethodHandle" ∧ y.cls ≠ "java/lang/invoke/VarHandle")
    {W9 : Nat} {Pre : Pt → Array Value → Prop} {Post : Pt → Array Value → Option Value → Pt → Prop} {PostX : Pt → Array Value → Addr → Pt → Prop} (hK : vx_Back l R p e below s args y 3 W9 Pre Post PostX)
    {b : Addr} {cellB : Cell} (hcell : T.heap[b]? = some cellB) (hobj : cellB.vm.isStatics = false) (hcls : s.vm.findClass C = some cellB.cls)
    {g : JFrame} (hg : g.method = m) (hsize : g.locals.size = c.maxLocals) {argsL rest : List Value} (hlen : ∀ sig, parseMethodDescriptor y.desc = some sig → argsL.length = sig.parameters.length)
    (hstack : g.stack = argsL.reverse ++ .ref b :: rest) (hW : 2 * g.monitorRoom + (rest.map fun v => v.category).sum ≤ W9) (hdg : decode c.code g.pc = .ok (.invokevirtual index, 3))
    (hpre : ∀ vm₁, s.WarmedH vm₁ → Pre ⟨T.setVm vm₁, locs, cells, slots⟩ (Value.ref b :: argsL).toArray) :
    (∃ (v : Option Value) (vm₁ : Vm) (B : Pt), s.WarmedH vm₁ ∧ Stand p l e R s m args below meth c B.U B.locs B.cells B.slots ∧ Post ⟨T.setVm vm₁, locs, cells, slots⟩ (Value.ref b :: argsL).toArray v B ∧
      ∀ target, Steps p.tables e below (B.U.setTop { g with pc := g.pc + 3, stack := v.toList ++ rest }) target → Steps p.tables e below (T.setTop g) target) ∨
    (∃ (q : Addr) (vm₁ : Vm) (B : Pt), s.WarmedH vm₁ ∧ Stand p l e R s m args below meth c B.U B.locs B.cells B.slots ∧ PostX ⟨T.setVm vm₁, locs, cells, slots⟩ (Value.ref b :: argsL).toArray q B ∧
      Steps p.tables e below (T.setTop g) ((B.U.setTop { g with stack := rest }).pushFrame (.throwing q))) := by
  obtain ⟨mk, methM, hnamed, hmethM, hstM, habM⟩ := Cond.instanceMethod_spec hinst
  obtain ⟨m8, methM', cM, hn8, hmethM', -, -, -, -, -, -, hsigM⟩ := Cond.codeWith_spec hcode
  cases Option.some.inj (hn8.symm.trans hnamed)
  cases hmethM.symm.trans hmethM'
  obtain ⟨c2, r2, m2, q1, q2, q3, q4, kP, hkP, hkPi⟩ := Cond.selects_spec hsel
  cases hcls.symm.trans q1
  cases (State.methodFound?_of_named hnamed hy).symm.trans q2
  cases hnamed.symm.trans q3
  have hselP : selectMethod e.platform s.vm cellB.cls mk = .method mk := by rw [Launch.admits_selectMethod X.admits]; exact q4
  obtain ⟨vm₁, X₁, hstep₁⟩ := X.invokevirtual hexec hown hlink hnamed hmethM hstM hkP hkPi hy (a := b) (cell := cellB) hcell
    (fun z h => by rw [h] at hobj; cases hobj) hselP hmethM habM hkP hkPi (g := g) hg (argsL := argsL) (rest := rest) (hlen _ hsigM) hstack hdg
  rcases hK m meth c ⟨T.setVm vm₁, locs, cells, slots⟩ { g with stack := rest } (.invokevirtual index) mk (Value.ref b :: argsL).toArray X₁ hg hsize hdg hW (X₁.named hnamed) (hpre vm₁ X₁.warmed) with ⟨v, B, X', hpost, hsteps⟩ | ⟨q, B, X', hpost, hsteps⟩
  · exact Or.inl ⟨v, vm₁, B, X₁.warmed, X', hpost, fun target h => hstep₁ _ fun acts => by rw [doInvoke_state]; exact hsteps.trans h⟩
  · exact Or.inr ⟨q, vm₁, B, X₁.warmed, X', hpost, hstep₁ _ fun acts => by rw [doInvoke_state]; exact hsteps⟩
theorem vx_callSX (X : Stand p l e R s m args below meth c T locs cells slots) (hexec : p.tables.exec = Jvm.exec) {own : String} {index : Nat} {y : MethodName} {bytes : ByteArray} {maxL : Nat} {ret : Option FieldType} {hh : List (Nat × Nat × Nat × Nat)}
    (hown : s.vm.findClass own = some m.cls) (hlink : (Cond.methodLink own index y).before args s = true) (hstat : (Cond.static y).before args s = true) (hinit : (Cond.initialized y.cls).before args s = true)
    (hcode : (Cond.codeWith y bytes maxL ret hh).before args s = true) (hy : y.cls ≠ "java/lang/invoke/MethodHandle" ∧ y.cls ≠ "java/lang/invoke/VarHandle")
    {W9 : Nat} {Pre : Pt → Array Value → Prop} {Post : Pt → Array Value → Option Value → Pt → Prop} {PostX : Pt → Array Value → Addr → Pt → Prop} (hK : vx_Back l R p e below s args y 3 W9 Pre Post PostX)
    {g : JFrame} (hg : g.method = m) (hsize : g.locals.size = c.maxLocals) {argsL rest : List Value} (hlen : ∀ sig, parseMethodDescriptor y.desc = some sig → argsL.length = sig.parameters.length)
    (hstack : g.stack = argsL.reverse ++ rest) (hW : 2 * g.monitorRoom + (rest.map fun v => v.category).sum ≤ W9) (hdg : decode c.code g.pc = .ok (.invokestatic index, 3))
    (hpre : ∀ vm₁, s.WarmedH vm₁ → Pre ⟨T.setVm vm₁, locs, cells, slots⟩ argsL.toArray) :
    (∃ (v : Option Value) (vm₁ : Vm) (B : Pt), s.WarmedH vm₁ ∧ Stand p l e R s m args below meth c B.U B.locs B.cells B.slots ∧ Post ⟨T.setVm vm₁, locs, cells, slots⟩ argsL.toArray v B ∧
      ∀ target, Steps p.tables e below (B.U.setTop { g with pc := g.pc + 3, stack := v.toList ++ rest }) target → Steps p.tables e below (T.setTop g) target) ∨
    (∃ (q : Addr) (vm₁ : Vm) (B : Pt), s.WarmedH vm₁ ∧ Stand p l e R s m args below meth c B.U B.locs B.cells B.slots ∧ PostX ⟨T.setVm vm₁, locs, cells, slots⟩ argsL.toArray q B ∧
      Steps p.tables e below (T.setTop g) ((B.U.setTop { g with stack := rest }).pushFrame (.throwing q))) := by
  obtain ⟨mk, methM, cM, hnamed, hmethM, -, -, -, -, -, -, hsigM⟩ := Cond.codeWith_spec hcode
  have hstatic : methM.isStatic = true := Cond.static_spec hnamed hmethM hstat
  obtain ⟨kP, hkP, -⟩ := className_of_methodNamed hnamed
  have hinitP : kP.init = .initialized := Cond.initialized_spec (findClass_of_methodNamed hnamed) hkP hinit
  obtain ⟨vm₁, X₁, hstep₁⟩ := X.invokestatic hexec hown hlink hnamed hmethM hstatic hkP hinitP hy (g := g) hg (argsL := argsL) (rest := rest) (hlen _ hsigM) hstack hdg
  rcases hK m meth c ⟨T.setVm vm₁, locs, cells, slots⟩ { g with stack := rest } (.invokestatic index) mk argsL.toArray X₁ hg hsize hdg hW (X₁.named hnamed) (hpre vm₁ X₁.warmed) with ⟨v, B, X', hpost, hsteps⟩ | ⟨q, B, X', hpost, hsteps⟩
  · exact Or.inl ⟨v, vm₁, B, X₁.warmed, X', hpost, fun target h => hstep₁ _ fun acts => by rw [doInvoke_state]; exact hsteps.trans h⟩
  · exact Or.inr ⟨q, vm₁, B, X₁.warmed, X', hpost, hstep₁ _ fun acts => by rw [doInvoke_state]; exact hsteps⟩
theorem vx_callVW (X : Stand p l e R s m args below meth c T locs cells slots) (hexec : p.tables.exec = Jvm.exec) {own C : String} {index : Nat} {y : MethodName} {bytes : ByteArray} {maxL : Nat} {ret : Option FieldType} {hh : List (Nat × Nat × Nat × Nat)}
    (hown : s.vm.findClass own = some m.cls) (hlink : (Cond.methodLink own index y).before args s = true) (hinst : (Cond.instanceMethod y).before args s = true) (hsel : (Cond.selects C y y).before args s = true)
    (hcode : (Cond.codeWith y bytes maxL ret hh).before args s = true) (hy : y.cls ≠ "java/lang/invoke/MethodHandle" ∧ y.cls ≠ "java/lang/invoke/VarHandle")
    {W9 : Nat} {Pre : Pt → Array Value → Prop} {Post : Pt → Array Value → Option Value → Pt → Prop} (hK : Back l R p e below s args y 3 W9 Pre Post)
    {b : Addr} {cellB : Cell} (hcell : T.heap[b]? = some cellB) (hobj : cellB.vm.isStatics = false) (hcls : s.vm.findClass C = some cellB.cls)
    {g : JFrame} (hg : g.method = m) (hsize : g.locals.size = c.maxLocals) {argsL rest : List Value} (hlen : ∀ sig, parseMethodDescriptor y.desc = some sig → argsL.length = sig.parameters.length)
    (hstack : g.stack = argsL.reverse ++ .ref b :: rest) (hW : 2 * g.monitorRoom + (rest.map fun v => v.category).sum ≤ W9) (hdg : decode c.code g.pc = .ok (.invokevirtual index, 3))
    (hpre : ∀ vm₁, s.WarmedH vm₁ → Pre ⟨T.setVm vm₁, locs, cells, slots⟩ (Value.ref b :: argsL).toArray) :
    ∃ (v : Option Value) (vm₁ : Vm) (B : Pt), s.WarmedH vm₁ ∧ Stand p l e R s m args below meth c B.U B.locs B.cells B.slots ∧ Post ⟨T.setVm vm₁, locs, cells, slots⟩ (Value.ref b :: argsL).toArray v B ∧
      ∀ target, Steps p.tables e below (B.U.setTop { g with pc := g.pc + 3, stack := v.toList ++ rest }) target → Steps p.tables e below (T.setTop g) target := by
  obtain ⟨mk, methM, hnamed, hmethM, hstM, habM⟩ := Cond.instanceMethod_spec hinst
  obtain ⟨m8, methM', cM, hn8, hmethM', -, -, -, -, -, -, hsigM⟩ := Cond.codeWith_spec hcode
  cases Option.some.inj (hn8.symm.trans hnamed)
  cases hmethM.symm.trans hmethM'
  obtain ⟨c2, r2, m2, q1, q2, q3, q4, kP, hkP, hkPi⟩ := Cond.selects_spec hsel
  cases hcls.symm.trans q1
  cases (State.methodFound?_of_named hnamed hy).symm.trans q2
  cases hnamed.symm.trans q3
  have hselP : selectMethod e.platform s.vm cellB.cls mk = .method mk := by rw [Launch.admits_selectMethod X.admits]; exact q4
  obtain ⟨vm₁, X₁, hstep₁⟩ := X.invokevirtual hexec hown hlink hnamed hmethM hstM hkP hkPi hy (a := b) (cell := cellB) hcell
    (fun z h => by rw [h] at hobj; cases hobj) hselP hmethM habM hkP hkPi (g := g) hg (argsL := argsL) (rest := rest) (hlen _ hsigM) hstack hdg
  obtain ⟨v, B, X', hpost, hsteps⟩ := hK m meth c ⟨T.setVm vm₁, locs, cells, slots⟩ { g with stack := rest } (.invokevirtual index) mk (Value.ref b :: argsL).toArray X₁ hg hsize hdg hW (X₁.named hnamed) (hpre vm₁ X₁.warmed)
  exact ⟨v, vm₁, B, X₁.warmed, X', hpost, fun target h => hstep₁ _ fun acts => by rw [doInvoke_state]; exact hsteps.trans h⟩
abbrev vx_CVW (R : Room) (s : State) (args : Array Value) (own C : String) (index : Nat) (y : MethodName) (bytes : ByteArray) (maxL : Nat) (ret : Option FieldType) (hh : List (Nat × Nat × Nat × Nat)) (ws : List Cond) (rm : Room) (mc ms n : Nat) : Prop :=
  (rm.cells = mc ∧ rm.slots = ms ∧ rm.frames + 1 ≤ R.frames ∧ 8 + (maxL + 11) + rm.locals ≤ R.locals ∧ (∀ w ∈ ws, ∀ (a' : Array Value) (U : State), s.WarmedH U.vm → w.before a' U = true) ∧ Cond.codeWith y bytes maxL ret hh ∈ ws) ∧
  (Cond.codeWith y bytes maxL ret hh).before args s = true ∧ (Cond.initialized y.cls).before args s = true ∧ (y.cls ≠ "java/lang/invoke/MethodHandle" ∧ y.cls ≠ "java/lang/invoke/VarHandle") ∧
  (∀ sig, parseMethodDescriptor y.desc = some sig → n = sig.parameters.length) ∧ (Cond.methodLink own index y).before args s = true ∧ (Cond.instanceMethod y).before args s = true ∧ (Cond.selects C y y).before args s = true
theorem vx_cwVW {own C : String} {index maxL mc ms : Nat} {y : MethodName} {bytes : ByteArray} {ret : Option FieldType} {hh : List (Nat × Nat × Nat × Nat)} {Ts ws ws' : List Cond} {rm : Room} (n : Nat) (ht : ∀ w ∈ Ts, w.before args s = true) (hT : GoodIn Ts (wsV own index C y ws)) (hw : ws = Cond.codeWith y bytes maxL ret hh :: ws') (hrc : rm.cells = mc) (hrs : rm.slots = ms)
    (hd : y.cls = C ∧ y.cls ≠ "java/lang/invoke/MethodHandle" ∧ y.cls ≠ "java/lang/invoke/VarHandle" ∧ (parseMethodDescriptor y.desc).map (fun d => d.parameters.length) = some n) (hR : rm.frames + 1 ≤ R.frames ∧ 8 + (maxL + 11) + rm.locals ≤ R.locals) :
    vx_CVW R s args own C index y bytes maxL ret hh ws rm mc ms n := by
  obtain ⟨hC, hd⟩ := hd
  subst hC
  have ok : ∀ w ∈ wsV own index y.cls y ws, w.before args s = true := fun w h => ht w (hT w h).1
  have hG : GoodIn Ts ws := fun w h => hT w (by unfold wsV; exact List.mem_append_right _ h)
  have hc : Cond.codeWith y bytes maxL ret hh ∈ ws := by rw [hw]; exact List.mem_cons_self
  refine ⟨⟨hrc, hrs, hR.1, hR.2, pay_in ht hG, hc⟩, ht _ (hG _ hc).1, ok _ (by simp [wsV]), ⟨hd.1, hd.2.1⟩, fun sig h => ?_, ok _ (by simp [wsV]), ok _ (by simp [wsV]), ok _ (by simp [wsV])⟩
  have h2 := hd.2.2
  rw [h] at h2
  exact (Option.some.inj h2).symm
theorem vx_runVW {y : MethodName} {bytes cc : ByteArray} {maxL nL mc ms n index : Nat} {ret : Option FieldType} {hh : List (Nat × Nat × Nat × Nat)} {ws : List Cond} {rm : Room} {Pc : Array Value → State → Prop} {Qc : Array Value → State → Outcome → State → Prop} {free : Addr → Prop} {Ts : List Cond} {own C : String} {b : Addr} {As rest : List Value} {g : JFrame}
    (S : CallFix p m c cc nL s args Ts own) (hM : Met l y ws rm Pc Qc mc ms free) (cw : vx_CVW R s args own C index y bytes maxL ret hh ws rm mc ms n) (hp : PreV s H C b Pc As)
    (hg : g.method = m) (hn : As.length = n) (hsize : g.locals.size = nL) (hstack : g.stack = As.reverse ++ .ref b :: rest) (hW : 2 * g.monitorRoom + (rest.map fun v => v.category).sum ≤ 8) (hdg : decode cc g.pc = .ok (.invokevirtual index, 3)) (hf : cells + mc ≤ R.cells ∧ slots + ms ≤ R.slots) :
    va_Run p l e R s m args below meth c H locs cells slots mc ms g rest (Qc (Value.ref b :: As).toArray) free := by
  obtain ⟨⟨hrc, hrs, hfr, hlo, hws, hcw⟩, hcode, hini, hy, hlen, hl, hin, hse⟩ := cw
  have hK : Back l R p e below s args y 3 8 (PreOf R mc ms Pc) (PostOf Qc mc ms free) := va_backW (hh := hh) (bytes := bytes) (maxL := maxL) (ret := ret) hM hp.1 hrc hrs hfr hlo hws hcw (fun a' U hW => word_at hW (Or.inl (by first | rfl | simp [Cond.onTables, Cond.keeps, Cond.steady])) hini)
  obtain ⟨hx, hb, hml, ho, -⟩ := S
  obtain ⟨-, ⟨cellB, hcB, hoB, hclB⟩, hPc⟩ := hp
  intro T hT X
  obtain ⟨v, vm₁, ⟨U', l2, c2, s2⟩, hW₁, X', ⟨g', mk, t, L, e1, e2, hq, h1, hL, h2, h3⟩, st⟩ := vx_callVW X hx (C := C) (hh := hh) (bytes := bytes) (maxL := maxL) (ret := ret) ho hl hin hse hcode hy hK (by rw [hT]; exact hcB) hoB hclB hg (hsize.trans hml.symm) (argsL := As) (rest := rest) (fun sig h => hn.trans (hlen sig h)) hstack hW (by rw [hb]; exact hdg)
    (fun vm₁ hW₁ => ⟨hf.1, hf.2, hPc (T.setVm vm₁) hT hW₁⟩)
  dsimp only [Pt.U, Pt.locs, Pt.cells, Pt.slots] at X' e1 e2 h1 h2 h3 st
  subst h1; subst h2; subst h3
  exact ⟨v, (T.setVm vm₁).calling g' mk (Value.ref b :: As).toArray, t, U', L, hT, X', hL, e1, e2, hq, st⟩
section
variable {y : MethodName} {bytes cc : ByteArray} {maxL nL mc ms n index : Nat} {ret : Option FieldType} {ws : List Cond} {rm : Room} {Pc : Array Value → State → Prop} {Qc : Array Value → State → Outcome → State → Prop} {XC : String → State → State → Prop} {free : Addr → Prop} {Ts : List Cond} {own C : String} {b : Addr} {As rest : List Value} {g : JFrame}
theorem vx_runVX {hh : List (Nat × Nat × Nat × Nat)} (S : CallFix p m c cc nL s args Ts own) (hM : vx_Met l y ws rm Pc Qc XC mc ms free) (cw : vx_CVW R s args own C index y bytes maxL ret hh ws rm mc ms n) (hp : PreV s H C b Pc As)
    (hg : g.method = m) (hn : As.length = n) (hsize : g.locals.size = nL) (hstack : g.stack = As.reverse ++ .ref b :: rest) (hW : 2 * g.monitorRoom + (rest.map fun v => v.category).sum ≤ 8) (hdg : decode cc g.pc = .ok (.invokevirtual index, 3)) (hf : cells + mc ≤ R.cells ∧ slots + ms ≤ R.slots) :
    vx_Run p l e R s m args below meth c H locs cells slots mc ms g rest (Qc (Value.ref b :: As).toArray) XC free := by
  obtain ⟨⟨hrc, hrs, hfr, hlo, hws, hcw⟩, hcode, hini, hy, hlen, hl, hin, hse⟩ := cw
  have hK : vx_Back l R p e below s args y 3 8 (PreOf R mc ms Pc) (PostOf Qc mc ms free) (vx_Post XC mc ms free) := vx_backW (hh := hh) (bytes := bytes) (maxL := maxL) (ret := ret) hM hp.1 hrc hrs hfr hlo hws hcw (fun a' U hW => word_at hW (Or.inl (by first | rfl | simp [Cond.onTables, Cond.keeps, Cond.steady])) hini)
  obtain ⟨hx, hb, hml, ho, -⟩ := S
  obtain ⟨-, ⟨cellB, hcB, hoB, hclB⟩, hPc⟩ := hp
  intro T hT X
  rcases vx_callVX X hx (C := C) (hh := hh) (bytes := bytes) (maxL := maxL) (ret := ret) ho hl hin hse hcode hy hK (by rw [hT]; exact hcB) hoB hclB hg (hsize.trans hml.symm) (argsL := As) (rest := rest) (fun sig h => hn.trans (hlen sig h)) hstack hW (by rw [hb]; exact hdg)
    (fun vm₁ hW₁ => ⟨hf.1, hf.2, hPc (T.setVm vm₁) hT hW₁⟩) with ⟨v, vm₁, ⟨U', l2, c2, s2⟩, hW₁, X', ⟨g', mk, t, L, e1, e2, hq, h1, hL, h2, h3⟩, st⟩ | ⟨q, vm₁, ⟨U', l2, c2, s2⟩, hW₁, X', ⟨g', mk, t, L, E, ce, e1, e2, hq, hce, hcv, hcl, h1, hL, h2, h3⟩, st⟩
  · dsimp only [Pt.U, Pt.locs, Pt.cells, Pt.slots] at X' e1 e2 h1 h2 h3 st
    subst h1; subst h2; subst h3
    exact Or.inl ⟨v, (T.setVm vm₁).calling g' mk (Value.ref b :: As).toArray, t, U', L, hT, X', hL, e1, e2, hq, st⟩
  · dsimp only [Pt.U, Pt.locs, Pt.cells, Pt.slots] at X' e1 e2 h1 h2 h3 st hcl
    subst h1; subst h2; subst h3
    exact Or.inr ⟨q, (T.setVm vm₁).calling g' mk (Value.ref b :: As).toArray, t, U', L, E, ce, hT, X', hL, e1, e2, hq, hce, hcv, vx_cls hW₁ hcl, st⟩
theorem vx_runSX {hh : List (Nat × Nat × Nat × Nat)} (S : CallFix p m c cc nL s args Ts own) (hM : vx_Met l y ws rm Pc Qc XC mc ms free) (cw : vx_CSW R s args own index y bytes maxL ret hh ws rm mc ms n) (hp : PreS s H Pc As)
    (hg : g.method = m) (hn : As.length = n) (hsize : g.locals.size = nL) (hstack : g.stack = As.reverse ++ rest) (hW : 2 * g.monitorRoom + (rest.map fun v => v.category).sum ≤ 8) (hdg : decode cc g.pc = .ok (.invokestatic index, 3)) (hf : cells + mc ≤ R.cells ∧ slots + ms ≤ R.slots) :
    vx_Run p l e R s m args below meth c H locs cells slots mc ms g rest (Qc As.toArray) XC free := by
  obtain ⟨⟨hrc, hrs, hfr, hlo, hws, hcw⟩, hcode, hini, hy, hlen, hl, hstt⟩ := cw
  have hK : vx_Back l R p e below s args y 3 8 (PreOf R mc ms Pc) (PostOf Qc mc ms free) (vx_Post XC mc ms free) := vx_backW (hh := hh) (bytes := bytes) (maxL := maxL) (ret := ret) hM hp.1 hrc hrs hfr hlo hws hcw (fun a' U hW => word_at hW (Or.inl (by first | rfl | simp [Cond.onTables, Cond.keeps, Cond.steady])) hini)
  obtain ⟨hx, hb, hml, ho, -⟩ := S
  intro T hT X
  rcases vx_callSX X hx (hh := hh) (bytes := bytes) (maxL := maxL) (ret := ret) ho hl hstt hini hcode hy hK hg (hsize.trans hml.symm) (argsL := As) (rest := rest) (fun sig h => hn.trans (hlen sig h)) hstack hW (by rw [hb]; exact hdg)
    (fun vm₁ hW₁ => ⟨hf.1, hf.2, hp.2 (T.setVm vm₁) hT hW₁⟩) with ⟨v, vm₁, ⟨U', l2, c2, s2⟩, hW₁, X', ⟨g', mk, t, L, e1, e2, hq, h1, hL, h2, h3⟩, st⟩ | ⟨q, vm₁, ⟨U', l2, c2, s2⟩, hW₁, X', ⟨g', mk, t, L, E, ce, e1, e2, hq, hce, hcv, hcl, h1, hL, h2, h3⟩, st⟩
  · dsimp only [Pt.U, Pt.locs, Pt.cells, Pt.slots] at X' e1 e2 h1 h2 h3 st
    subst h1; subst h2; subst h3
    exact Or.inl ⟨v, (T.setVm vm₁).calling g' mk As.toArray, t, U', L, hT, X', hL, e1, e2, hq, st⟩
  · dsimp only [Pt.U, Pt.locs, Pt.cells, Pt.slots] at X' e1 e2 h1 h2 h3 st hcl
    subst h1; subst h2; subst h3
    exact Or.inr ⟨q, (T.setVm vm₁).calling g' mk As.toArray, t, U', L, E, ce, hT, X', hL, e1, e2, hq, hce, hcv, vx_cls hW₁ hcl, st⟩
end
end VXH
theorem vx_ofWH {l : Launch} {y : MethodName} {ws ws' : List Cond} {rm : Room} {Pc : Array Value → State → Prop} {Qc : Array Value → State → Outcome → State → Prop} {XC : String → State → State → Prop} {mc ms : Nat} {free : Addr → Prop} {cc : ByteArray} {maxL : Nat} {ret : Option FieldType} {hh : List (Nat × Nat × Nat × Nat)}
    (hy : plainName y.cls = true) (hw : ws = Cond.codeWith y cc maxL ret hh :: ws')
    (body : ∀ p e s m args below meth c s₁, BodyLoose p l y (headSpec ws rm) cc maxL ret e s m args below meth c s₁ → c.maxLocals = maxL → Pc args s →
      W p l e (headSpec ws rm).room s m args below meth c s.heap [] 0 0 (vx_MQ below Qc XC args s mc ms free) (entryFrame m args maxL)) : vx_Met l y ws rm Pc Qc XC mc ms free := by
  refine MetFree.of_bodyS (code := cc) (maxLocals := maxL) (ret := ret) hy ?_ ?_
  · intro args s m h hn
    obtain ⟨m9, meth, c, hn9, h1, h2, h3, h4, -, h5, h6, -⟩ := Cond.codeWith_spec (atoms_spec (ws := ws) h _ (by rw [hw]; exact List.mem_cons_self))
    cases hn.symm.trans hn9
    exact ⟨meth, c, h1, h2, h3, h4, h5, h6⟩
  · intro p e s m args below meth c s₁ B hml hP _
    have hh0 : s₁.heap = s.heap := by rw [B.state]; rfl
    obtain ⟨t, a1, o, b1, b2, b3⟩ := body p e s m args below meth c s₁ B hml hP s₁ hh0 (Stand.of_body B)
    exact ⟨t, o, a1, b1, b2, b3⟩
/-! ===== END ===== -/
end
section
/-! ===== BEGIN printed: names, fields, word lists, decode rows ===== -/
def RX0 : String := "CrashBuckets$AddressMaps"
def TX0 : u_T := fun k => match k with
  | 0 => ("CrashBuckets$AddressMaps", "counts", "[I", true)
  | 1 => ("CrashBuckets$AddressMaps", "froms", "[[I", true)
  | 2 => ("CrashBuckets$AddressMaps", "tos", "[[I", true)
  | _ => ("CrashBuckets$AddressMaps", "functions", "[[I", true)
def tyX0 : Nat → FieldType := fun k => match k with
  | 0 => .array .int
  | 1 => .array (.array .int)
  | 2 => .array (.array .int)
  | _ => .array (.array .int)
abbrev wsX00 : List Cond := u_ws RX0 TX0 4
theorem nmX0 : ∀ a, a < 4 → ∀ b, b < 4 → a ≠ b → (TX0 a).2.1 ≠ (TX0 b).2.1 := by decide +kernel
theorem tyX0_ok : ∀ k, k < 4 → parseFieldDescriptor (TX0 k).2.2.1 = some (tyX0 k) := by decide +kernel
abbrev cX0_init : ByteArray := prog_2_method_1_code
def yX0_init : MethodName := ⟨RX0, "<init>", "()V"⟩
abbrev cX0_isFull : ByteArray := prog_2_method_2_code
def yX0_isFull : MethodName := ⟨RX0, "isFull", "(I)Z"⟩
abbrev cX0_overlaps : ByteArray := prog_2_method_3_code
def yX0_overlaps : MethodName := ⟨RX0, "overlaps", "(III)Z"⟩
abbrev cX0_add : ByteArray := prog_2_method_4_code
def yX0_add : MethodName := ⟨RX0, "add", "(IIII)V"⟩
abbrev cX0_functionAt : ByteArray := prog_2_method_5_code
def yX0_functionAt : MethodName := ⟨RX0, "functionAt", "(II)I"⟩
def RX1 : String := "CrashBuckets$Buckets"
def TX1 : u_T := fun k => match k with
  | 0 => ("CrashBuckets$Buckets", "frames", "[[I", true)
  | 1 => ("CrashBuckets$Buckets", "mattering", "[[I", true)
  | 2 => ("CrashBuckets$Buckets", "signatures", "[I", true)
  | _ => ("CrashBuckets$Buckets", "names", "[I", true)
def tyX1 : Nat → FieldType := fun k => match k with
  | 0 => .array (.array .int)
  | 1 => .array (.array .int)
  | 2 => .array .int
  | _ => .array .int
abbrev wsX10 : List Cond := u_ws RX1 TX1 4
theorem nmX1 : ∀ a, a < 4 → ∀ b, b < 4 → a ≠ b → (TX1 a).2.1 ≠ (TX1 b).2.1 := by decide +kernel
theorem tyX1_ok : ∀ k, k < 4 → parseFieldDescriptor (TX1 k).2.2.1 = some (tyX1 k) := by decide +kernel
abbrev cX1_init : ByteArray := prog_3_method_1_code
def yX1_init : MethodName := ⟨RX1, "<init>", "()V"⟩
abbrev cX1_isName : ByteArray := prog_3_method_2_code
def yX1_isName : MethodName := ⟨RX1, "isName", "(I)Z"⟩
abbrev cX1_readStacksOf : ByteArray := prog_3_method_3_code
def yX1_readStacksOf : MethodName := ⟨RX1, "readStacksOf", "(ILCrashBuckets$Reports;LCrashBuckets$AddressMaps;)V"⟩
abbrev cX1_readStack : ByteArray := prog_3_method_4_code
def yX1_readStack : MethodName := ⟨RX1, "readStack", "(ILCrashBuckets$Reports;LCrashBuckets$AddressMaps;)V"⟩
abbrev cX1_sortAll : ByteArray := prog_3_method_5_code
def yX1_sortAll : MethodName := ⟨RX1, "sortAll", "(LCrashBuckets$Reports;LCrashBuckets$Rules;)V"⟩
abbrev cX1_sort : ByteArray := prog_3_method_6_code
def yX1_sort : MethodName := ⟨RX1, "sort", "(ILCrashBuckets$Reports;LCrashBuckets$Rules;)V"⟩
abbrev cX1_pickMattering : ByteArray := prog_3_method_7_code
def yX1_pickMattering : MethodName := ⟨RX1, "pickMattering", "(ILCrashBuckets$Rules;)V"⟩
abbrev cX1_signatureOf : ByteArray := prog_3_method_8_code
def yX1_signatureOf : MethodName := ⟨RX1, "signatureOf", "(ILCrashBuckets$Reports;)I"⟩
def RX2 : String := "CrashBuckets$Reports"
def TX2 : u_T := fun k => match k with
  | 0 => ("CrashBuckets$Reports", "count", "I", false)
  | 1 => ("CrashBuckets$Reports", "versions", "[I", true)
  | 2 => ("CrashBuckets$Reports", "reporters", "[I", true)
  | 3 => ("CrashBuckets$Reports", "stacks", "[[I", true)
  | _ => ("CrashBuckets$Reports", "fixedFrom", "[I", true)
def tyX2 : Nat → FieldType := fun k => match k with
  | 0 => .int
  | 1 => .array .int
  | 2 => .array .int
  | 3 => .array (.array .int)
  | _ => .array .int
abbrev wsX20 : List Cond := u_ws RX2 TX2 5
theorem nmX2 : ∀ a, a < 5 → ∀ b, b < 5 → a ≠ b → (TX2 a).2.1 ≠ (TX2 b).2.1 := by decide +kernel
theorem tyX2_ok : ∀ k, k < 5 → parseFieldDescriptor (TX2 k).2.2.1 = some (tyX2 k) := by decide +kernel
abbrev cX2_init : ByteArray := prog_4_method_1_code
def yX2_init : MethodName := ⟨RX2, "<init>", "()V"⟩
abbrev cX2_add : ByteArray := prog_4_method_2_code
def yX2_add : MethodName := ⟨RX2, "add", "(II)I"⟩
abbrev cX2_setStack : ByteArray := prog_4_method_3_code
def yX2_setStack : MethodName := ⟨RX2, "setStack", "(IIIII)V"⟩
def RX3 : String := "CrashBuckets$Rules"
def TX3 : u_T := fun k => match k with
  | 0 => ("CrashBuckets$Rules", "ignored", "[Z", true)
  | 1 => ("CrashBuckets$Rules", "standsFor", "[I", true)
  | _ => ("CrashBuckets$Rules", "depth", "I", false)
def tyX3 : Nat → FieldType := fun k => match k with
  | 0 => .array .boolean
  | 1 => .array .int
  | _ => .int
abbrev wsX30 : List Cond := u_ws RX3 TX3 3
theorem nmX3 : ∀ a, a < 3 → ∀ b, b < 3 → a ≠ b → (TX3 a).2.1 ≠ (TX3 b).2.1 := by decide +kernel
theorem tyX3_ok : ∀ k, k < 3 → parseFieldDescriptor (TX3 k).2.2.1 = some (tyX3 k) := by decide +kernel
abbrev cX3_init : ByteArray := prog_5_method_1_code
def yX3_init : MethodName := ⟨RX3, "<init>", "()V"⟩
abbrev cX3_leadsTo : ByteArray := prog_5_method_2_code
def yX3_leadsTo : MethodName := ⟨RX3, "leadsTo", "(II)Z"⟩
abbrev cX3_inTheEnd : ByteArray := prog_5_method_3_code
def yX3_inTheEnd : MethodName := ⟨RX3, "inTheEnd", "(I)I"⟩
def RX4 : String := "CrashBuckets"
def TX4 : u_T := fun k => match k with
  | 0 => ("CrashBuckets", "maps", "LCrashBuckets$AddressMaps;", true)
  | 1 => ("CrashBuckets", "rules", "LCrashBuckets$Rules;", true)
  | 2 => ("CrashBuckets", "told", "LCrashBuckets$Reports;", true)
  | 3 => ("CrashBuckets", "sorted", "LCrashBuckets$Buckets;", true)
  | 4 => ("CrashBuckets", "sessions", "[I", true)
  | _ => ("CrashBuckets", "limit", "I", false)
def tyX4 : Nat → FieldType := fun k => match k with
  | 0 => .object "CrashBuckets$AddressMaps"
  | 1 => .object "CrashBuckets$Rules"
  | 2 => .object "CrashBuckets$Reports"
  | 3 => .object "CrashBuckets$Buckets"
  | 4 => .array .int
  | _ => .int
abbrev wsX40 : List Cond := u_ws RX4 TX4 6
theorem nmX4 : ∀ a, a < 6 → ∀ b, b < 6 → a ≠ b → (TX4 a).2.1 ≠ (TX4 b).2.1 := by decide +kernel
theorem tyX4_ok : ∀ k, k < 6 → parseFieldDescriptor (TX4 k).2.2.1 = some (tyX4 k) := by decide +kernel
abbrev cX4_init : ByteArray := prog_1_method_1_code
def yX4_init : MethodName := ⟨RX4, "<init>", "()V"⟩
abbrev cX4_addRange : ByteArray := prog_1_method_2_code
def yX4_addRange : MethodName := ⟨RX4, "addRange", "(IIII)I"⟩
abbrev cX4_ignore : ByteArray := prog_1_method_3_code
def yX4_ignore : MethodName := ⟨RX4, "ignore", "(IZ)Z"⟩
abbrev cX4_standFor : ByteArray := prog_1_method_4_code
def yX4_standFor : MethodName := ⟨RX4, "standFor", "(II)I"⟩
abbrev cX4_setDepth : ByteArray := prog_1_method_5_code
def yX4_setDepth : MethodName := ⟨RX4, "setDepth", "(I)I"⟩
abbrev cX4_report : ByteArray := prog_1_method_6_code
def yX4_report : MethodName := ⟨RX4, "report", "(IIIIII)I"⟩
abbrev cX4_reports : ByteArray := prog_1_method_7_code
def yX4_reports : MethodName := ⟨RX4, "reports", "()I"⟩
abbrev cX4_frame : ByteArray := prog_1_method_8_code
def yX4_frame : MethodName := ⟨RX4, "frame", "(II)I"⟩
abbrev cX4_matters : ByteArray := prog_1_method_9_code
def yX4_matters : MethodName := ⟨RX4, "matters", "(II)I"⟩
abbrev cX4_bucket : ByteArray := prog_1_method_10_code
def yX4_bucket : MethodName := ⟨RX4, "bucket", "(I)I"⟩
abbrev cX4_buckets : ByteArray := prog_1_method_11_code
def yX4_buckets : MethodName := ⟨RX4, "buckets", "()I"⟩
abbrev cX4_size : ByteArray := prog_1_method_12_code
def yX4_size : MethodName := ⟨RX4, "size", "(I)I"⟩
abbrev cX4_setSessions : ByteArray := prog_1_method_13_code
def yX4_setSessions : MethodName := ⟨RX4, "setSessions", "(II)I"⟩
abbrev cX4_setLimit : ByteArray := prog_1_method_14_code
def yX4_setLimit : MethodName := ⟨RX4, "setLimit", "(I)I"⟩
abbrev cX4_rate : ByteArray := prog_1_method_15_code
def yX4_rate : MethodName := ⟨RX4, "rate", "(II)I"⟩
abbrev cX4_users : ByteArray := prog_1_method_16_code
def yX4_users : MethodName := ⟨RX4, "users", "(II)I"⟩
abbrev cX4_gate : ByteArray := prog_1_method_17_code
def yX4_gate : MethodName := ⟨RX4, "gate", "(I)I"⟩
abbrev cX4_worst : ByteArray := prog_1_method_18_code
def yX4_worst : MethodName := ⟨RX4, "worst", "(I)I"⟩
abbrev cX4_fix : ByteArray := prog_1_method_19_code
def yX4_fix : MethodName := ⟨RX4, "fix", "(II)I"⟩
abbrev cX4_holds : ByteArray := prog_1_method_20_code
def yX4_holds : MethodName := ⟨RX4, "holds", "(I)Z"⟩
abbrev cX4_isBelow : ByteArray := prog_1_method_21_code
def yX4_isBelow : MethodName := ⟨RX4, "isBelow", "(II)Z"⟩
abbrev cX4_mayFollow : ByteArray := prog_1_method_22_code
def yX4_mayFollow : MethodName := ⟨RX4, "mayFollow", "(II)Z"⟩
abbrev cX4_checkArgument : ByteArray := prog_1_method_23_code
def yX4_checkArgument : MethodName := ⟨RX4, "checkArgument", "(Z)V"⟩
abbrev cX4_checkReport : ByteArray := prog_1_method_24_code
def yX4_checkReport : MethodName := ⟨RX4, "checkReport", "(I)V"⟩
abbrev cX4_isOf : ByteArray := prog_1_method_25_code
def yX4_isOf : MethodName := ⟨RX4, "isOf", "(III)Z"⟩
abbrev cX4_countIn : ByteArray := prog_1_method_26_code
def yX4_countIn : MethodName := ⟨RX4, "countIn", "(II)I"⟩
abbrev cX4_rateOf : ByteArray := prog_1_method_27_code
def yX4_rateOf : MethodName := ⟨RX4, "rateOf", "(II)I"⟩
abbrev cX4_usersOf : ByteArray := prog_1_method_28_code
def yX4_usersOf : MethodName := ⟨RX4, "usersOf", "(II)I"⟩
abbrev cX4_greatestRateBefore : ByteArray := prog_1_method_29_code
def yX4_greatestRateBefore : MethodName := ⟨RX4, "greatestRateBefore", "(II)I"⟩
def RX5 : String := "CrashBucketsModel"
def TX5 : u_T := fun k => match k with
  | _ => ("", "", "", false)
def tyX5 : Nat → FieldType := fun k => match k with
  | _ => .int
abbrev wsX50 : List Cond := u_ws RX5 TX5 0
theorem nmX5 : ∀ a, a < 0 → ∀ b, b < 0 → a ≠ b → (TX5 a).2.1 ≠ (TX5 b).2.1 := by decide +kernel
theorem tyX5_ok : ∀ k, k < 0 → parseFieldDescriptor (TX5 k).2.2.1 = some (tyX5 k) := by decide +kernel
def RJ6 : String := "java/lang/Integer"
def TJ6 : u_T := fun k => match k with
  | _ => ("", "", "", false)
def tyJ6 : Nat → FieldType := fun k => match k with
  | _ => .int
abbrev wsJ60 : List Cond := u_ws RJ6 TJ6 0
theorem nmJ6 : ∀ a, a < 0 → ∀ b, b < 0 → a ≠ b → (TJ6 a).2.1 ≠ (TJ6 b).2.1 := by decide +kernel
theorem tyJ6_ok : ∀ k, k < 0 → parseFieldDescriptor (TJ6 k).2.2.1 = some (tyJ6 k) := by decide +kernel
abbrev cJ6_bitCount_0f7a4 : ByteArray := prog_12_method_49_code
def yJ6_bitCount_0f7a4 : MethodName := ⟨RJ6, "bitCount", "(I)I"⟩
def RJ9 : String := "java/lang/Math"
def TJ9 : u_T := fun k => match k with
  | _ => ("", "", "", false)
def tyJ9 : Nat → FieldType := fun k => match k with
  | _ => .int
abbrev wsJ90 : List Cond := u_ws RJ9 TJ9 0
theorem nmJ9 : ∀ a, a < 0 → ∀ b, b < 0 → a ≠ b → (TJ9 a).2.1 ≠ (TJ9 b).2.1 := by decide +kernel
theorem tyJ9_ok : ∀ k, k < 0 → parseFieldDescriptor (TJ9 k).2.2.1 = some (tyJ9 k) := by decide +kernel
abbrev cJ9_max_7cf53 : ByteArray := prog_13_method_65_code
def yJ9_max_7cf53 : MethodName := ⟨RJ9, "max", "(II)I"⟩
def RJ0 : String := "java/lang/String"
def TJ0 : u_T := fun k => match k with
  | _ => ("", "", "", false)
def tyJ0 : Nat → FieldType := fun k => match k with
  | _ => .int
abbrev wsJ00 : List Cond := u_ws RJ0 TJ0 0
theorem nmJ0 : ∀ a, a < 0 → ∀ b, b < 0 → a ≠ b → (TJ0 a).2.1 ≠ (TJ0 b).2.1 := by decide +kernel
theorem tyJ0_ok : ∀ k, k < 0 → parseFieldDescriptor (TJ0 k).2.2.1 = some (tyJ0 k) := by decide +kernel
def RL : String := "CrashBucketsLaw"
abbrev cL_cell : ByteArray := method_2_code
def yL_cell : MethodName := ⟨RL, "cell", "([II)I"⟩
abbrev cL_low : ByteArray := method_3_code
def yL_low : MethodName := ⟨RL, "low", "(II)I"⟩
abbrev cL_calls : ByteArray := method_4_code
def yL_calls : MethodName := ⟨RL, "calls", "(LCrashBuckets;IIIII)I"⟩
abbrev cL_frame : ByteArray := method_5_code
def yL_frame : MethodName := ⟨RL, "frame", "(II[I[I[I[I[I[I)I"⟩
abbrev cL_ends : ByteArray := method_6_code
def yL_ends : MethodName := ⟨RL, "ends", "(I[I)I"⟩
abbrev cL_number : ByteArray := method_7_code
def yL_number : MethodName := ⟨RL, "number", "(I[I[I[I[I[I[I[I)I"⟩
abbrev cL_names : ByteArray := method_8_code
def yL_names : MethodName := ⟨RL, "names", "([I[I[I[I[I[I[I[I)V"⟩
abbrev cL_rate : ByteArray := method_9_code
def yL_rate : MethodName := ⟨RL, "rate", "(II[I[I[I[I)I"⟩
abbrev cL_users : ByteArray := method_10_code
def yL_users : MethodName := ⟨RL, "users", "(II[I[I[I[I)I"⟩
abbrev cL_version : ByteArray := method_11_code
def yL_version : MethodName := ⟨RL, "version", "(LCrashBuckets;I[I[I[I[I[I)Z"⟩
abbrev cL_holds : ByteArray := method_12_code
def yL_holds : MethodName := ⟨RL, "holds", "(I[I[I[I[I[I)I"⟩
abbrev cL_isSo : ByteArray := method_13_code
def yL_isSo : MethodName := ⟨RL, "isSo", "(LCrashBuckets;[I[I[I[I[I[I[I[I[I[I)Z"⟩
abbrev cL_ranges : ByteArray := method_14_code
def yL_ranges : MethodName := ⟨RL, "ranges", "(LCrashBuckets;I[I[I[I[I)Z"⟩
abbrev cL_rules : ByteArray := method_15_code
def yL_rules : MethodName := ⟨RL, "rules", "(LCrashBuckets;I[I[I)Z"⟩
abbrev cL_report : ByteArray := method_16_code
def yL_report : MethodName := ⟨RL, "report", "(LCrashBuckets;I[I[I[I[I[I)Z"⟩
abbrev cL_law : ByteArray := code
def yL_law : MethodName := ⟨RL, "law", "([I)Z"⟩
def wsX0_init : List Cond := .code yX0_init cX0_init 1 none :: ([.methodLink RX0 3 objectInit, .instanceMethod objectInit, .code objectInit ⟨#[0xb1]⟩ 1 none, .arrayClass .int, .fieldLink RX0 9 "CrashBuckets$AddressMaps" "counts" "[I", .classLink RX0 15 "[[I", .fieldLink RX0 17 "CrashBuckets$AddressMaps" "froms" "[[I", .fieldLink RX0 20 "CrashBuckets$AddressMaps" "tos" "[[I", .fieldLink RX0 23 "CrashBuckets$AddressMaps" "functions" "[[I"] ++ wsX00)
def wsX0_isFull : List Cond := .code yX0_isFull cX0_isFull 2 (some .boolean) :: ([.fieldLink RX0 9 "CrashBuckets$AddressMaps" "counts" "[I"] ++ wsX00)
def wsX0_overlaps : List Cond := .code yX0_overlaps cX0_overlaps 5 (some .boolean) :: ([.fieldLink RX0 9 "CrashBuckets$AddressMaps" "counts" "[I", .fieldLink RX0 17 "CrashBuckets$AddressMaps" "froms" "[[I", .fieldLink RX0 20 "CrashBuckets$AddressMaps" "tos" "[[I"] ++ wsX00)
def wsX0_add : List Cond := .code yX0_add cX0_add 6 none :: ([.fieldLink RX0 9 "CrashBuckets$AddressMaps" "counts" "[I", .fieldLink RX0 17 "CrashBuckets$AddressMaps" "froms" "[[I", .fieldLink RX0 20 "CrashBuckets$AddressMaps" "tos" "[[I", .fieldLink RX0 23 "CrashBuckets$AddressMaps" "functions" "[[I"] ++ wsX00)
def wsX0_functionAt : List Cond := .code yX0_functionAt cX0_functionAt 4 (some .int) :: ([.fieldLink RX0 9 "CrashBuckets$AddressMaps" "counts" "[I", .fieldLink RX0 17 "CrashBuckets$AddressMaps" "froms" "[[I", .fieldLink RX0 20 "CrashBuckets$AddressMaps" "tos" "[[I", .fieldLink RX0 23 "CrashBuckets$AddressMaps" "functions" "[[I"] ++ wsX00)
def wsX1_init : List Cond := .code yX1_init cX1_init 1 none :: ([.methodLink RX1 3 objectInit, .instanceMethod objectInit, .code objectInit ⟨#[0xb1]⟩ 1 none, .classLink RX1 9 "[[I", .arrayClass .int, .fieldLink RX1 11 "CrashBuckets$Buckets" "frames" "[[I", .fieldLink RX1 16 "CrashBuckets$Buckets" "mattering" "[[I", .fieldLink RX1 19 "CrashBuckets$Buckets" "signatures" "[I", .fieldLink RX1 23 "CrashBuckets$Buckets" "names" "[I"] ++ wsX10)
def wsX1_isName : List Cond := .code yX1_isName cX1_isName 2 (some .boolean) :: ([.fieldLink RX1 23 "CrashBuckets$Buckets" "names" "[I"] ++ wsX10)
def wsX1_readStack : List Cond := .code yX1_readStack cX1_readStack 5 none :: ([.fieldLink RX1 11 "CrashBuckets$Buckets" "frames" "[[I", .instanceMethod yX0_functionAt, .initialized RX0, .selects RX0 yX0_functionAt yX0_functionAt, .code yX0_functionAt cX0_functionAt 4 (some .int), .fieldLink RX0 9 "CrashBuckets$AddressMaps" "counts" "[I", .fieldLink RX0 17 "CrashBuckets$AddressMaps" "froms" "[[I", .fieldLink RX0 20 "CrashBuckets$AddressMaps" "tos" "[[I", .fieldLink RX0 23 "CrashBuckets$AddressMaps" "functions" "[[I"] ++ wsX10 ++ wsX20 ++ wsX00)
def wsX1_readStacksOf : List Cond := .code yX1_readStacksOf cX1_readStacksOf 5 none :: ([.methodLink RX1 35 yX1_readStack, .instanceMethod yX1_readStack, .selects RX1 yX1_readStack yX1_readStack, .initialized RX1, .code yX1_readStack cX1_readStack 5 none, .fieldLink RX1 11 "CrashBuckets$Buckets" "frames" "[[I", .instanceMethod yX0_functionAt, .initialized RX0, .selects RX0 yX0_functionAt yX0_functionAt, .code yX0_functionAt cX0_functionAt 4 (some .int), .fieldLink RX0 9 "CrashBuckets$AddressMaps" "counts" "[I", .fieldLink RX0 17 "CrashBuckets$AddressMaps" "froms" "[[I", .fieldLink RX0 20 "CrashBuckets$AddressMaps" "tos" "[[I", .fieldLink RX0 23 "CrashBuckets$AddressMaps" "functions" "[[I"] ++ wsX20 ++ wsX10 ++ wsX00)
def wsX3_inTheEnd : List Cond := .code yX3_inTheEnd cX3_inTheEnd 4 (some .int) :: ([.fieldLink RX3 15 "CrashBuckets$Rules" "standsFor" "[I"] ++ wsX30)
def wsX1_pickMattering : List Cond := .code yX1_pickMattering cX1_pickMattering 6 none :: ([.fieldLink RX1 11 "CrashBuckets$Buckets" "frames" "[[I", .fieldLink RX1 16 "CrashBuckets$Buckets" "mattering" "[[I", .instanceMethod yX3_inTheEnd, .initialized RX3, .selects RX3 yX3_inTheEnd yX3_inTheEnd, .code yX3_inTheEnd cX3_inTheEnd 4 (some .int), .fieldLink RX3 15 "CrashBuckets$Rules" "standsFor" "[I"] ++ wsX30 ++ wsX10)
def wsX1_signatureOf : List Cond := .code yX1_signatureOf cX1_signatureOf 5 (some .int) :: ([.fieldLink RX1 16 "CrashBuckets$Buckets" "mattering" "[[I"] ++ wsX10 ++ wsX20)
def wsX1_sort : List Cond := .code yX1_sort cX1_sort 5 none :: ([.fieldLink RX1 19 "CrashBuckets$Buckets" "signatures" "[I", .fieldLink RX1 23 "CrashBuckets$Buckets" "names" "[I", .methodLink RX1 52 yX1_pickMattering, .instanceMethod yX1_pickMattering, .selects RX1 yX1_pickMattering yX1_pickMattering, .initialized RX1, .code yX1_pickMattering cX1_pickMattering 6 none, .fieldLink RX1 11 "CrashBuckets$Buckets" "frames" "[[I", .fieldLink RX1 16 "CrashBuckets$Buckets" "mattering" "[[I", .instanceMethod yX3_inTheEnd, .initialized RX3, .selects RX3 yX3_inTheEnd yX3_inTheEnd, .code yX3_inTheEnd cX3_inTheEnd 4 (some .int), .fieldLink RX3 15 "CrashBuckets$Rules" "standsFor" "[I", .methodLink RX1 56 yX1_signatureOf, .instanceMethod yX1_signatureOf, .selects RX1 yX1_signatureOf yX1_signatureOf, .code yX1_signatureOf cX1_signatureOf 5 (some .int)] ++ wsX10 ++ wsX30 ++ wsX20)
def wsX1_sortAll : List Cond := .code yX1_sortAll cX1_sortAll 4 none :: ([.methodLink RX1 48 yX1_sort, .instanceMethod yX1_sort, .selects RX1 yX1_sort yX1_sort, .initialized RX1, .code yX1_sort cX1_sort 5 none, .fieldLink RX1 19 "CrashBuckets$Buckets" "signatures" "[I", .fieldLink RX1 23 "CrashBuckets$Buckets" "names" "[I", .methodLink RX1 52 yX1_pickMattering, .instanceMethod yX1_pickMattering, .selects RX1 yX1_pickMattering yX1_pickMattering, .code yX1_pickMattering cX1_pickMattering 6 none, .fieldLink RX1 11 "CrashBuckets$Buckets" "frames" "[[I", .fieldLink RX1 16 "CrashBuckets$Buckets" "mattering" "[[I", .instanceMethod yX3_inTheEnd, .initialized RX3, .selects RX3 yX3_inTheEnd yX3_inTheEnd, .code yX3_inTheEnd cX3_inTheEnd 4 (some .int), .fieldLink RX3 15 "CrashBuckets$Rules" "standsFor" "[I", .methodLink RX1 56 yX1_signatureOf, .instanceMethod yX1_signatureOf, .selects RX1 yX1_signatureOf yX1_signatureOf, .code yX1_signatureOf cX1_signatureOf 5 (some .int)] ++ wsX20 ++ wsX10 ++ wsX30)
def wsX2_init : List Cond := .code yX2_init cX2_init 1 none :: ([.methodLink RX2 3 objectInit, .instanceMethod objectInit, .code objectInit ⟨#[0xb1]⟩ 1 none, .fieldLink RX2 9 "CrashBuckets$Reports" "count" "I", .arrayClass .int, .fieldLink RX2 15 "CrashBuckets$Reports" "versions" "[I", .fieldLink RX2 19 "CrashBuckets$Reports" "reporters" "[I", .classLink RX2 22 "[[I", .fieldLink RX2 24 "CrashBuckets$Reports" "stacks" "[[I", .fieldLink RX2 27 "CrashBuckets$Reports" "fixedFrom" "[I"] ++ wsX20)
def wsX2_add : List Cond := .code yX2_add cX2_add 4 (some .int) :: ([.fieldLink RX2 9 "CrashBuckets$Reports" "count" "I", .fieldLink RX2 15 "CrashBuckets$Reports" "versions" "[I", .fieldLink RX2 19 "CrashBuckets$Reports" "reporters" "[I", .fieldLink RX2 27 "CrashBuckets$Reports" "fixedFrom" "[I"] ++ wsX20)
def wsX2_setStack : List Cond := .code yX2_setStack cX2_setStack 6 none :: ([.fieldLink RX2 24 "CrashBuckets$Reports" "stacks" "[[I"] ++ wsX20)
def wsX3_init : List Cond := .code yX3_init cX3_init 2 none :: ([.methodLink RX3 3 objectInit, .instanceMethod objectInit, .code objectInit ⟨#[0xb1]⟩ 1 none, .arrayClass .boolean, .fieldLink RX3 9 "CrashBuckets$Rules" "ignored" "[Z", .arrayClass .int, .fieldLink RX3 15 "CrashBuckets$Rules" "standsFor" "[I", .fieldLink RX3 19 "CrashBuckets$Rules" "depth" "I"] ++ wsX30)
def wsX3_leadsTo : List Cond := .code yX3_leadsTo cX3_leadsTo 5 (some .boolean) :: ([.fieldLink RX3 15 "CrashBuckets$Rules" "standsFor" "[I"] ++ wsX30)
def wsX4_init_r1 : List Cond := [Cond.methodLink RX4 1 objectInit, Cond.instanceMethod objectInit, Cond.code objectInit ⟨#[0xb1]⟩ 1 none, Cond.classLink RX4 7 RX0, Cond.instantiable RX0 4, Cond.initialized RX0, Cond.fieldLink RX4 10 "CrashBuckets" "maps" "LCrashBuckets$AddressMaps;", Cond.classLink RX4 16 RX3, Cond.instantiable RX3 3, Cond.initialized RX3, Cond.fieldLink RX4 19 "CrashBuckets" "rules" "LCrashBuckets$Rules;", Cond.classLink RX4 23 RX2, Cond.instantiable RX2 5, Cond.initialized RX2, Cond.fieldLink RX4 26 "CrashBuckets" "told" "LCrashBuckets$Reports;", Cond.classLink RX4 30 RX1, Cond.instantiable RX1 4, Cond.initialized RX1, Cond.fieldLink RX4 33 "CrashBuckets" "sorted" "LCrashBuckets$Buckets;", Cond.arrayClass .int, Cond.fieldLink RX4 37 "CrashBuckets" "sessions" "[I", Cond.fieldLink RX4 41 "CrashBuckets" "limit" "I", Cond.instanceMethod yX0_init, Cond.code yX0_init cX0_init 1 none]
def wsX4_init_r2 : List Cond := [Cond.methodLink RX0 3 objectInit, Cond.fieldLink RX0 9 "CrashBuckets$AddressMaps" "counts" "[I", Cond.classLink RX0 15 "[[I", Cond.fieldLink RX0 17 "CrashBuckets$AddressMaps" "froms" "[[I", Cond.fieldLink RX0 20 "CrashBuckets$AddressMaps" "tos" "[[I", Cond.fieldLink RX0 23 "CrashBuckets$AddressMaps" "functions" "[[I", Cond.instanceMethod yX3_init, Cond.code yX3_init cX3_init 2 none, Cond.methodLink RX3 3 objectInit, Cond.arrayClass .boolean, Cond.fieldLink RX3 9 "CrashBuckets$Rules" "ignored" "[Z", Cond.fieldLink RX3 15 "CrashBuckets$Rules" "standsFor" "[I", Cond.fieldLink RX3 19 "CrashBuckets$Rules" "depth" "I", Cond.instanceMethod yX2_init, Cond.code yX2_init cX2_init 1 none, Cond.methodLink RX2 3 objectInit, Cond.fieldLink RX2 9 "CrashBuckets$Reports" "count" "I", Cond.fieldLink RX2 15 "CrashBuckets$Reports" "versions" "[I", Cond.fieldLink RX2 19 "CrashBuckets$Reports" "reporters" "[I", Cond.classLink RX2 22 "[[I", Cond.fieldLink RX2 24 "CrashBuckets$Reports" "stacks" "[[I", Cond.fieldLink RX2 27 "CrashBuckets$Reports" "fixedFrom" "[I", Cond.instanceMethod yX1_init, Cond.code yX1_init cX1_init 1 none]
def wsX4_init_r3 : List Cond := [Cond.methodLink RX1 3 objectInit, Cond.classLink RX1 9 "[[I", Cond.fieldLink RX1 11 "CrashBuckets$Buckets" "frames" "[[I", Cond.fieldLink RX1 16 "CrashBuckets$Buckets" "mattering" "[[I", Cond.fieldLink RX1 19 "CrashBuckets$Buckets" "signatures" "[I", Cond.fieldLink RX1 23 "CrashBuckets$Buckets" "names" "[I"]
def wsX4_init : List Cond := .code yX4_init cX4_init 1 none :: ((wsX4_init_r1 ++ (wsX4_init_r2 ++ wsX4_init_r3)) ++ wsX00 ++ wsX40 ++ wsX30 ++ wsX20 ++ wsX10)
def wsX4_isBelow : List Cond := .code yX4_isBelow cX4_isBelow 2 (some .boolean) :: ([])
def wsX4_checkArgument : List Cond := .code yX4_checkArgument cX4_checkArgument 1 none :: ([.classLink RX4 157 "java/lang/IllegalArgumentException", .initialized "java/lang/IllegalArgumentException"] ++ (vx_atS RX4 161 "java/lang/IllegalArgumentException" ["java/lang/RuntimeException", "java/lang/Exception"]).filter goodWord)
def wsX4_addRange_r1 : List Cond := [Cond.classLink RX4 57 "java/lang/IllegalStateException", Cond.initialized "java/lang/IllegalStateException", Cond.fieldLink RX4 10 "CrashBuckets" "maps" "LCrashBuckets$AddressMaps;", Cond.fieldLink RX4 33 "CrashBuckets" "sorted" "LCrashBuckets$Buckets;", Cond.fieldLink RX4 26 "CrashBuckets" "told" "LCrashBuckets$Reports;", Cond.fieldLink RX4 19 "CrashBuckets" "rules" "LCrashBuckets$Rules;", Cond.methodLink RX4 45 yX4_isBelow, Cond.static yX4_isBelow, Cond.initialized RX4, Cond.code yX4_isBelow cX4_isBelow 2 (some .boolean), Cond.methodLink RX4 49 yX4_checkArgument, Cond.static yX4_checkArgument, Cond.code yX4_checkArgument cX4_checkArgument 1 none, Cond.classLink RX4 157 "java/lang/IllegalArgumentException", Cond.initialized "java/lang/IllegalArgumentException", Cond.instanceMethod yX0_isFull, Cond.initialized RX0, Cond.selects RX0 yX0_isFull yX0_isFull, Cond.code yX0_isFull cX0_isFull 2 (some .boolean), Cond.fieldLink RX0 9 "CrashBuckets$AddressMaps" "counts" "[I", Cond.instanceMethod yX0_overlaps, Cond.selects RX0 yX0_overlaps yX0_overlaps, Cond.code yX0_overlaps cX0_overlaps 5 (some .boolean), Cond.fieldLink RX0 17 "CrashBuckets$AddressMaps" "froms" "[[I"]
def wsX4_addRange_r2 : List Cond := [Cond.fieldLink RX0 20 "CrashBuckets$AddressMaps" "tos" "[[I", Cond.instanceMethod yX0_add, Cond.selects RX0 yX0_add yX0_add, Cond.code yX0_add cX0_add 6 none, Cond.fieldLink RX0 23 "CrashBuckets$AddressMaps" "functions" "[[I", Cond.instanceMethod yX1_readStacksOf, Cond.initialized RX1, Cond.selects RX1 yX1_readStacksOf yX1_readStacksOf, Cond.code yX1_readStacksOf cX1_readStacksOf 5 none, Cond.methodLink RX1 35 yX1_readStack, Cond.instanceMethod yX1_readStack, Cond.selects RX1 yX1_readStack yX1_readStack, Cond.code yX1_readStack cX1_readStack 5 none, Cond.fieldLink RX1 11 "CrashBuckets$Buckets" "frames" "[[I", Cond.instanceMethod yX0_functionAt, Cond.selects RX0 yX0_functionAt yX0_functionAt, Cond.code yX0_functionAt cX0_functionAt 4 (some .int), Cond.instanceMethod yX1_sortAll, Cond.selects RX1 yX1_sortAll yX1_sortAll, Cond.code yX1_sortAll cX1_sortAll 4 none, Cond.methodLink RX1 48 yX1_sort, Cond.instanceMethod yX1_sort, Cond.selects RX1 yX1_sort yX1_sort, Cond.code yX1_sort cX1_sort 5 none]
def wsX4_addRange_r3 : List Cond := [Cond.fieldLink RX1 19 "CrashBuckets$Buckets" "signatures" "[I", Cond.fieldLink RX1 23 "CrashBuckets$Buckets" "names" "[I", Cond.methodLink RX1 52 yX1_pickMattering, Cond.instanceMethod yX1_pickMattering, Cond.selects RX1 yX1_pickMattering yX1_pickMattering, Cond.code yX1_pickMattering cX1_pickMattering 6 none, Cond.fieldLink RX1 16 "CrashBuckets$Buckets" "mattering" "[[I", Cond.instanceMethod yX3_inTheEnd, Cond.initialized RX3, Cond.selects RX3 yX3_inTheEnd yX3_inTheEnd, Cond.code yX3_inTheEnd cX3_inTheEnd 4 (some .int), Cond.fieldLink RX3 15 "CrashBuckets$Rules" "standsFor" "[I", Cond.methodLink RX1 56 yX1_signatureOf, Cond.instanceMethod yX1_signatureOf, Cond.selects RX1 yX1_signatureOf yX1_signatureOf, Cond.code yX1_signatureOf cX1_signatureOf 5 (some .int)]
def wsX4_addRange : List Cond := .code yX4_addRange cX4_addRange 5 (some .int) :: ((wsX4_addRange_r1 ++ (wsX4_addRange_r2 ++ wsX4_addRange_r3)) ++ wsX40 ++ wsX00 ++ wsX20 ++ wsX10 ++ wsX30 ++ (vx_atS RX4 61 "java/lang/IllegalStateException" ["java/lang/RuntimeException", "java/lang/Exception"]).filter goodWord ++ (vx_atS RX4 161 "java/lang/IllegalArgumentException" ["java/lang/RuntimeException", "java/lang/Exception"]).filter goodWord)
def wsX4_ignore_r1 : List Cond := [Cond.fieldLink RX4 19 "CrashBuckets" "rules" "LCrashBuckets$Rules;", Cond.fieldLink RX4 33 "CrashBuckets" "sorted" "LCrashBuckets$Buckets;", Cond.fieldLink RX4 26 "CrashBuckets" "told" "LCrashBuckets$Reports;", Cond.methodLink RX4 45 yX4_isBelow, Cond.static yX4_isBelow, Cond.initialized RX4, Cond.code yX4_isBelow cX4_isBelow 2 (some .boolean), Cond.methodLink RX4 49 yX4_checkArgument, Cond.static yX4_checkArgument, Cond.code yX4_checkArgument cX4_checkArgument 1 none, Cond.classLink RX4 157 "java/lang/IllegalArgumentException", Cond.initialized "java/lang/IllegalArgumentException", Cond.instanceMethod yX1_sortAll, Cond.initialized RX1, Cond.selects RX1 yX1_sortAll yX1_sortAll, Cond.code yX1_sortAll cX1_sortAll 4 none, Cond.methodLink RX1 48 yX1_sort, Cond.instanceMethod yX1_sort, Cond.selects RX1 yX1_sort yX1_sort, Cond.code yX1_sort cX1_sort 5 none, Cond.fieldLink RX1 19 "CrashBuckets$Buckets" "signatures" "[I", Cond.fieldLink RX1 23 "CrashBuckets$Buckets" "names" "[I", Cond.methodLink RX1 52 yX1_pickMattering, Cond.instanceMethod yX1_pickMattering]
def wsX4_ignore_r2 : List Cond := [Cond.selects RX1 yX1_pickMattering yX1_pickMattering, Cond.code yX1_pickMattering cX1_pickMattering 6 none, Cond.fieldLink RX1 11 "CrashBuckets$Buckets" "frames" "[[I", Cond.fieldLink RX1 16 "CrashBuckets$Buckets" "mattering" "[[I", Cond.instanceMethod yX3_inTheEnd, Cond.initialized RX3, Cond.selects RX3 yX3_inTheEnd yX3_inTheEnd, Cond.code yX3_inTheEnd cX3_inTheEnd 4 (some .int), Cond.fieldLink RX3 15 "CrashBuckets$Rules" "standsFor" "[I", Cond.methodLink RX1 56 yX1_signatureOf, Cond.instanceMethod yX1_signatureOf, Cond.selects RX1 yX1_signatureOf yX1_signatureOf, Cond.code yX1_signatureOf cX1_signatureOf 5 (some .int)]
def wsX4_ignore : List Cond := .code yX4_ignore cX4_ignore 4 (some .boolean) :: ((wsX4_ignore_r1 ++ wsX4_ignore_r2) ++ wsX40 ++ wsX30 ++ wsX20 ++ wsX10 ++ (vx_atS RX4 161 "java/lang/IllegalArgumentException" ["java/lang/RuntimeException", "java/lang/Exception"]).filter goodWord)
def wsX4_standFor_r1 : List Cond := [Cond.classLink RX4 57 "java/lang/IllegalStateException", Cond.initialized "java/lang/IllegalStateException", Cond.fieldLink RX4 19 "CrashBuckets" "rules" "LCrashBuckets$Rules;", Cond.fieldLink RX4 33 "CrashBuckets" "sorted" "LCrashBuckets$Buckets;", Cond.fieldLink RX4 26 "CrashBuckets" "told" "LCrashBuckets$Reports;", Cond.methodLink RX4 45 yX4_isBelow, Cond.static yX4_isBelow, Cond.initialized RX4, Cond.code yX4_isBelow cX4_isBelow 2 (some .boolean), Cond.methodLink RX4 49 yX4_checkArgument, Cond.static yX4_checkArgument, Cond.code yX4_checkArgument cX4_checkArgument 1 none, Cond.classLink RX4 157 "java/lang/IllegalArgumentException", Cond.initialized "java/lang/IllegalArgumentException", Cond.instanceMethod yX3_leadsTo, Cond.initialized RX3, Cond.selects RX3 yX3_leadsTo yX3_leadsTo, Cond.code yX3_leadsTo cX3_leadsTo 5 (some .boolean), Cond.fieldLink RX3 15 "CrashBuckets$Rules" "standsFor" "[I", Cond.instanceMethod yX1_sortAll, Cond.initialized RX1, Cond.selects RX1 yX1_sortAll yX1_sortAll, Cond.code yX1_sortAll cX1_sortAll 4 none, Cond.methodLink RX1 48 yX1_sort]
def wsX4_standFor_r2 : List Cond := [Cond.instanceMethod yX1_sort, Cond.selects RX1 yX1_sort yX1_sort, Cond.code yX1_sort cX1_sort 5 none, Cond.fieldLink RX1 19 "CrashBuckets$Buckets" "signatures" "[I", Cond.fieldLink RX1 23 "CrashBuckets$Buckets" "names" "[I", Cond.methodLink RX1 52 yX1_pickMattering, Cond.instanceMethod yX1_pickMattering, Cond.selects RX1 yX1_pickMattering yX1_pickMattering, Cond.code yX1_pickMattering cX1_pickMattering 6 none, Cond.fieldLink RX1 11 "CrashBuckets$Buckets" "frames" "[[I", Cond.fieldLink RX1 16 "CrashBuckets$Buckets" "mattering" "[[I", Cond.instanceMethod yX3_inTheEnd, Cond.selects RX3 yX3_inTheEnd yX3_inTheEnd, Cond.code yX3_inTheEnd cX3_inTheEnd 4 (some .int), Cond.methodLink RX1 56 yX1_signatureOf, Cond.instanceMethod yX1_signatureOf, Cond.selects RX1 yX1_signatureOf yX1_signatureOf, Cond.code yX1_signatureOf cX1_signatureOf 5 (some .int)]
def wsX4_standFor : List Cond := .code yX4_standFor cX4_standFor 4 (some .int) :: ((wsX4_standFor_r1 ++ wsX4_standFor_r2) ++ wsX40 ++ wsX30 ++ wsX20 ++ wsX10 ++ (vx_atS RX4 61 "java/lang/IllegalStateException" ["java/lang/RuntimeException", "java/lang/Exception"]).filter goodWord ++ (vx_atS RX4 161 "java/lang/IllegalArgumentException" ["java/lang/RuntimeException", "java/lang/Exception"]).filter goodWord)
def wsX4_setDepth_r1 : List Cond := [Cond.fieldLink RX4 19 "CrashBuckets" "rules" "LCrashBuckets$Rules;", Cond.fieldLink RX4 33 "CrashBuckets" "sorted" "LCrashBuckets$Buckets;", Cond.fieldLink RX4 26 "CrashBuckets" "told" "LCrashBuckets$Reports;", Cond.methodLink RX4 49 yX4_checkArgument, Cond.static yX4_checkArgument, Cond.initialized RX4, Cond.code yX4_checkArgument cX4_checkArgument 1 none, Cond.classLink RX4 157 "java/lang/IllegalArgumentException", Cond.initialized "java/lang/IllegalArgumentException", Cond.instanceMethod yX1_sortAll, Cond.initialized RX1, Cond.selects RX1 yX1_sortAll yX1_sortAll, Cond.code yX1_sortAll cX1_sortAll 4 none, Cond.methodLink RX1 48 yX1_sort, Cond.instanceMethod yX1_sort, Cond.selects RX1 yX1_sort yX1_sort, Cond.code yX1_sort cX1_sort 5 none, Cond.fieldLink RX1 19 "CrashBuckets$Buckets" "signatures" "[I", Cond.fieldLink RX1 23 "CrashBuckets$Buckets" "names" "[I", Cond.methodLink RX1 52 yX1_pickMattering, Cond.instanceMethod yX1_pickMattering, Cond.selects RX1 yX1_pickMattering yX1_pickMattering, Cond.code yX1_pickMattering cX1_pickMattering 6 none, Cond.fieldLink RX1 11 "CrashBuckets$Buckets" "frames" "[[I"]
def wsX4_setDepth_r2 : List Cond := [Cond.fieldLink RX1 16 "CrashBuckets$Buckets" "mattering" "[[I", Cond.instanceMethod yX3_inTheEnd, Cond.initialized RX3, Cond.selects RX3 yX3_inTheEnd yX3_inTheEnd, Cond.code yX3_inTheEnd cX3_inTheEnd 4 (some .int), Cond.fieldLink RX3 15 "CrashBuckets$Rules" "standsFor" "[I", Cond.methodLink RX1 56 yX1_signatureOf, Cond.instanceMethod yX1_signatureOf, Cond.selects RX1 yX1_signatureOf yX1_signatureOf, Cond.code yX1_signatureOf cX1_signatureOf 5 (some .int)]
def wsX4_setDepth : List Cond := .code yX4_setDepth cX4_setDepth 3 (some .int) :: ((wsX4_setDepth_r1 ++ wsX4_setDepth_r2) ++ wsX40 ++ wsX30 ++ wsX20 ++ wsX10 ++ (vx_atS RX4 161 "java/lang/IllegalArgumentException" ["java/lang/RuntimeException", "java/lang/Exception"]).filter goodWord)
def wsX4_mayFollow : List Cond := .code yX4_mayFollow cX4_mayFollow 2 (some .boolean) :: ([.methodLink RX4 45 yX4_isBelow, .static yX4_isBelow, .initialized RX4, .code yX4_isBelow cX4_isBelow 2 (some .boolean)])
def wsX4_report_r1 : List Cond := [Cond.classLink RX4 57 "java/lang/IllegalStateException", Cond.initialized "java/lang/IllegalStateException", Cond.fieldLink RX4 26 "CrashBuckets" "told" "LCrashBuckets$Reports;", Cond.fieldLink RX4 33 "CrashBuckets" "sorted" "LCrashBuckets$Buckets;", Cond.fieldLink RX4 10 "CrashBuckets" "maps" "LCrashBuckets$AddressMaps;", Cond.fieldLink RX4 19 "CrashBuckets" "rules" "LCrashBuckets$Rules;", Cond.methodLink RX4 45 yX4_isBelow, Cond.static yX4_isBelow, Cond.initialized RX4, Cond.code yX4_isBelow cX4_isBelow 2 (some .boolean), Cond.methodLink RX4 49 yX4_checkArgument, Cond.static yX4_checkArgument, Cond.code yX4_checkArgument cX4_checkArgument 1 none, Cond.classLink RX4 157 "java/lang/IllegalArgumentException", Cond.initialized "java/lang/IllegalArgumentException", Cond.methodLink RX4 100 yX4_mayFollow, Cond.static yX4_mayFollow, Cond.code yX4_mayFollow cX4_mayFollow 2 (some .boolean), Cond.instanceMethod yX2_add, Cond.initialized RX2, Cond.selects RX2 yX2_add yX2_add, Cond.code yX2_add cX2_add 4 (some .int), Cond.fieldLink RX2 9 "CrashBuckets$Reports" "count" "I", Cond.fieldLink RX2 15 "CrashBuckets$Reports" "versions" "[I"]
def wsX4_report_r2 : List Cond := [Cond.fieldLink RX2 19 "CrashBuckets$Reports" "reporters" "[I", Cond.fieldLink RX2 27 "CrashBuckets$Reports" "fixedFrom" "[I", Cond.instanceMethod yX2_setStack, Cond.selects RX2 yX2_setStack yX2_setStack, Cond.code yX2_setStack cX2_setStack 6 none, Cond.fieldLink RX2 24 "CrashBuckets$Reports" "stacks" "[[I", Cond.instanceMethod yX1_readStack, Cond.initialized RX1, Cond.selects RX1 yX1_readStack yX1_readStack, Cond.code yX1_readStack cX1_readStack 5 none, Cond.fieldLink RX1 11 "CrashBuckets$Buckets" "frames" "[[I", Cond.instanceMethod yX0_functionAt, Cond.initialized RX0, Cond.selects RX0 yX0_functionAt yX0_functionAt, Cond.code yX0_functionAt cX0_functionAt 4 (some .int), Cond.fieldLink RX0 9 "CrashBuckets$AddressMaps" "counts" "[I", Cond.fieldLink RX0 17 "CrashBuckets$AddressMaps" "froms" "[[I", Cond.fieldLink RX0 20 "CrashBuckets$AddressMaps" "tos" "[[I", Cond.fieldLink RX0 23 "CrashBuckets$AddressMaps" "functions" "[[I", Cond.instanceMethod yX1_sort, Cond.selects RX1 yX1_sort yX1_sort, Cond.code yX1_sort cX1_sort 5 none, Cond.fieldLink RX1 19 "CrashBuckets$Buckets" "signatures" "[I", Cond.fieldLink RX1 23 "CrashBuckets$Buckets" "names" "[I"]
def wsX4_report_r3 : List Cond := [Cond.methodLink RX1 52 yX1_pickMattering, Cond.instanceMethod yX1_pickMattering, Cond.selects RX1 yX1_pickMattering yX1_pickMattering, Cond.code yX1_pickMattering cX1_pickMattering 6 none, Cond.fieldLink RX1 16 "CrashBuckets$Buckets" "mattering" "[[I", Cond.instanceMethod yX3_inTheEnd, Cond.initialized RX3, Cond.selects RX3 yX3_inTheEnd yX3_inTheEnd, Cond.code yX3_inTheEnd cX3_inTheEnd 4 (some .int), Cond.fieldLink RX3 15 "CrashBuckets$Rules" "standsFor" "[I", Cond.methodLink RX1 56 yX1_signatureOf, Cond.instanceMethod yX1_signatureOf, Cond.selects RX1 yX1_signatureOf yX1_signatureOf, Cond.code yX1_signatureOf cX1_signatureOf 5 (some .int)]
def wsX4_report : List Cond := .code yX4_report cX4_report 8 (some .int) :: ((wsX4_report_r1 ++ (wsX4_report_r2 ++ wsX4_report_r3)) ++ wsX40 ++ wsX20 ++ wsX10 ++ wsX00 ++ wsX30 ++ (vx_atS RX4 61 "java/lang/IllegalStateException" ["java/lang/RuntimeException", "java/lang/Exception"]).filter goodWord ++ (vx_atS RX4 161 "java/lang/IllegalArgumentException" ["java/lang/RuntimeException", "java/lang/Exception"]).filter goodWord)
def wsX4_reports : List Cond := .code yX4_reports cX4_reports 1 (some .int) :: ([.fieldLink RX4 26 "CrashBuckets" "told" "LCrashBuckets$Reports;"] ++ wsX40 ++ wsX20)
def wsX4_checkReport : List Cond := .code yX4_checkReport cX4_checkReport 2 none :: ([.classLink RX4 162 "java/lang/IndexOutOfBoundsException", .initialized "java/lang/IndexOutOfBoundsException", .fieldLink RX4 26 "CrashBuckets" "told" "LCrashBuckets$Reports;", .methodLink RX4 45 yX4_isBelow, .static yX4_isBelow, .initialized RX4, .code yX4_isBelow cX4_isBelow 2 (some .boolean)] ++ wsX40 ++ wsX20 ++ (vx_atS RX4 166 "java/lang/IndexOutOfBoundsException" ["java/lang/RuntimeException", "java/lang/Exception"]).filter goodWord)
def wsX4_frame : List Cond := .code yX4_frame cX4_frame 3 (some .int) :: ([.fieldLink RX4 33 "CrashBuckets" "sorted" "LCrashBuckets$Buckets;", .methodLink RX4 122 yX4_checkReport, .instanceMethod yX4_checkReport, .selects RX4 yX4_checkReport yX4_checkReport, .initialized RX4, .code yX4_checkReport cX4_checkReport 2 none, .classLink RX4 162 "java/lang/IndexOutOfBoundsException", .initialized "java/lang/IndexOutOfBoundsException", .fieldLink RX4 26 "CrashBuckets" "told" "LCrashBuckets$Reports;", .methodLink RX4 45 yX4_isBelow, .static yX4_isBelow, .code yX4_isBelow cX4_isBelow 2 (some .boolean), .methodLink RX4 49 yX4_checkArgument, .static yX4_checkArgument, .code yX4_checkArgument cX4_checkArgument 1 none, .classLink RX4 157 "java/lang/IllegalArgumentException", .initialized "java/lang/IllegalArgumentException"] ++ wsX40 ++ wsX10 ++ wsX20 ++ (vx_atS RX4 166 "java/lang/IndexOutOfBoundsException" ["java/lang/RuntimeException", "java/lang/Exception"]).filter goodWord ++ (vx_atS RX4 161 "java/lang/IllegalArgumentException" ["java/lang/RuntimeException", "java/lang/Exception"]).filter goodWord)
def wsX4_matters : List Cond := .code yX4_matters cX4_matters 3 (some .int) :: ([.fieldLink RX4 33 "CrashBuckets" "sorted" "LCrashBuckets$Buckets;", .methodLink RX4 122 yX4_checkReport, .instanceMethod yX4_checkReport, .selects RX4 yX4_checkReport yX4_checkReport, .initialized RX4, .code yX4_checkReport cX4_checkReport 2 none, .classLink RX4 162 "java/lang/IndexOutOfBoundsException", .initialized "java/lang/IndexOutOfBoundsException", .fieldLink RX4 26 "CrashBuckets" "told" "LCrashBuckets$Reports;", .methodLink RX4 45 yX4_isBelow, .static yX4_isBelow, .code yX4_isBelow cX4_isBelow 2 (some .boolean), .methodLink RX4 49 yX4_checkArgument, .static yX4_checkArgument, .code yX4_checkArgument cX4_checkArgument 1 none, .classLink RX4 157 "java/lang/IllegalArgumentException", .initialized "java/lang/IllegalArgumentException"] ++ wsX40 ++ wsX10 ++ wsX20 ++ (vx_atS RX4 166 "java/lang/IndexOutOfBoundsException" ["java/lang/RuntimeException", "java/lang/Exception"]).filter goodWord ++ (vx_atS RX4 161 "java/lang/IllegalArgumentException" ["java/lang/RuntimeException", "java/lang/Exception"]).filter goodWord)
def wsX4_bucket : List Cond := .code yX4_bucket cX4_bucket 2 (some .int) :: ([.fieldLink RX4 33 "CrashBuckets" "sorted" "LCrashBuckets$Buckets;", .methodLink RX4 122 yX4_checkReport, .instanceMethod yX4_checkReport, .selects RX4 yX4_checkReport yX4_checkReport, .initialized RX4, .code yX4_checkReport cX4_checkReport 2 none, .classLink RX4 162 "java/lang/IndexOutOfBoundsException", .initialized "java/lang/IndexOutOfBoundsException", .fieldLink RX4 26 "CrashBuckets" "told" "LCrashBuckets$Reports;", .methodLink RX4 45 yX4_isBelow, .static yX4_isBelow, .code yX4_isBelow cX4_isBelow 2 (some .boolean)] ++ wsX40 ++ wsX10 ++ wsX20 ++ (vx_atS RX4 166 "java/lang/IndexOutOfBoundsException" ["java/lang/RuntimeException", "java/lang/Exception"]).filter goodWord)
def wsX4_buckets : List Cond := .code yX4_buckets cX4_buckets 3 (some .int) :: ([.fieldLink RX4 26 "CrashBuckets" "told" "LCrashBuckets$Reports;", .fieldLink RX4 33 "CrashBuckets" "sorted" "LCrashBuckets$Buckets;", .instanceMethod yX1_isName, .initialized RX1, .selects RX1 yX1_isName yX1_isName, .code yX1_isName cX1_isName 2 (some .boolean), .fieldLink RX1 23 "CrashBuckets$Buckets" "names" "[I"] ++ wsX40 ++ wsX20 ++ wsX10)
def wsX4_isOf : List Cond := .code yX4_isOf cX4_isOf 4 (some .boolean) :: ([.fieldLink RX4 33 "CrashBuckets" "sorted" "LCrashBuckets$Buckets;", .fieldLink RX4 26 "CrashBuckets" "told" "LCrashBuckets$Reports;"] ++ wsX40 ++ wsX10 ++ wsX20)
def wsX4_countIn : List Cond := .code yX4_countIn cX4_countIn 5 (some .int) :: ([.fieldLink RX4 26 "CrashBuckets" "told" "LCrashBuckets$Reports;", .methodLink RX4 170 yX4_isOf, .instanceMethod yX4_isOf, .selects RX4 yX4_isOf yX4_isOf, .initialized RX4, .code yX4_isOf cX4_isOf 4 (some .boolean), .fieldLink RX4 33 "CrashBuckets" "sorted" "LCrashBuckets$Buckets;"] ++ wsX40 ++ wsX20 ++ wsX10)
def wsX4_size : List Cond := .code yX4_size cX4_size 4 (some .int) :: ([.fieldLink RX4 33 "CrashBuckets" "sorted" "LCrashBuckets$Buckets;", .methodLink RX4 122 yX4_checkReport, .instanceMethod yX4_checkReport, .selects RX4 yX4_checkReport yX4_checkReport, .initialized RX4, .code yX4_checkReport cX4_checkReport 2 none, .classLink RX4 162 "java/lang/IndexOutOfBoundsException", .initialized "java/lang/IndexOutOfBoundsException", .fieldLink RX4 26 "CrashBuckets" "told" "LCrashBuckets$Reports;", .methodLink RX4 45 yX4_isBelow, .static yX4_isBelow, .code yX4_isBelow cX4_isBelow 2 (some .boolean), .methodLink RX4 139 yX4_countIn, .instanceMethod yX4_countIn, .selects RX4 yX4_countIn yX4_countIn, .code yX4_countIn cX4_countIn 5 (some .int), .methodLink RX4 170 yX4_isOf, .instanceMethod yX4_isOf, .selects RX4 yX4_isOf yX4_isOf, .code yX4_isOf cX4_isOf 4 (some .boolean)] ++ wsX40 ++ wsX10 ++ wsX20 ++ (vx_atS RX4 166 "java/lang/IndexOutOfBoundsException" ["java/lang/RuntimeException", "java/lang/Exception"]).filter goodWord)
def wsX4_setSessions : List Cond := .code yX4_setSessions cX4_setSessions 4 (some .int) :: ([.constant RX4 142 (1000000), .fieldLink RX4 37 "CrashBuckets" "sessions" "[I", .methodLink RX4 45 yX4_isBelow, .static yX4_isBelow, .initialized RX4, .code yX4_isBelow cX4_isBelow 2 (some .boolean), .methodLink RX4 49 yX4_checkArgument, .static yX4_checkArgument, .code yX4_checkArgument cX4_checkArgument 1 none, .classLink RX4 157 "java/lang/IllegalArgumentException", .initialized "java/lang/IllegalArgumentException"] ++ wsX40 ++ (vx_atS RX4 161 "java/lang/IllegalArgumentException" ["java/lang/RuntimeException", "java/lang/Exception"]).filter goodWord)
def wsX4_setLimit : List Cond := .code yX4_setLimit cX4_setLimit 3 (some .int) :: ([.fieldLink RX4 41 "CrashBuckets" "limit" "I", .methodLink RX4 49 yX4_checkArgument, .static yX4_checkArgument, .initialized RX4, .code yX4_checkArgument cX4_checkArgument 1 none, .classLink RX4 157 "java/lang/IllegalArgumentException", .initialized "java/lang/IllegalArgumentException"] ++ wsX40 ++ (vx_atS RX4 161 "java/lang/IllegalArgumentException" ["java/lang/RuntimeException", "java/lang/Exception"]).filter goodWord)
def wsX4_rateOf : List Cond := .code yX4_rateOf cX4_rateOf 4 (some .int) :: ([.fieldLink RX4 37 "CrashBuckets" "sessions" "[I", .methodLink RX4 139 yX4_countIn, .instanceMethod yX4_countIn, .selects RX4 yX4_countIn yX4_countIn, .initialized RX4, .code yX4_countIn cX4_countIn 5 (some .int), .fieldLink RX4 26 "CrashBuckets" "told" "LCrashBuckets$Reports;", .methodLink RX4 170 yX4_isOf, .instanceMethod yX4_isOf, .selects RX4 yX4_isOf yX4_isOf, .code yX4_isOf cX4_isOf 4 (some .boolean), .fieldLink RX4 33 "CrashBuckets" "sorted" "LCrashBuckets$Buckets;"] ++ wsX40 ++ wsX20 ++ wsX10)
def wsX4_rate_r1 : List Cond := [Cond.fieldLink RX4 33 "CrashBuckets" "sorted" "LCrashBuckets$Buckets;", Cond.methodLink RX4 122 yX4_checkReport, Cond.instanceMethod yX4_checkReport, Cond.selects RX4 yX4_checkReport yX4_checkReport, Cond.initialized RX4, Cond.code yX4_checkReport cX4_checkReport 2 none, Cond.classLink RX4 162 "java/lang/IndexOutOfBoundsException", Cond.initialized "java/lang/IndexOutOfBoundsException", Cond.fieldLink RX4 26 "CrashBuckets" "told" "LCrashBuckets$Reports;", Cond.methodLink RX4 45 yX4_isBelow, Cond.static yX4_isBelow, Cond.code yX4_isBelow cX4_isBelow 2 (some .boolean), Cond.methodLink RX4 49 yX4_checkArgument, Cond.static yX4_checkArgument, Cond.code yX4_checkArgument cX4_checkArgument 1 none, Cond.classLink RX4 157 "java/lang/IllegalArgumentException", Cond.initialized "java/lang/IllegalArgumentException", Cond.methodLink RX4 143 yX4_rateOf, Cond.instanceMethod yX4_rateOf, Cond.selects RX4 yX4_rateOf yX4_rateOf, Cond.code yX4_rateOf cX4_rateOf 4 (some .int), Cond.fieldLink RX4 37 "CrashBuckets" "sessions" "[I", Cond.methodLink RX4 139 yX4_countIn, Cond.instanceMethod yX4_countIn]
def wsX4_rate_r2 : List Cond := [Cond.selects RX4 yX4_countIn yX4_countIn, Cond.code yX4_countIn cX4_countIn 5 (some .int), Cond.methodLink RX4 170 yX4_isOf, Cond.instanceMethod yX4_isOf, Cond.selects RX4 yX4_isOf yX4_isOf, Cond.code yX4_isOf cX4_isOf 4 (some .boolean)]
def wsX4_rate : List Cond := .code yX4_rate cX4_rate 3 (some .int) :: ((wsX4_rate_r1 ++ wsX4_rate_r2) ++ wsX40 ++ wsX10 ++ wsX20 ++ (vx_atS RX4 166 "java/lang/IndexOutOfBoundsException" ["java/lang/RuntimeException", "java/lang/Exception"]).filter goodWord ++ (vx_atS RX4 161 "java/lang/IllegalArgumentException" ["java/lang/RuntimeException", "java/lang/Exception"]).filter goodWord)
def wsJ6_bitCount_0f7a4 : List Cond := .code yJ6_bitCount_0f7a4 cJ6_bitCount_0f7a4 1 (some .int) :: ([.constant RJ6 265 (1431655765), .constant RJ6 266 (858993459), .constant RJ6 267 (252645135)])
def wsX4_usersOf : List Cond := .code yX4_usersOf cX4_usersOf 5 (some .int) :: ([.fieldLink RX4 26 "CrashBuckets" "told" "LCrashBuckets$Reports;", .methodLink RX4 170 yX4_isOf, .instanceMethod yX4_isOf, .selects RX4 yX4_isOf yX4_isOf, .initialized RX4, .code yX4_isOf cX4_isOf 4 (some .boolean), .fieldLink RX4 33 "CrashBuckets" "sorted" "LCrashBuckets$Buckets;", .methodLink RX4 176 yJ6_bitCount_0f7a4, .static yJ6_bitCount_0f7a4, .initialized RJ6, .code yJ6_bitCount_0f7a4 cJ6_bitCount_0f7a4 1 (some .int), .constant RJ6 265 (1431655765), .constant RJ6 266 (858993459), .constant RJ6 267 (252645135)] ++ wsX40 ++ wsX20 ++ wsX10)
def wsX4_users_r1 : List Cond := [Cond.fieldLink RX4 33 "CrashBuckets" "sorted" "LCrashBuckets$Buckets;", Cond.methodLink RX4 122 yX4_checkReport, Cond.instanceMethod yX4_checkReport, Cond.selects RX4 yX4_checkReport yX4_checkReport, Cond.initialized RX4, Cond.code yX4_checkReport cX4_checkReport 2 none, Cond.classLink RX4 162 "java/lang/IndexOutOfBoundsException", Cond.initialized "java/lang/IndexOutOfBoundsException", Cond.fieldLink RX4 26 "CrashBuckets" "told" "LCrashBuckets$Reports;", Cond.methodLink RX4 45 yX4_isBelow, Cond.static yX4_isBelow, Cond.code yX4_isBelow cX4_isBelow 2 (some .boolean), Cond.methodLink RX4 49 yX4_checkArgument, Cond.static yX4_checkArgument, Cond.code yX4_checkArgument cX4_checkArgument 1 none, Cond.classLink RX4 157 "java/lang/IllegalArgumentException", Cond.initialized "java/lang/IllegalArgumentException", Cond.methodLink RX4 146 yX4_usersOf, Cond.instanceMethod yX4_usersOf, Cond.selects RX4 yX4_usersOf yX4_usersOf, Cond.code yX4_usersOf cX4_usersOf 5 (some .int), Cond.methodLink RX4 170 yX4_isOf, Cond.instanceMethod yX4_isOf, Cond.selects RX4 yX4_isOf yX4_isOf]
def wsX4_users_r2 : List Cond := [Cond.code yX4_isOf cX4_isOf 4 (some .boolean), Cond.methodLink RX4 176 yJ6_bitCount_0f7a4, Cond.static yJ6_bitCount_0f7a4, Cond.initialized RJ6, Cond.code yJ6_bitCount_0f7a4 cJ6_bitCount_0f7a4 1 (some .int), Cond.constant RJ6 265 (1431655765), Cond.constant RJ6 266 (858993459), Cond.constant RJ6 267 (252645135)]
def wsX4_users : List Cond := .code yX4_users cX4_users 3 (some .int) :: ((wsX4_users_r1 ++ wsX4_users_r2) ++ wsX40 ++ wsX10 ++ wsX20 ++ (vx_atS RX4 166 "java/lang/IndexOutOfBoundsException" ["java/lang/RuntimeException", "java/lang/Exception"]).filter goodWord ++ (vx_atS RX4 161 "java/lang/IllegalArgumentException" ["java/lang/RuntimeException", "java/lang/Exception"]).filter goodWord)
def wsX4_gate_r1 : List Cond := [Cond.fieldLink RX4 37 "CrashBuckets" "sessions" "[I", Cond.fieldLink RX4 26 "CrashBuckets" "told" "LCrashBuckets$Reports;", Cond.fieldLink RX4 33 "CrashBuckets" "sorted" "LCrashBuckets$Buckets;", Cond.fieldLink RX4 41 "CrashBuckets" "limit" "I", Cond.methodLink RX4 45 yX4_isBelow, Cond.static yX4_isBelow, Cond.initialized RX4, Cond.code yX4_isBelow cX4_isBelow 2 (some .boolean), Cond.methodLink RX4 49 yX4_checkArgument, Cond.static yX4_checkArgument, Cond.code yX4_checkArgument cX4_checkArgument 1 none, Cond.classLink RX4 157 "java/lang/IllegalArgumentException", Cond.initialized "java/lang/IllegalArgumentException", Cond.instanceMethod yX1_isName, Cond.initialized RX1, Cond.selects RX1 yX1_isName yX1_isName, Cond.code yX1_isName cX1_isName 2 (some .boolean), Cond.fieldLink RX1 23 "CrashBuckets$Buckets" "names" "[I", Cond.methodLink RX4 143 yX4_rateOf, Cond.instanceMethod yX4_rateOf, Cond.selects RX4 yX4_rateOf yX4_rateOf, Cond.code yX4_rateOf cX4_rateOf 4 (some .int), Cond.methodLink RX4 139 yX4_countIn, Cond.instanceMethod yX4_countIn]
def wsX4_gate_r2 : List Cond := [Cond.selects RX4 yX4_countIn yX4_countIn, Cond.code yX4_countIn cX4_countIn 5 (some .int), Cond.methodLink RX4 170 yX4_isOf, Cond.instanceMethod yX4_isOf, Cond.selects RX4 yX4_isOf yX4_isOf, Cond.code yX4_isOf cX4_isOf 4 (some .boolean), Cond.methodLink RX4 146 yX4_usersOf, Cond.instanceMethod yX4_usersOf, Cond.selects RX4 yX4_usersOf yX4_usersOf, Cond.code yX4_usersOf cX4_usersOf 5 (some .int), Cond.methodLink RX4 176 yJ6_bitCount_0f7a4, Cond.static yJ6_bitCount_0f7a4, Cond.initialized RJ6, Cond.code yJ6_bitCount_0f7a4 cJ6_bitCount_0f7a4 1 (some .int), Cond.constant RJ6 265 (1431655765), Cond.constant RJ6 266 (858993459), Cond.constant RJ6 267 (252645135)]
def wsX4_gate : List Cond := .code yX4_gate cX4_gate 6 (some .int) :: ((wsX4_gate_r1 ++ wsX4_gate_r2) ++ wsX40 ++ wsX20 ++ wsX10 ++ (vx_atS RX4 161 "java/lang/IllegalArgumentException" ["java/lang/RuntimeException", "java/lang/Exception"]).filter goodWord)
def wsX4_worst_r1 : List Cond := [Cond.fieldLink RX4 26 "CrashBuckets" "told" "LCrashBuckets$Reports;", Cond.fieldLink RX4 33 "CrashBuckets" "sorted" "LCrashBuckets$Buckets;", Cond.methodLink RX4 45 yX4_isBelow, Cond.static yX4_isBelow, Cond.initialized RX4, Cond.code yX4_isBelow cX4_isBelow 2 (some .boolean), Cond.methodLink RX4 49 yX4_checkArgument, Cond.static yX4_checkArgument, Cond.code yX4_checkArgument cX4_checkArgument 1 none, Cond.classLink RX4 157 "java/lang/IllegalArgumentException", Cond.initialized "java/lang/IllegalArgumentException", Cond.instanceMethod yX1_isName, Cond.initialized RX1, Cond.selects RX1 yX1_isName yX1_isName, Cond.code yX1_isName cX1_isName 2 (some .boolean), Cond.fieldLink RX1 23 "CrashBuckets$Buckets" "names" "[I", Cond.methodLink RX4 143 yX4_rateOf, Cond.instanceMethod yX4_rateOf, Cond.selects RX4 yX4_rateOf yX4_rateOf, Cond.code yX4_rateOf cX4_rateOf 4 (some .int), Cond.fieldLink RX4 37 "CrashBuckets" "sessions" "[I", Cond.methodLink RX4 139 yX4_countIn, Cond.instanceMethod yX4_countIn, Cond.selects RX4 yX4_countIn yX4_countIn]
def wsX4_worst_r2 : List Cond := [Cond.code yX4_countIn cX4_countIn 5 (some .int), Cond.methodLink RX4 170 yX4_isOf, Cond.instanceMethod yX4_isOf, Cond.selects RX4 yX4_isOf yX4_isOf, Cond.code yX4_isOf cX4_isOf 4 (some .boolean)]
def wsX4_worst : List Cond := .code yX4_worst cX4_worst 6 (some .int) :: ((wsX4_worst_r1 ++ wsX4_worst_r2) ++ wsX40 ++ wsX20 ++ wsX10 ++ (vx_atS RX4 161 "java/lang/IllegalArgumentException" ["java/lang/RuntimeException", "java/lang/Exception"]).filter goodWord)
def wsX4_fix : List Cond := .code yX4_fix cX4_fix 4 (some .int) :: ([.fieldLink RX4 26 "CrashBuckets" "told" "LCrashBuckets$Reports;", .methodLink RX4 122 yX4_checkReport, .instanceMethod yX4_checkReport, .selects RX4 yX4_checkReport yX4_checkReport, .initialized RX4, .code yX4_checkReport cX4_checkReport 2 none, .classLink RX4 162 "java/lang/IndexOutOfBoundsException", .initialized "java/lang/IndexOutOfBoundsException", .methodLink RX4 45 yX4_isBelow, .static yX4_isBelow, .code yX4_isBelow cX4_isBelow 2 (some .boolean), .methodLink RX4 49 yX4_checkArgument, .static yX4_checkArgument, .code yX4_checkArgument cX4_checkArgument 1 none, .classLink RX4 157 "java/lang/IllegalArgumentException", .initialized "java/lang/IllegalArgumentException"] ++ wsX40 ++ wsX20 ++ (vx_atS RX4 166 "java/lang/IndexOutOfBoundsException" ["java/lang/RuntimeException", "java/lang/Exception"]).filter goodWord ++ (vx_atS RX4 161 "java/lang/IllegalArgumentException" ["java/lang/RuntimeException", "java/lang/Exception"]).filter goodWord)
def wsX4_greatestRateBefore : List Cond := .code yX4_greatestRateBefore cX4_greatestRateBefore 5 (some .int) :: ([.methodLink RX4 182 Lib.Math.max.name, .static Lib.Math.max.name, .initialized "java/lang/Math", .code Lib.Math.max.name Lib.Math.max.code 2 (some .int), .methodLink RX4 143 yX4_rateOf, .instanceMethod yX4_rateOf, .selects RX4 yX4_rateOf yX4_rateOf, .initialized RX4, .code yX4_rateOf cX4_rateOf 4 (some .int), .fieldLink RX4 37 "CrashBuckets" "sessions" "[I", .methodLink RX4 139 yX4_countIn, .instanceMethod yX4_countIn, .selects RX4 yX4_countIn yX4_countIn, .code yX4_countIn cX4_countIn 5 (some .int), .fieldLink RX4 26 "CrashBuckets" "told" "LCrashBuckets$Reports;", .methodLink RX4 170 yX4_isOf, .instanceMethod yX4_isOf, .selects RX4 yX4_isOf yX4_isOf, .code yX4_isOf cX4_isOf 4 (some .boolean), .fieldLink RX4 33 "CrashBuckets" "sorted" "LCrashBuckets$Buckets;"] ++ wsX40 ++ wsX20 ++ wsX10)
def wsX4_holds_r1 : List Cond := [Cond.classLink RX4 57 "java/lang/IllegalStateException", Cond.initialized "java/lang/IllegalStateException", Cond.fieldLink RX4 26 "CrashBuckets" "told" "LCrashBuckets$Reports;", Cond.fieldLink RX4 33 "CrashBuckets" "sorted" "LCrashBuckets$Buckets;", Cond.fieldLink RX4 37 "CrashBuckets" "sessions" "[I", Cond.methodLink RX4 122 yX4_checkReport, Cond.instanceMethod yX4_checkReport, Cond.selects RX4 yX4_checkReport yX4_checkReport, Cond.initialized RX4, Cond.code yX4_checkReport cX4_checkReport 2 none, Cond.classLink RX4 162 "java/lang/IndexOutOfBoundsException", Cond.initialized "java/lang/IndexOutOfBoundsException", Cond.methodLink RX4 45 yX4_isBelow, Cond.static yX4_isBelow, Cond.code yX4_isBelow cX4_isBelow 2 (some .boolean), Cond.methodLink RX4 154 yX4_greatestRateBefore, Cond.instanceMethod yX4_greatestRateBefore, Cond.selects RX4 yX4_greatestRateBefore yX4_greatestRateBefore, Cond.code yX4_greatestRateBefore cX4_greatestRateBefore 5 (some .int), Cond.methodLink RX4 182 Lib.Math.max.name, Cond.static Lib.Math.max.name, Cond.initialized "java/lang/Math", Cond.code Lib.Math.max.name Lib.Math.max.code 2 (some .int), Cond.methodLink RX4 143 yX4_rateOf]
def wsX4_holds_r2 : List Cond := [Cond.instanceMethod yX4_rateOf, Cond.selects RX4 yX4_rateOf yX4_rateOf, Cond.code yX4_rateOf cX4_rateOf 4 (some .int), Cond.methodLink RX4 139 yX4_countIn, Cond.instanceMethod yX4_countIn, Cond.selects RX4 yX4_countIn yX4_countIn, Cond.code yX4_countIn cX4_countIn 5 (some .int), Cond.methodLink RX4 170 yX4_isOf, Cond.instanceMethod yX4_isOf, Cond.selects RX4 yX4_isOf yX4_isOf, Cond.code yX4_isOf cX4_isOf 4 (some .boolean)]
def wsX4_holds : List Cond := .code yX4_holds cX4_holds 6 (some .boolean) :: ((wsX4_holds_r1 ++ wsX4_holds_r2) ++ wsX40 ++ wsX20 ++ wsX10 ++ (vx_atS RX4 61 "java/lang/IllegalStateException" ["java/lang/RuntimeException", "java/lang/Exception"]).filter goodWord ++ (vx_atS RX4 166 "java/lang/IndexOutOfBoundsException" ["java/lang/RuntimeException", "java/lang/Exception"]).filter goodWord)
def wsJ9_max_7cf53 : List Cond := .code yJ9_max_7cf53 cJ9_max_7cf53 2 (some .int) :: ([])
def wsL_cell : List Cond := .code yL_cell cL_cell 2 (some .int) :: ([.constant RL 7 (49223), .constant RL 8 (3037959)])
def wsL_low : List Cond := .code yL_low cL_low 2 (some .int) :: ([.constant RL 9 (2147483647)])
def wsL_calls_r1 : List Cond := [Cond.classLink RL 24 "java/lang/IllegalStateException", Cond.methodLink RL 10 yX4_addRange, Cond.instanceMethod yX4_addRange, Cond.selects RX4 yX4_addRange yX4_addRange, Cond.initialized RX4, Cond.code yX4_addRange cX4_addRange 5 (some .int), Cond.classLink RX4 57 "java/lang/IllegalStateException", Cond.initialized "java/lang/IllegalStateException", Cond.fieldLink RX4 10 "CrashBuckets" "maps" "LCrashBuckets$AddressMaps;", Cond.fieldLink RX4 33 "CrashBuckets" "sorted" "LCrashBuckets$Buckets;", Cond.fieldLink RX4 26 "CrashBuckets" "told" "LCrashBuckets$Reports;", Cond.fieldLink RX4 19 "CrashBuckets" "rules" "LCrashBuckets$Rules;", Cond.methodLink RX4 45 yX4_isBelow, Cond.static yX4_isBelow, Cond.code yX4_isBelow cX4_isBelow 2 (some .boolean), Cond.methodLink RX4 49 yX4_checkArgument, Cond.static yX4_checkArgument, Cond.code yX4_checkArgument cX4_checkArgument 1 none, Cond.classLink RX4 157 "java/lang/IllegalArgumentException", Cond.initialized "java/lang/IllegalArgumentException", Cond.instanceMethod yX0_isFull, Cond.initialized RX0, Cond.selects RX0 yX0_isFull yX0_isFull, Cond.code yX0_isFull cX0_isFull 2 (some .boolean)]
def wsL_calls_r2 : List Cond := [Cond.fieldLink RX0 9 "CrashBuckets$AddressMaps" "counts" "[I", Cond.instanceMethod yX0_overlaps, Cond.selects RX0 yX0_overlaps yX0_overlaps, Cond.code yX0_overlaps cX0_overlaps 5 (some .boolean), Cond.fieldLink RX0 17 "CrashBuckets$AddressMaps" "froms" "[[I", Cond.fieldLink RX0 20 "CrashBuckets$AddressMaps" "tos" "[[I", Cond.instanceMethod yX0_add, Cond.selects RX0 yX0_add yX0_add, Cond.code yX0_add cX0_add 6 none, Cond.fieldLink RX0 23 "CrashBuckets$AddressMaps" "functions" "[[I", Cond.instanceMethod yX1_readStacksOf, Cond.initialized RX1, Cond.selects RX1 yX1_readStacksOf yX1_readStacksOf, Cond.code yX1_readStacksOf cX1_readStacksOf 5 none, Cond.methodLink RX1 35 yX1_readStack, Cond.instanceMethod yX1_readStack, Cond.selects RX1 yX1_readStack yX1_readStack, Cond.code yX1_readStack cX1_readStack 5 none, Cond.fieldLink RX1 11 "CrashBuckets$Buckets" "frames" "[[I", Cond.instanceMethod yX0_functionAt, Cond.selects RX0 yX0_functionAt yX0_functionAt, Cond.code yX0_functionAt cX0_functionAt 4 (some .int), Cond.instanceMethod yX1_sortAll, Cond.selects RX1 yX1_sortAll yX1_sortAll]
def wsL_calls_r3 : List Cond := [Cond.code yX1_sortAll cX1_sortAll 4 none, Cond.methodLink RX1 48 yX1_sort, Cond.instanceMethod yX1_sort, Cond.selects RX1 yX1_sort yX1_sort, Cond.code yX1_sort cX1_sort 5 none, Cond.fieldLink RX1 19 "CrashBuckets$Buckets" "signatures" "[I", Cond.fieldLink RX1 23 "CrashBuckets$Buckets" "names" "[I", Cond.methodLink RX1 52 yX1_pickMattering, Cond.instanceMethod yX1_pickMattering, Cond.selects RX1 yX1_pickMattering yX1_pickMattering, Cond.code yX1_pickMattering cX1_pickMattering 6 none, Cond.fieldLink RX1 16 "CrashBuckets$Buckets" "mattering" "[[I", Cond.instanceMethod yX3_inTheEnd, Cond.initialized RX3, Cond.selects RX3 yX3_inTheEnd yX3_inTheEnd, Cond.code yX3_inTheEnd cX3_inTheEnd 4 (some .int), Cond.fieldLink RX3 15 "CrashBuckets$Rules" "standsFor" "[I", Cond.methodLink RX1 56 yX1_signatureOf, Cond.instanceMethod yX1_signatureOf, Cond.selects RX1 yX1_signatureOf yX1_signatureOf, Cond.code yX1_signatureOf cX1_signatureOf 5 (some .int), Cond.methodLink RL 16 yX4_standFor, Cond.instanceMethod yX4_standFor, Cond.selects RX4 yX4_standFor yX4_standFor]
def wsL_calls_r4 : List Cond := [Cond.code yX4_standFor cX4_standFor 4 (some .int), Cond.instanceMethod yX3_leadsTo, Cond.selects RX3 yX3_leadsTo yX3_leadsTo, Cond.code yX3_leadsTo cX3_leadsTo 5 (some .boolean), Cond.methodLink RL 20 yX4_holds, Cond.instanceMethod yX4_holds, Cond.selects RX4 yX4_holds yX4_holds, Cond.code yX4_holds cX4_holds 6 (some .boolean), Cond.fieldLink RX4 37 "CrashBuckets" "sessions" "[I", Cond.methodLink RX4 122 yX4_checkReport, Cond.instanceMethod yX4_checkReport, Cond.selects RX4 yX4_checkReport yX4_checkReport, Cond.code yX4_checkReport cX4_checkReport 2 none, Cond.classLink RX4 162 "java/lang/IndexOutOfBoundsException", Cond.initialized "java/lang/IndexOutOfBoundsException", Cond.methodLink RX4 154 yX4_greatestRateBefore, Cond.instanceMethod yX4_greatestRateBefore, Cond.selects RX4 yX4_greatestRateBefore yX4_greatestRateBefore, Cond.code yX4_greatestRateBefore cX4_greatestRateBefore 5 (some .int), Cond.methodLink RX4 182 Lib.Math.max.name, Cond.static Lib.Math.max.name, Cond.initialized "java/lang/Math", Cond.code Lib.Math.max.name Lib.Math.max.code 2 (some .int), Cond.methodLink RX4 143 yX4_rateOf]
def wsL_calls_r5 : List Cond := [Cond.instanceMethod yX4_rateOf, Cond.selects RX4 yX4_rateOf yX4_rateOf, Cond.code yX4_rateOf cX4_rateOf 4 (some .int), Cond.methodLink RX4 139 yX4_countIn, Cond.instanceMethod yX4_countIn, Cond.selects RX4 yX4_countIn yX4_countIn, Cond.code yX4_countIn cX4_countIn 5 (some .int), Cond.methodLink RX4 170 yX4_isOf, Cond.instanceMethod yX4_isOf, Cond.selects RX4 yX4_isOf yX4_isOf, Cond.code yX4_isOf cX4_isOf 4 (some .boolean)]
def wsL_calls : List Cond := .codeWith yL_calls cL_calls 7 (some .int) [(0, 44, 45, 24)] :: ((wsL_calls_r1 ++ (wsL_calls_r2 ++ (wsL_calls_r3 ++ (wsL_calls_r4 ++ wsL_calls_r5)))) ++ wsX40 ++ wsX00 ++ wsX20 ++ wsX10 ++ wsX30 ++ (vx_atS RX4 61 "java/lang/IllegalStateException" ["java/lang/RuntimeException", "java/lang/Exception"]).filter goodWord ++ (vx_atS RX4 161 "java/lang/IllegalArgumentException" ["java/lang/RuntimeException", "java/lang/Exception"]).filter goodWord ++ (vx_atS RX4 166 "java/lang/IndexOutOfBoundsException" ["java/lang/RuntimeException", "java/lang/Exception"]).filter goodWord)
def wsL_frame : List Cond := .code yL_frame cL_frame 10 (some .int) :: ([])
def wsL_ends : List Cond := .code yL_ends cL_ends 4 (some .int) :: ([])
def wsL_number : List Cond := .code yL_number cL_number 13 (some .int) :: ([.methodLink RL 26 yL_frame, .static yL_frame, .initialized RL, .code yL_frame cL_frame 10 (some .int), .methodLink RL 32 yL_ends, .static yL_ends, .code yL_ends cL_ends 4 (some .int)])
def wsL_names : List Cond := .code yL_names cL_names 10 none :: ([.methodLink RL 36 yL_number, .static yL_number, .initialized RL, .code yL_number cL_number 13 (some .int), .methodLink RL 26 yL_frame, .static yL_frame, .code yL_frame cL_frame 10 (some .int), .methodLink RL 32 yL_ends, .static yL_ends, .code yL_ends cL_ends 4 (some .int)])
def wsL_rate : List Cond := .code yL_rate cL_rate 8 (some .int) :: ([])
def wsL_users : List Cond := .code yL_users cL_users 9 (some .int) :: ([])
def wsL_version_r1 : List Cond := [Cond.methodLink RL 40 yL_rate, Cond.static yL_rate, Cond.initialized RL, Cond.code yL_rate cL_rate 8 (some .int), Cond.methodLink RL 44 yL_users, Cond.static yL_users, Cond.code yL_users cL_users 9 (some .int), Cond.methodLink RL 47 yX4_gate, Cond.instanceMethod yX4_gate, Cond.selects RX4 yX4_gate yX4_gate, Cond.initialized RX4, Cond.code yX4_gate cX4_gate 6 (some .int), Cond.fieldLink RX4 37 "CrashBuckets" "sessions" "[I", Cond.fieldLink RX4 26 "CrashBuckets" "told" "LCrashBuckets$Reports;", Cond.fieldLink RX4 33 "CrashBuckets" "sorted" "LCrashBuckets$Buckets;", Cond.fieldLink RX4 41 "CrashBuckets" "limit" "I", Cond.methodLink RX4 45 yX4_isBelow, Cond.static yX4_isBelow, Cond.code yX4_isBelow cX4_isBelow 2 (some .boolean), Cond.methodLink RX4 49 yX4_checkArgument, Cond.static yX4_checkArgument, Cond.code yX4_checkArgument cX4_checkArgument 1 none, Cond.classLink RX4 157 "java/lang/IllegalArgumentException", Cond.initialized "java/lang/IllegalArgumentException"]
def wsL_version_r2 : List Cond := [Cond.instanceMethod yX1_isName, Cond.initialized RX1, Cond.selects RX1 yX1_isName yX1_isName, Cond.code yX1_isName cX1_isName 2 (some .boolean), Cond.fieldLink RX1 23 "CrashBuckets$Buckets" "names" "[I", Cond.methodLink RX4 143 yX4_rateOf, Cond.instanceMethod yX4_rateOf, Cond.selects RX4 yX4_rateOf yX4_rateOf, Cond.code yX4_rateOf cX4_rateOf 4 (some .int), Cond.methodLink RX4 139 yX4_countIn, Cond.instanceMethod yX4_countIn, Cond.selects RX4 yX4_countIn yX4_countIn, Cond.code yX4_countIn cX4_countIn 5 (some .int), Cond.methodLink RX4 170 yX4_isOf, Cond.instanceMethod yX4_isOf, Cond.selects RX4 yX4_isOf yX4_isOf, Cond.code yX4_isOf cX4_isOf 4 (some .boolean), Cond.methodLink RX4 146 yX4_usersOf, Cond.instanceMethod yX4_usersOf, Cond.selects RX4 yX4_usersOf yX4_usersOf, Cond.code yX4_usersOf cX4_usersOf 5 (some .int), Cond.methodLink RX4 176 yJ6_bitCount_0f7a4, Cond.static yJ6_bitCount_0f7a4, Cond.initialized RJ6]
def wsL_version_r3 : List Cond := [Cond.code yJ6_bitCount_0f7a4 cJ6_bitCount_0f7a4 1 (some .int), Cond.constant RJ6 265 (1431655765), Cond.constant RJ6 266 (858993459), Cond.constant RJ6 267 (252645135), Cond.methodLink RL 51 yX4_worst, Cond.instanceMethod yX4_worst, Cond.selects RX4 yX4_worst yX4_worst, Cond.code yX4_worst cX4_worst 6 (some .int)]
def wsL_version : List Cond := .code yL_version cL_version 12 (some .boolean) :: ((wsL_version_r1 ++ (wsL_version_r2 ++ wsL_version_r3)) ++ wsX40 ++ wsX20 ++ wsX10 ++ (vx_atS RX4 161 "java/lang/IllegalArgumentException" ["java/lang/RuntimeException", "java/lang/Exception"]).filter goodWord)
def wsL_holds : List Cond := .code yL_holds cL_holds 9 (some .int) :: ([.methodLink RL 40 yL_rate, .static yL_rate, .initialized RL, .code yL_rate cL_rate 8 (some .int)])
def wsL_isSo_r1 : List Cond := [Cond.methodLink RL 54 yL_names, Cond.static yL_names, Cond.initialized RL, Cond.code yL_names cL_names 10 none, Cond.methodLink RL 36 yL_number, Cond.static yL_number, Cond.code yL_number cL_number 13 (some .int), Cond.methodLink RL 26 yL_frame, Cond.static yL_frame, Cond.code yL_frame cL_frame 10 (some .int), Cond.methodLink RL 32 yL_ends, Cond.static yL_ends, Cond.code yL_ends cL_ends 4 (some .int), Cond.methodLink RL 58 yX4_reports, Cond.instanceMethod yX4_reports, Cond.selects RX4 yX4_reports yX4_reports, Cond.initialized RX4, Cond.code yX4_reports cX4_reports 1 (some .int), Cond.fieldLink RX4 26 "CrashBuckets" "told" "LCrashBuckets$Reports;", Cond.methodLink RL 62 yX4_frame, Cond.instanceMethod yX4_frame, Cond.selects RX4 yX4_frame yX4_frame, Cond.code yX4_frame cX4_frame 3 (some .int), Cond.fieldLink RX4 33 "CrashBuckets" "sorted" "LCrashBuckets$Buckets;"]
def wsL_isSo_r2 : List Cond := [Cond.methodLink RX4 122 yX4_checkReport, Cond.instanceMethod yX4_checkReport, Cond.selects RX4 yX4_checkReport yX4_checkReport, Cond.code yX4_checkReport cX4_checkReport 2 none, Cond.classLink RX4 162 "java/lang/IndexOutOfBoundsException", Cond.initialized "java/lang/IndexOutOfBoundsException", Cond.methodLink RX4 45 yX4_isBelow, Cond.static yX4_isBelow, Cond.code yX4_isBelow cX4_isBelow 2 (some .boolean), Cond.methodLink RX4 49 yX4_checkArgument, Cond.static yX4_checkArgument, Cond.code yX4_checkArgument cX4_checkArgument 1 none, Cond.classLink RX4 157 "java/lang/IllegalArgumentException", Cond.initialized "java/lang/IllegalArgumentException", Cond.methodLink RL 64 yX4_matters, Cond.instanceMethod yX4_matters, Cond.selects RX4 yX4_matters yX4_matters, Cond.code yX4_matters cX4_matters 3 (some .int), Cond.methodLink RL 67 yX4_bucket, Cond.instanceMethod yX4_bucket, Cond.selects RX4 yX4_bucket yX4_bucket, Cond.code yX4_bucket cX4_bucket 2 (some .int), Cond.methodLink RL 70 yX4_size, Cond.instanceMethod yX4_size]
def wsL_isSo_r3 : List Cond := [Cond.selects RX4 yX4_size yX4_size, Cond.code yX4_size cX4_size 4 (some .int), Cond.methodLink RX4 139 yX4_countIn, Cond.instanceMethod yX4_countIn, Cond.selects RX4 yX4_countIn yX4_countIn, Cond.code yX4_countIn cX4_countIn 5 (some .int), Cond.methodLink RX4 170 yX4_isOf, Cond.instanceMethod yX4_isOf, Cond.selects RX4 yX4_isOf yX4_isOf, Cond.code yX4_isOf cX4_isOf 4 (some .boolean), Cond.methodLink RL 73 yL_calls, Cond.static yL_calls, Cond.codeWith yL_calls cL_calls 7 (some .int) [(0, 44, 45, 24)], Cond.classLink RL 24 "java/lang/IllegalStateException", Cond.methodLink RL 10 yX4_addRange, Cond.instanceMethod yX4_addRange, Cond.selects RX4 yX4_addRange yX4_addRange, Cond.code yX4_addRange cX4_addRange 5 (some .int), Cond.classLink RX4 57 "java/lang/IllegalStateException", Cond.initialized "java/lang/IllegalStateException", Cond.fieldLink RX4 10 "CrashBuckets" "maps" "LCrashBuckets$AddressMaps;", Cond.fieldLink RX4 19 "CrashBuckets" "rules" "LCrashBuckets$Rules;", Cond.instanceMethod yX0_isFull, Cond.initialized RX0]
def wsL_isSo_r4 : List Cond := [Cond.selects RX0 yX0_isFull yX0_isFull, Cond.code yX0_isFull cX0_isFull 2 (some .boolean), Cond.fieldLink RX0 9 "CrashBuckets$AddressMaps" "counts" "[I", Cond.instanceMethod yX0_overlaps, Cond.selects RX0 yX0_overlaps yX0_overlaps, Cond.code yX0_overlaps cX0_overlaps 5 (some .boolean), Cond.fieldLink RX0 17 "CrashBuckets$AddressMaps" "froms" "[[I", Cond.fieldLink RX0 20 "CrashBuckets$AddressMaps" "tos" "[[I", Cond.instanceMethod yX0_add, Cond.selects RX0 yX0_add yX0_add, Cond.code yX0_add cX0_add 6 none, Cond.fieldLink RX0 23 "CrashBuckets$AddressMaps" "functions" "[[I", Cond.instanceMethod yX1_readStacksOf, Cond.initialized RX1, Cond.selects RX1 yX1_readStacksOf yX1_readStacksOf, Cond.code yX1_readStacksOf cX1_readStacksOf 5 none, Cond.methodLink RX1 35 yX1_readStack, Cond.instanceMethod yX1_readStack, Cond.selects RX1 yX1_readStack yX1_readStack, Cond.code yX1_readStack cX1_readStack 5 none, Cond.fieldLink RX1 11 "CrashBuckets$Buckets" "frames" "[[I", Cond.instanceMethod yX0_functionAt, Cond.selects RX0 yX0_functionAt yX0_functionAt, Cond.code yX0_functionAt cX0_functionAt 4 (some .int)]
def wsL_isSo_r5 : List Cond := [Cond.instanceMethod yX1_sortAll, Cond.selects RX1 yX1_sortAll yX1_sortAll, Cond.code yX1_sortAll cX1_sortAll 4 none, Cond.methodLink RX1 48 yX1_sort, Cond.instanceMethod yX1_sort, Cond.selects RX1 yX1_sort yX1_sort, Cond.code yX1_sort cX1_sort 5 none, Cond.fieldLink RX1 19 "CrashBuckets$Buckets" "signatures" "[I", Cond.fieldLink RX1 23 "CrashBuckets$Buckets" "names" "[I", Cond.methodLink RX1 52 yX1_pickMattering, Cond.instanceMethod yX1_pickMattering, Cond.selects RX1 yX1_pickMattering yX1_pickMattering, Cond.code yX1_pickMattering cX1_pickMattering 6 none, Cond.fieldLink RX1 16 "CrashBuckets$Buckets" "mattering" "[[I", Cond.instanceMethod yX3_inTheEnd, Cond.initialized RX3, Cond.selects RX3 yX3_inTheEnd yX3_inTheEnd, Cond.code yX3_inTheEnd cX3_inTheEnd 4 (some .int), Cond.fieldLink RX3 15 "CrashBuckets$Rules" "standsFor" "[I", Cond.methodLink RX1 56 yX1_signatureOf, Cond.instanceMethod yX1_signatureOf, Cond.selects RX1 yX1_signatureOf yX1_signatureOf, Cond.code yX1_signatureOf cX1_signatureOf 5 (some .int), Cond.methodLink RL 16 yX4_standFor]
def wsL_isSo_r6 : List Cond := [Cond.instanceMethod yX4_standFor, Cond.selects RX4 yX4_standFor yX4_standFor, Cond.code yX4_standFor cX4_standFor 4 (some .int), Cond.instanceMethod yX3_leadsTo, Cond.selects RX3 yX3_leadsTo yX3_leadsTo, Cond.code yX3_leadsTo cX3_leadsTo 5 (some .boolean), Cond.methodLink RL 20 yX4_holds, Cond.instanceMethod yX4_holds, Cond.selects RX4 yX4_holds yX4_holds, Cond.code yX4_holds cX4_holds 6 (some .boolean), Cond.fieldLink RX4 37 "CrashBuckets" "sessions" "[I", Cond.methodLink RX4 154 yX4_greatestRateBefore, Cond.instanceMethod yX4_greatestRateBefore, Cond.selects RX4 yX4_greatestRateBefore yX4_greatestRateBefore, Cond.code yX4_greatestRateBefore cX4_greatestRateBefore 5 (some .int), Cond.methodLink RX4 182 Lib.Math.max.name, Cond.static Lib.Math.max.name, Cond.initialized "java/lang/Math", Cond.code Lib.Math.max.name Lib.Math.max.code 2 (some .int), Cond.methodLink RX4 143 yX4_rateOf, Cond.instanceMethod yX4_rateOf, Cond.selects RX4 yX4_rateOf yX4_rateOf, Cond.code yX4_rateOf cX4_rateOf 4 (some .int), Cond.methodLink RL 77 yL_holds]
def wsL_isSo_r7 : List Cond := [Cond.static yL_holds, Cond.code yL_holds cL_holds 9 (some .int), Cond.methodLink RL 40 yL_rate, Cond.static yL_rate, Cond.code yL_rate cL_rate 8 (some .int), Cond.methodLink RL 80 yX4_rate, Cond.instanceMethod yX4_rate, Cond.selects RX4 yX4_rate yX4_rate, Cond.code yX4_rate cX4_rate 3 (some .int), Cond.methodLink RL 82 yX4_users, Cond.instanceMethod yX4_users, Cond.selects RX4 yX4_users yX4_users, Cond.code yX4_users cX4_users 3 (some .int), Cond.methodLink RX4 146 yX4_usersOf, Cond.instanceMethod yX4_usersOf, Cond.selects RX4 yX4_usersOf yX4_usersOf, Cond.code yX4_usersOf cX4_usersOf 5 (some .int), Cond.methodLink RX4 176 yJ6_bitCount_0f7a4, Cond.static yJ6_bitCount_0f7a4, Cond.initialized RJ6, Cond.code yJ6_bitCount_0f7a4 cJ6_bitCount_0f7a4 1 (some .int), Cond.constant RJ6 265 (1431655765), Cond.constant RJ6 266 (858993459), Cond.constant RJ6 267 (252645135)]
def wsL_isSo_r8 : List Cond := [Cond.methodLink RL 44 yL_users, Cond.static yL_users, Cond.code yL_users cL_users 9 (some .int), Cond.methodLink RL 84 yL_version, Cond.static yL_version, Cond.code yL_version cL_version 12 (some .boolean), Cond.methodLink RL 47 yX4_gate, Cond.instanceMethod yX4_gate, Cond.selects RX4 yX4_gate yX4_gate, Cond.code yX4_gate cX4_gate 6 (some .int), Cond.fieldLink RX4 41 "CrashBuckets" "limit" "I", Cond.instanceMethod yX1_isName, Cond.selects RX1 yX1_isName yX1_isName, Cond.code yX1_isName cX1_isName 2 (some .boolean), Cond.methodLink RL 51 yX4_worst, Cond.instanceMethod yX4_worst, Cond.selects RX4 yX4_worst yX4_worst, Cond.code yX4_worst cX4_worst 6 (some .int), Cond.methodLink RL 88 yX4_buckets, Cond.instanceMethod yX4_buckets, Cond.selects RX4 yX4_buckets yX4_buckets, Cond.code yX4_buckets cX4_buckets 3 (some .int)]
def wsL_isSo : List Cond := .code yL_isSo cL_isSo 17 (some .boolean) :: ((wsL_isSo_r1 ++ (wsL_isSo_r2 ++ (wsL_isSo_r3 ++ (wsL_isSo_r4 ++ (wsL_isSo_r5 ++ (wsL_isSo_r6 ++ (wsL_isSo_r7 ++ wsL_isSo_r8))))))) ++ wsX40 ++ wsX20 ++ wsX10 ++ wsX00 ++ wsX30 ++ (vx_atS RX4 166 "java/lang/IndexOutOfBoundsException" ["java/lang/RuntimeException", "java/lang/Exception"]).filter goodWord ++ (vx_atS RX4 161 "java/lang/IllegalArgumentException" ["java/lang/RuntimeException", "java/lang/Exception"]).filter goodWord ++ (vx_atS RX4 61 "java/lang/IllegalStateException" ["java/lang/RuntimeException", "java/lang/Exception"]).filter goodWord)
def wsL_ranges_r1 : List Cond := [Cond.methodLink RL 91 yL_low, Cond.static yL_low, Cond.initialized RL, Cond.code yL_low cL_low 2 (some .int), Cond.constant RL 9 (2147483647), Cond.methodLink RL 73 yL_calls, Cond.static yL_calls, Cond.codeWith yL_calls cL_calls 7 (some .int) [(0, 44, 45, 24)], Cond.classLink RL 24 "java/lang/IllegalStateException", Cond.methodLink RL 10 yX4_addRange, Cond.instanceMethod yX4_addRange, Cond.selects RX4 yX4_addRange yX4_addRange, Cond.initialized RX4, Cond.code yX4_addRange cX4_addRange 5 (some .int), Cond.classLink RX4 57 "java/lang/IllegalStateException", Cond.initialized "java/lang/IllegalStateException", Cond.fieldLink RX4 10 "CrashBuckets" "maps" "LCrashBuckets$AddressMaps;", Cond.fieldLink RX4 33 "CrashBuckets" "sorted" "LCrashBuckets$Buckets;", Cond.fieldLink RX4 26 "CrashBuckets" "told" "LCrashBuckets$Reports;", Cond.fieldLink RX4 19 "CrashBuckets" "rules" "LCrashBuckets$Rules;", Cond.methodLink RX4 45 yX4_isBelow, Cond.static yX4_isBelow, Cond.code yX4_isBelow cX4_isBelow 2 (some .boolean), Cond.methodLink RX4 49 yX4_checkArgument]
def wsL_ranges_r2 : List Cond := [Cond.static yX4_checkArgument, Cond.code yX4_checkArgument cX4_checkArgument 1 none, Cond.classLink RX4 157 "java/lang/IllegalArgumentException", Cond.initialized "java/lang/IllegalArgumentException", Cond.instanceMethod yX0_isFull, Cond.initialized RX0, Cond.selects RX0 yX0_isFull yX0_isFull, Cond.code yX0_isFull cX0_isFull 2 (some .boolean), Cond.fieldLink RX0 9 "CrashBuckets$AddressMaps" "counts" "[I", Cond.instanceMethod yX0_overlaps, Cond.selects RX0 yX0_overlaps yX0_overlaps, Cond.code yX0_overlaps cX0_overlaps 5 (some .boolean), Cond.fieldLink RX0 17 "CrashBuckets$AddressMaps" "froms" "[[I", Cond.fieldLink RX0 20 "CrashBuckets$AddressMaps" "tos" "[[I", Cond.instanceMethod yX0_add, Cond.selects RX0 yX0_add yX0_add, Cond.code yX0_add cX0_add 6 none, Cond.fieldLink RX0 23 "CrashBuckets$AddressMaps" "functions" "[[I", Cond.instanceMethod yX1_readStacksOf, Cond.initialized RX1, Cond.selects RX1 yX1_readStacksOf yX1_readStacksOf, Cond.code yX1_readStacksOf cX1_readStacksOf 5 none, Cond.methodLink RX1 35 yX1_readStack, Cond.instanceMethod yX1_readStack]
def wsL_ranges_r3 : List Cond := [Cond.selects RX1 yX1_readStack yX1_readStack, Cond.code yX1_readStack cX1_readStack 5 none, Cond.fieldLink RX1 11 "CrashBuckets$Buckets" "frames" "[[I", Cond.instanceMethod yX0_functionAt, Cond.selects RX0 yX0_functionAt yX0_functionAt, Cond.code yX0_functionAt cX0_functionAt 4 (some .int), Cond.instanceMethod yX1_sortAll, Cond.selects RX1 yX1_sortAll yX1_sortAll, Cond.code yX1_sortAll cX1_sortAll 4 none, Cond.methodLink RX1 48 yX1_sort, Cond.instanceMethod yX1_sort, Cond.selects RX1 yX1_sort yX1_sort, Cond.code yX1_sort cX1_sort 5 none, Cond.fieldLink RX1 19 "CrashBuckets$Buckets" "signatures" "[I", Cond.fieldLink RX1 23 "CrashBuckets$Buckets" "names" "[I", Cond.methodLink RX1 52 yX1_pickMattering, Cond.instanceMethod yX1_pickMattering, Cond.selects RX1 yX1_pickMattering yX1_pickMattering, Cond.code yX1_pickMattering cX1_pickMattering 6 none, Cond.fieldLink RX1 16 "CrashBuckets$Buckets" "mattering" "[[I", Cond.instanceMethod yX3_inTheEnd, Cond.initialized RX3, Cond.selects RX3 yX3_inTheEnd yX3_inTheEnd, Cond.code yX3_inTheEnd cX3_inTheEnd 4 (some .int)]
def wsL_ranges_r4 : List Cond := [Cond.fieldLink RX3 15 "CrashBuckets$Rules" "standsFor" "[I", Cond.methodLink RX1 56 yX1_signatureOf, Cond.instanceMethod yX1_signatureOf, Cond.selects RX1 yX1_signatureOf yX1_signatureOf, Cond.code yX1_signatureOf cX1_signatureOf 5 (some .int), Cond.methodLink RL 16 yX4_standFor, Cond.instanceMethod yX4_standFor, Cond.selects RX4 yX4_standFor yX4_standFor, Cond.code yX4_standFor cX4_standFor 4 (some .int), Cond.instanceMethod yX3_leadsTo, Cond.selects RX3 yX3_leadsTo yX3_leadsTo, Cond.code yX3_leadsTo cX3_leadsTo 5 (some .boolean), Cond.methodLink RL 20 yX4_holds, Cond.instanceMethod yX4_holds, Cond.selects RX4 yX4_holds yX4_holds, Cond.code yX4_holds cX4_holds 6 (some .boolean), Cond.fieldLink RX4 37 "CrashBuckets" "sessions" "[I", Cond.methodLink RX4 122 yX4_checkReport, Cond.instanceMethod yX4_checkReport, Cond.selects RX4 yX4_checkReport yX4_checkReport, Cond.code yX4_checkReport cX4_checkReport 2 none, Cond.classLink RX4 162 "java/lang/IndexOutOfBoundsException", Cond.initialized "java/lang/IndexOutOfBoundsException", Cond.methodLink RX4 154 yX4_greatestRateBefore]
def wsL_ranges_r5 : List Cond := [Cond.instanceMethod yX4_greatestRateBefore, Cond.selects RX4 yX4_greatestRateBefore yX4_greatestRateBefore, Cond.code yX4_greatestRateBefore cX4_greatestRateBefore 5 (some .int), Cond.methodLink RX4 182 Lib.Math.max.name, Cond.static Lib.Math.max.name, Cond.initialized "java/lang/Math", Cond.code Lib.Math.max.name Lib.Math.max.code 2 (some .int), Cond.methodLink RX4 143 yX4_rateOf, Cond.instanceMethod yX4_rateOf, Cond.selects RX4 yX4_rateOf yX4_rateOf, Cond.code yX4_rateOf cX4_rateOf 4 (some .int), Cond.methodLink RX4 139 yX4_countIn, Cond.instanceMethod yX4_countIn, Cond.selects RX4 yX4_countIn yX4_countIn, Cond.code yX4_countIn cX4_countIn 5 (some .int), Cond.methodLink RX4 170 yX4_isOf, Cond.instanceMethod yX4_isOf, Cond.selects RX4 yX4_isOf yX4_isOf, Cond.code yX4_isOf cX4_isOf 4 (some .boolean)]
def wsL_ranges : List Cond := .code yL_ranges cL_ranges 12 (some .boolean) :: ((wsL_ranges_r1 ++ (wsL_ranges_r2 ++ (wsL_ranges_r3 ++ (wsL_ranges_r4 ++ wsL_ranges_r5)))) ++ wsX40 ++ wsX00 ++ wsX20 ++ wsX10 ++ wsX30 ++ (vx_atS RX4 61 "java/lang/IllegalStateException" ["java/lang/RuntimeException", "java/lang/Exception"]).filter goodWord ++ (vx_atS RX4 161 "java/lang/IllegalArgumentException" ["java/lang/RuntimeException", "java/lang/Exception"]).filter goodWord ++ (vx_atS RX4 166 "java/lang/IndexOutOfBoundsException" ["java/lang/RuntimeException", "java/lang/Exception"]).filter goodWord)
def wsL_rules_r1 : List Cond := [Cond.methodLink RL 91 yL_low, Cond.static yL_low, Cond.initialized RL, Cond.code yL_low cL_low 2 (some .int), Cond.constant RL 9 (2147483647), Cond.methodLink RL 94 yX4_ignore, Cond.instanceMethod yX4_ignore, Cond.selects RX4 yX4_ignore yX4_ignore, Cond.initialized RX4, Cond.code yX4_ignore cX4_ignore 4 (some .boolean), Cond.fieldLink RX4 19 "CrashBuckets" "rules" "LCrashBuckets$Rules;", Cond.fieldLink RX4 33 "CrashBuckets" "sorted" "LCrashBuckets$Buckets;", Cond.fieldLink RX4 26 "CrashBuckets" "told" "LCrashBuckets$Reports;", Cond.methodLink RX4 45 yX4_isBelow, Cond.static yX4_isBelow, Cond.code yX4_isBelow cX4_isBelow 2 (some .boolean), Cond.methodLink RX4 49 yX4_checkArgument, Cond.static yX4_checkArgument, Cond.code yX4_checkArgument cX4_checkArgument 1 none, Cond.classLink RX4 157 "java/lang/IllegalArgumentException", Cond.initialized "java/lang/IllegalArgumentException", Cond.instanceMethod yX1_sortAll, Cond.initialized RX1, Cond.selects RX1 yX1_sortAll yX1_sortAll]
def wsL_rules_r2 : List Cond := [Cond.code yX1_sortAll cX1_sortAll 4 none, Cond.methodLink RX1 48 yX1_sort, Cond.instanceMethod yX1_sort, Cond.selects RX1 yX1_sort yX1_sort, Cond.code yX1_sort cX1_sort 5 none, Cond.fieldLink RX1 19 "CrashBuckets$Buckets" "signatures" "[I", Cond.fieldLink RX1 23 "CrashBuckets$Buckets" "names" "[I", Cond.methodLink RX1 52 yX1_pickMattering, Cond.instanceMethod yX1_pickMattering, Cond.selects RX1 yX1_pickMattering yX1_pickMattering, Cond.code yX1_pickMattering cX1_pickMattering 6 none, Cond.fieldLink RX1 11 "CrashBuckets$Buckets" "frames" "[[I", Cond.fieldLink RX1 16 "CrashBuckets$Buckets" "mattering" "[[I", Cond.instanceMethod yX3_inTheEnd, Cond.initialized RX3, Cond.selects RX3 yX3_inTheEnd yX3_inTheEnd, Cond.code yX3_inTheEnd cX3_inTheEnd 4 (some .int), Cond.fieldLink RX3 15 "CrashBuckets$Rules" "standsFor" "[I", Cond.methodLink RX1 56 yX1_signatureOf, Cond.instanceMethod yX1_signatureOf, Cond.selects RX1 yX1_signatureOf yX1_signatureOf, Cond.code yX1_signatureOf cX1_signatureOf 5 (some .int), Cond.methodLink RL 73 yL_calls, Cond.static yL_calls]
def wsL_rules_r3 : List Cond := [Cond.codeWith yL_calls cL_calls 7 (some .int) [(0, 44, 45, 24)], Cond.classLink RL 24 "java/lang/IllegalStateException", Cond.methodLink RL 10 yX4_addRange, Cond.instanceMethod yX4_addRange, Cond.selects RX4 yX4_addRange yX4_addRange, Cond.code yX4_addRange cX4_addRange 5 (some .int), Cond.classLink RX4 57 "java/lang/IllegalStateException", Cond.initialized "java/lang/IllegalStateException", Cond.fieldLink RX4 10 "CrashBuckets" "maps" "LCrashBuckets$AddressMaps;", Cond.instanceMethod yX0_isFull, Cond.initialized RX0, Cond.selects RX0 yX0_isFull yX0_isFull, Cond.code yX0_isFull cX0_isFull 2 (some .boolean), Cond.fieldLink RX0 9 "CrashBuckets$AddressMaps" "counts" "[I", Cond.instanceMethod yX0_overlaps, Cond.selects RX0 yX0_overlaps yX0_overlaps, Cond.code yX0_overlaps cX0_overlaps 5 (some .boolean), Cond.fieldLink RX0 17 "CrashBuckets$AddressMaps" "froms" "[[I", Cond.fieldLink RX0 20 "CrashBuckets$AddressMaps" "tos" "[[I", Cond.instanceMethod yX0_add, Cond.selects RX0 yX0_add yX0_add, Cond.code yX0_add cX0_add 6 none, Cond.fieldLink RX0 23 "CrashBuckets$AddressMaps" "functions" "[[I", Cond.instanceMethod yX1_readStacksOf]
def wsL_rules_r4 : List Cond := [Cond.selects RX1 yX1_readStacksOf yX1_readStacksOf, Cond.code yX1_readStacksOf cX1_readStacksOf 5 none, Cond.methodLink RX1 35 yX1_readStack, Cond.instanceMethod yX1_readStack, Cond.selects RX1 yX1_readStack yX1_readStack, Cond.code yX1_readStack cX1_readStack 5 none, Cond.instanceMethod yX0_functionAt, Cond.selects RX0 yX0_functionAt yX0_functionAt, Cond.code yX0_functionAt cX0_functionAt 4 (some .int), Cond.methodLink RL 16 yX4_standFor, Cond.instanceMethod yX4_standFor, Cond.selects RX4 yX4_standFor yX4_standFor, Cond.code yX4_standFor cX4_standFor 4 (some .int), Cond.instanceMethod yX3_leadsTo, Cond.selects RX3 yX3_leadsTo yX3_leadsTo, Cond.code yX3_leadsTo cX3_leadsTo 5 (some .boolean), Cond.methodLink RL 20 yX4_holds, Cond.instanceMethod yX4_holds, Cond.selects RX4 yX4_holds yX4_holds, Cond.code yX4_holds cX4_holds 6 (some .boolean), Cond.fieldLink RX4 37 "CrashBuckets" "sessions" "[I", Cond.methodLink RX4 122 yX4_checkReport, Cond.instanceMethod yX4_checkReport, Cond.selects RX4 yX4_checkReport yX4_checkReport]
def wsL_rules_r5 : List Cond := [Cond.code yX4_checkReport cX4_checkReport 2 none, Cond.classLink RX4 162 "java/lang/IndexOutOfBoundsException", Cond.initialized "java/lang/IndexOutOfBoundsException", Cond.methodLink RX4 154 yX4_greatestRateBefore, Cond.instanceMethod yX4_greatestRateBefore, Cond.selects RX4 yX4_greatestRateBefore yX4_greatestRateBefore, Cond.code yX4_greatestRateBefore cX4_greatestRateBefore 5 (some .int), Cond.methodLink RX4 182 Lib.Math.max.name, Cond.static Lib.Math.max.name, Cond.initialized "java/lang/Math", Cond.code Lib.Math.max.name Lib.Math.max.code 2 (some .int), Cond.methodLink RX4 143 yX4_rateOf, Cond.instanceMethod yX4_rateOf, Cond.selects RX4 yX4_rateOf yX4_rateOf, Cond.code yX4_rateOf cX4_rateOf 4 (some .int), Cond.methodLink RX4 139 yX4_countIn, Cond.instanceMethod yX4_countIn, Cond.selects RX4 yX4_countIn yX4_countIn, Cond.code yX4_countIn cX4_countIn 5 (some .int), Cond.methodLink RX4 170 yX4_isOf, Cond.instanceMethod yX4_isOf, Cond.selects RX4 yX4_isOf yX4_isOf, Cond.code yX4_isOf cX4_isOf 4 (some .boolean), Cond.methodLink RL 98 yX4_setDepth]
def wsL_rules_r6 : List Cond := [Cond.instanceMethod yX4_setDepth, Cond.selects RX4 yX4_setDepth yX4_setDepth, Cond.code yX4_setDepth cX4_setDepth 3 (some .int), Cond.methodLink RL 101 yX4_setLimit, Cond.instanceMethod yX4_setLimit, Cond.selects RX4 yX4_setLimit yX4_setLimit, Cond.code yX4_setLimit cX4_setLimit 3 (some .int), Cond.fieldLink RX4 41 "CrashBuckets" "limit" "I"]
def wsL_rules : List Cond := .code yL_rules cL_rules 10 (some .boolean) :: ((wsL_rules_r1 ++ (wsL_rules_r2 ++ (wsL_rules_r3 ++ (wsL_rules_r4 ++ (wsL_rules_r5 ++ wsL_rules_r6))))) ++ wsX40 ++ wsX30 ++ wsX20 ++ wsX10 ++ wsX00 ++ (vx_atS RX4 161 "java/lang/IllegalArgumentException" ["java/lang/RuntimeException", "java/lang/Exception"]).filter goodWord ++ (vx_atS RX4 61 "java/lang/IllegalStateException" ["java/lang/RuntimeException", "java/lang/Exception"]).filter goodWord ++ (vx_atS RX4 166 "java/lang/IndexOutOfBoundsException" ["java/lang/RuntimeException", "java/lang/Exception"]).filter goodWord)
def wsL_report_r1 : List Cond := [Cond.methodLink RL 91 yL_low, Cond.static yL_low, Cond.initialized RL, Cond.code yL_low cL_low 2 (some .int), Cond.constant RL 9 (2147483647), Cond.methodLink RL 104 yX4_report, Cond.instanceMethod yX4_report, Cond.selects RX4 yX4_report yX4_report, Cond.initialized RX4, Cond.code yX4_report cX4_report 8 (some .int), Cond.classLink RX4 57 "java/lang/IllegalStateException", Cond.initialized "java/lang/IllegalStateException", Cond.fieldLink RX4 26 "CrashBuckets" "told" "LCrashBuckets$Reports;", Cond.fieldLink RX4 33 "CrashBuckets" "sorted" "LCrashBuckets$Buckets;", Cond.fieldLink RX4 10 "CrashBuckets" "maps" "LCrashBuckets$AddressMaps;", Cond.fieldLink RX4 19 "CrashBuckets" "rules" "LCrashBuckets$Rules;", Cond.methodLink RX4 45 yX4_isBelow, Cond.static yX4_isBelow, Cond.code yX4_isBelow cX4_isBelow 2 (some .boolean), Cond.methodLink RX4 49 yX4_checkArgument, Cond.static yX4_checkArgument, Cond.code yX4_checkArgument cX4_checkArgument 1 none, Cond.classLink RX4 157 "java/lang/IllegalArgumentException", Cond.initialized "java/lang/IllegalArgumentException"]
def wsL_report_r2 : List Cond := [Cond.methodLink RX4 100 yX4_mayFollow, Cond.static yX4_mayFollow, Cond.code yX4_mayFollow cX4_mayFollow 2 (some .boolean), Cond.instanceMethod yX2_add, Cond.initialized RX2, Cond.selects RX2 yX2_add yX2_add, Cond.code yX2_add cX2_add 4 (some .int), Cond.fieldLink RX2 9 "CrashBuckets$Reports" "count" "I", Cond.fieldLink RX2 15 "CrashBuckets$Reports" "versions" "[I", Cond.fieldLink RX2 19 "CrashBuckets$Reports" "reporters" "[I", Cond.fieldLink RX2 27 "CrashBuckets$Reports" "fixedFrom" "[I", Cond.instanceMethod yX2_setStack, Cond.selects RX2 yX2_setStack yX2_setStack, Cond.code yX2_setStack cX2_setStack 6 none, Cond.fieldLink RX2 24 "CrashBuckets$Reports" "stacks" "[[I", Cond.instanceMethod yX1_readStack, Cond.initialized RX1, Cond.selects RX1 yX1_readStack yX1_readStack, Cond.code yX1_readStack cX1_readStack 5 none, Cond.fieldLink RX1 11 "CrashBuckets$Buckets" "frames" "[[I", Cond.instanceMethod yX0_functionAt, Cond.initialized RX0, Cond.selects RX0 yX0_functionAt yX0_functionAt, Cond.code yX0_functionAt cX0_functionAt 4 (some .int)]
def wsL_report_r3 : List Cond := [Cond.fieldLink RX0 9 "CrashBuckets$AddressMaps" "counts" "[I", Cond.fieldLink RX0 17 "CrashBuckets$AddressMaps" "froms" "[[I", Cond.fieldLink RX0 20 "CrashBuckets$AddressMaps" "tos" "[[I", Cond.fieldLink RX0 23 "CrashBuckets$AddressMaps" "functions" "[[I", Cond.instanceMethod yX1_sort, Cond.selects RX1 yX1_sort yX1_sort, Cond.code yX1_sort cX1_sort 5 none, Cond.fieldLink RX1 19 "CrashBuckets$Buckets" "signatures" "[I", Cond.fieldLink RX1 23 "CrashBuckets$Buckets" "names" "[I", Cond.methodLink RX1 52 yX1_pickMattering, Cond.instanceMethod yX1_pickMattering, Cond.selects RX1 yX1_pickMattering yX1_pickMattering, Cond.code yX1_pickMattering cX1_pickMattering 6 none, Cond.fieldLink RX1 16 "CrashBuckets$Buckets" "mattering" "[[I", Cond.instanceMethod yX3_inTheEnd, Cond.initialized RX3, Cond.selects RX3 yX3_inTheEnd yX3_inTheEnd, Cond.code yX3_inTheEnd cX3_inTheEnd 4 (some .int), Cond.fieldLink RX3 15 "CrashBuckets$Rules" "standsFor" "[I", Cond.methodLink RX1 56 yX1_signatureOf, Cond.instanceMethod yX1_signatureOf, Cond.selects RX1 yX1_signatureOf yX1_signatureOf, Cond.code yX1_signatureOf cX1_signatureOf 5 (some .int)]
def wsL_report : List Cond := .code yL_report cL_report 10 (some .boolean) :: ((wsL_report_r1 ++ (wsL_report_r2 ++ wsL_report_r3)) ++ wsX40 ++ wsX20 ++ wsX10 ++ wsX00 ++ wsX30 ++ (vx_atS RX4 61 "java/lang/IllegalStateException" ["java/lang/RuntimeException", "java/lang/Exception"]).filter goodWord ++ (vx_atS RX4 161 "java/lang/IllegalArgumentException" ["java/lang/RuntimeException", "java/lang/Exception"]).filter goodWord)
def wsL_law0_r1 : List Cond := [Cond.classLink RL 11 RX4, Cond.instantiable RX4 6, Cond.initialized RX4, Cond.arrayClass .int, Cond.constant RL 123 (1000001), Cond.methodLink RL 108 yX4_init, Cond.instanceMethod yX4_init, Cond.code yX4_init cX4_init 1 none, Cond.methodLink RX4 1 objectInit, Cond.instanceMethod objectInit, Cond.code objectInit ⟨#[0xb1]⟩ 1 none, Cond.classLink RX4 7 RX0, Cond.instantiable RX0 4, Cond.initialized RX0, Cond.fieldLink RX4 10 "CrashBuckets" "maps" "LCrashBuckets$AddressMaps;", Cond.classLink RX4 16 RX3, Cond.instantiable RX3 3, Cond.initialized RX3, Cond.fieldLink RX4 19 "CrashBuckets" "rules" "LCrashBuckets$Rules;", Cond.classLink RX4 23 RX2, Cond.instantiable RX2 5, Cond.initialized RX2, Cond.fieldLink RX4 26 "CrashBuckets" "told" "LCrashBuckets$Reports;", Cond.classLink RX4 30 RX1]
def wsL_law0_r2 : List Cond := [Cond.instantiable RX1 4, Cond.initialized RX1, Cond.fieldLink RX4 33 "CrashBuckets" "sorted" "LCrashBuckets$Buckets;", Cond.fieldLink RX4 37 "CrashBuckets" "sessions" "[I", Cond.fieldLink RX4 41 "CrashBuckets" "limit" "I", Cond.instanceMethod yX0_init, Cond.code yX0_init cX0_init 1 none, Cond.methodLink RX0 3 objectInit, Cond.fieldLink RX0 9 "CrashBuckets$AddressMaps" "counts" "[I", Cond.classLink RX0 15 "[[I", Cond.fieldLink RX0 17 "CrashBuckets$AddressMaps" "froms" "[[I", Cond.fieldLink RX0 20 "CrashBuckets$AddressMaps" "tos" "[[I", Cond.fieldLink RX0 23 "CrashBuckets$AddressMaps" "functions" "[[I", Cond.instanceMethod yX3_init, Cond.code yX3_init cX3_init 2 none, Cond.methodLink RX3 3 objectInit, Cond.arrayClass .boolean, Cond.fieldLink RX3 9 "CrashBuckets$Rules" "ignored" "[Z", Cond.fieldLink RX3 15 "CrashBuckets$Rules" "standsFor" "[I", Cond.fieldLink RX3 19 "CrashBuckets$Rules" "depth" "I", Cond.instanceMethod yX2_init, Cond.code yX2_init cX2_init 1 none, Cond.methodLink RX2 3 objectInit, Cond.fieldLink RX2 9 "CrashBuckets$Reports" "count" "I"]
def wsL_law0_r3 : List Cond := [Cond.fieldLink RX2 15 "CrashBuckets$Reports" "versions" "[I", Cond.fieldLink RX2 19 "CrashBuckets$Reports" "reporters" "[I", Cond.classLink RX2 22 "[[I", Cond.fieldLink RX2 24 "CrashBuckets$Reports" "stacks" "[[I", Cond.fieldLink RX2 27 "CrashBuckets$Reports" "fixedFrom" "[I", Cond.instanceMethod yX1_init, Cond.code yX1_init cX1_init 1 none, Cond.methodLink RX1 3 objectInit, Cond.classLink RX1 9 "[[I", Cond.fieldLink RX1 11 "CrashBuckets$Buckets" "frames" "[[I", Cond.fieldLink RX1 16 "CrashBuckets$Buckets" "mattering" "[[I", Cond.fieldLink RX1 19 "CrashBuckets$Buckets" "signatures" "[I", Cond.fieldLink RX1 23 "CrashBuckets$Buckets" "names" "[I", Cond.methodLink RL 109 yL_cell, Cond.static yL_cell, Cond.initialized RL, Cond.code yL_cell cL_cell 2 (some .int), Cond.constant RL 7 (49223), Cond.constant RL 8 (3037959), Cond.methodLink RL 91 yL_low, Cond.static yL_low, Cond.code yL_low cL_low 2 (some .int), Cond.constant RL 9 (2147483647), Cond.methodLink RL 113 yL_report]
def wsL_law0_r4 : List Cond := [Cond.static yL_report, Cond.code yL_report cL_report 10 (some .boolean), Cond.methodLink RL 104 yX4_report, Cond.instanceMethod yX4_report, Cond.selects RX4 yX4_report yX4_report, Cond.code yX4_report cX4_report 8 (some .int), Cond.classLink RX4 57 "java/lang/IllegalStateException", Cond.initialized "java/lang/IllegalStateException", Cond.methodLink RX4 45 yX4_isBelow, Cond.static yX4_isBelow, Cond.code yX4_isBelow cX4_isBelow 2 (some .boolean), Cond.methodLink RX4 49 yX4_checkArgument, Cond.static yX4_checkArgument, Cond.code yX4_checkArgument cX4_checkArgument 1 none, Cond.classLink RX4 157 "java/lang/IllegalArgumentException", Cond.initialized "java/lang/IllegalArgumentException", Cond.methodLink RX4 100 yX4_mayFollow, Cond.static yX4_mayFollow, Cond.code yX4_mayFollow cX4_mayFollow 2 (some .boolean), Cond.instanceMethod yX2_add, Cond.selects RX2 yX2_add yX2_add, Cond.code yX2_add cX2_add 4 (some .int), Cond.instanceMethod yX2_setStack, Cond.selects RX2 yX2_setStack yX2_setStack]
def wsL_law0_r5 : List Cond := [Cond.code yX2_setStack cX2_setStack 6 none, Cond.instanceMethod yX1_readStack, Cond.selects RX1 yX1_readStack yX1_readStack, Cond.code yX1_readStack cX1_readStack 5 none, Cond.instanceMethod yX0_functionAt, Cond.selects RX0 yX0_functionAt yX0_functionAt, Cond.code yX0_functionAt cX0_functionAt 4 (some .int), Cond.instanceMethod yX1_sort, Cond.selects RX1 yX1_sort yX1_sort, Cond.code yX1_sort cX1_sort 5 none, Cond.methodLink RX1 52 yX1_pickMattering, Cond.instanceMethod yX1_pickMattering, Cond.selects RX1 yX1_pickMattering yX1_pickMattering, Cond.code yX1_pickMattering cX1_pickMattering 6 none, Cond.instanceMethod yX3_inTheEnd, Cond.selects RX3 yX3_inTheEnd yX3_inTheEnd, Cond.code yX3_inTheEnd cX3_inTheEnd 4 (some .int), Cond.methodLink RX1 56 yX1_signatureOf, Cond.instanceMethod yX1_signatureOf, Cond.selects RX1 yX1_signatureOf yX1_signatureOf, Cond.code yX1_signatureOf cX1_signatureOf 5 (some .int), Cond.methodLink RL 115 yL_ranges, Cond.static yL_ranges, Cond.code yL_ranges cL_ranges 12 (some .boolean)]
def wsL_law0_r6 : List Cond := [Cond.methodLink RL 73 yL_calls, Cond.static yL_calls, Cond.codeWith yL_calls cL_calls 7 (some .int) [(0, 44, 45, 24)], Cond.classLink RL 24 "java/lang/IllegalStateException", Cond.methodLink RL 10 yX4_addRange, Cond.instanceMethod yX4_addRange, Cond.selects RX4 yX4_addRange yX4_addRange, Cond.code yX4_addRange cX4_addRange 5 (some .int), Cond.instanceMethod yX0_isFull, Cond.selects RX0 yX0_isFull yX0_isFull, Cond.code yX0_isFull cX0_isFull 2 (some .boolean), Cond.instanceMethod yX0_overlaps, Cond.selects RX0 yX0_overlaps yX0_overlaps, Cond.code yX0_overlaps cX0_overlaps 5 (some .boolean), Cond.instanceMethod yX0_add, Cond.selects RX0 yX0_add yX0_add, Cond.code yX0_add cX0_add 6 none, Cond.instanceMethod yX1_readStacksOf, Cond.selects RX1 yX1_readStacksOf yX1_readStacksOf, Cond.code yX1_readStacksOf cX1_readStacksOf 5 none, Cond.methodLink RX1 35 yX1_readStack, Cond.instanceMethod yX1_sortAll, Cond.selects RX1 yX1_sortAll yX1_sortAll, Cond.code yX1_sortAll cX1_sortAll 4 none]
def wsL_law0_r7 : List Cond := [Cond.methodLink RX1 48 yX1_sort, Cond.methodLink RL 16 yX4_standFor, Cond.instanceMethod yX4_standFor, Cond.selects RX4 yX4_standFor yX4_standFor, Cond.code yX4_standFor cX4_standFor 4 (some .int), Cond.instanceMethod yX3_leadsTo, Cond.selects RX3 yX3_leadsTo yX3_leadsTo, Cond.code yX3_leadsTo cX3_leadsTo 5 (some .boolean), Cond.methodLink RL 20 yX4_holds, Cond.instanceMethod yX4_holds, Cond.selects RX4 yX4_holds yX4_holds, Cond.code yX4_holds cX4_holds 6 (some .boolean), Cond.methodLink RX4 122 yX4_checkReport, Cond.instanceMethod yX4_checkReport, Cond.selects RX4 yX4_checkReport yX4_checkReport, Cond.code yX4_checkReport cX4_checkReport 2 none, Cond.classLink RX4 162 "java/lang/IndexOutOfBoundsException", Cond.initialized "java/lang/IndexOutOfBoundsException", Cond.methodLink RX4 154 yX4_greatestRateBefore, Cond.instanceMethod yX4_greatestRateBefore, Cond.selects RX4 yX4_greatestRateBefore yX4_greatestRateBefore, Cond.code yX4_greatestRateBefore cX4_greatestRateBefore 5 (some .int), Cond.methodLink RX4 182 Lib.Math.max.name, Cond.static Lib.Math.max.name]
def wsL_law0_r8 : List Cond := [Cond.initialized "java/lang/Math", Cond.code Lib.Math.max.name Lib.Math.max.code 2 (some .int), Cond.methodLink RX4 143 yX4_rateOf, Cond.instanceMethod yX4_rateOf, Cond.selects RX4 yX4_rateOf yX4_rateOf, Cond.code yX4_rateOf cX4_rateOf 4 (some .int), Cond.methodLink RX4 139 yX4_countIn, Cond.instanceMethod yX4_countIn, Cond.selects RX4 yX4_countIn yX4_countIn, Cond.code yX4_countIn cX4_countIn 5 (some .int), Cond.methodLink RX4 170 yX4_isOf, Cond.instanceMethod yX4_isOf, Cond.selects RX4 yX4_isOf yX4_isOf, Cond.code yX4_isOf cX4_isOf 4 (some .boolean), Cond.methodLink RL 119 yL_rules, Cond.static yL_rules, Cond.code yL_rules cL_rules 10 (some .boolean), Cond.methodLink RL 94 yX4_ignore, Cond.instanceMethod yX4_ignore, Cond.selects RX4 yX4_ignore yX4_ignore, Cond.code yX4_ignore cX4_ignore 4 (some .boolean), Cond.methodLink RL 98 yX4_setDepth, Cond.instanceMethod yX4_setDepth, Cond.selects RX4 yX4_setDepth yX4_setDepth]
def wsL_law0_r9 : List Cond := [Cond.code yX4_setDepth cX4_setDepth 3 (some .int), Cond.methodLink RL 101 yX4_setLimit, Cond.instanceMethod yX4_setLimit, Cond.selects RX4 yX4_setLimit yX4_setLimit, Cond.code yX4_setLimit cX4_setLimit 3 (some .int), Cond.methodLink RL 124 yX4_setSessions, Cond.instanceMethod yX4_setSessions, Cond.selects RX4 yX4_setSessions yX4_setSessions, Cond.code yX4_setSessions cX4_setSessions 4 (some .int), Cond.constant RX4 142 (1000000), Cond.methodLink RL 127 yX4_fix, Cond.instanceMethod yX4_fix, Cond.selects RX4 yX4_fix yX4_fix, Cond.code yX4_fix cX4_fix 4 (some .int), Cond.methodLink RL 130 yL_isSo, Cond.static yL_isSo, Cond.code yL_isSo cL_isSo 17 (some .boolean), Cond.methodLink RL 54 yL_names, Cond.static yL_names, Cond.code yL_names cL_names 10 none, Cond.methodLink RL 36 yL_number, Cond.static yL_number, Cond.code yL_number cL_number 13 (some .int), Cond.methodLink RL 26 yL_frame]
def wsL_law0_r10 : List Cond := [Cond.static yL_frame, Cond.code yL_frame cL_frame 10 (some .int), Cond.methodLink RL 32 yL_ends, Cond.static yL_ends, Cond.code yL_ends cL_ends 4 (some .int), Cond.methodLink RL 58 yX4_reports, Cond.instanceMethod yX4_reports, Cond.selects RX4 yX4_reports yX4_reports, Cond.code yX4_reports cX4_reports 1 (some .int), Cond.methodLink RL 62 yX4_frame, Cond.instanceMethod yX4_frame, Cond.selects RX4 yX4_frame yX4_frame, Cond.code yX4_frame cX4_frame 3 (some .int), Cond.methodLink RL 64 yX4_matters, Cond.instanceMethod yX4_matters, Cond.selects RX4 yX4_matters yX4_matters, Cond.code yX4_matters cX4_matters 3 (some .int), Cond.methodLink RL 67 yX4_bucket, Cond.instanceMethod yX4_bucket, Cond.selects RX4 yX4_bucket yX4_bucket, Cond.code yX4_bucket cX4_bucket 2 (some .int), Cond.methodLink RL 70 yX4_size, Cond.instanceMethod yX4_size, Cond.selects RX4 yX4_size yX4_size]
def wsL_law0_r11 : List Cond := [Cond.code yX4_size cX4_size 4 (some .int), Cond.methodLink RL 77 yL_holds, Cond.static yL_holds, Cond.code yL_holds cL_holds 9 (some .int), Cond.methodLink RL 40 yL_rate, Cond.static yL_rate, Cond.code yL_rate cL_rate 8 (some .int), Cond.methodLink RL 80 yX4_rate, Cond.instanceMethod yX4_rate, Cond.selects RX4 yX4_rate yX4_rate, Cond.code yX4_rate cX4_rate 3 (some .int), Cond.methodLink RL 82 yX4_users, Cond.instanceMethod yX4_users, Cond.selects RX4 yX4_users yX4_users, Cond.code yX4_users cX4_users 3 (some .int), Cond.methodLink RX4 146 yX4_usersOf, Cond.instanceMethod yX4_usersOf, Cond.selects RX4 yX4_usersOf yX4_usersOf, Cond.code yX4_usersOf cX4_usersOf 5 (some .int), Cond.methodLink RX4 176 yJ6_bitCount_0f7a4, Cond.static yJ6_bitCount_0f7a4, Cond.initialized RJ6, Cond.code yJ6_bitCount_0f7a4 cJ6_bitCount_0f7a4 1 (some .int), Cond.constant RJ6 265 (1431655765)]
def wsL_law0_r12 : List Cond := [Cond.constant RJ6 266 (858993459), Cond.constant RJ6 267 (252645135), Cond.methodLink RL 44 yL_users, Cond.static yL_users, Cond.code yL_users cL_users 9 (some .int), Cond.methodLink RL 84 yL_version, Cond.static yL_version, Cond.code yL_version cL_version 12 (some .boolean), Cond.methodLink RL 47 yX4_gate, Cond.instanceMethod yX4_gate, Cond.selects RX4 yX4_gate yX4_gate, Cond.code yX4_gate cX4_gate 6 (some .int), Cond.instanceMethod yX1_isName, Cond.selects RX1 yX1_isName yX1_isName, Cond.code yX1_isName cX1_isName 2 (some .boolean), Cond.methodLink RL 51 yX4_worst, Cond.instanceMethod yX4_worst, Cond.selects RX4 yX4_worst yX4_worst, Cond.code yX4_worst cX4_worst 6 (some .int), Cond.methodLink RL 88 yX4_buckets, Cond.instanceMethod yX4_buckets, Cond.selects RX4 yX4_buckets yX4_buckets, Cond.code yX4_buckets cX4_buckets 3 (some .int)]
def wsL_law0 : List Cond := (wsL_law0_r1 ++ (wsL_law0_r2 ++ (wsL_law0_r3 ++ (wsL_law0_r4 ++ (wsL_law0_r5 ++ (wsL_law0_r6 ++ (wsL_law0_r7 ++ (wsL_law0_r8 ++ (wsL_law0_r9 ++ (wsL_law0_r10 ++ (wsL_law0_r11 ++ wsL_law0_r12))))))))))) ++ wsX40 ++ wsX00 ++ wsX30 ++ wsX20 ++ wsX10 ++ ([] : List Cond)
def wsL_law : List Cond := wsL_law0 ++ (vx_atS RX4 61 "java/lang/IllegalStateException" ["java/lang/RuntimeException", "java/lang/Exception"]).filter goodWord ++ (vx_atS RX4 161 "java/lang/IllegalArgumentException" ["java/lang/RuntimeException", "java/lang/Exception"]).filter goodWord ++ (vx_atS RX4 166 "java/lang/IndexOutOfBoundsException" ["java/lang/RuntimeException", "java/lang/Exception"]).filter goodWord
abbrev vwCl : List vw_C := [(RX0, TX0, 4), (RX1, TX1, 4), (RX2, TX2, 5), (RX3, TX3, 3), (RX4, TX4, 6)]
end
section
theorem dX0_init_0 : decode cX0_init 0 = .ok (.aload_n 0, 1) := by decide +kernel
theorem dX0_init_1 : decode cX0_init 1 = .ok (.invokespecial 3, 3) := by decide +kernel
theorem dX0_init_4 : decode cX0_init 4 = .ok (.aload_n 0, 1) := by decide +kernel
theorem dX0_init_5 : decode cX0_init 5 = .ok (.iconst 4, 1) := by decide +kernel
theorem dX0_init_6 : decode cX0_init 6 = .ok (.newarray .int, 2) := by decide +kernel
theorem dX0_init_8 : decode cX0_init 8 = .ok (.putfield 9, 3) := by decide +kernel
theorem dX0_init_11 : decode cX0_init 11 = .ok (.aload_n 0, 1) := by decide +kernel
theorem dX0_init_12 : decode cX0_init 12 = .ok (.iconst 4, 1) := by decide +kernel
theorem dX0_init_13 : decode cX0_init 13 = .ok (.bipush 30, 2) := by decide +kernel
theorem dX0_init_15 : decode cX0_init 15 = .ok (.multianewarray 15 2, 4) := by decide +kernel
theorem dX0_init_19 : decode cX0_init 19 = .ok (.putfield 17, 3) := by decide +kernel
theorem dX0_init_22 : decode cX0_init 22 = .ok (.aload_n 0, 1) := by decide +kernel
theorem dX0_init_23 : decode cX0_init 23 = .ok (.iconst 4, 1) := by decide +kernel
theorem dX0_init_24 : decode cX0_init 24 = .ok (.bipush 30, 2) := by decide +kernel
theorem dX0_init_26 : decode cX0_init 26 = .ok (.multianewarray 15 2, 4) := by decide +kernel
theorem dX0_init_30 : decode cX0_init 30 = .ok (.putfield 20, 3) := by decide +kernel
theorem dX0_init_33 : decode cX0_init 33 = .ok (.aload_n 0, 1) := by decide +kernel
theorem dX0_init_34 : decode cX0_init 34 = .ok (.iconst 4, 1) := by decide +kernel
theorem dX0_init_35 : decode cX0_init 35 = .ok (.bipush 30, 2) := by decide +kernel
theorem dX0_init_37 : decode cX0_init 37 = .ok (.multianewarray 15 2, 4) := by decide +kernel
theorem dX0_init_41 : decode cX0_init 41 = .ok (.putfield 23, 3) := by decide +kernel
theorem dX0_init_44 : decode cX0_init 44 = .ok (.return_, 1) := by decide +kernel
theorem dX0_isFull_0 : decode cX0_isFull 0 = .ok (.aload_n 0, 1) := by decide +kernel
theorem dX0_isFull_1 : decode cX0_isFull 1 = .ok (.getfield 9, 3) := by decide +kernel
theorem dX0_isFull_4 : decode cX0_isFull 4 = .ok (.iload_n 1, 1) := by decide +kernel
theorem dX0_isFull_5 : decode cX0_isFull 5 = .ok (.iaload, 1) := by decide +kernel
theorem dX0_isFull_6 : decode cX0_isFull 6 = .ok (.bipush 30, 2) := by decide +kernel
theorem dX0_isFull_8 : decode cX0_isFull 8 = .ok (.if_icmp .lt 7, 3) := by decide +kernel
theorem dX0_isFull_11 : decode cX0_isFull 11 = .ok (.iconst 1, 1) := by decide +kernel
theorem dX0_isFull_12 : decode cX0_isFull 12 = .ok (.goto 4, 3) := by decide +kernel
theorem dX0_isFull_15 : decode cX0_isFull 15 = .ok (.iconst 0, 1) := by decide +kernel
theorem dX0_isFull_16 : decode cX0_isFull 16 = .ok (.ireturn, 1) := by decide +kernel
theorem dX0_overlaps_0 : decode cX0_overlaps 0 = .ok (.iconst 0, 1) := by decide +kernel
theorem dX0_overlaps_1 : decode cX0_overlaps 1 = .ok (.istore 4, 2) := by decide +kernel
theorem dX0_overlaps_3 : decode cX0_overlaps 3 = .ok (.iload 4, 2) := by decide +kernel
theorem dX0_overlaps_5 : decode cX0_overlaps 5 = .ok (.aload_n 0, 1) := by decide +kernel
theorem dX0_overlaps_6 : decode cX0_overlaps 6 = .ok (.getfield 9, 3) := by decide +kernel
theorem dX0_overlaps_9 : decode cX0_overlaps 9 = .ok (.iload_n 1, 1) := by decide +kernel
theorem dX0_overlaps_10 : decode cX0_overlaps 10 = .ok (.iaload, 1) := by decide +kernel
theorem dX0_overlaps_11 : decode cX0_overlaps 11 = .ok (.if_icmp .ge 37, 3) := by decide +kernel
theorem dX0_overlaps_14 : decode cX0_overlaps 14 = .ok (.aload_n 0, 1) := by decide +kernel
theorem dX0_overlaps_15 : decode cX0_overlaps 15 = .ok (.getfield 17, 3) := by decide +kernel
theorem dX0_overlaps_18 : decode cX0_overlaps 18 = .ok (.iload_n 1, 1) := by decide +kernel
theorem dX0_overlaps_19 : decode cX0_overlaps 19 = .ok (.aaload, 1) := by decide +kernel
theorem dX0_overlaps_20 : decode cX0_overlaps 20 = .ok (.iload 4, 2) := by decide +kernel
theorem dX0_overlaps_22 : decode cX0_overlaps 22 = .ok (.iaload, 1) := by decide +kernel
theorem dX0_overlaps_23 : decode cX0_overlaps 23 = .ok (.iload_n 3, 1) := by decide +kernel
theorem dX0_overlaps_24 : decode cX0_overlaps 24 = .ok (.if_icmp .gt 18, 3) := by decide +kernel
theorem dX0_overlaps_27 : decode cX0_overlaps 27 = .ok (.iload_n 2, 1) := by decide +kernel
theorem dX0_overlaps_28 : decode cX0_overlaps 28 = .ok (.aload_n 0, 1) := by decide +kernel
theorem dX0_overlaps_29 : decode cX0_overlaps 29 = .ok (.getfield 20, 3) := by decide +kernel
theorem dX0_overlaps_32 : decode cX0_overlaps 32 = .ok (.iload_n 1, 1) := by decide +kernel
theorem dX0_overlaps_33 : decode cX0_overlaps 33 = .ok (.aaload, 1) := by decide +kernel
theorem dX0_overlaps_34 : decode cX0_overlaps 34 = .ok (.iload 4, 2) := by decide +kernel
theorem dX0_overlaps_36 : decode cX0_overlaps 36 = .ok (.iaload, 1) := by decide +kernel
theorem dX0_overlaps_37 : decode cX0_overlaps 37 = .ok (.if_icmp .gt 5, 3) := by decide +kernel
theorem dX0_overlaps_40 : decode cX0_overlaps 40 = .ok (.iconst 1, 1) := by decide +kernel
theorem dX0_overlaps_41 : decode cX0_overlaps 41 = .ok (.ireturn, 1) := by decide +kernel
theorem dX0_overlaps_42 : decode cX0_overlaps 42 = .ok (.iinc 4 1, 3) := by decide +kernel
theorem dX0_overlaps_45 : decode cX0_overlaps 45 = .ok (.goto (-42), 3) := by decide +kernel
theorem dX0_overlaps_48 : decode cX0_overlaps 48 = .ok (.iconst 0, 1) := by decide +kernel
theorem dX0_overlaps_49 : decode cX0_overlaps 49 = .ok (.ireturn, 1) := by decide +kernel
theorem dX0_add_0 : decode cX0_add 0 = .ok (.aload_n 0, 1) := by decide +kernel
theorem dX0_add_1 : decode cX0_add 1 = .ok (.getfield 9, 3) := by decide +kernel
theorem dX0_add_4 : decode cX0_add 4 = .ok (.iload_n 1, 1) := by decide +kernel
theorem dX0_add_5 : decode cX0_add 5 = .ok (.iaload, 1) := by decide +kernel
theorem dX0_add_6 : decode cX0_add 6 = .ok (.istore 5, 2) := by decide +kernel
theorem dX0_add_8 : decode cX0_add 8 = .ok (.aload_n 0, 1) := by decide +kernel
theorem dX0_add_9 : decode cX0_add 9 = .ok (.getfield 17, 3) := by decide +kernel
theorem dX0_add_12 : decode cX0_add 12 = .ok (.iload_n 1, 1) := by decide +kernel
theorem dX0_add_13 : decode cX0_add 13 = .ok (.aaload, 1) := by decide +kernel
theorem dX0_add_14 : decode cX0_add 14 = .ok (.iload 5, 2) := by decide +kernel
theorem dX0_add_16 : decode cX0_add 16 = .ok (.iload_n 2, 1) := by decide +kernel
theorem dX0_add_17 : decode cX0_add 17 = .ok (.iastore, 1) := by decide +kernel
theorem dX0_add_18 : decode cX0_add 18 = .ok (.aload_n 0, 1) := by decide +kernel
theorem dX0_add_19 : decode cX0_add 19 = .ok (.getfield 20, 3) := by decide +kernel
theorem dX0_add_22 : decode cX0_add 22 = .ok (.iload_n 1, 1) := by decide +kernel
theorem dX0_add_23 : decode cX0_add 23 = .ok (.aaload, 1) := by decide +kernel
theorem dX0_add_24 : decode cX0_add 24 = .ok (.iload 5, 2) := by decide +kernel
theorem dX0_add_26 : decode cX0_add 26 = .ok (.iload_n 3, 1) := by decide +kernel
theorem dX0_add_27 : decode cX0_add 27 = .ok (.iastore, 1) := by decide +kernel
theorem dX0_add_28 : decode cX0_add 28 = .ok (.aload_n 0, 1) := by decide +kernel
theorem dX0_add_29 : decode cX0_add 29 = .ok (.getfield 23, 3) := by decide +kernel
theorem dX0_add_32 : decode cX0_add 32 = .ok (.iload_n 1, 1) := by decide +kernel
theorem dX0_add_33 : decode cX0_add 33 = .ok (.aaload, 1) := by decide +kernel
theorem dX0_add_34 : decode cX0_add 34 = .ok (.iload 5, 2) := by decide +kernel
theorem dX0_add_36 : decode cX0_add 36 = .ok (.iload 4, 2) := by decide +kernel
theorem dX0_add_38 : decode cX0_add 38 = .ok (.iastore, 1) := by decide +kernel
theorem dX0_add_39 : decode cX0_add 39 = .ok (.aload_n 0, 1) := by decide +kernel
theorem dX0_add_40 : decode cX0_add 40 = .ok (.getfield 9, 3) := by decide +kernel
theorem dX0_add_43 : decode cX0_add 43 = .ok (.iload_n 1, 1) := by decide +kernel
theorem dX0_add_44 : decode cX0_add 44 = .ok (.iload 5, 2) := by decide +kernel
theorem dX0_add_46 : decode cX0_add 46 = .ok (.iconst 1, 1) := by decide +kernel
theorem dX0_add_47 : decode cX0_add 47 = .ok (.iadd, 1) := by decide +kernel
theorem dX0_add_48 : decode cX0_add 48 = .ok (.iastore, 1) := by decide +kernel
theorem dX0_add_49 : decode cX0_add 49 = .ok (.return_, 1) := by decide +kernel
theorem dX0_functionAt_0 : decode cX0_functionAt 0 = .ok (.iconst 0, 1) := by decide +kernel
theorem dX0_functionAt_1 : decode cX0_functionAt 1 = .ok (.istore_n 3, 1) := by decide +kernel
theorem dX0_functionAt_2 : decode cX0_functionAt 2 = .ok (.iload_n 3, 1) := by decide +kernel
theorem dX0_functionAt_3 : decode cX0_functionAt 3 = .ok (.aload_n 0, 1) := by decide +kernel
theorem dX0_functionAt_4 : decode cX0_functionAt 4 = .ok (.getfield 9, 3) := by decide +kernel
theorem dX0_functionAt_7 : decode cX0_functionAt 7 = .ok (.iload_n 1, 1) := by decide +kernel
theorem dX0_functionAt_8 : decode cX0_functionAt 8 = .ok (.iaload, 1) := by decide +kernel
theorem dX0_functionAt_9 : decode cX0_functionAt 9 = .ok (.if_icmp .ge 42, 3) := by decide +kernel
theorem dX0_functionAt_12 : decode cX0_functionAt 12 = .ok (.aload_n 0, 1) := by decide +kernel
theorem dX0_functionAt_13 : decode cX0_functionAt 13 = .ok (.getfield 17, 3) := by decide +kernel
theorem dX0_functionAt_16 : decode cX0_functionAt 16 = .ok (.iload_n 1, 1) := by decide +kernel
theorem dX0_functionAt_17 : decode cX0_functionAt 17 = .ok (.aaload, 1) := by decide +kernel
theorem dX0_functionAt_18 : decode cX0_functionAt 18 = .ok (.iload_n 3, 1) := by decide +kernel
theorem dX0_functionAt_19 : decode cX0_functionAt 19 = .ok (.iaload, 1) := by decide +kernel
theorem dX0_functionAt_20 : decode cX0_functionAt 20 = .ok (.iload_n 2, 1) := by decide +kernel
theorem dX0_functionAt_21 : decode cX0_functionAt 21 = .ok (.if_icmp .gt 24, 3) := by decide +kernel
theorem dX0_functionAt_24 : decode cX0_functionAt 24 = .ok (.iload_n 2, 1) := by decide +kernel
theorem dX0_functionAt_25 : decode cX0_functionAt 25 = .ok (.aload_n 0, 1) := by decide +kernel
theorem dX0_functionAt_26 : decode cX0_functionAt 26 = .ok (.getfield 20, 3) := by decide +kernel
theorem dX0_functionAt_29 : decode cX0_functionAt 29 = .ok (.iload_n 1, 1) := by decide +kernel
theorem dX0_functionAt_30 : decode cX0_functionAt 30 = .ok (.aaload, 1) := by decide +kernel
theorem dX0_functionAt_31 : decode cX0_functionAt 31 = .ok (.iload_n 3, 1) := by decide +kernel
theorem dX0_functionAt_32 : decode cX0_functionAt 32 = .ok (.iaload, 1) := by decide +kernel
theorem dX0_functionAt_33 : decode cX0_functionAt 33 = .ok (.if_icmp .gt 12, 3) := by decide +kernel
theorem dX0_functionAt_36 : decode cX0_functionAt 36 = .ok (.aload_n 0, 1) := by decide +kernel
theorem dX0_functionAt_37 : decode cX0_functionAt 37 = .ok (.getfield 23, 3) := by decide +kernel
theorem dX0_functionAt_40 : decode cX0_functionAt 40 = .ok (.iload_n 1, 1) := by decide +kernel
theorem dX0_functionAt_41 : decode cX0_functionAt 41 = .ok (.aaload, 1) := by decide +kernel
theorem dX0_functionAt_42 : decode cX0_functionAt 42 = .ok (.iload_n 3, 1) := by decide +kernel
theorem dX0_functionAt_43 : decode cX0_functionAt 43 = .ok (.iaload, 1) := by decide +kernel
theorem dX0_functionAt_44 : decode cX0_functionAt 44 = .ok (.ireturn, 1) := by decide +kernel
theorem dX0_functionAt_45 : decode cX0_functionAt 45 = .ok (.iinc 3 1, 3) := by decide +kernel
theorem dX0_functionAt_48 : decode cX0_functionAt 48 = .ok (.goto (-46), 3) := by decide +kernel
theorem dX0_functionAt_51 : decode cX0_functionAt 51 = .ok (.iconst (-1), 1) := by decide +kernel
theorem dX0_functionAt_52 : decode cX0_functionAt 52 = .ok (.ireturn, 1) := by decide +kernel
theorem dX1_init_0 : decode cX1_init 0 = .ok (.aload_n 0, 1) := by decide +kernel
theorem dX1_init_1 : decode cX1_init 1 = .ok (.invokespecial 3, 3) := by decide +kernel
theorem dX1_init_4 : decode cX1_init 4 = .ok (.aload_n 0, 1) := by decide +kernel
theorem dX1_init_5 : decode cX1_init 5 = .ok (.bipush 60, 2) := by decide +kernel
theorem dX1_init_7 : decode cX1_init 7 = .ok (.iconst 4, 1) := by decide +kernel
theorem dX1_init_8 : decode cX1_init 8 = .ok (.multianewarray 9 2, 4) := by decide +kernel
theorem dX1_init_12 : decode cX1_init 12 = .ok (.putfield 11, 3) := by decide +kernel
theorem dX1_init_15 : decode cX1_init 15 = .ok (.aload_n 0, 1) := by decide +kernel
theorem dX1_init_16 : decode cX1_init 16 = .ok (.bipush 60, 2) := by decide +kernel
theorem dX1_init_18 : decode cX1_init 18 = .ok (.iconst 4, 1) := by decide +kernel
theorem dX1_init_19 : decode cX1_init 19 = .ok (.multianewarray 9 2, 4) := by decide +kernel
theorem dX1_init_23 : decode cX1_init 23 = .ok (.putfield 16, 3) := by decide +kernel
theorem dX1_init_26 : decode cX1_init 26 = .ok (.aload_n 0, 1) := by decide +kernel
theorem dX1_init_27 : decode cX1_init 27 = .ok (.bipush 60, 2) := by decide +kernel
theorem dX1_init_29 : decode cX1_init 29 = .ok (.newarray .int, 2) := by decide +kernel
theorem dX1_init_31 : decode cX1_init 31 = .ok (.putfield 19, 3) := by decide +kernel
theorem dX1_init_34 : decode cX1_init 34 = .ok (.aload_n 0, 1) := by decide +kernel
theorem dX1_init_35 : decode cX1_init 35 = .ok (.bipush 60, 2) := by decide +kernel
theorem dX1_init_37 : decode cX1_init 37 = .ok (.newarray .int, 2) := by decide +kernel
theorem dX1_init_39 : decode cX1_init 39 = .ok (.putfield 23, 3) := by decide +kernel
theorem dX1_init_42 : decode cX1_init 42 = .ok (.return_, 1) := by decide +kernel
theorem dX1_isName_0 : decode cX1_isName 0 = .ok (.aload_n 0, 1) := by decide +kernel
theorem dX1_isName_1 : decode cX1_isName 1 = .ok (.getfield 23, 3) := by decide +kernel
theorem dX1_isName_4 : decode cX1_isName 4 = .ok (.iload_n 1, 1) := by decide +kernel
theorem dX1_isName_5 : decode cX1_isName 5 = .ok (.iaload, 1) := by decide +kernel
theorem dX1_isName_6 : decode cX1_isName 6 = .ok (.iload_n 1, 1) := by decide +kernel
theorem dX1_isName_7 : decode cX1_isName 7 = .ok (.if_icmp .ne 7, 3) := by decide +kernel
theorem dX1_isName_10 : decode cX1_isName 10 = .ok (.iconst 1, 1) := by decide +kernel
theorem dX1_isName_11 : decode cX1_isName 11 = .ok (.goto 4, 3) := by decide +kernel
theorem dX1_isName_14 : decode cX1_isName 14 = .ok (.iconst 0, 1) := by decide +kernel
theorem dX1_isName_15 : decode cX1_isName 15 = .ok (.ireturn, 1) := by decide +kernel
set_option maxRecDepth 20000 in
theorem ggX1_readStacksOf_X1_readStack : GoodIn wsX1_readStacksOf wsX1_readStack := goodIn_r _ [5, 6, 7, 8, 9, 10, 11, 12, 13, 14, 20, 21, 22, 23, 15, 16, 17, 18, 19, 24, 25, 26, 27] (by decide +kernel) (by decide +kernel)
set_option maxRecDepth 20000 in
theorem gX1_readStacksOf_X1_readStack : GoodIn wsX1_readStacksOf (wsV RX1 35 RX1 yX1_readStack wsX1_readStack) := goodIn_app (goodIn_of _ (by decide +kernel)) ggX1_readStacksOf_X1_readStack
theorem dX1_readStacksOf_0 : decode cX1_readStacksOf 0 = .ok (.iconst 0, 1) := by decide +kernel
theorem dX1_readStacksOf_1 : decode cX1_readStacksOf 1 = .ok (.istore 4, 2) := by decide +kernel
theorem dX1_readStacksOf_3 : decode cX1_readStacksOf 3 = .ok (.iload 4, 2) := by decide +kernel
theorem dX1_readStacksOf_5 : decode cX1_readStacksOf 5 = .ok (.aload_n 2, 1) := by decide +kernel
theorem dX1_readStacksOf_6 : decode cX1_readStacksOf 6 = .ok (.getfield 26, 3) := by decide +kernel
theorem dX1_readStacksOf_9 : decode cX1_readStacksOf 9 = .ok (.if_icmp .ge 28, 3) := by decide +kernel
theorem dX1_readStacksOf_12 : decode cX1_readStacksOf 12 = .ok (.aload_n 2, 1) := by decide +kernel
theorem dX1_readStacksOf_13 : decode cX1_readStacksOf 13 = .ok (.getfield 32, 3) := by decide +kernel
theorem dX1_readStacksOf_16 : decode cX1_readStacksOf 16 = .ok (.iload 4, 2) := by decide +kernel
theorem dX1_readStacksOf_18 : decode cX1_readStacksOf 18 = .ok (.iaload, 1) := by decide +kernel
theorem dX1_readStacksOf_19 : decode cX1_readStacksOf 19 = .ok (.iload_n 1, 1) := by decide +kernel
theorem dX1_readStacksOf_20 : decode cX1_readStacksOf 20 = .ok (.if_icmp .ne 11, 3) := by decide +kernel
theorem dX1_readStacksOf_23 : decode cX1_readStacksOf 23 = .ok (.aload_n 0, 1) := by decide +kernel
theorem dX1_readStacksOf_24 : decode cX1_readStacksOf 24 = .ok (.iload 4, 2) := by decide +kernel
theorem dX1_readStacksOf_26 : decode cX1_readStacksOf 26 = .ok (.aload_n 2, 1) := by decide +kernel
theorem dX1_readStacksOf_27 : decode cX1_readStacksOf 27 = .ok (.aload_n 3, 1) := by decide +kernel
theorem dX1_readStacksOf_28 : decode cX1_readStacksOf 28 = .ok (.invokevirtual 35, 3) := by decide +kernel
theorem dX1_readStacksOf_31 : decode cX1_readStacksOf 31 = .ok (.iinc 4 1, 3) := by decide +kernel
theorem dX1_readStacksOf_34 : decode cX1_readStacksOf 34 = .ok (.goto (-31), 3) := by decide +kernel
theorem dX1_readStacksOf_37 : decode cX1_readStacksOf 37 = .ok (.return_, 1) := by decide +kernel
set_option maxRecDepth 20000 in
theorem ggX1_readStack_X0_functionAt : GoodIn wsX1_readStack wsX0_functionAt := goodIn_r _ [5, 6, 7, 8, 9, 19, 20, 21, 22] (by decide +kernel) (by decide +kernel)
set_option maxRecDepth 20000 in
theorem gX1_readStack_X0_functionAt_n42 : GoodIn wsX1_readStack (wsX0_functionAt) := ggX1_readStack_X0_functionAt
theorem dX1_readStack_0 : decode cX1_readStack 0 = .ok (.iconst 0, 1) := by decide +kernel
theorem dX1_readStack_1 : decode cX1_readStack 1 = .ok (.istore 4, 2) := by decide +kernel
theorem dX1_readStack_3 : decode cX1_readStack 3 = .ok (.iload 4, 2) := by decide +kernel
theorem dX1_readStack_5 : decode cX1_readStack 5 = .ok (.iconst 4, 1) := by decide +kernel
theorem dX1_readStack_6 : decode cX1_readStack 6 = .ok (.if_icmp .ge 37, 3) := by decide +kernel
theorem dX1_readStack_9 : decode cX1_readStack 9 = .ok (.aload_n 0, 1) := by decide +kernel
theorem dX1_readStack_10 : decode cX1_readStack 10 = .ok (.getfield 11, 3) := by decide +kernel
theorem dX1_readStack_13 : decode cX1_readStack 13 = .ok (.iload_n 1, 1) := by decide +kernel
theorem dX1_readStack_14 : decode cX1_readStack 14 = .ok (.aaload, 1) := by decide +kernel
theorem dX1_readStack_15 : decode cX1_readStack 15 = .ok (.iload 4, 2) := by decide +kernel
theorem dX1_readStack_17 : decode cX1_readStack 17 = .ok (.aload_n 3, 1) := by decide +kernel
theorem dX1_readStack_18 : decode cX1_readStack 18 = .ok (.aload_n 2, 1) := by decide +kernel
theorem dX1_readStack_19 : decode cX1_readStack 19 = .ok (.getfield 32, 3) := by decide +kernel
theorem dX1_readStack_22 : decode cX1_readStack 22 = .ok (.iload_n 1, 1) := by decide +kernel
theorem dX1_readStack_23 : decode cX1_readStack 23 = .ok (.iaload, 1) := by decide +kernel
theorem dX1_readStack_24 : decode cX1_readStack 24 = .ok (.aload_n 2, 1) := by decide +kernel
theorem dX1_readStack_25 : decode cX1_readStack 25 = .ok (.getfield 39, 3) := by decide +kernel
theorem dX1_readStack_28 : decode cX1_readStack 28 = .ok (.iload_n 1, 1) := by decide +kernel
theorem dX1_readStack_29 : decode cX1_readStack 29 = .ok (.aaload, 1) := by decide +kernel
theorem dX1_readStack_30 : decode cX1_readStack 30 = .ok (.iload 4, 2) := by decide +kernel
theorem dX1_readStack_32 : decode cX1_readStack 32 = .ok (.iaload, 1) := by decide +kernel
theorem dX1_readStack_33 : decode cX1_readStack 33 = .ok (.invokevirtual 42, 3) := by decide +kernel
theorem dX1_readStack_36 : decode cX1_readStack 36 = .ok (.iastore, 1) := by decide +kernel
theorem dX1_readStack_37 : decode cX1_readStack 37 = .ok (.iinc 4 1, 3) := by decide +kernel
theorem dX1_readStack_40 : decode cX1_readStack 40 = .ok (.goto (-37), 3) := by decide +kernel
theorem dX1_readStack_43 : decode cX1_readStack 43 = .ok (.return_, 1) := by decide +kernel
set_option maxRecDepth 20000 in
theorem ggX1_sortAll_X1_sort : GoodIn wsX1_sortAll wsX1_sort := goodIn_r _ [5, 6, 7, 8, 9, 10, 4, 11, 12, 13, 14, 15, 16, 17, 18, 19, 20, 21, 22, 28, 29, 30, 31, 32, 33, 34, 23, 24, 25, 26, 27] (by decide +kernel) (by decide +kernel)
set_option maxRecDepth 20000 in
theorem gX1_sortAll_X1_sort : GoodIn wsX1_sortAll (wsV RX1 48 RX1 yX1_sort wsX1_sort) := goodIn_app (goodIn_of _ (by decide +kernel)) ggX1_sortAll_X1_sort
theorem dX1_sortAll_0 : decode cX1_sortAll 0 = .ok (.iconst 0, 1) := by decide +kernel
theorem dX1_sortAll_1 : decode cX1_sortAll 1 = .ok (.istore_n 3, 1) := by decide +kernel
theorem dX1_sortAll_2 : decode cX1_sortAll 2 = .ok (.iload_n 3, 1) := by decide +kernel
theorem dX1_sortAll_3 : decode cX1_sortAll 3 = .ok (.aload_n 1, 1) := by decide +kernel
theorem dX1_sortAll_4 : decode cX1_sortAll 4 = .ok (.getfield 26, 3) := by decide +kernel
theorem dX1_sortAll_7 : decode cX1_sortAll 7 = .ok (.if_icmp .ge 16, 3) := by decide +kernel
theorem dX1_sortAll_10 : decode cX1_sortAll 10 = .ok (.aload_n 0, 1) := by decide +kernel
theorem dX1_sortAll_11 : decode cX1_sortAll 11 = .ok (.iload_n 3, 1) := by decide +kernel
theorem dX1_sortAll_12 : decode cX1_sortAll 12 = .ok (.aload_n 1, 1) := by decide +kernel
theorem dX1_sortAll_13 : decode cX1_sortAll 13 = .ok (.aload_n 2, 1) := by decide +kernel
theorem dX1_sortAll_14 : decode cX1_sortAll 14 = .ok (.invokevirtual 48, 3) := by decide +kernel
theorem dX1_sortAll_17 : decode cX1_sortAll 17 = .ok (.iinc 3 1, 3) := by decide +kernel
theorem dX1_sortAll_20 : decode cX1_sortAll 20 = .ok (.goto (-18), 3) := by decide +kernel
theorem dX1_sortAll_23 : decode cX1_sortAll 23 = .ok (.return_, 1) := by decide +kernel
set_option maxRecDepth 20000 in
theorem ggX1_sort_X1_pickMattering : GoodIn wsX1_sort wsX1_pickMattering := goodIn_r _ [7, 8, 9, 10, 11, 12, 13, 14, 23, 24, 25, 19, 20, 21, 22] (by decide +kernel) (by decide +kernel)
set_option maxRecDepth 20000 in
theorem gX1_sort_X1_pickMattering : GoodIn wsX1_sort (wsV RX1 52 RX1 yX1_pickMattering wsX1_pickMattering) := goodIn_app (goodIn_of _ (by decide +kernel)) ggX1_sort_X1_pickMattering
set_option maxRecDepth 20000 in
theorem ggX1_sort_X1_signatureOf : GoodIn wsX1_sort wsX1_signatureOf := goodIn_r _ [18, 9, 19, 20, 21, 22, 26, 27, 28, 29, 30] (by decide +kernel) (by decide +kernel)
set_option maxRecDepth 20000 in
theorem gX1_sort_X1_signatureOf : GoodIn wsX1_sort (wsV RX1 56 RX1 yX1_signatureOf wsX1_signatureOf) := goodIn_app (goodIn_of _ (by decide +kernel)) ggX1_sort_X1_signatureOf
theorem dX1_sort_0 : decode cX1_sort 0 = .ok (.aload_n 0, 1) := by decide +kernel
theorem dX1_sort_1 : decode cX1_sort 1 = .ok (.iload_n 1, 1) := by decide +kernel
theorem dX1_sort_2 : decode cX1_sort 2 = .ok (.aload_n 3, 1) := by decide +kernel
theorem dX1_sort_3 : decode cX1_sort 3 = .ok (.invokevirtual 52, 3) := by decide +kernel
theorem dX1_sort_6 : decode cX1_sort 6 = .ok (.aload_n 0, 1) := by decide +kernel
theorem dX1_sort_7 : decode cX1_sort 7 = .ok (.getfield 19, 3) := by decide +kernel
theorem dX1_sort_10 : decode cX1_sort 10 = .ok (.iload_n 1, 1) := by decide +kernel
theorem dX1_sort_11 : decode cX1_sort 11 = .ok (.aload_n 0, 1) := by decide +kernel
theorem dX1_sort_12 : decode cX1_sort 12 = .ok (.iload_n 1, 1) := by decide +kernel
theorem dX1_sort_13 : decode cX1_sort 13 = .ok (.aload_n 2, 1) := by decide +kernel
theorem dX1_sort_14 : decode cX1_sort 14 = .ok (.invokevirtual 56, 3) := by decide +kernel
theorem dX1_sort_17 : decode cX1_sort 17 = .ok (.iastore, 1) := by decide +kernel
theorem dX1_sort_18 : decode cX1_sort 18 = .ok (.iconst 0, 1) := by decide +kernel
theorem dX1_sort_19 : decode cX1_sort 19 = .ok (.istore 4, 2) := by decide +kernel
theorem dX1_sort_21 : decode cX1_sort 21 = .ok (.iload 4, 2) := by decide +kernel
theorem dX1_sort_23 : decode cX1_sort 23 = .ok (.iload_n 1, 1) := by decide +kernel
theorem dX1_sort_24 : decode cX1_sort 24 = .ok (.if_icmp .ge 25, 3) := by decide +kernel
theorem dX1_sort_27 : decode cX1_sort 27 = .ok (.aload_n 0, 1) := by decide +kernel
theorem dX1_sort_28 : decode cX1_sort 28 = .ok (.getfield 19, 3) := by decide +kernel
theorem dX1_sort_31 : decode cX1_sort 31 = .ok (.iload 4, 2) := by decide +kernel
theorem dX1_sort_33 : decode cX1_sort 33 = .ok (.iaload, 1) := by decide +kernel
theorem dX1_sort_34 : decode cX1_sort 34 = .ok (.aload_n 0, 1) := by decide +kernel
theorem dX1_sort_35 : decode cX1_sort 35 = .ok (.getfield 19, 3) := by decide +kernel
theorem dX1_sort_38 : decode cX1_sort 38 = .ok (.iload_n 1, 1) := by decide +kernel
theorem dX1_sort_39 : decode cX1_sort 39 = .ok (.iaload, 1) := by decide +kernel
theorem dX1_sort_40 : decode cX1_sort 40 = .ok (.if_icmp .eq 9, 3) := by decide +kernel
theorem dX1_sort_43 : decode cX1_sort 43 = .ok (.iinc 4 1, 3) := by decide +kernel
theorem dX1_sort_46 : decode cX1_sort 46 = .ok (.goto (-25), 3) := by decide +kernel
theorem dX1_sort_49 : decode cX1_sort 49 = .ok (.aload_n 0, 1) := by decide +kernel
theorem dX1_sort_50 : decode cX1_sort 50 = .ok (.getfield 23, 3) := by decide +kernel
theorem dX1_sort_53 : decode cX1_sort 53 = .ok (.iload_n 1, 1) := by decide +kernel
theorem dX1_sort_54 : decode cX1_sort 54 = .ok (.iload 4, 2) := by decide +kernel
theorem dX1_sort_56 : decode cX1_sort 56 = .ok (.iastore, 1) := by decide +kernel
theorem dX1_sort_57 : decode cX1_sort 57 = .ok (.return_, 1) := by decide +kernel
set_option maxRecDepth 20000 in
theorem ggX1_pickMattering_X3_inTheEnd : GoodIn wsX1_pickMattering wsX3_inTheEnd := goodIn_r _ [6, 7, 8, 9, 10] (by decide +kernel) (by decide +kernel)
set_option maxRecDepth 20000 in
theorem gX1_pickMattering_X3_inTheEnd_n69 : GoodIn wsX1_pickMattering (wsX3_inTheEnd) := ggX1_pickMattering_X3_inTheEnd
theorem dX1_pickMattering_0 : decode cX1_pickMattering 0 = .ok (.iconst 0, 1) := by decide +kernel
theorem dX1_pickMattering_1 : decode cX1_pickMattering 1 = .ok (.istore_n 3, 1) := by decide +kernel
theorem dX1_pickMattering_2 : decode cX1_pickMattering 2 = .ok (.iconst 0, 1) := by decide +kernel
theorem dX1_pickMattering_3 : decode cX1_pickMattering 3 = .ok (.istore 4, 2) := by decide +kernel
theorem dX1_pickMattering_5 : decode cX1_pickMattering 5 = .ok (.iload 4, 2) := by decide +kernel
theorem dX1_pickMattering_7 : decode cX1_pickMattering 7 = .ok (.iconst 4, 1) := by decide +kernel
theorem dX1_pickMattering_8 : decode cX1_pickMattering 8 = .ok (.if_icmp .ge 61, 3) := by decide +kernel
theorem dX1_pickMattering_11 : decode cX1_pickMattering 11 = .ok (.iload_n 3, 1) := by decide +kernel
theorem dX1_pickMattering_12 : decode cX1_pickMattering 12 = .ok (.aload_n 2, 1) := by decide +kernel
theorem dX1_pickMattering_13 : decode cX1_pickMattering 13 = .ok (.getfield 60, 3) := by decide +kernel
theorem dX1_pickMattering_16 : decode cX1_pickMattering 16 = .ok (.if_icmp .ge 53, 3) := by decide +kernel
theorem dX1_pickMattering_19 : decode cX1_pickMattering 19 = .ok (.aload_n 0, 1) := by decide +kernel
theorem dX1_pickMattering_20 : decode cX1_pickMattering 20 = .ok (.getfield 11, 3) := by decide +kernel
theorem dX1_pickMattering_23 : decode cX1_pickMattering 23 = .ok (.iload_n 1, 1) := by decide +kernel
theorem dX1_pickMattering_24 : decode cX1_pickMattering 24 = .ok (.aaload, 1) := by decide +kernel
theorem dX1_pickMattering_25 : decode cX1_pickMattering 25 = .ok (.iload 4, 2) := by decide +kernel
theorem dX1_pickMattering_27 : decode cX1_pickMattering 27 = .ok (.iaload, 1) := by decide +kernel
theorem dX1_pickMattering_28 : decode cX1_pickMattering 28 = .ok (.istore 5, 2) := by decide +kernel
theorem dX1_pickMattering_30 : decode cX1_pickMattering 30 = .ok (.iload 5, 2) := by decide +kernel
theorem dX1_pickMattering_32 : decode cX1_pickMattering 32 = .ok (.iconst (-1), 1) := by decide +kernel
theorem dX1_pickMattering_33 : decode cX1_pickMattering 33 = .ok (.if_icmp .eq 30, 3) := by decide +kernel
theorem dX1_pickMattering_36 : decode cX1_pickMattering 36 = .ok (.aload_n 2, 1) := by decide +kernel
theorem dX1_pickMattering_37 : decode cX1_pickMattering 37 = .ok (.getfield 65, 3) := by decide +kernel
theorem dX1_pickMattering_40 : decode cX1_pickMattering 40 = .ok (.iload 5, 2) := by decide +kernel
theorem dX1_pickMattering_42 : decode cX1_pickMattering 42 = .ok (.baload, 1) := by decide +kernel
theorem dX1_pickMattering_43 : decode cX1_pickMattering 43 = .ok (.ifCond .ne 20, 3) := by decide +kernel
theorem dX1_pickMattering_46 : decode cX1_pickMattering 46 = .ok (.aload_n 0, 1) := by decide +kernel
theorem dX1_pickMattering_47 : decode cX1_pickMattering 47 = .ok (.getfield 16, 3) := by decide +kernel
theorem dX1_pickMattering_50 : decode cX1_pickMattering 50 = .ok (.iload_n 1, 1) := by decide +kernel
theorem dX1_pickMattering_51 : decode cX1_pickMattering 51 = .ok (.aaload, 1) := by decide +kernel
theorem dX1_pickMattering_52 : decode cX1_pickMattering 52 = .ok (.iload_n 3, 1) := by decide +kernel
theorem dX1_pickMattering_53 : decode cX1_pickMattering 53 = .ok (.aload_n 2, 1) := by decide +kernel
theorem dX1_pickMattering_54 : decode cX1_pickMattering 54 = .ok (.iload 5, 2) := by decide +kernel
theorem dX1_pickMattering_56 : decode cX1_pickMattering 56 = .ok (.invokevirtual 69, 3) := by decide +kernel
theorem dX1_pickMattering_59 : decode cX1_pickMattering 59 = .ok (.iastore, 1) := by decide +kernel
theorem dX1_pickMattering_60 : decode cX1_pickMattering 60 = .ok (.iinc 3 1, 3) := by decide +kernel
theorem dX1_pickMattering_63 : decode cX1_pickMattering 63 = .ok (.iinc 4 1, 3) := by decide +kernel
theorem dX1_pickMattering_66 : decode cX1_pickMattering 66 = .ok (.goto (-61), 3) := by decide +kernel
theorem dX1_pickMattering_69 : decode cX1_pickMattering 69 = .ok (.iload_n 3, 1) := by decide +kernel
theorem dX1_pickMattering_70 : decode cX1_pickMattering 70 = .ok (.istore 4, 2) := by decide +kernel
theorem dX1_pickMattering_72 : decode cX1_pickMattering 72 = .ok (.iload 4, 2) := by decide +kernel
theorem dX1_pickMattering_74 : decode cX1_pickMattering 74 = .ok (.iconst 4, 1) := by decide +kernel
theorem dX1_pickMattering_75 : decode cX1_pickMattering 75 = .ok (.if_icmp .ge 19, 3) := by decide +kernel
theorem dX1_pickMattering_78 : decode cX1_pickMattering 78 = .ok (.aload_n 0, 1) := by decide +kernel
theorem dX1_pickMattering_79 : decode cX1_pickMattering 79 = .ok (.getfield 16, 3) := by decide +kernel
theorem dX1_pickMattering_82 : decode cX1_pickMattering 82 = .ok (.iload_n 1, 1) := by decide +kernel
theorem dX1_pickMattering_83 : decode cX1_pickMattering 83 = .ok (.aaload, 1) := by decide +kernel
theorem dX1_pickMattering_84 : decode cX1_pickMattering 84 = .ok (.iload 4, 2) := by decide +kernel
theorem dX1_pickMattering_86 : decode cX1_pickMattering 86 = .ok (.iconst (-1), 1) := by decide +kernel
theorem dX1_pickMattering_87 : decode cX1_pickMattering 87 = .ok (.iastore, 1) := by decide +kernel
theorem dX1_pickMattering_88 : decode cX1_pickMattering 88 = .ok (.iinc 4 1, 3) := by decide +kernel
theorem dX1_pickMattering_91 : decode cX1_pickMattering 91 = .ok (.goto (-19), 3) := by decide +kernel
theorem dX1_pickMattering_94 : decode cX1_pickMattering 94 = .ok (.return_, 1) := by decide +kernel
theorem dX1_signatureOf_0 : decode cX1_signatureOf 0 = .ok (.iconst 0, 1) := by decide +kernel
theorem dX1_signatureOf_1 : decode cX1_signatureOf 1 = .ok (.istore_n 3, 1) := by decide +kernel
theorem dX1_signatureOf_2 : decode cX1_signatureOf 2 = .ok (.iconst 0, 1) := by decide +kernel
theorem dX1_signatureOf_3 : decode cX1_signatureOf 3 = .ok (.istore 4, 2) := by decide +kernel
theorem dX1_signatureOf_5 : decode cX1_signatureOf 5 = .ok (.iload 4, 2) := by decide +kernel
theorem dX1_signatureOf_7 : decode cX1_signatureOf 7 = .ok (.iconst 4, 1) := by decide +kernel
theorem dX1_signatureOf_8 : decode cX1_signatureOf 8 = .ok (.if_icmp .ge 26, 3) := by decide +kernel
theorem dX1_signatureOf_11 : decode cX1_signatureOf 11 = .ok (.iload_n 3, 1) := by decide +kernel
theorem dX1_signatureOf_12 : decode cX1_signatureOf 12 = .ok (.bipush 31, 2) := by decide +kernel
theorem dX1_signatureOf_14 : decode cX1_signatureOf 14 = .ok (.imul, 1) := by decide +kernel
theorem dX1_signatureOf_15 : decode cX1_signatureOf 15 = .ok (.aload_n 0, 1) := by decide +kernel
theorem dX1_signatureOf_16 : decode cX1_signatureOf 16 = .ok (.getfield 16, 3) := by decide +kernel
theorem dX1_signatureOf_19 : decode cX1_signatureOf 19 = .ok (.iload_n 1, 1) := by decide +kernel
theorem dX1_signatureOf_20 : decode cX1_signatureOf 20 = .ok (.aaload, 1) := by decide +kernel
theorem dX1_signatureOf_21 : decode cX1_signatureOf 21 = .ok (.iload 4, 2) := by decide +kernel
theorem dX1_signatureOf_23 : decode cX1_signatureOf 23 = .ok (.iaload, 1) := by decide +kernel
theorem dX1_signatureOf_24 : decode cX1_signatureOf 24 = .ok (.iadd, 1) := by decide +kernel
theorem dX1_signatureOf_25 : decode cX1_signatureOf 25 = .ok (.iconst 1, 1) := by decide +kernel
theorem dX1_signatureOf_26 : decode cX1_signatureOf 26 = .ok (.iadd, 1) := by decide +kernel
theorem dX1_signatureOf_27 : decode cX1_signatureOf 27 = .ok (.istore_n 3, 1) := by decide +kernel
theorem dX1_signatureOf_28 : decode cX1_signatureOf 28 = .ok (.iinc 4 1, 3) := by decide +kernel
theorem dX1_signatureOf_31 : decode cX1_signatureOf 31 = .ok (.goto (-26), 3) := by decide +kernel
theorem dX1_signatureOf_34 : decode cX1_signatureOf 34 = .ok (.iload_n 3, 1) := by decide +kernel
theorem dX1_signatureOf_35 : decode cX1_signatureOf 35 = .ok (.ifCond .le 5, 3) := by decide +kernel
theorem dX1_signatureOf_38 : decode cX1_signatureOf 38 = .ok (.iload_n 3, 1) := by decide +kernel
theorem dX1_signatureOf_39 : decode cX1_signatureOf 39 = .ok (.ireturn, 1) := by decide +kernel
theorem dX1_signatureOf_40 : decode cX1_signatureOf 40 = .ok (.iconst (-1), 1) := by decide +kernel
theorem dX1_signatureOf_41 : decode cX1_signatureOf 41 = .ok (.aload_n 2, 1) := by decide +kernel
theorem dX1_signatureOf_42 : decode cX1_signatureOf 42 = .ok (.getfield 32, 3) := by decide +kernel
theorem dX1_signatureOf_45 : decode cX1_signatureOf 45 = .ok (.iload_n 1, 1) := by decide +kernel
theorem dX1_signatureOf_46 : decode cX1_signatureOf 46 = .ok (.iaload, 1) := by decide +kernel
theorem dX1_signatureOf_47 : decode cX1_signatureOf 47 = .ok (.sipush 10000, 3) := by decide +kernel
theorem dX1_signatureOf_50 : decode cX1_signatureOf 50 = .ok (.imul, 1) := by decide +kernel
theorem dX1_signatureOf_51 : decode cX1_signatureOf 51 = .ok (.isub, 1) := by decide +kernel
theorem dX1_signatureOf_52 : decode cX1_signatureOf 52 = .ok (.aload_n 2, 1) := by decide +kernel
theorem dX1_signatureOf_53 : decode cX1_signatureOf 53 = .ok (.getfield 39, 3) := by decide +kernel
theorem dX1_signatureOf_56 : decode cX1_signatureOf 56 = .ok (.iload_n 1, 1) := by decide +kernel
theorem dX1_signatureOf_57 : decode cX1_signatureOf 57 = .ok (.aaload, 1) := by decide +kernel
theorem dX1_signatureOf_58 : decode cX1_signatureOf 58 = .ok (.iconst 0, 1) := by decide +kernel
theorem dX1_signatureOf_59 : decode cX1_signatureOf 59 = .ok (.iaload, 1) := by decide +kernel
theorem dX1_signatureOf_60 : decode cX1_signatureOf 60 = .ok (.isub, 1) := by decide +kernel
theorem dX1_signatureOf_61 : decode cX1_signatureOf 61 = .ok (.ireturn, 1) := by decide +kernel
theorem dX2_init_0 : decode cX2_init 0 = .ok (.aload_n 0, 1) := by decide +kernel
theorem dX2_init_1 : decode cX2_init 1 = .ok (.invokespecial 3, 3) := by decide +kernel
theorem dX2_init_4 : decode cX2_init 4 = .ok (.aload_n 0, 1) := by decide +kernel
theorem dX2_init_5 : decode cX2_init 5 = .ok (.iconst 0, 1) := by decide +kernel
theorem dX2_init_6 : decode cX2_init 6 = .ok (.putfield 9, 3) := by decide +kernel
theorem dX2_init_9 : decode cX2_init 9 = .ok (.aload_n 0, 1) := by decide +kernel
theorem dX2_init_10 : decode cX2_init 10 = .ok (.bipush 60, 2) := by decide +kernel
theorem dX2_init_12 : decode cX2_init 12 = .ok (.newarray .int, 2) := by decide +kernel
theorem dX2_init_14 : decode cX2_init 14 = .ok (.putfield 15, 3) := by decide +kernel
theorem dX2_init_17 : decode cX2_init 17 = .ok (.aload_n 0, 1) := by decide +kernel
theorem dX2_init_18 : decode cX2_init 18 = .ok (.bipush 60, 2) := by decide +kernel
theorem dX2_init_20 : decode cX2_init 20 = .ok (.newarray .int, 2) := by decide +kernel
theorem dX2_init_22 : decode cX2_init 22 = .ok (.putfield 19, 3) := by decide +kernel
theorem dX2_init_25 : decode cX2_init 25 = .ok (.aload_n 0, 1) := by decide +kernel
theorem dX2_init_26 : decode cX2_init 26 = .ok (.bipush 60, 2) := by decide +kernel
theorem dX2_init_28 : decode cX2_init 28 = .ok (.iconst 4, 1) := by decide +kernel
theorem dX2_init_29 : decode cX2_init 29 = .ok (.multianewarray 22 2, 4) := by decide +kernel
theorem dX2_init_33 : decode cX2_init 33 = .ok (.putfield 24, 3) := by decide +kernel
theorem dX2_init_36 : decode cX2_init 36 = .ok (.aload_n 0, 1) := by decide +kernel
theorem dX2_init_37 : decode cX2_init 37 = .ok (.bipush 60, 2) := by decide +kernel
theorem dX2_init_39 : decode cX2_init 39 = .ok (.newarray .int, 2) := by decide +kernel
theorem dX2_init_41 : decode cX2_init 41 = .ok (.putfield 27, 3) := by decide +kernel
theorem dX2_init_44 : decode cX2_init 44 = .ok (.return_, 1) := by decide +kernel
theorem dX2_add_0 : decode cX2_add 0 = .ok (.aload_n 0, 1) := by decide +kernel
theorem dX2_add_1 : decode cX2_add 1 = .ok (.getfield 9, 3) := by decide +kernel
theorem dX2_add_4 : decode cX2_add 4 = .ok (.istore_n 3, 1) := by decide +kernel
theorem dX2_add_5 : decode cX2_add 5 = .ok (.aload_n 0, 1) := by decide +kernel
theorem dX2_add_6 : decode cX2_add 6 = .ok (.getfield 15, 3) := by decide +kernel
theorem dX2_add_9 : decode cX2_add 9 = .ok (.iload_n 3, 1) := by decide +kernel
theorem dX2_add_10 : decode cX2_add 10 = .ok (.iload_n 1, 1) := by decide +kernel
theorem dX2_add_11 : decode cX2_add 11 = .ok (.iastore, 1) := by decide +kernel
theorem dX2_add_12 : decode cX2_add 12 = .ok (.aload_n 0, 1) := by decide +kernel
theorem dX2_add_13 : decode cX2_add 13 = .ok (.getfield 19, 3) := by decide +kernel
theorem dX2_add_16 : decode cX2_add 16 = .ok (.iload_n 3, 1) := by decide +kernel
theorem dX2_add_17 : decode cX2_add 17 = .ok (.iload_n 2, 1) := by decide +kernel
theorem dX2_add_18 : decode cX2_add 18 = .ok (.iastore, 1) := by decide +kernel
theorem dX2_add_19 : decode cX2_add 19 = .ok (.aload_n 0, 1) := by decide +kernel
theorem dX2_add_20 : decode cX2_add 20 = .ok (.getfield 27, 3) := by decide +kernel
theorem dX2_add_23 : decode cX2_add 23 = .ok (.iload_n 3, 1) := by decide +kernel
theorem dX2_add_24 : decode cX2_add 24 = .ok (.iconst (-1), 1) := by decide +kernel
theorem dX2_add_25 : decode cX2_add 25 = .ok (.iastore, 1) := by decide +kernel
theorem dX2_add_26 : decode cX2_add 26 = .ok (.aload_n 0, 1) := by decide +kernel
theorem dX2_add_27 : decode cX2_add 27 = .ok (.iload_n 3, 1) := by decide +kernel
theorem dX2_add_28 : decode cX2_add 28 = .ok (.iconst 1, 1) := by decide +kernel
theorem dX2_add_29 : decode cX2_add 29 = .ok (.iadd, 1) := by decide +kernel
theorem dX2_add_30 : decode cX2_add 30 = .ok (.putfield 9, 3) := by decide +kernel
theorem dX2_add_33 : decode cX2_add 33 = .ok (.iload_n 3, 1) := by decide +kernel
theorem dX2_add_34 : decode cX2_add 34 = .ok (.ireturn, 1) := by decide +kernel
theorem dX2_setStack_0 : decode cX2_setStack 0 = .ok (.aload_n 0, 1) := by decide +kernel
theorem dX2_setStack_1 : decode cX2_setStack 1 = .ok (.getfield 24, 3) := by decide +kernel
theorem dX2_setStack_4 : decode cX2_setStack 4 = .ok (.iload_n 1, 1) := by decide +kernel
theorem dX2_setStack_5 : decode cX2_setStack 5 = .ok (.aaload, 1) := by decide +kernel
theorem dX2_setStack_6 : decode cX2_setStack 6 = .ok (.iconst 0, 1) := by decide +kernel
theorem dX2_setStack_7 : decode cX2_setStack 7 = .ok (.iload_n 2, 1) := by decide +kernel
theorem dX2_setStack_8 : decode cX2_setStack 8 = .ok (.iastore, 1) := by decide +kernel
theorem dX2_setStack_9 : decode cX2_setStack 9 = .ok (.aload_n 0, 1) := by decide +kernel
theorem dX2_setStack_10 : decode cX2_setStack 10 = .ok (.getfield 24, 3) := by decide +kernel
theorem dX2_setStack_13 : decode cX2_setStack 13 = .ok (.iload_n 1, 1) := by decide +kernel
theorem dX2_setStack_14 : decode cX2_setStack 14 = .ok (.aaload, 1) := by decide +kernel
theorem dX2_setStack_15 : decode cX2_setStack 15 = .ok (.iconst 1, 1) := by decide +kernel
theorem dX2_setStack_16 : decode cX2_setStack 16 = .ok (.iload_n 3, 1) := by decide +kernel
theorem dX2_setStack_17 : decode cX2_setStack 17 = .ok (.iastore, 1) := by decide +kernel
theorem dX2_setStack_18 : decode cX2_setStack 18 = .ok (.aload_n 0, 1) := by decide +kernel
theorem dX2_setStack_19 : decode cX2_setStack 19 = .ok (.getfield 24, 3) := by decide +kernel
theorem dX2_setStack_22 : decode cX2_setStack 22 = .ok (.iload_n 1, 1) := by decide +kernel
theorem dX2_setStack_23 : decode cX2_setStack 23 = .ok (.aaload, 1) := by decide +kernel
theorem dX2_setStack_24 : decode cX2_setStack 24 = .ok (.iconst 2, 1) := by decide +kernel
theorem dX2_setStack_25 : decode cX2_setStack 25 = .ok (.iload 4, 2) := by decide +kernel
theorem dX2_setStack_27 : decode cX2_setStack 27 = .ok (.iastore, 1) := by decide +kernel
theorem dX2_setStack_28 : decode cX2_setStack 28 = .ok (.aload_n 0, 1) := by decide +kernel
theorem dX2_setStack_29 : decode cX2_setStack 29 = .ok (.getfield 24, 3) := by decide +kernel
theorem dX2_setStack_32 : decode cX2_setStack 32 = .ok (.iload_n 1, 1) := by decide +kernel
theorem dX2_setStack_33 : decode cX2_setStack 33 = .ok (.aaload, 1) := by decide +kernel
theorem dX2_setStack_34 : decode cX2_setStack 34 = .ok (.iconst 3, 1) := by decide +kernel
theorem dX2_setStack_35 : decode cX2_setStack 35 = .ok (.iload 5, 2) := by decide +kernel
theorem dX2_setStack_37 : decode cX2_setStack 37 = .ok (.iastore, 1) := by decide +kernel
theorem dX2_setStack_38 : decode cX2_setStack 38 = .ok (.return_, 1) := by decide +kernel
theorem dX3_init_0 : decode cX3_init 0 = .ok (.aload_n 0, 1) := by decide +kernel
theorem dX3_init_1 : decode cX3_init 1 = .ok (.invokespecial 3, 3) := by decide +kernel
theorem dX3_init_4 : decode cX3_init 4 = .ok (.aload_n 0, 1) := by decide +kernel
theorem dX3_init_5 : decode cX3_init 5 = .ok (.bipush 30, 2) := by decide +kernel
theorem dX3_init_7 : decode cX3_init 7 = .ok (.newarray .boolean, 2) := by decide +kernel
theorem dX3_init_9 : decode cX3_init 9 = .ok (.putfield 9, 3) := by decide +kernel
theorem dX3_init_12 : decode cX3_init 12 = .ok (.aload_n 0, 1) := by decide +kernel
theorem dX3_init_13 : decode cX3_init 13 = .ok (.bipush 30, 2) := by decide +kernel
theorem dX3_init_15 : decode cX3_init 15 = .ok (.newarray .int, 2) := by decide +kernel
theorem dX3_init_17 : decode cX3_init 17 = .ok (.putfield 15, 3) := by decide +kernel
theorem dX3_init_20 : decode cX3_init 20 = .ok (.aload_n 0, 1) := by decide +kernel
theorem dX3_init_21 : decode cX3_init 21 = .ok (.iconst 2, 1) := by decide +kernel
theorem dX3_init_22 : decode cX3_init 22 = .ok (.putfield 19, 3) := by decide +kernel
theorem dX3_init_25 : decode cX3_init 25 = .ok (.iconst 0, 1) := by decide +kernel
theorem dX3_init_26 : decode cX3_init 26 = .ok (.istore_n 1, 1) := by decide +kernel
theorem dX3_init_27 : decode cX3_init 27 = .ok (.iload_n 1, 1) := by decide +kernel
theorem dX3_init_28 : decode cX3_init 28 = .ok (.bipush 30, 2) := by decide +kernel
theorem dX3_init_30 : decode cX3_init 30 = .ok (.if_icmp .ge 16, 3) := by decide +kernel
theorem dX3_init_33 : decode cX3_init 33 = .ok (.aload_n 0, 1) := by decide +kernel
theorem dX3_init_34 : decode cX3_init 34 = .ok (.getfield 15, 3) := by decide +kernel
theorem dX3_init_37 : decode cX3_init 37 = .ok (.iload_n 1, 1) := by decide +kernel
theorem dX3_init_38 : decode cX3_init 38 = .ok (.iload_n 1, 1) := by decide +kernel
theorem dX3_init_39 : decode cX3_init 39 = .ok (.iastore, 1) := by decide +kernel
theorem dX3_init_40 : decode cX3_init 40 = .ok (.iinc 1 1, 3) := by decide +kernel
theorem dX3_init_43 : decode cX3_init 43 = .ok (.goto (-16), 3) := by decide +kernel
theorem dX3_init_46 : decode cX3_init 46 = .ok (.return_, 1) := by decide +kernel
theorem dX3_leadsTo_0 : decode cX3_leadsTo 0 = .ok (.iload_n 1, 1) := by decide +kernel
theorem dX3_leadsTo_1 : decode cX3_leadsTo 1 = .ok (.istore_n 3, 1) := by decide +kernel
theorem dX3_leadsTo_2 : decode cX3_leadsTo 2 = .ok (.iconst 0, 1) := by decide +kernel
theorem dX3_leadsTo_3 : decode cX3_leadsTo 3 = .ok (.istore 4, 2) := by decide +kernel
theorem dX3_leadsTo_5 : decode cX3_leadsTo 5 = .ok (.iload 4, 2) := by decide +kernel
theorem dX3_leadsTo_7 : decode cX3_leadsTo 7 = .ok (.bipush 30, 2) := by decide +kernel
theorem dX3_leadsTo_9 : decode cX3_leadsTo 9 = .ok (.if_icmp .ge 21, 3) := by decide +kernel
theorem dX3_leadsTo_12 : decode cX3_leadsTo 12 = .ok (.iload_n 3, 1) := by decide +kernel
theorem dX3_leadsTo_13 : decode cX3_leadsTo 13 = .ok (.iload_n 2, 1) := by decide +kernel
theorem dX3_leadsTo_14 : decode cX3_leadsTo 14 = .ok (.if_icmp .eq 16, 3) := by decide +kernel
theorem dX3_leadsTo_17 : decode cX3_leadsTo 17 = .ok (.aload_n 0, 1) := by decide +kernel
theorem dX3_leadsTo_18 : decode cX3_leadsTo 18 = .ok (.getfield 15, 3) := by decide +kernel
theorem dX3_leadsTo_21 : decode cX3_leadsTo 21 = .ok (.iload_n 3, 1) := by decide +kernel
theorem dX3_leadsTo_22 : decode cX3_leadsTo 22 = .ok (.iaload, 1) := by decide +kernel
theorem dX3_leadsTo_23 : decode cX3_leadsTo 23 = .ok (.istore_n 3, 1) := by decide +kernel
theorem dX3_leadsTo_24 : decode cX3_leadsTo 24 = .ok (.iinc 4 1, 3) := by decide +kernel
theorem dX3_leadsTo_27 : decode cX3_leadsTo 27 = .ok (.goto (-22), 3) := by decide +kernel
theorem dX3_leadsTo_30 : decode cX3_leadsTo 30 = .ok (.iload_n 3, 1) := by decide +kernel
theorem dX3_leadsTo_31 : decode cX3_leadsTo 31 = .ok (.iload_n 2, 1) := by decide +kernel
theorem dX3_leadsTo_32 : decode cX3_leadsTo 32 = .ok (.if_icmp .ne 7, 3) := by decide +kernel
theorem dX3_leadsTo_35 : decode cX3_leadsTo 35 = .ok (.iconst 1, 1) := by decide +kernel
theorem dX3_leadsTo_36 : decode cX3_leadsTo 36 = .ok (.goto 4, 3) := by decide +kernel
theorem dX3_leadsTo_39 : decode cX3_leadsTo 39 = .ok (.iconst 0, 1) := by decide +kernel
theorem dX3_leadsTo_40 : decode cX3_leadsTo 40 = .ok (.ireturn, 1) := by decide +kernel
theorem dX3_inTheEnd_0 : decode cX3_inTheEnd 0 = .ok (.iload_n 1, 1) := by decide +kernel
theorem dX3_inTheEnd_1 : decode cX3_inTheEnd 1 = .ok (.istore_n 2, 1) := by decide +kernel
theorem dX3_inTheEnd_2 : decode cX3_inTheEnd 2 = .ok (.iconst 0, 1) := by decide +kernel
theorem dX3_inTheEnd_3 : decode cX3_inTheEnd 3 = .ok (.istore_n 3, 1) := by decide +kernel
theorem dX3_inTheEnd_4 : decode cX3_inTheEnd 4 = .ok (.iload_n 3, 1) := by decide +kernel
theorem dX3_inTheEnd_5 : decode cX3_inTheEnd 5 = .ok (.bipush 30, 2) := by decide +kernel
theorem dX3_inTheEnd_7 : decode cX3_inTheEnd 7 = .ok (.if_icmp .ge 26, 3) := by decide +kernel
theorem dX3_inTheEnd_10 : decode cX3_inTheEnd 10 = .ok (.aload_n 0, 1) := by decide +kernel
theorem dX3_inTheEnd_11 : decode cX3_inTheEnd 11 = .ok (.getfield 15, 3) := by decide +kernel
theorem dX3_inTheEnd_14 : decode cX3_inTheEnd 14 = .ok (.iload_n 2, 1) := by decide +kernel
theorem dX3_inTheEnd_15 : decode cX3_inTheEnd 15 = .ok (.iaload, 1) := by decide +kernel
theorem dX3_inTheEnd_16 : decode cX3_inTheEnd 16 = .ok (.iload_n 2, 1) := by decide +kernel
theorem dX3_inTheEnd_17 : decode cX3_inTheEnd 17 = .ok (.if_icmp .eq 16, 3) := by decide +kernel
theorem dX3_inTheEnd_20 : decode cX3_inTheEnd 20 = .ok (.aload_n 0, 1) := by decide +kernel
theorem dX3_inTheEnd_21 : decode cX3_inTheEnd 21 = .ok (.getfield 15, 3) := by decide +kernel
theorem dX3_inTheEnd_24 : decode cX3_inTheEnd 24 = .ok (.iload_n 2, 1) := by decide +kernel
theorem dX3_inTheEnd_25 : decode cX3_inTheEnd 25 = .ok (.iaload, 1) := by decide +kernel
theorem dX3_inTheEnd_26 : decode cX3_inTheEnd 26 = .ok (.istore_n 2, 1) := by decide +kernel
theorem dX3_inTheEnd_27 : decode cX3_inTheEnd 27 = .ok (.iinc 3 1, 3) := by decide +kernel
theorem dX3_inTheEnd_30 : decode cX3_inTheEnd 30 = .ok (.goto (-26), 3) := by decide +kernel
theorem dX3_inTheEnd_33 : decode cX3_inTheEnd 33 = .ok (.iload_n 2, 1) := by decide +kernel
theorem dX3_inTheEnd_34 : decode cX3_inTheEnd 34 = .ok (.ireturn, 1) := by decide +kernel
set_option maxRecDepth 20000 in
theorem ggX4_init_X0_init : GoodIn wsX4_init wsX0_init := goodIn_r _ [24, 25, 2, 3, 20, 26, 27, 28, 29, 30, 55, 56, 57, 58] (by decide +kernel) (by decide +kernel)
set_option maxRecDepth 20000 in
theorem gX4_init_X0_init_n9 : GoodIn wsX4_init (wsX0_init) := ggX4_init_X0_init
set_option maxRecDepth 20000 in
theorem ggX4_init_X3_init : GoodIn wsX4_init wsX3_init := goodIn_r _ [32, 33, 2, 3, 34, 35, 20, 36, 37, 65, 66, 67] (by decide +kernel) (by decide +kernel)
set_option maxRecDepth 20000 in
theorem gX4_init_X3_init_n18 : GoodIn wsX4_init (wsX3_init) := ggX4_init_X3_init
set_option maxRecDepth 20000 in
theorem ggX4_init_X2_init : GoodIn wsX4_init wsX2_init := goodIn_r _ [39, 40, 2, 3, 41, 20, 42, 43, 44, 45, 46, 68, 69, 70, 71, 72] (by decide +kernel) (by decide +kernel)
set_option maxRecDepth 20000 in
theorem gX4_init_X2_init_n25 : GoodIn wsX4_init (wsX2_init) := ggX4_init_X2_init
set_option maxRecDepth 20000 in
theorem ggX4_init_X1_init : GoodIn wsX4_init wsX1_init := goodIn_r _ [48, 49, 2, 3, 50, 20, 51, 52, 53, 54, 73, 74, 75, 76] (by decide +kernel) (by decide +kernel)
set_option maxRecDepth 20000 in
theorem gX4_init_X1_init_n32 : GoodIn wsX4_init (wsX1_init) := ggX4_init_X1_init
theorem dX4_init_0 : decode cX4_init 0 = .ok (.aload_n 0, 1) := by decide +kernel
theorem dX4_init_1 : decode cX4_init 1 = .ok (.invokespecial 1, 3) := by decide +kernel
theorem dX4_init_4 : decode cX4_init 4 = .ok (.aload_n 0, 1) := by decide +kernel
theorem dX4_init_5 : decode cX4_init 5 = .ok (.new 7, 3) := by decide +kernel
theorem dX4_init_8 : decode cX4_init 8 = .ok (.dup, 1) := by decide +kernel
theorem dX4_init_9 : decode cX4_init 9 = .ok (.invokespecial 9, 3) := by decide +kernel
theorem dX4_init_12 : decode cX4_init 12 = .ok (.putfield 10, 3) := by decide +kernel
theorem dX4_init_15 : decode cX4_init 15 = .ok (.aload_n 0, 1) := by decide +kernel
theorem dX4_init_16 : decode cX4_init 16 = .ok (.new 16, 3) := by decide +kernel
theorem dX4_init_19 : decode cX4_init 19 = .ok (.dup, 1) := by decide +kernel
theorem dX4_init_20 : decode cX4_init 20 = .ok (.invokespecial 18, 3) := by decide +kernel
theorem dX4_init_23 : decode cX4_init 23 = .ok (.putfield 19, 3) := by decide +kernel
theorem dX4_init_26 : decode cX4_init 26 = .ok (.aload_n 0, 1) := by decide +kernel
theorem dX4_init_27 : decode cX4_init 27 = .ok (.new 23, 3) := by decide +kernel
theorem dX4_init_30 : decode cX4_init 30 = .ok (.dup, 1) := by decide +kernel
theorem dX4_init_31 : decode cX4_init 31 = .ok (.invokespecial 25, 3) := by decide +kernel
theorem dX4_init_34 : decode cX4_init 34 = .ok (.putfield 26, 3) := by decide +kernel
theorem dX4_init_37 : decode cX4_init 37 = .ok (.aload_n 0, 1) := by decide +kernel
theorem dX4_init_38 : decode cX4_init 38 = .ok (.new 30, 3) := by decide +kernel
theorem dX4_init_41 : decode cX4_init 41 = .ok (.dup, 1) := by decide +kernel
theorem dX4_init_42 : decode cX4_init 42 = .ok (.invokespecial 32, 3) := by decide +kernel
theorem dX4_init_45 : decode cX4_init 45 = .ok (.putfield 33, 3) := by decide +kernel
theorem dX4_init_48 : decode cX4_init 48 = .ok (.aload_n 0, 1) := by decide +kernel
theorem dX4_init_49 : decode cX4_init 49 = .ok (.iconst 4, 1) := by decide +kernel
theorem dX4_init_50 : decode cX4_init 50 = .ok (.newarray .int, 2) := by decide +kernel
theorem dX4_init_52 : decode cX4_init 52 = .ok (.putfield 37, 3) := by decide +kernel
theorem dX4_init_55 : decode cX4_init 55 = .ok (.aload_n 0, 1) := by decide +kernel
theorem dX4_init_56 : decode cX4_init 56 = .ok (.bipush 100, 2) := by decide +kernel
theorem dX4_init_58 : decode cX4_init 58 = .ok (.putfield 41, 3) := by decide +kernel
theorem dX4_init_61 : decode cX4_init 61 = .ok (.return_, 1) := by decide +kernel
set_option maxRecDepth 20000 in
theorem ggX4_addRange_X4_isBelow : GoodIn wsX4_addRange wsX4_isBelow := goodIn_r _ [10] (by decide +kernel) (by decide +kernel)
set_option maxRecDepth 20000 in
theorem gX4_addRange_X4_isBelow : GoodIn wsX4_addRange (va_wsS RX4 45 yX4_isBelow wsX4_isBelow) := goodIn_app (goodIn_of _ (by decide +kernel)) ggX4_addRange_X4_isBelow
set_option maxRecDepth 20000 in
theorem ggX4_addRange_X4_checkArgument : GoodIn wsX4_addRange wsX4_checkArgument := goodIn_ca (goodIn_r _ [13, 14, 15] (by decide +kernel) (by decide +kernel)) (goodIn_sub (fun _ h => List.mem_cons_of_mem _ (List.mem_append_right _ h)) (by decide +kernel))
set_option maxRecDepth 20000 in
theorem gX4_addRange_X4_checkArgument : GoodIn wsX4_addRange (va_wsS RX4 49 yX4_checkArgument wsX4_checkArgument) := goodIn_app (goodIn_of _ (by decide +kernel)) ggX4_addRange_X4_checkArgument
set_option maxRecDepth 20000 in
theorem ggX4_addRange_X0_isFull : GoodIn wsX4_addRange wsX0_isFull := goodIn_r _ [19, 20, 71, 72, 73, 74] (by decide +kernel) (by decide +kernel)
set_option maxRecDepth 20000 in
theorem gX4_addRange_X0_isFull_n53 : GoodIn wsX4_addRange (wsX0_isFull) := ggX4_addRange_X0_isFull
set_option maxRecDepth 20000 in
theorem ggX4_addRange_X0_overlaps : GoodIn wsX4_addRange wsX0_overlaps := goodIn_r _ [23, 20, 24, 25, 71, 72, 73, 74] (by decide +kernel) (by decide +kernel)
set_option maxRecDepth 20000 in
theorem gX4_addRange_X0_overlaps_n64 : GoodIn wsX4_addRange (wsX0_overlaps) := ggX4_addRange_X0_overlaps
set_option maxRecDepth 20000 in
theorem ggX4_addRange_X0_add : GoodIn wsX4_addRange wsX0_add := goodIn_r _ [28, 20, 24, 25, 29, 71, 72, 73, 74] (by decide +kernel) (by decide +kernel)
set_option maxRecDepth 20000 in
theorem gX4_addRange_X0_add_n70 : GoodIn wsX4_addRange (wsX0_add) := ggX4_addRange_X0_add
set_option maxRecDepth 20000 in
theorem ggX4_addRange_X1_readStacksOf : GoodIn wsX4_addRange wsX1_readStacksOf := goodIn_r _ [33, 34, 35, 36, 31, 37, 38, 39, 17, 40, 41, 20, 24, 25, 29, 75, 76, 77, 78, 79, 80, 81, 82, 83, 71, 72, 73, 74] (by decide +kernel) (by decide +kernel)
set_option maxRecDepth 20000 in
theorem gX4_addRange_X1_readStacksOf_n74 : GoodIn wsX4_addRange (wsX1_readStacksOf) := ggX4_addRange_X1_readStacksOf
set_option maxRecDepth 20000 in
theorem ggX4_addRange_X1_sortAll : GoodIn wsX4_addRange wsX1_sortAll := goodIn_r _ [44, 45, 46, 47, 31, 48, 49, 50, 51, 52, 53, 54, 38, 55, 56, 57, 58, 59, 60, 61, 62, 63, 64, 75, 76, 77, 78, 79, 80, 81, 82, 83, 84, 85, 86] (by decide +kernel) (by decide +kernel)
set_option maxRecDepth 20000 in
theorem gX4_addRange_X1_sortAll_n78 : GoodIn wsX4_addRange (wsX1_sortAll) := ggX4_addRange_X1_sortAll
theorem dX4_addRange_0 : decode cX4_addRange 0 = .ok (.iload_n 1, 1) := by decide +kernel
theorem dX4_addRange_1 : decode cX4_addRange 1 = .ok (.iconst 4, 1) := by decide +kernel
theorem dX4_addRange_2 : decode cX4_addRange 2 = .ok (.invokestatic 45, 3) := by decide +kernel
theorem dX4_addRange_5 : decode cX4_addRange 5 = .ok (.ifCond .eq 17, 3) := by decide +kernel
theorem dX4_addRange_8 : decode cX4_addRange 8 = .ok (.iload 4, 2) := by decide +kernel
theorem dX4_addRange_10 : decode cX4_addRange 10 = .ok (.bipush 30, 2) := by decide +kernel
theorem dX4_addRange_12 : decode cX4_addRange 12 = .ok (.invokestatic 45, 3) := by decide +kernel
theorem dX4_addRange_15 : decode cX4_addRange 15 = .ok (.ifCond .eq 7, 3) := by decide +kernel
theorem dX4_addRange_18 : decode cX4_addRange 18 = .ok (.iconst 1, 1) := by decide +kernel
theorem dX4_addRange_19 : decode cX4_addRange 19 = .ok (.goto 4, 3) := by decide +kernel
theorem dX4_addRange_22 : decode cX4_addRange 22 = .ok (.iconst 0, 1) := by decide +kernel
theorem dX4_addRange_23 : decode cX4_addRange 23 = .ok (.invokestatic 49, 3) := by decide +kernel
theorem dX4_addRange_26 : decode cX4_addRange 26 = .ok (.iload_n 2, 1) := by decide +kernel
theorem dX4_addRange_27 : decode cX4_addRange 27 = .ok (.sipush 10000, 3) := by decide +kernel
theorem dX4_addRange_30 : decode cX4_addRange 30 = .ok (.invokestatic 45, 3) := by decide +kernel
theorem dX4_addRange_33 : decode cX4_addRange 33 = .ok (.ifCond .eq 22, 3) := by decide +kernel
theorem dX4_addRange_36 : decode cX4_addRange 36 = .ok (.iload_n 3, 1) := by decide +kernel
theorem dX4_addRange_37 : decode cX4_addRange 37 = .ok (.sipush 10000, 3) := by decide +kernel
theorem dX4_addRange_40 : decode cX4_addRange 40 = .ok (.invokestatic 45, 3) := by decide +kernel
theorem dX4_addRange_43 : decode cX4_addRange 43 = .ok (.ifCond .eq 12, 3) := by decide +kernel
theorem dX4_addRange_46 : decode cX4_addRange 46 = .ok (.iload_n 2, 1) := by decide +kernel
theorem dX4_addRange_47 : decode cX4_addRange 47 = .ok (.iload_n 3, 1) := by decide +kernel
theorem dX4_addRange_48 : decode cX4_addRange 48 = .ok (.if_icmp .gt 7, 3) := by decide +kernel
theorem dX4_addRange_51 : decode cX4_addRange 51 = .ok (.iconst 1, 1) := by decide +kernel
theorem dX4_addRange_52 : decode cX4_addRange 52 = .ok (.goto 4, 3) := by decide +kernel
theorem dX4_addRange_55 : decode cX4_addRange 55 = .ok (.iconst 0, 1) := by decide +kernel
theorem dX4_addRange_56 : decode cX4_addRange 56 = .ok (.invokestatic 49, 3) := by decide +kernel
theorem dX4_addRange_59 : decode cX4_addRange 59 = .ok (.aload_n 0, 1) := by decide +kernel
theorem dX4_addRange_60 : decode cX4_addRange 60 = .ok (.getfield 10, 3) := by decide +kernel
theorem dX4_addRange_63 : decode cX4_addRange 63 = .ok (.iload_n 1, 1) := by decide +kernel
theorem dX4_addRange_64 : decode cX4_addRange 64 = .ok (.invokevirtual 53, 3) := by decide +kernel
theorem dX4_addRange_67 : decode cX4_addRange 67 = .ok (.ifCond .eq 13, 3) := by decide +kernel
theorem dX4_addRange_70 : decode cX4_addRange 70 = .ok (.new 57, 3) := by decide +kernel
theorem dX4_addRange_73 : decode cX4_addRange 73 = .ok (.dup, 1) := by decide +kernel
theorem dX4_addRange_74 : decode cX4_addRange 74 = .ok (.ldc 59, 2) := by decide +kernel
theorem dX4_addRange_76 : decode cX4_addRange 76 = .ok (.invokespecial 61, 3) := by decide +kernel
theorem dX4_addRange_79 : decode cX4_addRange 79 = .ok (.athrow, 1) := by decide +kernel
theorem dX4_addRange_80 : decode cX4_addRange 80 = .ok (.aload_n 0, 1) := by decide +kernel
theorem dX4_addRange_81 : decode cX4_addRange 81 = .ok (.getfield 10, 3) := by decide +kernel
theorem dX4_addRange_84 : decode cX4_addRange 84 = .ok (.iload_n 1, 1) := by decide +kernel
theorem dX4_addRange_85 : decode cX4_addRange 85 = .ok (.iload_n 2, 1) := by decide +kernel
theorem dX4_addRange_86 : decode cX4_addRange 86 = .ok (.iload_n 3, 1) := by decide +kernel
theorem dX4_addRange_87 : decode cX4_addRange 87 = .ok (.invokevirtual 64, 3) := by decide +kernel
theorem dX4_addRange_90 : decode cX4_addRange 90 = .ok (.ifCond .eq 13, 3) := by decide +kernel
theorem dX4_addRange_93 : decode cX4_addRange 93 = .ok (.new 57, 3) := by decide +kernel
theorem dX4_addRange_96 : decode cX4_addRange 96 = .ok (.dup, 1) := by decide +kernel
theorem dX4_addRange_97 : decode cX4_addRange 97 = .ok (.ldc 68, 2) := by decide +kernel
theorem dX4_addRange_99 : decode cX4_addRange 99 = .ok (.invokespecial 61, 3) := by decide +kernel
theorem dX4_addRange_102 : decode cX4_addRange 102 = .ok (.athrow, 1) := by decide +kernel
theorem dX4_addRange_103 : decode cX4_addRange 103 = .ok (.aload_n 0, 1) := by decide +kernel
theorem dX4_addRange_104 : decode cX4_addRange 104 = .ok (.getfield 10, 3) := by decide +kernel
theorem dX4_addRange_107 : decode cX4_addRange 107 = .ok (.iload_n 1, 1) := by decide +kernel
theorem dX4_addRange_108 : decode cX4_addRange 108 = .ok (.iload_n 2, 1) := by decide +kernel
theorem dX4_addRange_109 : decode cX4_addRange 109 = .ok (.iload_n 3, 1) := by decide +kernel
theorem dX4_addRange_110 : decode cX4_addRange 110 = .ok (.iload 4, 2) := by decide +kernel
theorem dX4_addRange_112 : decode cX4_addRange 112 = .ok (.invokevirtual 70, 3) := by decide +kernel
theorem dX4_addRange_115 : decode cX4_addRange 115 = .ok (.aload_n 0, 1) := by decide +kernel
theorem dX4_addRange_116 : decode cX4_addRange 116 = .ok (.getfield 33, 3) := by decide +kernel
theorem dX4_addRange_119 : decode cX4_addRange 119 = .ok (.iload_n 1, 1) := by decide +kernel
theorem dX4_addRange_120 : decode cX4_addRange 120 = .ok (.aload_n 0, 1) := by decide +kernel
theorem dX4_addRange_121 : decode cX4_addRange 121 = .ok (.getfield 26, 3) := by decide +kernel
theorem dX4_addRange_124 : decode cX4_addRange 124 = .ok (.aload_n 0, 1) := by decide +kernel
theorem dX4_addRange_125 : decode cX4_addRange 125 = .ok (.getfield 10, 3) := by decide +kernel
theorem dX4_addRange_128 : decode cX4_addRange 128 = .ok (.invokevirtual 74, 3) := by decide +kernel
theorem dX4_addRange_131 : decode cX4_addRange 131 = .ok (.aload_n 0, 1) := by decide +kernel
theorem dX4_addRange_132 : decode cX4_addRange 132 = .ok (.getfield 33, 3) := by decide +kernel
theorem dX4_addRange_135 : decode cX4_addRange 135 = .ok (.aload_n 0, 1) := by decide +kernel
theorem dX4_addRange_136 : decode cX4_addRange 136 = .ok (.getfield 26, 3) := by decide +kernel
theorem dX4_addRange_139 : decode cX4_addRange 139 = .ok (.aload_n 0, 1) := by decide +kernel
theorem dX4_addRange_140 : decode cX4_addRange 140 = .ok (.getfield 19, 3) := by decide +kernel
theorem dX4_addRange_143 : decode cX4_addRange 143 = .ok (.invokevirtual 78, 3) := by decide +kernel
theorem dX4_addRange_146 : decode cX4_addRange 146 = .ok (.aload_n 0, 1) := by decide +kernel
theorem dX4_addRange_147 : decode cX4_addRange 147 = .ok (.getfield 10, 3) := by decide +kernel
theorem dX4_addRange_150 : decode cX4_addRange 150 = .ok (.getfield 82, 3) := by decide +kernel
theorem dX4_addRange_153 : decode cX4_addRange 153 = .ok (.iload_n 1, 1) := by decide +kernel
theorem dX4_addRange_154 : decode cX4_addRange 154 = .ok (.iaload, 1) := by decide +kernel
theorem dX4_addRange_155 : decode cX4_addRange 155 = .ok (.ireturn, 1) := by decide +kernel
set_option maxRecDepth 20000 in
theorem ggX4_ignore_X4_isBelow : GoodIn wsX4_ignore wsX4_isBelow := goodIn_r _ [7] (by decide +kernel) (by decide +kernel)
set_option maxRecDepth 20000 in
theorem gX4_ignore_X4_isBelow : GoodIn wsX4_ignore (va_wsS RX4 45 yX4_isBelow wsX4_isBelow) := goodIn_app (goodIn_of _ (by decide +kernel)) ggX4_ignore_X4_isBelow
set_option maxRecDepth 20000 in
theorem ggX4_ignore_X4_checkArgument : GoodIn wsX4_ignore wsX4_checkArgument := goodIn_ca (goodIn_r _ [10, 11, 12] (by decide +kernel) (by decide +kernel)) (goodIn_sub (fun _ h => List.mem_cons_of_mem _ (List.mem_append_right _ h)) (by decide +kernel))
set_option maxRecDepth 20000 in
theorem gX4_ignore_X4_checkArgument : GoodIn wsX4_ignore (va_wsS RX4 49 yX4_checkArgument wsX4_checkArgument) := goodIn_app (goodIn_of _ (by decide +kernel)) ggX4_ignore_X4_checkArgument
set_option maxRecDepth 20000 in
theorem ggX4_ignore_X1_sortAll : GoodIn wsX4_ignore wsX1_sortAll := goodIn_r _ [16, 17, 18, 19, 14, 20, 21, 22, 23, 24, 25, 26, 27, 28, 29, 30, 31, 32, 33, 34, 35, 36, 37, 47, 48, 49, 50, 51, 52, 53, 54, 55, 44, 45, 46] (by decide +kernel) (by decide +kernel)
set_option maxRecDepth 20000 in
theorem gX4_ignore_X1_sortAll_n78 : GoodIn wsX4_ignore (wsX1_sortAll) := ggX4_ignore_X1_sortAll
theorem dX4_ignore_0 : decode cX4_ignore 0 = .ok (.iload_n 1, 1) := by decide +kernel
theorem dX4_ignore_1 : decode cX4_ignore 1 = .ok (.bipush 30, 2) := by decide +kernel
theorem dX4_ignore_3 : decode cX4_ignore 3 = .ok (.invokestatic 45, 3) := by decide +kernel
theorem dX4_ignore_6 : decode cX4_ignore 6 = .ok (.invokestatic 49, 3) := by decide +kernel
theorem dX4_ignore_9 : decode cX4_ignore 9 = .ok (.aload_n 0, 1) := by decide +kernel
theorem dX4_ignore_10 : decode cX4_ignore 10 = .ok (.getfield 19, 3) := by decide +kernel
theorem dX4_ignore_13 : decode cX4_ignore 13 = .ok (.getfield 85, 3) := by decide +kernel
theorem dX4_ignore_16 : decode cX4_ignore 16 = .ok (.iload_n 1, 1) := by decide +kernel
theorem dX4_ignore_17 : decode cX4_ignore 17 = .ok (.baload, 1) := by decide +kernel
theorem dX4_ignore_18 : decode cX4_ignore 18 = .ok (.istore_n 3, 1) := by decide +kernel
theorem dX4_ignore_19 : decode cX4_ignore 19 = .ok (.aload_n 0, 1) := by decide +kernel
theorem dX4_ignore_20 : decode cX4_ignore 20 = .ok (.getfield 19, 3) := by decide +kernel
theorem dX4_ignore_23 : decode cX4_ignore 23 = .ok (.getfield 85, 3) := by decide +kernel
theorem dX4_ignore_26 : decode cX4_ignore 26 = .ok (.iload_n 1, 1) := by decide +kernel
theorem dX4_ignore_27 : decode cX4_ignore 27 = .ok (.iload_n 2, 1) := by decide +kernel
theorem dX4_ignore_28 : decode cX4_ignore 28 = .ok (.bastore, 1) := by decide +kernel
theorem dX4_ignore_29 : decode cX4_ignore 29 = .ok (.aload_n 0, 1) := by decide +kernel
theorem dX4_ignore_30 : decode cX4_ignore 30 = .ok (.getfield 33, 3) := by decide +kernel
theorem dX4_ignore_33 : decode cX4_ignore 33 = .ok (.aload_n 0, 1) := by decide +kernel
theorem dX4_ignore_34 : decode cX4_ignore 34 = .ok (.getfield 26, 3) := by decide +kernel
theorem dX4_ignore_37 : decode cX4_ignore 37 = .ok (.aload_n 0, 1) := by decide +kernel
theorem dX4_ignore_38 : decode cX4_ignore 38 = .ok (.getfield 19, 3) := by decide +kernel
theorem dX4_ignore_41 : decode cX4_ignore 41 = .ok (.invokevirtual 78, 3) := by decide +kernel
theorem dX4_ignore_44 : decode cX4_ignore 44 = .ok (.iload_n 3, 1) := by decide +kernel
theorem dX4_ignore_45 : decode cX4_ignore 45 = .ok (.ireturn, 1) := by decide +kernel
set_option maxRecDepth 20000 in
theorem ggX4_standFor_X4_isBelow : GoodIn wsX4_standFor wsX4_isBelow := goodIn_r _ [9] (by decide +kernel) (by decide +kernel)
set_option maxRecDepth 20000 in
theorem gX4_standFor_X4_isBelow : GoodIn wsX4_standFor (va_wsS RX4 45 yX4_isBelow wsX4_isBelow) := goodIn_app (goodIn_of _ (by decide +kernel)) ggX4_standFor_X4_isBelow
set_option maxRecDepth 20000 in
theorem ggX4_standFor_X4_checkArgument : GoodIn wsX4_standFor wsX4_checkArgument := goodIn_ca (goodIn_r _ [12, 13, 14] (by decide +kernel) (by decide +kernel)) (goodIn_sub (fun _ h => List.mem_cons_of_mem _ (List.mem_append_right _ h)) (by decide +kernel))
set_option maxRecDepth 20000 in
theorem gX4_standFor_X4_checkArgument : GoodIn wsX4_standFor (va_wsS RX4 49 yX4_checkArgument wsX4_checkArgument) := goodIn_app (goodIn_of _ (by decide +kernel)) ggX4_standFor_X4_checkArgument
set_option maxRecDepth 20000 in
theorem ggX4_standFor_X3_leadsTo : GoodIn wsX4_standFor wsX3_leadsTo := goodIn_r _ [18, 19, 49, 50, 51] (by decide +kernel) (by decide +kernel)
set_option maxRecDepth 20000 in
theorem gX4_standFor_X3_leadsTo_n89 : GoodIn wsX4_standFor (wsX3_leadsTo) := ggX4_standFor_X3_leadsTo
set_option maxRecDepth 20000 in
theorem ggX4_standFor_X1_sortAll : GoodIn wsX4_standFor wsX1_sortAll := goodIn_r _ [23, 24, 25, 26, 21, 27, 28, 29, 30, 31, 32, 33, 34, 35, 36, 16, 37, 38, 19, 39, 40, 41, 42, 52, 53, 54, 55, 56, 57, 58, 59, 60, 49, 50, 51] (by decide +kernel) (by decide +kernel)
set_option maxRecDepth 20000 in
theorem gX4_standFor_X1_sortAll_n78 : GoodIn wsX4_standFor (wsX1_sortAll) := ggX4_standFor_X1_sortAll
theorem dX4_standFor_0 : decode cX4_standFor 0 = .ok (.iload_n 1, 1) := by decide +kernel
theorem dX4_standFor_1 : decode cX4_standFor 1 = .ok (.bipush 30, 2) := by decide +kernel
theorem dX4_standFor_3 : decode cX4_standFor 3 = .ok (.invokestatic 45, 3) := by decide +kernel
theorem dX4_standFor_6 : decode cX4_standFor 6 = .ok (.ifCond .eq 16, 3) := by decide +kernel
theorem dX4_standFor_9 : decode cX4_standFor 9 = .ok (.iload_n 2, 1) := by decide +kernel
theorem dX4_standFor_10 : decode cX4_standFor 10 = .ok (.bipush 30, 2) := by decide +kernel
theorem dX4_standFor_12 : decode cX4_standFor 12 = .ok (.invokestatic 45, 3) := by decide +kernel
theorem dX4_standFor_15 : decode cX4_standFor 15 = .ok (.ifCond .eq 7, 3) := by decide +kernel
theorem dX4_standFor_18 : decode cX4_standFor 18 = .ok (.iconst 1, 1) := by decide +kernel
theorem dX4_standFor_19 : decode cX4_standFor 19 = .ok (.goto 4, 3) := by decide +kernel
theorem dX4_standFor_22 : decode cX4_standFor 22 = .ok (.iconst 0, 1) := by decide +kernel
theorem dX4_standFor_23 : decode cX4_standFor 23 = .ok (.invokestatic 49, 3) := by decide +kernel
theorem dX4_standFor_26 : decode cX4_standFor 26 = .ok (.iload_n 1, 1) := by decide +kernel
theorem dX4_standFor_27 : decode cX4_standFor 27 = .ok (.iload_n 2, 1) := by decide +kernel
theorem dX4_standFor_28 : decode cX4_standFor 28 = .ok (.if_icmp .eq 25, 3) := by decide +kernel
theorem dX4_standFor_31 : decode cX4_standFor 31 = .ok (.aload_n 0, 1) := by decide +kernel
theorem dX4_standFor_32 : decode cX4_standFor 32 = .ok (.getfield 19, 3) := by decide +kernel
theorem dX4_standFor_35 : decode cX4_standFor 35 = .ok (.iload_n 2, 1) := by decide +kernel
theorem dX4_standFor_36 : decode cX4_standFor 36 = .ok (.iload_n 1, 1) := by decide +kernel
theorem dX4_standFor_37 : decode cX4_standFor 37 = .ok (.invokevirtual 89, 3) := by decide +kernel
theorem dX4_standFor_40 : decode cX4_standFor 40 = .ok (.ifCond .eq 13, 3) := by decide +kernel
theorem dX4_standFor_43 : decode cX4_standFor 43 = .ok (.new 57, 3) := by decide +kernel
theorem dX4_standFor_46 : decode cX4_standFor 46 = .ok (.dup, 1) := by decide +kernel
theorem dX4_standFor_47 : decode cX4_standFor 47 = .ok (.ldc 92, 2) := by decide +kernel
theorem dX4_standFor_49 : decode cX4_standFor 49 = .ok (.invokespecial 61, 3) := by decide +kernel
theorem dX4_standFor_52 : decode cX4_standFor 52 = .ok (.athrow, 1) := by decide +kernel
theorem dX4_standFor_53 : decode cX4_standFor 53 = .ok (.aload_n 0, 1) := by decide +kernel
theorem dX4_standFor_54 : decode cX4_standFor 54 = .ok (.getfield 19, 3) := by decide +kernel
theorem dX4_standFor_57 : decode cX4_standFor 57 = .ok (.getfield 94, 3) := by decide +kernel
theorem dX4_standFor_60 : decode cX4_standFor 60 = .ok (.iload_n 1, 1) := by decide +kernel
theorem dX4_standFor_61 : decode cX4_standFor 61 = .ok (.iaload, 1) := by decide +kernel
theorem dX4_standFor_62 : decode cX4_standFor 62 = .ok (.istore_n 3, 1) := by decide +kernel
theorem dX4_standFor_63 : decode cX4_standFor 63 = .ok (.aload_n 0, 1) := by decide +kernel
theorem dX4_standFor_64 : decode cX4_standFor 64 = .ok (.getfield 19, 3) := by decide +kernel
theorem dX4_standFor_67 : decode cX4_standFor 67 = .ok (.getfield 94, 3) := by decide +kernel
theorem dX4_standFor_70 : decode cX4_standFor 70 = .ok (.iload_n 1, 1) := by decide +kernel
theorem dX4_standFor_71 : decode cX4_standFor 71 = .ok (.iload_n 2, 1) := by decide +kernel
theorem dX4_standFor_72 : decode cX4_standFor 72 = .ok (.iastore, 1) := by decide +kernel
theorem dX4_standFor_73 : decode cX4_standFor 73 = .ok (.aload_n 0, 1) := by decide +kernel
theorem dX4_standFor_74 : decode cX4_standFor 74 = .ok (.getfield 33, 3) := by decide +kernel
theorem dX4_standFor_77 : decode cX4_standFor 77 = .ok (.aload_n 0, 1) := by decide +kernel
theorem dX4_standFor_78 : decode cX4_standFor 78 = .ok (.getfield 26, 3) := by decide +kernel
theorem dX4_standFor_81 : decode cX4_standFor 81 = .ok (.aload_n 0, 1) := by decide +kernel
theorem dX4_standFor_82 : decode cX4_standFor 82 = .ok (.getfield 19, 3) := by decide +kernel
theorem dX4_standFor_85 : decode cX4_standFor 85 = .ok (.invokevirtual 78, 3) := by decide +kernel
theorem dX4_standFor_88 : decode cX4_standFor 88 = .ok (.iload_n 3, 1) := by decide +kernel
theorem dX4_standFor_89 : decode cX4_standFor 89 = .ok (.ireturn, 1) := by decide +kernel
set_option maxRecDepth 20000 in
theorem ggX4_setDepth_X4_checkArgument : GoodIn wsX4_setDepth wsX4_checkArgument := goodIn_ca (goodIn_r _ [7, 8, 9] (by decide +kernel) (by decide +kernel)) (goodIn_sub (fun _ h => List.mem_cons_of_mem _ (List.mem_append_right _ h)) (by decide +kernel))
set_option maxRecDepth 20000 in
theorem gX4_setDepth_X4_checkArgument : GoodIn wsX4_setDepth (va_wsS RX4 49 yX4_checkArgument wsX4_checkArgument) := goodIn_app (goodIn_of _ (by decide +kernel)) ggX4_setDepth_X4_checkArgument
set_option maxRecDepth 20000 in
theorem ggX4_setDepth_X1_sortAll : GoodIn wsX4_setDepth wsX1_sortAll := goodIn_r _ [13, 14, 15, 16, 11, 17, 18, 19, 20, 21, 22, 23, 24, 25, 26, 27, 28, 29, 30, 31, 32, 33, 34, 44, 45, 46, 47, 48, 49, 50, 51, 52, 41, 42, 43] (by decide +kernel) (by decide +kernel)
set_option maxRecDepth 20000 in
theorem gX4_setDepth_X1_sortAll_n78 : GoodIn wsX4_setDepth (wsX1_sortAll) := ggX4_setDepth_X1_sortAll
theorem dX4_setDepth_0 : decode cX4_setDepth 0 = .ok (.iload_n 1, 1) := by decide +kernel
theorem dX4_setDepth_1 : decode cX4_setDepth 1 = .ok (.iconst 1, 1) := by decide +kernel
theorem dX4_setDepth_2 : decode cX4_setDepth 2 = .ok (.if_icmp .lt 12, 3) := by decide +kernel
theorem dX4_setDepth_5 : decode cX4_setDepth 5 = .ok (.iload_n 1, 1) := by decide +kernel
theorem dX4_setDepth_6 : decode cX4_setDepth 6 = .ok (.iconst 4, 1) := by decide +kernel
theorem dX4_setDepth_7 : decode cX4_setDepth 7 = .ok (.if_icmp .gt 7, 3) := by decide +kernel
theorem dX4_setDepth_10 : decode cX4_setDepth 10 = .ok (.iconst 1, 1) := by decide +kernel
theorem dX4_setDepth_11 : decode cX4_setDepth 11 = .ok (.goto 4, 3) := by decide +kernel
theorem dX4_setDepth_14 : decode cX4_setDepth 14 = .ok (.iconst 0, 1) := by decide +kernel
theorem dX4_setDepth_15 : decode cX4_setDepth 15 = .ok (.invokestatic 49, 3) := by decide +kernel
theorem dX4_setDepth_18 : decode cX4_setDepth 18 = .ok (.aload_n 0, 1) := by decide +kernel
theorem dX4_setDepth_19 : decode cX4_setDepth 19 = .ok (.getfield 19, 3) := by decide +kernel
theorem dX4_setDepth_22 : decode cX4_setDepth 22 = .ok (.getfield 97, 3) := by decide +kernel
theorem dX4_setDepth_25 : decode cX4_setDepth 25 = .ok (.istore_n 2, 1) := by decide +kernel
theorem dX4_setDepth_26 : decode cX4_setDepth 26 = .ok (.aload_n 0, 1) := by decide +kernel
theorem dX4_setDepth_27 : decode cX4_setDepth 27 = .ok (.getfield 19, 3) := by decide +kernel
theorem dX4_setDepth_30 : decode cX4_setDepth 30 = .ok (.iload_n 1, 1) := by decide +kernel
theorem dX4_setDepth_31 : decode cX4_setDepth 31 = .ok (.putfield 97, 3) := by decide +kernel
theorem dX4_setDepth_34 : decode cX4_setDepth 34 = .ok (.aload_n 0, 1) := by decide +kernel
theorem dX4_setDepth_35 : decode cX4_setDepth 35 = .ok (.getfield 33, 3) := by decide +kernel
theorem dX4_setDepth_38 : decode cX4_setDepth 38 = .ok (.aload_n 0, 1) := by decide +kernel
theorem dX4_setDepth_39 : decode cX4_setDepth 39 = .ok (.getfield 26, 3) := by decide +kernel
theorem dX4_setDepth_42 : decode cX4_setDepth 42 = .ok (.aload_n 0, 1) := by decide +kernel
theorem dX4_setDepth_43 : decode cX4_setDepth 43 = .ok (.getfield 19, 3) := by decide +kernel
theorem dX4_setDepth_46 : decode cX4_setDepth 46 = .ok (.invokevirtual 78, 3) := by decide +kernel
theorem dX4_setDepth_49 : decode cX4_setDepth 49 = .ok (.iload_n 2, 1) := by decide +kernel
theorem dX4_setDepth_50 : decode cX4_setDepth 50 = .ok (.ireturn, 1) := by decide +kernel
set_option maxRecDepth 20000 in
theorem ggX4_report_X4_isBelow : GoodIn wsX4_report wsX4_isBelow := goodIn_r _ [10] (by decide +kernel) (by decide +kernel)
set_option maxRecDepth 20000 in
theorem gX4_report_X4_isBelow : GoodIn wsX4_report (va_wsS RX4 45 yX4_isBelow wsX4_isBelow) := goodIn_app (goodIn_of _ (by decide +kernel)) ggX4_report_X4_isBelow
set_option maxRecDepth 20000 in
theorem ggX4_report_X4_checkArgument : GoodIn wsX4_report wsX4_checkArgument := goodIn_ca (goodIn_r _ [13, 14, 15] (by decide +kernel) (by decide +kernel)) (goodIn_sub (fun _ h => List.mem_cons_of_mem _ (List.mem_append_right _ h)) (by decide +kernel))
set_option maxRecDepth 20000 in
theorem gX4_report_X4_checkArgument : GoodIn wsX4_report (va_wsS RX4 49 yX4_checkArgument wsX4_checkArgument) := goodIn_app (goodIn_of _ (by decide +kernel)) ggX4_report_X4_checkArgument
set_option maxRecDepth 20000 in
theorem ggX4_report_X4_mayFollow : GoodIn wsX4_report wsX4_mayFollow := goodIn_r _ [18, 7, 8, 9, 10] (by decide +kernel) (by decide +kernel)
set_option maxRecDepth 20000 in
theorem gX4_report_X4_mayFollow : GoodIn wsX4_report (va_wsS RX4 100 yX4_mayFollow wsX4_mayFollow) := goodIn_app (goodIn_of _ (by decide +kernel)) ggX4_report_X4_mayFollow
set_option maxRecDepth 20000 in
theorem ggX4_report_X2_add : GoodIn wsX4_report wsX2_add := goodIn_r _ [22, 23, 24, 25, 26, 69, 70, 71, 72, 73] (by decide +kernel) (by decide +kernel)
set_option maxRecDepth 20000 in
theorem gX4_report_X2_add_n108 : GoodIn wsX4_report (wsX2_add) := ggX4_report_X2_add
set_option maxRecDepth 20000 in
theorem ggX4_report_X2_setStack : GoodIn wsX4_report wsX2_setStack := goodIn_r _ [29, 30, 69, 70, 71, 72, 73] (by decide +kernel) (by decide +kernel)
set_option maxRecDepth 20000 in
theorem gX4_report_X2_setStack_n111 : GoodIn wsX4_report (wsX2_setStack) := ggX4_report_X2_setStack
set_option maxRecDepth 20000 in
theorem ggX4_report_X1_readStack : GoodIn wsX4_report wsX1_readStack := goodIn_r _ [34, 35, 36, 37, 38, 39, 40, 41, 42, 43, 74, 75, 76, 77, 69, 70, 71, 72, 73, 78, 79, 80, 81] (by decide +kernel) (by decide +kernel)
set_option maxRecDepth 20000 in
theorem gX4_report_X1_readStack_n115 : GoodIn wsX4_report (wsX1_readStack) := ggX4_report_X1_readStack
set_option maxRecDepth 20000 in
theorem ggX4_report_X1_sort : GoodIn wsX4_report wsX1_sort := goodIn_r _ [46, 47, 48, 49, 50, 51, 32, 52, 35, 53, 54, 55, 56, 57, 58, 59, 60, 61, 62, 74, 75, 76, 77, 82, 83, 84, 69, 70, 71, 72, 73] (by decide +kernel) (by decide +kernel)
set_option maxRecDepth 20000 in
theorem gX4_report_X1_sort_n118 : GoodIn wsX4_report (wsX1_sort) := ggX4_report_X1_sort
theorem dX4_report_0 : decode cX4_report 0 = .ok (.iload_n 1, 1) := by decide +kernel
theorem dX4_report_1 : decode cX4_report 1 = .ok (.iconst 4, 1) := by decide +kernel
theorem dX4_report_2 : decode cX4_report 2 = .ok (.invokestatic 45, 3) := by decide +kernel
theorem dX4_report_5 : decode cX4_report 5 = .ok (.ifCond .eq 16, 3) := by decide +kernel
theorem dX4_report_8 : decode cX4_report 8 = .ok (.iload_n 2, 1) := by decide +kernel
theorem dX4_report_9 : decode cX4_report 9 = .ok (.bipush 20, 2) := by decide +kernel
theorem dX4_report_11 : decode cX4_report 11 = .ok (.invokestatic 45, 3) := by decide +kernel
theorem dX4_report_14 : decode cX4_report 14 = .ok (.ifCond .eq 7, 3) := by decide +kernel
theorem dX4_report_17 : decode cX4_report 17 = .ok (.iconst 1, 1) := by decide +kernel
theorem dX4_report_18 : decode cX4_report 18 = .ok (.goto 4, 3) := by decide +kernel
theorem dX4_report_21 : decode cX4_report 21 = .ok (.iconst 0, 1) := by decide +kernel
theorem dX4_report_22 : decode cX4_report 22 = .ok (.invokestatic 49, 3) := by decide +kernel
theorem dX4_report_25 : decode cX4_report 25 = .ok (.iload_n 3, 1) := by decide +kernel
theorem dX4_report_26 : decode cX4_report 26 = .ok (.sipush 10000, 3) := by decide +kernel
theorem dX4_report_29 : decode cX4_report 29 = .ok (.invokestatic 45, 3) := by decide +kernel
theorem dX4_report_32 : decode cX4_report 32 = .ok (.ifCond .eq 36, 3) := by decide +kernel
theorem dX4_report_35 : decode cX4_report 35 = .ok (.iload_n 3, 1) := by decide +kernel
theorem dX4_report_36 : decode cX4_report 36 = .ok (.iload 4, 2) := by decide +kernel
theorem dX4_report_38 : decode cX4_report 38 = .ok (.invokestatic 100, 3) := by decide +kernel
theorem dX4_report_41 : decode cX4_report 41 = .ok (.ifCond .eq 27, 3) := by decide +kernel
theorem dX4_report_44 : decode cX4_report 44 = .ok (.iload 4, 2) := by decide +kernel
theorem dX4_report_46 : decode cX4_report 46 = .ok (.iload 5, 2) := by decide +kernel
theorem dX4_report_48 : decode cX4_report 48 = .ok (.invokestatic 100, 3) := by decide +kernel
theorem dX4_report_51 : decode cX4_report 51 = .ok (.ifCond .eq 17, 3) := by decide +kernel
theorem dX4_report_54 : decode cX4_report 54 = .ok (.iload 5, 2) := by decide +kernel
theorem dX4_report_56 : decode cX4_report 56 = .ok (.iload 6, 2) := by decide +kernel
theorem dX4_report_58 : decode cX4_report 58 = .ok (.invokestatic 100, 3) := by decide +kernel
theorem dX4_report_61 : decode cX4_report 61 = .ok (.ifCond .eq 7, 3) := by decide +kernel
theorem dX4_report_64 : decode cX4_report 64 = .ok (.iconst 1, 1) := by decide +kernel
theorem dX4_report_65 : decode cX4_report 65 = .ok (.goto 4, 3) := by decide +kernel
theorem dX4_report_68 : decode cX4_report 68 = .ok (.iconst 0, 1) := by decide +kernel
theorem dX4_report_69 : decode cX4_report 69 = .ok (.invokestatic 49, 3) := by decide +kernel
theorem dX4_report_72 : decode cX4_report 72 = .ok (.aload_n 0, 1) := by decide +kernel
theorem dX4_report_73 : decode cX4_report 73 = .ok (.getfield 26, 3) := by decide +kernel
theorem dX4_report_76 : decode cX4_report 76 = .ok (.getfield 103, 3) := by decide +kernel
theorem dX4_report_79 : decode cX4_report 79 = .ok (.bipush 60, 2) := by decide +kernel
theorem dX4_report_81 : decode cX4_report 81 = .ok (.if_icmp .lt 13, 3) := by decide +kernel
theorem dX4_report_84 : decode cX4_report 84 = .ok (.new 57, 3) := by decide +kernel
theorem dX4_report_87 : decode cX4_report 87 = .ok (.dup, 1) := by decide +kernel
theorem dX4_report_88 : decode cX4_report 88 = .ok (.ldc 106, 2) := by decide +kernel
theorem dX4_report_90 : decode cX4_report 90 = .ok (.invokespecial 61, 3) := by decide +kernel
theorem dX4_report_93 : decode cX4_report 93 = .ok (.athrow, 1) := by decide +kernel
theorem dX4_report_94 : decode cX4_report 94 = .ok (.aload_n 0, 1) := by decide +kernel
theorem dX4_report_95 : decode cX4_report 95 = .ok (.getfield 26, 3) := by decide +kernel
theorem dX4_report_98 : decode cX4_report 98 = .ok (.iload_n 1, 1) := by decide +kernel
theorem dX4_report_99 : decode cX4_report 99 = .ok (.iload_n 2, 1) := by decide +kernel
theorem dX4_report_100 : decode cX4_report 100 = .ok (.invokevirtual 108, 3) := by decide +kernel
theorem dX4_report_103 : decode cX4_report 103 = .ok (.istore 7, 2) := by decide +kernel
theorem dX4_report_105 : decode cX4_report 105 = .ok (.aload_n 0, 1) := by decide +kernel
theorem dX4_report_106 : decode cX4_report 106 = .ok (.getfield 26, 3) := by decide +kernel
theorem dX4_report_109 : decode cX4_report 109 = .ok (.iload 7, 2) := by decide +kernel
theorem dX4_report_111 : decode cX4_report 111 = .ok (.iload_n 3, 1) := by decide +kernel
theorem dX4_report_112 : decode cX4_report 112 = .ok (.iload 4, 2) := by decide +kernel
theorem dX4_report_114 : decode cX4_report 114 = .ok (.iload 5, 2) := by decide +kernel
theorem dX4_report_116 : decode cX4_report 116 = .ok (.iload 6, 2) := by decide +kernel
theorem dX4_report_118 : decode cX4_report 118 = .ok (.invokevirtual 111, 3) := by decide +kernel
theorem dX4_report_121 : decode cX4_report 121 = .ok (.aload_n 0, 1) := by decide +kernel
theorem dX4_report_122 : decode cX4_report 122 = .ok (.getfield 33, 3) := by decide +kernel
theorem dX4_report_125 : decode cX4_report 125 = .ok (.iload 7, 2) := by decide +kernel
theorem dX4_report_127 : decode cX4_report 127 = .ok (.aload_n 0, 1) := by decide +kernel
theorem dX4_report_128 : decode cX4_report 128 = .ok (.getfield 26, 3) := by decide +kernel
theorem dX4_report_131 : decode cX4_report 131 = .ok (.aload_n 0, 1) := by decide +kernel
theorem dX4_report_132 : decode cX4_report 132 = .ok (.getfield 10, 3) := by decide +kernel
theorem dX4_report_135 : decode cX4_report 135 = .ok (.invokevirtual 115, 3) := by decide +kernel
theorem dX4_report_138 : decode cX4_report 138 = .ok (.aload_n 0, 1) := by decide +kernel
theorem dX4_report_139 : decode cX4_report 139 = .ok (.getfield 33, 3) := by decide +kernel
theorem dX4_report_142 : decode cX4_report 142 = .ok (.iload 7, 2) := by decide +kernel
theorem dX4_report_144 : decode cX4_report 144 = .ok (.aload_n 0, 1) := by decide +kernel
theorem dX4_report_145 : decode cX4_report 145 = .ok (.getfield 26, 3) := by decide +kernel
theorem dX4_report_148 : decode cX4_report 148 = .ok (.aload_n 0, 1) := by decide +kernel
theorem dX4_report_149 : decode cX4_report 149 = .ok (.getfield 19, 3) := by decide +kernel
theorem dX4_report_152 : decode cX4_report 152 = .ok (.invokevirtual 118, 3) := by decide +kernel
theorem dX4_report_155 : decode cX4_report 155 = .ok (.iload 7, 2) := by decide +kernel
theorem dX4_report_157 : decode cX4_report 157 = .ok (.ireturn, 1) := by decide +kernel
theorem dX4_reports_0 : decode cX4_reports 0 = .ok (.aload_n 0, 1) := by decide +kernel
theorem dX4_reports_1 : decode cX4_reports 1 = .ok (.getfield 26, 3) := by decide +kernel
theorem dX4_reports_4 : decode cX4_reports 4 = .ok (.getfield 103, 3) := by decide +kernel
theorem dX4_reports_7 : decode cX4_reports 7 = .ok (.ireturn, 1) := by decide +kernel
set_option maxRecDepth 20000 in
theorem ggX4_frame_X4_checkReport : GoodIn wsX4_frame wsX4_checkReport := goodIn_ca (goodIn_r _ [6, 7, 8, 9, 10, 11, 5, 12, 18, 19, 20, 21, 22, 23, 28, 29, 30, 31, 32] (by decide +kernel) (by decide +kernel)) (goodIn_sub (fun _ h => List.mem_cons_of_mem _ (List.mem_append_left _ (List.mem_append_right _ h))) (by decide +kernel))
set_option maxRecDepth 20000 in
theorem gX4_frame_X4_checkReport : GoodIn wsX4_frame (wsV RX4 122 RX4 yX4_checkReport wsX4_checkReport) := goodIn_app (goodIn_of _ (by decide +kernel)) ggX4_frame_X4_checkReport
set_option maxRecDepth 20000 in
theorem ggX4_frame_X4_isBelow : GoodIn wsX4_frame wsX4_isBelow := goodIn_r _ [12] (by decide +kernel) (by decide +kernel)
set_option maxRecDepth 20000 in
theorem gX4_frame_X4_isBelow : GoodIn wsX4_frame (va_wsS RX4 45 yX4_isBelow wsX4_isBelow) := goodIn_app (goodIn_of _ (by decide +kernel)) ggX4_frame_X4_isBelow
set_option maxRecDepth 20000 in
theorem ggX4_frame_X4_checkArgument : GoodIn wsX4_frame wsX4_checkArgument := goodIn_ca (goodIn_r _ [15, 16, 17] (by decide +kernel) (by decide +kernel)) (goodIn_sub (fun _ h => List.mem_cons_of_mem _ (List.mem_append_right _ h)) (by decide +kernel))
set_option maxRecDepth 20000 in
theorem gX4_frame_X4_checkArgument : GoodIn wsX4_frame (va_wsS RX4 49 yX4_checkArgument wsX4_checkArgument) := goodIn_app (goodIn_of _ (by decide +kernel)) ggX4_frame_X4_checkArgument
theorem dX4_frame_0 : decode cX4_frame 0 = .ok (.aload_n 0, 1) := by decide +kernel
theorem dX4_frame_1 : decode cX4_frame 1 = .ok (.iload_n 1, 1) := by decide +kernel
theorem dX4_frame_2 : decode cX4_frame 2 = .ok (.invokevirtual 122, 3) := by decide +kernel
theorem dX4_frame_5 : decode cX4_frame 5 = .ok (.iload_n 2, 1) := by decide +kernel
theorem dX4_frame_6 : decode cX4_frame 6 = .ok (.iconst 4, 1) := by decide +kernel
theorem dX4_frame_7 : decode cX4_frame 7 = .ok (.invokestatic 45, 3) := by decide +kernel
theorem dX4_frame_10 : decode cX4_frame 10 = .ok (.invokestatic 49, 3) := by decide +kernel
theorem dX4_frame_13 : decode cX4_frame 13 = .ok (.aload_n 0, 1) := by decide +kernel
theorem dX4_frame_14 : decode cX4_frame 14 = .ok (.getfield 33, 3) := by decide +kernel
theorem dX4_frame_17 : decode cX4_frame 17 = .ok (.getfield 126, 3) := by decide +kernel
theorem dX4_frame_20 : decode cX4_frame 20 = .ok (.iload_n 1, 1) := by decide +kernel
theorem dX4_frame_21 : decode cX4_frame 21 = .ok (.aaload, 1) := by decide +kernel
theorem dX4_frame_22 : decode cX4_frame 22 = .ok (.iload_n 2, 1) := by decide +kernel
theorem dX4_frame_23 : decode cX4_frame 23 = .ok (.iaload, 1) := by decide +kernel
theorem dX4_frame_24 : decode cX4_frame 24 = .ok (.ireturn, 1) := by decide +kernel
set_option maxRecDepth 20000 in
theorem ggX4_matters_X4_checkReport : GoodIn wsX4_matters wsX4_checkReport := goodIn_ca (goodIn_r _ [6, 7, 8, 9, 10, 11, 5, 12, 18, 19, 20, 21, 22, 23, 28, 29, 30, 31, 32] (by decide +kernel) (by decide +kernel)) (goodIn_sub (fun _ h => List.mem_cons_of_mem _ (List.mem_append_left _ (List.mem_append_right _ h))) (by decide +kernel))
set_option maxRecDepth 20000 in
theorem gX4_matters_X4_checkReport : GoodIn wsX4_matters (wsV RX4 122 RX4 yX4_checkReport wsX4_checkReport) := goodIn_app (goodIn_of _ (by decide +kernel)) ggX4_matters_X4_checkReport
set_option maxRecDepth 20000 in
theorem ggX4_matters_X4_isBelow : GoodIn wsX4_matters wsX4_isBelow := goodIn_r _ [12] (by decide +kernel) (by decide +kernel)
set_option maxRecDepth 20000 in
theorem gX4_matters_X4_isBelow : GoodIn wsX4_matters (va_wsS RX4 45 yX4_isBelow wsX4_isBelow) := goodIn_app (goodIn_of _ (by decide +kernel)) ggX4_matters_X4_isBelow
set_option maxRecDepth 20000 in
theorem ggX4_matters_X4_checkArgument : GoodIn wsX4_matters wsX4_checkArgument := goodIn_ca (goodIn_r _ [15, 16, 17] (by decide +kernel) (by decide +kernel)) (goodIn_sub (fun _ h => List.mem_cons_of_mem _ (List.mem_append_right _ h)) (by decide +kernel))
set_option maxRecDepth 20000 in
theorem gX4_matters_X4_checkArgument : GoodIn wsX4_matters (va_wsS RX4 49 yX4_checkArgument wsX4_checkArgument) := goodIn_app (goodIn_of _ (by decide +kernel)) ggX4_matters_X4_checkArgument
theorem dX4_matters_0 : decode cX4_matters 0 = .ok (.aload_n 0, 1) := by decide +kernel
theorem dX4_matters_1 : decode cX4_matters 1 = .ok (.iload_n 1, 1) := by decide +kernel
theorem dX4_matters_2 : decode cX4_matters 2 = .ok (.invokevirtual 122, 3) := by decide +kernel
theorem dX4_matters_5 : decode cX4_matters 5 = .ok (.iload_n 2, 1) := by decide +kernel
theorem dX4_matters_6 : decode cX4_matters 6 = .ok (.iconst 4, 1) := by decide +kernel
theorem dX4_matters_7 : decode cX4_matters 7 = .ok (.invokestatic 45, 3) := by decide +kernel
theorem dX4_matters_10 : decode cX4_matters 10 = .ok (.invokestatic 49, 3) := by decide +kernel
theorem dX4_matters_13 : decode cX4_matters 13 = .ok (.aload_n 0, 1) := by decide +kernel
theorem dX4_matters_14 : decode cX4_matters 14 = .ok (.getfield 33, 3) := by decide +kernel
theorem dX4_matters_17 : decode cX4_matters 17 = .ok (.getfield 130, 3) := by decide +kernel
theorem dX4_matters_20 : decode cX4_matters 20 = .ok (.iload_n 1, 1) := by decide +kernel
theorem dX4_matters_21 : decode cX4_matters 21 = .ok (.aaload, 1) := by decide +kernel
theorem dX4_matters_22 : decode cX4_matters 22 = .ok (.iload_n 2, 1) := by decide +kernel
theorem dX4_matters_23 : decode cX4_matters 23 = .ok (.iaload, 1) := by decide +kernel
theorem dX4_matters_24 : decode cX4_matters 24 = .ok (.ireturn, 1) := by decide +kernel
set_option maxRecDepth 20000 in
theorem ggX4_bucket_X4_checkReport : GoodIn wsX4_bucket wsX4_checkReport := goodIn_ca (goodIn_r _ [6, 7, 8, 9, 10, 11, 5, 12, 13, 14, 15, 16, 17, 18, 23, 24, 25, 26, 27] (by decide +kernel) (by decide +kernel)) (goodIn_sub (fun _ h => List.mem_cons_of_mem _ (List.mem_append_right _ h)) (by decide +kernel))
set_option maxRecDepth 20000 in
theorem gX4_bucket_X4_checkReport : GoodIn wsX4_bucket (wsV RX4 122 RX4 yX4_checkReport wsX4_checkReport) := goodIn_app (goodIn_of _ (by decide +kernel)) ggX4_bucket_X4_checkReport
theorem dX4_bucket_0 : decode cX4_bucket 0 = .ok (.aload_n 0, 1) := by decide +kernel
theorem dX4_bucket_1 : decode cX4_bucket 1 = .ok (.iload_n 1, 1) := by decide +kernel
theorem dX4_bucket_2 : decode cX4_bucket 2 = .ok (.invokevirtual 122, 3) := by decide +kernel
theorem dX4_bucket_5 : decode cX4_bucket 5 = .ok (.aload_n 0, 1) := by decide +kernel
theorem dX4_bucket_6 : decode cX4_bucket 6 = .ok (.getfield 33, 3) := by decide +kernel
theorem dX4_bucket_9 : decode cX4_bucket 9 = .ok (.getfield 133, 3) := by decide +kernel
theorem dX4_bucket_12 : decode cX4_bucket 12 = .ok (.iload_n 1, 1) := by decide +kernel
theorem dX4_bucket_13 : decode cX4_bucket 13 = .ok (.iaload, 1) := by decide +kernel
theorem dX4_bucket_14 : decode cX4_bucket 14 = .ok (.ireturn, 1) := by decide +kernel
set_option maxRecDepth 20000 in
theorem ggX4_buckets_X1_isName : GoodIn wsX4_buckets wsX1_isName := goodIn_r _ [6, 7, 19, 20, 21, 22] (by decide +kernel) (by decide +kernel)
set_option maxRecDepth 20000 in
theorem gX4_buckets_X1_isName_n136 : GoodIn wsX4_buckets (wsX1_isName) := ggX4_buckets_X1_isName
theorem dX4_buckets_0 : decode cX4_buckets 0 = .ok (.iconst 0, 1) := by decide +kernel
theorem dX4_buckets_1 : decode cX4_buckets 1 = .ok (.istore_n 1, 1) := by decide +kernel
theorem dX4_buckets_2 : decode cX4_buckets 2 = .ok (.iconst 0, 1) := by decide +kernel
theorem dX4_buckets_3 : decode cX4_buckets 3 = .ok (.istore_n 2, 1) := by decide +kernel
theorem dX4_buckets_4 : decode cX4_buckets 4 = .ok (.iload_n 2, 1) := by decide +kernel
theorem dX4_buckets_5 : decode cX4_buckets 5 = .ok (.aload_n 0, 1) := by decide +kernel
theorem dX4_buckets_6 : decode cX4_buckets 6 = .ok (.getfield 26, 3) := by decide +kernel
theorem dX4_buckets_9 : decode cX4_buckets 9 = .ok (.getfield 103, 3) := by decide +kernel
theorem dX4_buckets_12 : decode cX4_buckets 12 = .ok (.if_icmp .ge 23, 3) := by decide +kernel
theorem dX4_buckets_15 : decode cX4_buckets 15 = .ok (.aload_n 0, 1) := by decide +kernel
theorem dX4_buckets_16 : decode cX4_buckets 16 = .ok (.getfield 33, 3) := by decide +kernel
theorem dX4_buckets_19 : decode cX4_buckets 19 = .ok (.iload_n 2, 1) := by decide +kernel
theorem dX4_buckets_20 : decode cX4_buckets 20 = .ok (.invokevirtual 136, 3) := by decide +kernel
theorem dX4_buckets_23 : decode cX4_buckets 23 = .ok (.ifCond .eq 6, 3) := by decide +kernel
theorem dX4_buckets_26 : decode cX4_buckets 26 = .ok (.iinc 1 1, 3) := by decide +kernel
theorem dX4_buckets_29 : decode cX4_buckets 29 = .ok (.iinc 2 1, 3) := by decide +kernel
theorem dX4_buckets_32 : decode cX4_buckets 32 = .ok (.goto (-28), 3) := by decide +kernel
theorem dX4_buckets_35 : decode cX4_buckets 35 = .ok (.iload_n 1, 1) := by decide +kernel
theorem dX4_buckets_36 : decode cX4_buckets 36 = .ok (.ireturn, 1) := by decide +kernel
set_option maxRecDepth 20000 in
theorem ggX4_size_X4_checkReport : GoodIn wsX4_size wsX4_checkReport := goodIn_ca (goodIn_r _ [6, 7, 8, 9, 10, 11, 5, 12, 21, 22, 23, 24, 25, 26, 31, 32, 33, 34, 35] (by decide +kernel) (by decide +kernel)) (goodIn_sub (fun _ h => List.mem_cons_of_mem _ (List.mem_append_right _ h)) (by decide +kernel))
set_option maxRecDepth 20000 in
theorem gX4_size_X4_checkReport : GoodIn wsX4_size (wsV RX4 122 RX4 yX4_checkReport wsX4_checkReport) := goodIn_app (goodIn_of _ (by decide +kernel)) ggX4_size_X4_checkReport
set_option maxRecDepth 20000 in
theorem ggX4_size_X4_countIn : GoodIn wsX4_size wsX4_countIn := goodIn_r _ [16, 9, 17, 18, 19, 5, 20, 1, 21, 22, 23, 24, 25, 26, 31, 32, 33, 34, 35, 27, 28, 29, 30] (by decide +kernel) (by decide +kernel)
set_option maxRecDepth 20000 in
theorem gX4_size_X4_countIn : GoodIn wsX4_size (wsV RX4 139 RX4 yX4_countIn wsX4_countIn) := goodIn_app (goodIn_of _ (by decide +kernel)) ggX4_size_X4_countIn
theorem dX4_size_0 : decode cX4_size 0 = .ok (.aload_n 0, 1) := by decide +kernel
theorem dX4_size_1 : decode cX4_size 1 = .ok (.iload_n 1, 1) := by decide +kernel
theorem dX4_size_2 : decode cX4_size 2 = .ok (.invokevirtual 122, 3) := by decide +kernel
theorem dX4_size_5 : decode cX4_size 5 = .ok (.iconst 0, 1) := by decide +kernel
theorem dX4_size_6 : decode cX4_size 6 = .ok (.istore_n 2, 1) := by decide +kernel
theorem dX4_size_7 : decode cX4_size 7 = .ok (.iconst 0, 1) := by decide +kernel
theorem dX4_size_8 : decode cX4_size 8 = .ok (.istore_n 3, 1) := by decide +kernel
theorem dX4_size_9 : decode cX4_size 9 = .ok (.iload_n 3, 1) := by decide +kernel
theorem dX4_size_10 : decode cX4_size 10 = .ok (.iconst 4, 1) := by decide +kernel
theorem dX4_size_11 : decode cX4_size 11 = .ok (.if_icmp .ge 26, 3) := by decide +kernel
theorem dX4_size_14 : decode cX4_size 14 = .ok (.iload_n 2, 1) := by decide +kernel
theorem dX4_size_15 : decode cX4_size 15 = .ok (.aload_n 0, 1) := by decide +kernel
theorem dX4_size_16 : decode cX4_size 16 = .ok (.aload_n 0, 1) := by decide +kernel
theorem dX4_size_17 : decode cX4_size 17 = .ok (.getfield 33, 3) := by decide +kernel
theorem dX4_size_20 : decode cX4_size 20 = .ok (.getfield 133, 3) := by decide +kernel
theorem dX4_size_23 : decode cX4_size 23 = .ok (.iload_n 1, 1) := by decide +kernel
theorem dX4_size_24 : decode cX4_size 24 = .ok (.iaload, 1) := by decide +kernel
theorem dX4_size_25 : decode cX4_size 25 = .ok (.iload_n 3, 1) := by decide +kernel
theorem dX4_size_26 : decode cX4_size 26 = .ok (.invokevirtual 139, 3) := by decide +kernel
theorem dX4_size_29 : decode cX4_size 29 = .ok (.iadd, 1) := by decide +kernel
theorem dX4_size_30 : decode cX4_size 30 = .ok (.istore_n 2, 1) := by decide +kernel
theorem dX4_size_31 : decode cX4_size 31 = .ok (.iinc 3 1, 3) := by decide +kernel
theorem dX4_size_34 : decode cX4_size 34 = .ok (.goto (-25), 3) := by decide +kernel
theorem dX4_size_37 : decode cX4_size 37 = .ok (.iload_n 2, 1) := by decide +kernel
theorem dX4_size_38 : decode cX4_size 38 = .ok (.ireturn, 1) := by decide +kernel
set_option maxRecDepth 20000 in
theorem ggX4_setSessions_X4_isBelow : GoodIn wsX4_setSessions wsX4_isBelow := goodIn_r _ [6] (by decide +kernel) (by decide +kernel)
set_option maxRecDepth 20000 in
theorem gX4_setSessions_X4_isBelow : GoodIn wsX4_setSessions (va_wsS RX4 45 yX4_isBelow wsX4_isBelow) := goodIn_app (goodIn_of _ (by decide +kernel)) ggX4_setSessions_X4_isBelow
set_option maxRecDepth 20000 in
theorem ggX4_setSessions_X4_checkArgument : GoodIn wsX4_setSessions wsX4_checkArgument := goodIn_ca (goodIn_r _ [9, 10, 11] (by decide +kernel) (by decide +kernel)) (goodIn_sub (fun _ h => List.mem_cons_of_mem _ (List.mem_append_right _ h)) (by decide +kernel))
set_option maxRecDepth 20000 in
theorem gX4_setSessions_X4_checkArgument : GoodIn wsX4_setSessions (va_wsS RX4 49 yX4_checkArgument wsX4_checkArgument) := goodIn_app (goodIn_of _ (by decide +kernel)) ggX4_setSessions_X4_checkArgument
theorem dX4_setSessions_0 : decode cX4_setSessions 0 = .ok (.iload_n 1, 1) := by decide +kernel
theorem dX4_setSessions_1 : decode cX4_setSessions 1 = .ok (.iconst 4, 1) := by decide +kernel
theorem dX4_setSessions_2 : decode cX4_setSessions 2 = .ok (.invokestatic 45, 3) := by decide +kernel
theorem dX4_setSessions_5 : decode cX4_setSessions 5 = .ok (.ifCond .eq 17, 3) := by decide +kernel
theorem dX4_setSessions_8 : decode cX4_setSessions 8 = .ok (.iload_n 2, 1) := by decide +kernel
theorem dX4_setSessions_9 : decode cX4_setSessions 9 = .ok (.ifCond .lt 13, 3) := by decide +kernel
theorem dX4_setSessions_12 : decode cX4_setSessions 12 = .ok (.iload_n 2, 1) := by decide +kernel
theorem dX4_setSessions_13 : decode cX4_setSessions 13 = .ok (.ldc 142, 2) := by decide +kernel
theorem dX4_setSessions_15 : decode cX4_setSessions 15 = .ok (.if_icmp .gt 7, 3) := by decide +kernel
theorem dX4_setSessions_18 : decode cX4_setSessions 18 = .ok (.iconst 1, 1) := by decide +kernel
theorem dX4_setSessions_19 : decode cX4_setSessions 19 = .ok (.goto 4, 3) := by decide +kernel
theorem dX4_setSessions_22 : decode cX4_setSessions 22 = .ok (.iconst 0, 1) := by decide +kernel
theorem dX4_setSessions_23 : decode cX4_setSessions 23 = .ok (.invokestatic 49, 3) := by decide +kernel
theorem dX4_setSessions_26 : decode cX4_setSessions 26 = .ok (.aload_n 0, 1) := by decide +kernel
theorem dX4_setSessions_27 : decode cX4_setSessions 27 = .ok (.getfield 37, 3) := by decide +kernel
theorem dX4_setSessions_30 : decode cX4_setSessions 30 = .ok (.iload_n 1, 1) := by decide +kernel
theorem dX4_setSessions_31 : decode cX4_setSessions 31 = .ok (.iaload, 1) := by decide +kernel
theorem dX4_setSessions_32 : decode cX4_setSessions 32 = .ok (.istore_n 3, 1) := by decide +kernel
theorem dX4_setSessions_33 : decode cX4_setSessions 33 = .ok (.aload_n 0, 1) := by decide +kernel
theorem dX4_setSessions_34 : decode cX4_setSessions 34 = .ok (.getfield 37, 3) := by decide +kernel
theorem dX4_setSessions_37 : decode cX4_setSessions 37 = .ok (.iload_n 1, 1) := by decide +kernel
theorem dX4_setSessions_38 : decode cX4_setSessions 38 = .ok (.iload_n 2, 1) := by decide +kernel
theorem dX4_setSessions_39 : decode cX4_setSessions 39 = .ok (.iastore, 1) := by decide +kernel
theorem dX4_setSessions_40 : decode cX4_setSessions 40 = .ok (.iload_n 3, 1) := by decide +kernel
theorem dX4_setSessions_41 : decode cX4_setSessions 41 = .ok (.ireturn, 1) := by decide +kernel
set_option maxRecDepth 20000 in
theorem ggX4_setLimit_X4_checkArgument : GoodIn wsX4_setLimit wsX4_checkArgument := goodIn_ca (goodIn_r _ [5, 6, 7] (by decide +kernel) (by decide +kernel)) (goodIn_sub (fun _ h => List.mem_cons_of_mem _ (List.mem_append_right _ h)) (by decide +kernel))
set_option maxRecDepth 20000 in
theorem gX4_setLimit_X4_checkArgument : GoodIn wsX4_setLimit (va_wsS RX4 49 yX4_checkArgument wsX4_checkArgument) := goodIn_app (goodIn_of _ (by decide +kernel)) ggX4_setLimit_X4_checkArgument
theorem dX4_setLimit_0 : decode cX4_setLimit 0 = .ok (.iload_n 1, 1) := by decide +kernel
theorem dX4_setLimit_1 : decode cX4_setLimit 1 = .ok (.iconst 1, 1) := by decide +kernel
theorem dX4_setLimit_2 : decode cX4_setLimit 2 = .ok (.if_icmp .lt 14, 3) := by decide +kernel
theorem dX4_setLimit_5 : decode cX4_setLimit 5 = .ok (.iload_n 1, 1) := by decide +kernel
theorem dX4_setLimit_6 : decode cX4_setLimit 6 = .ok (.sipush 10000, 3) := by decide +kernel
theorem dX4_setLimit_9 : decode cX4_setLimit 9 = .ok (.if_icmp .gt 7, 3) := by decide +kernel
theorem dX4_setLimit_12 : decode cX4_setLimit 12 = .ok (.iconst 1, 1) := by decide +kernel
theorem dX4_setLimit_13 : decode cX4_setLimit 13 = .ok (.goto 4, 3) := by decide +kernel
theorem dX4_setLimit_16 : decode cX4_setLimit 16 = .ok (.iconst 0, 1) := by decide +kernel
theorem dX4_setLimit_17 : decode cX4_setLimit 17 = .ok (.invokestatic 49, 3) := by decide +kernel
theorem dX4_setLimit_20 : decode cX4_setLimit 20 = .ok (.aload_n 0, 1) := by decide +kernel
theorem dX4_setLimit_21 : decode cX4_setLimit 21 = .ok (.getfield 41, 3) := by decide +kernel
theorem dX4_setLimit_24 : decode cX4_setLimit 24 = .ok (.istore_n 2, 1) := by decide +kernel
theorem dX4_setLimit_25 : decode cX4_setLimit 25 = .ok (.aload_n 0, 1) := by decide +kernel
theorem dX4_setLimit_26 : decode cX4_setLimit 26 = .ok (.iload_n 1, 1) := by decide +kernel
theorem dX4_setLimit_27 : decode cX4_setLimit 27 = .ok (.putfield 41, 3) := by decide +kernel
theorem dX4_setLimit_30 : decode cX4_setLimit 30 = .ok (.iload_n 2, 1) := by decide +kernel
theorem dX4_setLimit_31 : decode cX4_setLimit 31 = .ok (.ireturn, 1) := by decide +kernel
set_option maxRecDepth 20000 in
theorem ggX4_rate_X4_checkReport : GoodIn wsX4_rate wsX4_checkReport := goodIn_ca (goodIn_r _ [6, 7, 8, 9, 10, 11, 5, 12, 31, 32, 33, 34, 35, 36, 41, 42, 43, 44, 45] (by decide +kernel) (by decide +kernel)) (goodIn_sub (fun _ h => List.mem_cons_of_mem _ (List.mem_append_left _ (List.mem_append_right _ h))) (by decide +kernel))
set_option maxRecDepth 20000 in
theorem gX4_rate_X4_checkReport : GoodIn wsX4_rate (wsV RX4 122 RX4 yX4_checkReport wsX4_checkReport) := goodIn_app (goodIn_of _ (by decide +kernel)) ggX4_rate_X4_checkReport
set_option maxRecDepth 20000 in
theorem ggX4_rate_X4_isBelow : GoodIn wsX4_rate wsX4_isBelow := goodIn_r _ [12] (by decide +kernel) (by decide +kernel)
set_option maxRecDepth 20000 in
theorem gX4_rate_X4_isBelow : GoodIn wsX4_rate (va_wsS RX4 45 yX4_isBelow wsX4_isBelow) := goodIn_app (goodIn_of _ (by decide +kernel)) ggX4_rate_X4_isBelow
set_option maxRecDepth 20000 in
theorem ggX4_rate_X4_checkArgument : GoodIn wsX4_rate wsX4_checkArgument := goodIn_ca (goodIn_r _ [15, 16, 17] (by decide +kernel) (by decide +kernel)) (goodIn_sub (fun _ h => List.mem_cons_of_mem _ (List.mem_append_right _ h)) (by decide +kernel))
set_option maxRecDepth 20000 in
theorem gX4_rate_X4_checkArgument : GoodIn wsX4_rate (va_wsS RX4 49 yX4_checkArgument wsX4_checkArgument) := goodIn_app (goodIn_of _ (by decide +kernel)) ggX4_rate_X4_checkArgument
set_option maxRecDepth 20000 in
theorem ggX4_rate_X4_rateOf : GoodIn wsX4_rate wsX4_rateOf := goodIn_r _ [21, 22, 23, 24, 25, 5, 26, 9, 27, 28, 29, 30, 1, 31, 32, 33, 34, 35, 36, 41, 42, 43, 44, 45, 37, 38, 39, 40] (by decide +kernel) (by decide +kernel)
set_option maxRecDepth 20000 in
theorem gX4_rate_X4_rateOf : GoodIn wsX4_rate (wsV RX4 143 RX4 yX4_rateOf wsX4_rateOf) := goodIn_app (goodIn_of _ (by decide +kernel)) ggX4_rate_X4_rateOf
theorem dX4_rate_0 : decode cX4_rate 0 = .ok (.aload_n 0, 1) := by decide +kernel
theorem dX4_rate_1 : decode cX4_rate 1 = .ok (.iload_n 1, 1) := by decide +kernel
theorem dX4_rate_2 : decode cX4_rate 2 = .ok (.invokevirtual 122, 3) := by decide +kernel
theorem dX4_rate_5 : decode cX4_rate 5 = .ok (.iload_n 2, 1) := by decide +kernel
theorem dX4_rate_6 : decode cX4_rate 6 = .ok (.iconst 4, 1) := by decide +kernel
theorem dX4_rate_7 : decode cX4_rate 7 = .ok (.invokestatic 45, 3) := by decide +kernel
theorem dX4_rate_10 : decode cX4_rate 10 = .ok (.invokestatic 49, 3) := by decide +kernel
theorem dX4_rate_13 : decode cX4_rate 13 = .ok (.aload_n 0, 1) := by decide +kernel
theorem dX4_rate_14 : decode cX4_rate 14 = .ok (.aload_n 0, 1) := by decide +kernel
theorem dX4_rate_15 : decode cX4_rate 15 = .ok (.getfield 33, 3) := by decide +kernel
theorem dX4_rate_18 : decode cX4_rate 18 = .ok (.getfield 133, 3) := by decide +kernel
theorem dX4_rate_21 : decode cX4_rate 21 = .ok (.iload_n 1, 1) := by decide +kernel
theorem dX4_rate_22 : decode cX4_rate 22 = .ok (.iaload, 1) := by decide +kernel
theorem dX4_rate_23 : decode cX4_rate 23 = .ok (.iload_n 2, 1) := by decide +kernel
theorem dX4_rate_24 : decode cX4_rate 24 = .ok (.invokevirtual 143, 3) := by decide +kernel
theorem dX4_rate_27 : decode cX4_rate 27 = .ok (.ireturn, 1) := by decide +kernel
set_option maxRecDepth 20000 in
theorem ggX4_users_X4_checkReport : GoodIn wsX4_users wsX4_checkReport := goodIn_ca (goodIn_r _ [6, 7, 8, 9, 10, 11, 5, 12, 33, 34, 35, 36, 37, 38, 43, 44, 45, 46, 47] (by decide +kernel) (by decide +kernel)) (goodIn_sub (fun _ h => List.mem_cons_of_mem _ (List.mem_append_left _ (List.mem_append_right _ h))) (by decide +kernel))
set_option maxRecDepth 20000 in
theorem gX4_users_X4_checkReport : GoodIn wsX4_users (wsV RX4 122 RX4 yX4_checkReport wsX4_checkReport) := goodIn_app (goodIn_of _ (by decide +kernel)) ggX4_users_X4_checkReport
set_option maxRecDepth 20000 in
theorem ggX4_users_X4_isBelow : GoodIn wsX4_users wsX4_isBelow := goodIn_r _ [12] (by decide +kernel) (by decide +kernel)
set_option maxRecDepth 20000 in
theorem gX4_users_X4_isBelow : GoodIn wsX4_users (va_wsS RX4 45 yX4_isBelow wsX4_isBelow) := goodIn_app (goodIn_of _ (by decide +kernel)) ggX4_users_X4_isBelow
set_option maxRecDepth 20000 in
theorem ggX4_users_X4_checkArgument : GoodIn wsX4_users wsX4_checkArgument := goodIn_ca (goodIn_r _ [15, 16, 17] (by decide +kernel) (by decide +kernel)) (goodIn_sub (fun _ h => List.mem_cons_of_mem _ (List.mem_append_right _ h)) (by decide +kernel))
set_option maxRecDepth 20000 in
theorem gX4_users_X4_checkArgument : GoodIn wsX4_users (va_wsS RX4 49 yX4_checkArgument wsX4_checkArgument) := goodIn_app (goodIn_of _ (by decide +kernel)) ggX4_users_X4_checkArgument
set_option maxRecDepth 20000 in
theorem ggX4_users_X4_usersOf : GoodIn wsX4_users wsX4_usersOf := goodIn_r _ [21, 9, 22, 23, 24, 5, 25, 1, 26, 27, 28, 29, 30, 31, 32, 33, 34, 35, 36, 37, 38, 43, 44, 45, 46, 47, 39, 40, 41, 42] (by decide +kernel) (by decide +kernel)
set_option maxRecDepth 20000 in
theorem gX4_users_X4_usersOf : GoodIn wsX4_users (wsV RX4 146 RX4 yX4_usersOf wsX4_usersOf) := goodIn_app (goodIn_of _ (by decide +kernel)) ggX4_users_X4_usersOf
theorem dX4_users_0 : decode cX4_users 0 = .ok (.aload_n 0, 1) := by decide +kernel
theorem dX4_users_1 : decode cX4_users 1 = .ok (.iload_n 1, 1) := by decide +kernel
theorem dX4_users_2 : decode cX4_users 2 = .ok (.invokevirtual 122, 3) := by decide +kernel
theorem dX4_users_5 : decode cX4_users 5 = .ok (.iload_n 2, 1) := by decide +kernel
theorem dX4_users_6 : decode cX4_users 6 = .ok (.iconst 4, 1) := by decide +kernel
theorem dX4_users_7 : decode cX4_users 7 = .ok (.invokestatic 45, 3) := by decide +kernel
theorem dX4_users_10 : decode cX4_users 10 = .ok (.invokestatic 49, 3) := by decide +kernel
theorem dX4_users_13 : decode cX4_users 13 = .ok (.aload_n 0, 1) := by decide +kernel
theorem dX4_users_14 : decode cX4_users 14 = .ok (.aload_n 0, 1) := by decide +kernel
theorem dX4_users_15 : decode cX4_users 15 = .ok (.getfield 33, 3) := by decide +kernel
theorem dX4_users_18 : decode cX4_users 18 = .ok (.getfield 133, 3) := by decide +kernel
theorem dX4_users_21 : decode cX4_users 21 = .ok (.iload_n 1, 1) := by decide +kernel
theorem dX4_users_22 : decode cX4_users 22 = .ok (.iaload, 1) := by decide +kernel
theorem dX4_users_23 : decode cX4_users 23 = .ok (.iload_n 2, 1) := by decide +kernel
theorem dX4_users_24 : decode cX4_users 24 = .ok (.invokevirtual 146, 3) := by decide +kernel
theorem dX4_users_27 : decode cX4_users 27 = .ok (.ireturn, 1) := by decide +kernel
set_option maxRecDepth 20000 in
theorem ggX4_gate_X4_isBelow : GoodIn wsX4_gate wsX4_isBelow := goodIn_r _ [8] (by decide +kernel) (by decide +kernel)
set_option maxRecDepth 20000 in
theorem gX4_gate_X4_isBelow : GoodIn wsX4_gate (va_wsS RX4 45 yX4_isBelow wsX4_isBelow) := goodIn_app (goodIn_of _ (by decide +kernel)) ggX4_gate_X4_isBelow
set_option maxRecDepth 20000 in
theorem ggX4_gate_X4_checkArgument : GoodIn wsX4_gate wsX4_checkArgument := goodIn_ca (goodIn_r _ [11, 12, 13] (by decide +kernel) (by decide +kernel)) (goodIn_sub (fun _ h => List.mem_cons_of_mem _ (List.mem_append_right _ h)) (by decide +kernel))
set_option maxRecDepth 20000 in
theorem gX4_gate_X4_checkArgument : GoodIn wsX4_gate (va_wsS RX4 49 yX4_checkArgument wsX4_checkArgument) := goodIn_app (goodIn_of _ (by decide +kernel)) ggX4_gate_X4_checkArgument
set_option maxRecDepth 20000 in
theorem ggX4_gate_X1_isName : GoodIn wsX4_gate wsX1_isName := goodIn_r _ [17, 18, 53, 54, 55, 56] (by decide +kernel) (by decide +kernel)
set_option maxRecDepth 20000 in
theorem gX4_gate_X1_isName_n136 : GoodIn wsX4_gate (wsX1_isName) := ggX4_gate_X1_isName
set_option maxRecDepth 20000 in
theorem ggX4_gate_X4_rateOf : GoodIn wsX4_gate wsX4_rateOf := goodIn_r _ [22, 1, 23, 24, 25, 7, 26, 2, 27, 28, 29, 30, 3, 42, 43, 44, 45, 46, 47, 48, 49, 50, 51, 52, 53, 54, 55, 56] (by decide +kernel) (by decide +kernel)
set_option maxRecDepth 20000 in
theorem gX4_gate_X4_rateOf : GoodIn wsX4_gate (wsV RX4 143 RX4 yX4_rateOf wsX4_rateOf) := goodIn_app (goodIn_of _ (by decide +kernel)) ggX4_gate_X4_rateOf
set_option maxRecDepth 20000 in
theorem ggX4_gate_X4_usersOf : GoodIn wsX4_gate wsX4_usersOf := goodIn_r _ [34, 2, 27, 28, 29, 7, 30, 3, 35, 36, 37, 38, 39, 40, 41, 42, 43, 44, 45, 46, 47, 48, 49, 50, 51, 52, 53, 54, 55, 56] (by decide +kernel) (by decide +kernel)
set_option maxRecDepth 20000 in
theorem gX4_gate_X4_usersOf : GoodIn wsX4_gate (wsV RX4 146 RX4 yX4_usersOf wsX4_usersOf) := goodIn_app (goodIn_of _ (by decide +kernel)) ggX4_gate_X4_usersOf
theorem dX4_gate_0 : decode cX4_gate 0 = .ok (.iload_n 1, 1) := by decide +kernel
theorem dX4_gate_1 : decode cX4_gate 1 = .ok (.iconst 4, 1) := by decide +kernel
theorem dX4_gate_2 : decode cX4_gate 2 = .ok (.invokestatic 45, 3) := by decide +kernel
theorem dX4_gate_5 : decode cX4_gate 5 = .ok (.invokestatic 49, 3) := by decide +kernel
theorem dX4_gate_8 : decode cX4_gate 8 = .ok (.aload_n 0, 1) := by decide +kernel
theorem dX4_gate_9 : decode cX4_gate 9 = .ok (.getfield 37, 3) := by decide +kernel
theorem dX4_gate_12 : decode cX4_gate 12 = .ok (.iload_n 1, 1) := by decide +kernel
theorem dX4_gate_13 : decode cX4_gate 13 = .ok (.iaload, 1) := by decide +kernel
theorem dX4_gate_14 : decode cX4_gate 14 = .ok (.bipush 50, 2) := by decide +kernel
theorem dX4_gate_16 : decode cX4_gate 16 = .ok (.if_icmp .lt 7, 3) := by decide +kernel
theorem dX4_gate_19 : decode cX4_gate 19 = .ok (.iconst 1, 1) := by decide +kernel
theorem dX4_gate_20 : decode cX4_gate 20 = .ok (.goto 4, 3) := by decide +kernel
theorem dX4_gate_23 : decode cX4_gate 23 = .ok (.iconst 0, 1) := by decide +kernel
theorem dX4_gate_24 : decode cX4_gate 24 = .ok (.istore_n 2, 1) := by decide +kernel
theorem dX4_gate_25 : decode cX4_gate 25 = .ok (.iload_n 2, 1) := by decide +kernel
theorem dX4_gate_26 : decode cX4_gate 26 = .ok (.ifCond .ne 7, 3) := by decide +kernel
theorem dX4_gate_29 : decode cX4_gate 29 = .ok (.iconst 1, 1) := by decide +kernel
theorem dX4_gate_30 : decode cX4_gate 30 = .ok (.goto 4, 3) := by decide +kernel
theorem dX4_gate_33 : decode cX4_gate 33 = .ok (.iconst 0, 1) := by decide +kernel
theorem dX4_gate_34 : decode cX4_gate 34 = .ok (.istore_n 3, 1) := by decide +kernel
theorem dX4_gate_35 : decode cX4_gate 35 = .ok (.iconst 0, 1) := by decide +kernel
theorem dX4_gate_36 : decode cX4_gate 36 = .ok (.istore 4, 2) := by decide +kernel
theorem dX4_gate_38 : decode cX4_gate 38 = .ok (.iload 4, 2) := by decide +kernel
theorem dX4_gate_40 : decode cX4_gate 40 = .ok (.aload_n 0, 1) := by decide +kernel
theorem dX4_gate_41 : decode cX4_gate 41 = .ok (.getfield 26, 3) := by decide +kernel
theorem dX4_gate_44 : decode cX4_gate 44 = .ok (.getfield 103, 3) := by decide +kernel
theorem dX4_gate_47 : decode cX4_gate 47 = .ok (.if_icmp .ge 77, 3) := by decide +kernel
theorem dX4_gate_50 : decode cX4_gate 50 = .ok (.aload_n 0, 1) := by decide +kernel
theorem dX4_gate_51 : decode cX4_gate 51 = .ok (.getfield 33, 3) := by decide +kernel
theorem dX4_gate_54 : decode cX4_gate 54 = .ok (.iload 4, 2) := by decide +kernel
theorem dX4_gate_56 : decode cX4_gate 56 = .ok (.invokevirtual 136, 3) := by decide +kernel
theorem dX4_gate_59 : decode cX4_gate 59 = .ok (.ifCond .eq 59, 3) := by decide +kernel
theorem dX4_gate_62 : decode cX4_gate 62 = .ok (.aload_n 0, 1) := by decide +kernel
theorem dX4_gate_63 : decode cX4_gate 63 = .ok (.iload 4, 2) := by decide +kernel
theorem dX4_gate_65 : decode cX4_gate 65 = .ok (.iload_n 1, 1) := by decide +kernel
theorem dX4_gate_66 : decode cX4_gate 66 = .ok (.invokevirtual 143, 3) := by decide +kernel
theorem dX4_gate_69 : decode cX4_gate 69 = .ok (.istore 5, 2) := by decide +kernel
theorem dX4_gate_71 : decode cX4_gate 71 = .ok (.iload_n 2, 1) := by decide +kernel
theorem dX4_gate_72 : decode cX4_gate 72 = .ok (.ifCond .eq 25, 3) := by decide +kernel
theorem dX4_gate_75 : decode cX4_gate 75 = .ok (.iload 5, 2) := by decide +kernel
theorem dX4_gate_77 : decode cX4_gate 77 = .ok (.aload_n 0, 1) := by decide +kernel
theorem dX4_gate_78 : decode cX4_gate 78 = .ok (.getfield 41, 3) := by decide +kernel
theorem dX4_gate_81 : decode cX4_gate 81 = .ok (.if_icmp .lt 16, 3) := by decide +kernel
theorem dX4_gate_84 : decode cX4_gate 84 = .ok (.aload_n 0, 1) := by decide +kernel
theorem dX4_gate_85 : decode cX4_gate 85 = .ok (.iload 4, 2) := by decide +kernel
theorem dX4_gate_87 : decode cX4_gate 87 = .ok (.iload_n 1, 1) := by decide +kernel
theorem dX4_gate_88 : decode cX4_gate 88 = .ok (.invokevirtual 146, 3) := by decide +kernel
theorem dX4_gate_91 : decode cX4_gate 91 = .ok (.iconst 2, 1) := by decide +kernel
theorem dX4_gate_92 : decode cX4_gate 92 = .ok (.if_icmp .lt 5, 3) := by decide +kernel
theorem dX4_gate_95 : decode cX4_gate 95 = .ok (.iconst 2, 1) := by decide +kernel
theorem dX4_gate_96 : decode cX4_gate 96 = .ok (.ireturn, 1) := by decide +kernel
theorem dX4_gate_97 : decode cX4_gate 97 = .ok (.iload_n 3, 1) := by decide +kernel
theorem dX4_gate_98 : decode cX4_gate 98 = .ok (.ifCond .ne 14, 3) := by decide +kernel
theorem dX4_gate_101 : decode cX4_gate 101 = .ok (.iconst 2, 1) := by decide +kernel
theorem dX4_gate_102 : decode cX4_gate 102 = .ok (.iload 5, 2) := by decide +kernel
theorem dX4_gate_104 : decode cX4_gate 104 = .ok (.imul, 1) := by decide +kernel
theorem dX4_gate_105 : decode cX4_gate 105 = .ok (.aload_n 0, 1) := by decide +kernel
theorem dX4_gate_106 : decode cX4_gate 106 = .ok (.getfield 41, 3) := by decide +kernel
theorem dX4_gate_109 : decode cX4_gate 109 = .ok (.if_icmp .lt 7, 3) := by decide +kernel
theorem dX4_gate_112 : decode cX4_gate 112 = .ok (.iconst 1, 1) := by decide +kernel
theorem dX4_gate_113 : decode cX4_gate 113 = .ok (.goto 4, 3) := by decide +kernel
theorem dX4_gate_116 : decode cX4_gate 116 = .ok (.iconst 0, 1) := by decide +kernel
theorem dX4_gate_117 : decode cX4_gate 117 = .ok (.istore_n 3, 1) := by decide +kernel
theorem dX4_gate_118 : decode cX4_gate 118 = .ok (.iinc 4 1, 3) := by decide +kernel
theorem dX4_gate_121 : decode cX4_gate 121 = .ok (.goto (-83), 3) := by decide +kernel
theorem dX4_gate_124 : decode cX4_gate 124 = .ok (.iload_n 3, 1) := by decide +kernel
theorem dX4_gate_125 : decode cX4_gate 125 = .ok (.ifCond .eq 7, 3) := by decide +kernel
theorem dX4_gate_128 : decode cX4_gate 128 = .ok (.iconst 1, 1) := by decide +kernel
theorem dX4_gate_129 : decode cX4_gate 129 = .ok (.goto 4, 3) := by decide +kernel
theorem dX4_gate_132 : decode cX4_gate 132 = .ok (.iconst 0, 1) := by decide +kernel
theorem dX4_gate_133 : decode cX4_gate 133 = .ok (.ireturn, 1) := by decide +kernel
set_option maxRecDepth 20000 in
theorem ggX4_worst_X4_isBelow : GoodIn wsX4_worst wsX4_isBelow := goodIn_r _ [6] (by decide +kernel) (by decide +kernel)
set_option maxRecDepth 20000 in
theorem gX4_worst_X4_isBelow : GoodIn wsX4_worst (va_wsS RX4 45 yX4_isBelow wsX4_isBelow) := goodIn_app (goodIn_of _ (by decide +kernel)) ggX4_worst_X4_isBelow
set_option maxRecDepth 20000 in
theorem ggX4_worst_X4_checkArgument : GoodIn wsX4_worst wsX4_checkArgument := goodIn_ca (goodIn_r _ [9, 10, 11] (by decide +kernel) (by decide +kernel)) (goodIn_sub (fun _ h => List.mem_cons_of_mem _ (List.mem_append_right _ h)) (by decide +kernel))
set_option maxRecDepth 20000 in
theorem gX4_worst_X4_checkArgument : GoodIn wsX4_worst (va_wsS RX4 49 yX4_checkArgument wsX4_checkArgument) := goodIn_app (goodIn_of _ (by decide +kernel)) ggX4_worst_X4_checkArgument
set_option maxRecDepth 20000 in
theorem ggX4_worst_X1_isName : GoodIn wsX4_worst wsX1_isName := goodIn_r _ [15, 16, 41, 42, 43, 44] (by decide +kernel) (by decide +kernel)
set_option maxRecDepth 20000 in
theorem gX4_worst_X1_isName_n136 : GoodIn wsX4_worst (wsX1_isName) := ggX4_worst_X1_isName
set_option maxRecDepth 20000 in
theorem ggX4_worst_X4_rateOf : GoodIn wsX4_worst wsX4_rateOf := goodIn_r _ [20, 21, 22, 23, 24, 5, 25, 1, 26, 27, 28, 29, 2, 30, 31, 32, 33, 34, 35, 36, 37, 38, 39, 40, 41, 42, 43, 44] (by decide +kernel) (by decide +kernel)
set_option maxRecDepth 20000 in
theorem gX4_worst_X4_rateOf : GoodIn wsX4_worst (wsV RX4 143 RX4 yX4_rateOf wsX4_rateOf) := goodIn_app (goodIn_of _ (by decide +kernel)) ggX4_worst_X4_rateOf
theorem dX4_worst_0 : decode cX4_worst 0 = .ok (.iload_n 1, 1) := by decide +kernel
theorem dX4_worst_1 : decode cX4_worst 1 = .ok (.iconst 4, 1) := by decide +kernel
theorem dX4_worst_2 : decode cX4_worst 2 = .ok (.invokestatic 45, 3) := by decide +kernel
theorem dX4_worst_5 : decode cX4_worst 5 = .ok (.invokestatic 49, 3) := by decide +kernel
theorem dX4_worst_8 : decode cX4_worst 8 = .ok (.iconst (-1), 1) := by decide +kernel
theorem dX4_worst_9 : decode cX4_worst 9 = .ok (.istore_n 2, 1) := by decide +kernel
theorem dX4_worst_10 : decode cX4_worst 10 = .ok (.iconst 0, 1) := by decide +kernel
theorem dX4_worst_11 : decode cX4_worst 11 = .ok (.istore_n 3, 1) := by decide +kernel
theorem dX4_worst_12 : decode cX4_worst 12 = .ok (.iconst 0, 1) := by decide +kernel
theorem dX4_worst_13 : decode cX4_worst 13 = .ok (.istore 4, 2) := by decide +kernel
theorem dX4_worst_15 : decode cX4_worst 15 = .ok (.iload 4, 2) := by decide +kernel
theorem dX4_worst_17 : decode cX4_worst 17 = .ok (.aload_n 0, 1) := by decide +kernel
theorem dX4_worst_18 : decode cX4_worst 18 = .ok (.getfield 26, 3) := by decide +kernel
theorem dX4_worst_21 : decode cX4_worst 21 = .ok (.getfield 103, 3) := by decide +kernel
theorem dX4_worst_24 : decode cX4_worst 24 = .ok (.if_icmp .ge 42, 3) := by decide +kernel
theorem dX4_worst_27 : decode cX4_worst 27 = .ok (.aload_n 0, 1) := by decide +kernel
theorem dX4_worst_28 : decode cX4_worst 28 = .ok (.getfield 33, 3) := by decide +kernel
theorem dX4_worst_31 : decode cX4_worst 31 = .ok (.iload 4, 2) := by decide +kernel
theorem dX4_worst_33 : decode cX4_worst 33 = .ok (.invokevirtual 136, 3) := by decide +kernel
theorem dX4_worst_36 : decode cX4_worst 36 = .ok (.ifCond .eq 24, 3) := by decide +kernel
theorem dX4_worst_39 : decode cX4_worst 39 = .ok (.aload_n 0, 1) := by decide +kernel
theorem dX4_worst_40 : decode cX4_worst 40 = .ok (.iload 4, 2) := by decide +kernel
theorem dX4_worst_42 : decode cX4_worst 42 = .ok (.iload_n 1, 1) := by decide +kernel
theorem dX4_worst_43 : decode cX4_worst 43 = .ok (.invokevirtual 143, 3) := by decide +kernel
theorem dX4_worst_46 : decode cX4_worst 46 = .ok (.istore 5, 2) := by decide +kernel
theorem dX4_worst_48 : decode cX4_worst 48 = .ok (.iload 5, 2) := by decide +kernel
theorem dX4_worst_50 : decode cX4_worst 50 = .ok (.iload_n 3, 1) := by decide +kernel
theorem dX4_worst_51 : decode cX4_worst 51 = .ok (.if_icmp .le 9, 3) := by decide +kernel
theorem dX4_worst_54 : decode cX4_worst 54 = .ok (.iload 4, 2) := by decide +kernel
theorem dX4_worst_56 : decode cX4_worst 56 = .ok (.istore_n 2, 1) := by decide +kernel
theorem dX4_worst_57 : decode cX4_worst 57 = .ok (.iload 5, 2) := by decide +kernel
theorem dX4_worst_59 : decode cX4_worst 59 = .ok (.istore_n 3, 1) := by decide +kernel
theorem dX4_worst_60 : decode cX4_worst 60 = .ok (.iinc 4 1, 3) := by decide +kernel
theorem dX4_worst_63 : decode cX4_worst 63 = .ok (.goto (-48), 3) := by decide +kernel
theorem dX4_worst_66 : decode cX4_worst 66 = .ok (.iload_n 2, 1) := by decide +kernel
theorem dX4_worst_67 : decode cX4_worst 67 = .ok (.ireturn, 1) := by decide +kernel
set_option maxRecDepth 20000 in
theorem ggX4_fix_X4_checkReport : GoodIn wsX4_fix wsX4_checkReport := goodIn_ca (goodIn_r _ [6, 7, 8, 1, 9, 10, 5, 11, 17, 18, 19, 20, 21, 22, 23, 24, 25, 26, 27] (by decide +kernel) (by decide +kernel)) (goodIn_sub (fun _ h => List.mem_cons_of_mem _ (List.mem_append_left _ (List.mem_append_right _ h))) (by decide +kernel))
set_option maxRecDepth 20000 in
theorem gX4_fix_X4_checkReport : GoodIn wsX4_fix (wsV RX4 122 RX4 yX4_checkReport wsX4_checkReport) := goodIn_app (goodIn_of _ (by decide +kernel)) ggX4_fix_X4_checkReport
set_option maxRecDepth 20000 in
theorem ggX4_fix_X4_isBelow : GoodIn wsX4_fix wsX4_isBelow := goodIn_r _ [11] (by decide +kernel) (by decide +kernel)
set_option maxRecDepth 20000 in
theorem gX4_fix_X4_isBelow : GoodIn wsX4_fix (va_wsS RX4 45 yX4_isBelow wsX4_isBelow) := goodIn_app (goodIn_of _ (by decide +kernel)) ggX4_fix_X4_isBelow
set_option maxRecDepth 20000 in
theorem ggX4_fix_X4_checkArgument : GoodIn wsX4_fix wsX4_checkArgument := goodIn_ca (goodIn_r _ [14, 15, 16] (by decide +kernel) (by decide +kernel)) (goodIn_sub (fun _ h => List.mem_cons_of_mem _ (List.mem_append_right _ h)) (by decide +kernel))
set_option maxRecDepth 20000 in
theorem gX4_fix_X4_checkArgument : GoodIn wsX4_fix (va_wsS RX4 49 yX4_checkArgument wsX4_checkArgument) := goodIn_app (goodIn_of _ (by decide +kernel)) ggX4_fix_X4_checkArgument
theorem dX4_fix_0 : decode cX4_fix 0 = .ok (.aload_n 0, 1) := by decide +kernel
theorem dX4_fix_1 : decode cX4_fix 1 = .ok (.iload_n 1, 1) := by decide +kernel
theorem dX4_fix_2 : decode cX4_fix 2 = .ok (.invokevirtual 122, 3) := by decide +kernel
theorem dX4_fix_5 : decode cX4_fix 5 = .ok (.iload_n 2, 1) := by decide +kernel
theorem dX4_fix_6 : decode cX4_fix 6 = .ok (.iconst 1, 1) := by decide +kernel
theorem dX4_fix_7 : decode cX4_fix 7 = .ok (.if_icmp .lt 15, 3) := by decide +kernel
theorem dX4_fix_10 : decode cX4_fix 10 = .ok (.iload_n 2, 1) := by decide +kernel
theorem dX4_fix_11 : decode cX4_fix 11 = .ok (.iconst 4, 1) := by decide +kernel
theorem dX4_fix_12 : decode cX4_fix 12 = .ok (.invokestatic 45, 3) := by decide +kernel
theorem dX4_fix_15 : decode cX4_fix 15 = .ok (.ifCond .eq 7, 3) := by decide +kernel
theorem dX4_fix_18 : decode cX4_fix 18 = .ok (.iconst 1, 1) := by decide +kernel
theorem dX4_fix_19 : decode cX4_fix 19 = .ok (.goto 4, 3) := by decide +kernel
theorem dX4_fix_22 : decode cX4_fix 22 = .ok (.iconst 0, 1) := by decide +kernel
theorem dX4_fix_23 : decode cX4_fix 23 = .ok (.invokestatic 49, 3) := by decide +kernel
theorem dX4_fix_26 : decode cX4_fix 26 = .ok (.aload_n 0, 1) := by decide +kernel
theorem dX4_fix_27 : decode cX4_fix 27 = .ok (.getfield 26, 3) := by decide +kernel
theorem dX4_fix_30 : decode cX4_fix 30 = .ok (.getfield 149, 3) := by decide +kernel
theorem dX4_fix_33 : decode cX4_fix 33 = .ok (.iload_n 1, 1) := by decide +kernel
theorem dX4_fix_34 : decode cX4_fix 34 = .ok (.iaload, 1) := by decide +kernel
theorem dX4_fix_35 : decode cX4_fix 35 = .ok (.istore_n 3, 1) := by decide +kernel
theorem dX4_fix_36 : decode cX4_fix 36 = .ok (.aload_n 0, 1) := by decide +kernel
theorem dX4_fix_37 : decode cX4_fix 37 = .ok (.getfield 26, 3) := by decide +kernel
theorem dX4_fix_40 : decode cX4_fix 40 = .ok (.getfield 149, 3) := by decide +kernel
theorem dX4_fix_43 : decode cX4_fix 43 = .ok (.iload_n 1, 1) := by decide +kernel
theorem dX4_fix_44 : decode cX4_fix 44 = .ok (.iload_n 2, 1) := by decide +kernel
theorem dX4_fix_45 : decode cX4_fix 45 = .ok (.iastore, 1) := by decide +kernel
theorem dX4_fix_46 : decode cX4_fix 46 = .ok (.iload_n 3, 1) := by decide +kernel
theorem dX4_fix_47 : decode cX4_fix 47 = .ok (.ireturn, 1) := by decide +kernel
set_option maxRecDepth 20000 in
theorem ggX4_holds_X4_checkReport : GoodIn wsX4_holds wsX4_checkReport := goodIn_ca (goodIn_r _ [10, 11, 12, 3, 13, 14, 9, 15, 36, 37, 38, 39, 40, 41, 42, 43, 44, 45, 46] (by decide +kernel) (by decide +kernel)) (goodIn_sub (fun _ h => List.mem_cons_of_mem _ (List.mem_append_right _ h)) (by decide +kernel))
set_option maxRecDepth 20000 in
theorem gX4_holds_X4_checkReport : GoodIn wsX4_holds (wsV RX4 122 RX4 yX4_checkReport wsX4_checkReport) := goodIn_app (goodIn_of _ (by decide +kernel)) ggX4_holds_X4_checkReport
set_option maxRecDepth 20000 in
theorem ggX4_holds_X4_greatestRateBefore : GoodIn wsX4_holds wsX4_greatestRateBefore := goodIn_r _ [19, 20, 21, 22, 23, 24, 25, 26, 9, 27, 5, 28, 29, 30, 31, 3, 32, 33, 34, 35, 4, 36, 37, 38, 39, 40, 41, 42, 43, 44, 45, 46, 47, 48, 49, 50] (by decide +kernel) (by decide +kernel)
set_option maxRecDepth 20000 in
theorem gX4_holds_X4_greatestRateBefore : GoodIn wsX4_holds (wsV RX4 154 RX4 yX4_greatestRateBefore wsX4_greatestRateBefore) := goodIn_app (goodIn_of _ (by decide +kernel)) ggX4_holds_X4_greatestRateBefore
set_option maxRecDepth 20000 in
theorem ggX4_holds_X4_rateOf : GoodIn wsX4_holds wsX4_rateOf := goodIn_r _ [27, 5, 28, 29, 30, 9, 31, 3, 32, 33, 34, 35, 4, 36, 37, 38, 39, 40, 41, 42, 43, 44, 45, 46, 47, 48, 49, 50] (by decide +kernel) (by decide +kernel)
set_option maxRecDepth 20000 in
theorem gX4_holds_X4_rateOf : GoodIn wsX4_holds (wsV RX4 143 RX4 yX4_rateOf wsX4_rateOf) := goodIn_app (goodIn_of _ (by decide +kernel)) ggX4_holds_X4_rateOf
theorem dX4_holds_0 : decode cX4_holds 0 = .ok (.aload_n 0, 1) := by decide +kernel
theorem dX4_holds_1 : decode cX4_holds 1 = .ok (.iload_n 1, 1) := by decide +kernel
theorem dX4_holds_2 : decode cX4_holds 2 = .ok (.invokevirtual 122, 3) := by decide +kernel
theorem dX4_holds_5 : decode cX4_holds 5 = .ok (.aload_n 0, 1) := by decide +kernel
theorem dX4_holds_6 : decode cX4_holds 6 = .ok (.getfield 26, 3) := by decide +kernel
theorem dX4_holds_9 : decode cX4_holds 9 = .ok (.getfield 149, 3) := by decide +kernel
theorem dX4_holds_12 : decode cX4_holds 12 = .ok (.iload_n 1, 1) := by decide +kernel
theorem dX4_holds_13 : decode cX4_holds 13 = .ok (.iaload, 1) := by decide +kernel
theorem dX4_holds_14 : decode cX4_holds 14 = .ok (.istore_n 2, 1) := by decide +kernel
theorem dX4_holds_15 : decode cX4_holds 15 = .ok (.iload_n 2, 1) := by decide +kernel
theorem dX4_holds_16 : decode cX4_holds 16 = .ok (.iconst (-1), 1) := by decide +kernel
theorem dX4_holds_17 : decode cX4_holds 17 = .ok (.if_icmp .ne 13, 3) := by decide +kernel
theorem dX4_holds_20 : decode cX4_holds 20 = .ok (.new 57, 3) := by decide +kernel
theorem dX4_holds_23 : decode cX4_holds 23 = .ok (.dup, 1) := by decide +kernel
theorem dX4_holds_24 : decode cX4_holds 24 = .ok (.ldc 152, 2) := by decide +kernel
theorem dX4_holds_26 : decode cX4_holds 26 = .ok (.invokespecial 61, 3) := by decide +kernel
theorem dX4_holds_29 : decode cX4_holds 29 = .ok (.athrow, 1) := by decide +kernel
theorem dX4_holds_30 : decode cX4_holds 30 = .ok (.aload_n 0, 1) := by decide +kernel
theorem dX4_holds_31 : decode cX4_holds 31 = .ok (.getfield 33, 3) := by decide +kernel
theorem dX4_holds_34 : decode cX4_holds 34 = .ok (.getfield 133, 3) := by decide +kernel
theorem dX4_holds_37 : decode cX4_holds 37 = .ok (.iload_n 1, 1) := by decide +kernel
theorem dX4_holds_38 : decode cX4_holds 38 = .ok (.iaload, 1) := by decide +kernel
theorem dX4_holds_39 : decode cX4_holds 39 = .ok (.istore_n 3, 1) := by decide +kernel
theorem dX4_holds_40 : decode cX4_holds 40 = .ok (.aload_n 0, 1) := by decide +kernel
theorem dX4_holds_41 : decode cX4_holds 41 = .ok (.iload_n 3, 1) := by decide +kernel
theorem dX4_holds_42 : decode cX4_holds 42 = .ok (.iload_n 2, 1) := by decide +kernel
theorem dX4_holds_43 : decode cX4_holds 43 = .ok (.invokevirtual 154, 3) := by decide +kernel
theorem dX4_holds_46 : decode cX4_holds 46 = .ok (.istore 4, 2) := by decide +kernel
theorem dX4_holds_48 : decode cX4_holds 48 = .ok (.iload_n 2, 1) := by decide +kernel
theorem dX4_holds_49 : decode cX4_holds 49 = .ok (.istore 5, 2) := by decide +kernel
theorem dX4_holds_51 : decode cX4_holds 51 = .ok (.iload 5, 2) := by decide +kernel
theorem dX4_holds_53 : decode cX4_holds 53 = .ok (.iconst 4, 1) := by decide +kernel
theorem dX4_holds_54 : decode cX4_holds 54 = .ok (.if_icmp .ge 35, 3) := by decide +kernel
theorem dX4_holds_57 : decode cX4_holds 57 = .ok (.aload_n 0, 1) := by decide +kernel
theorem dX4_holds_58 : decode cX4_holds 58 = .ok (.getfield 37, 3) := by decide +kernel
theorem dX4_holds_61 : decode cX4_holds 61 = .ok (.iload 5, 2) := by decide +kernel
theorem dX4_holds_63 : decode cX4_holds 63 = .ok (.iaload, 1) := by decide +kernel
theorem dX4_holds_64 : decode cX4_holds 64 = .ok (.ifCond .le 19, 3) := by decide +kernel
theorem dX4_holds_67 : decode cX4_holds 67 = .ok (.iconst 2, 1) := by decide +kernel
theorem dX4_holds_68 : decode cX4_holds 68 = .ok (.aload_n 0, 1) := by decide +kernel
theorem dX4_holds_69 : decode cX4_holds 69 = .ok (.iload_n 3, 1) := by decide +kernel
theorem dX4_holds_70 : decode cX4_holds 70 = .ok (.iload 5, 2) := by decide +kernel
theorem dX4_holds_72 : decode cX4_holds 72 = .ok (.invokevirtual 143, 3) := by decide +kernel
theorem dX4_holds_75 : decode cX4_holds 75 = .ok (.imul, 1) := by decide +kernel
theorem dX4_holds_76 : decode cX4_holds 76 = .ok (.iload 4, 2) := by decide +kernel
theorem dX4_holds_78 : decode cX4_holds 78 = .ok (.if_icmp .le 5, 3) := by decide +kernel
theorem dX4_holds_81 : decode cX4_holds 81 = .ok (.iconst 0, 1) := by decide +kernel
theorem dX4_holds_82 : decode cX4_holds 82 = .ok (.ireturn, 1) := by decide +kernel
theorem dX4_holds_83 : decode cX4_holds 83 = .ok (.iinc 5 1, 3) := by decide +kernel
theorem dX4_holds_86 : decode cX4_holds 86 = .ok (.goto (-35), 3) := by decide +kernel
theorem dX4_holds_89 : decode cX4_holds 89 = .ok (.iconst 1, 1) := by decide +kernel
theorem dX4_holds_90 : decode cX4_holds 90 = .ok (.ireturn, 1) := by decide +kernel
theorem dX4_isBelow_0 : decode cX4_isBelow 0 = .ok (.iload_n 0, 1) := by decide +kernel
theorem dX4_isBelow_1 : decode cX4_isBelow 1 = .ok (.ifCond .lt 12, 3) := by decide +kernel
theorem dX4_isBelow_4 : decode cX4_isBelow 4 = .ok (.iload_n 0, 1) := by decide +kernel
theorem dX4_isBelow_5 : decode cX4_isBelow 5 = .ok (.iload_n 1, 1) := by decide +kernel
theorem dX4_isBelow_6 : decode cX4_isBelow 6 = .ok (.if_icmp .ge 7, 3) := by decide +kernel
theorem dX4_isBelow_9 : decode cX4_isBelow 9 = .ok (.iconst 1, 1) := by decide +kernel
theorem dX4_isBelow_10 : decode cX4_isBelow 10 = .ok (.goto 4, 3) := by decide +kernel
theorem dX4_isBelow_13 : decode cX4_isBelow 13 = .ok (.iconst 0, 1) := by decide +kernel
theorem dX4_isBelow_14 : decode cX4_isBelow 14 = .ok (.ireturn, 1) := by decide +kernel
set_option maxRecDepth 20000 in
theorem ggX4_mayFollow_X4_isBelow : GoodIn wsX4_mayFollow wsX4_isBelow := goodIn_r _ [4] (by decide +kernel) (by decide +kernel)
set_option maxRecDepth 20000 in
theorem gX4_mayFollow_X4_isBelow : GoodIn wsX4_mayFollow (va_wsS RX4 45 yX4_isBelow wsX4_isBelow) := goodIn_app (goodIn_of _ (by decide +kernel)) ggX4_mayFollow_X4_isBelow
theorem dX4_mayFollow_0 : decode cX4_mayFollow 0 = .ok (.iload_n 1, 1) := by decide +kernel
theorem dX4_mayFollow_1 : decode cX4_mayFollow 1 = .ok (.iconst (-1), 1) := by decide +kernel
theorem dX4_mayFollow_2 : decode cX4_mayFollow 2 = .ok (.if_icmp .eq 18, 3) := by decide +kernel
theorem dX4_mayFollow_5 : decode cX4_mayFollow 5 = .ok (.iload_n 0, 1) := by decide +kernel
theorem dX4_mayFollow_6 : decode cX4_mayFollow 6 = .ok (.iconst (-1), 1) := by decide +kernel
theorem dX4_mayFollow_7 : decode cX4_mayFollow 7 = .ok (.if_icmp .eq 17, 3) := by decide +kernel
theorem dX4_mayFollow_10 : decode cX4_mayFollow 10 = .ok (.iload_n 1, 1) := by decide +kernel
theorem dX4_mayFollow_11 : decode cX4_mayFollow 11 = .ok (.sipush 10000, 3) := by decide +kernel
theorem dX4_mayFollow_14 : decode cX4_mayFollow 14 = .ok (.invokestatic 45, 3) := by decide +kernel
theorem dX4_mayFollow_17 : decode cX4_mayFollow 17 = .ok (.ifCond .eq 7, 3) := by decide +kernel
theorem dX4_mayFollow_20 : decode cX4_mayFollow 20 = .ok (.iconst 1, 1) := by decide +kernel
theorem dX4_mayFollow_21 : decode cX4_mayFollow 21 = .ok (.goto 4, 3) := by decide +kernel
theorem dX4_mayFollow_24 : decode cX4_mayFollow 24 = .ok (.iconst 0, 1) := by decide +kernel
theorem dX4_mayFollow_25 : decode cX4_mayFollow 25 = .ok (.ireturn, 1) := by decide +kernel
theorem dX4_checkArgument_0 : decode cX4_checkArgument 0 = .ok (.iload_n 0, 1) := by decide +kernel
theorem dX4_checkArgument_1 : decode cX4_checkArgument 1 = .ok (.ifCond .ne 13, 3) := by decide +kernel
theorem dX4_checkArgument_4 : decode cX4_checkArgument 4 = .ok (.new 157, 3) := by decide +kernel
theorem dX4_checkArgument_7 : decode cX4_checkArgument 7 = .ok (.dup, 1) := by decide +kernel
theorem dX4_checkArgument_8 : decode cX4_checkArgument 8 = .ok (.ldc 159, 2) := by decide +kernel
theorem dX4_checkArgument_10 : decode cX4_checkArgument 10 = .ok (.invokespecial 161, 3) := by decide +kernel
theorem dX4_checkArgument_13 : decode cX4_checkArgument 13 = .ok (.athrow, 1) := by decide +kernel
theorem dX4_checkArgument_14 : decode cX4_checkArgument 14 = .ok (.return_, 1) := by decide +kernel
set_option maxRecDepth 20000 in
theorem ggX4_checkReport_X4_isBelow : GoodIn wsX4_checkReport wsX4_isBelow := goodIn_r _ [7] (by decide +kernel) (by decide +kernel)
set_option maxRecDepth 20000 in
theorem gX4_checkReport_X4_isBelow : GoodIn wsX4_checkReport (va_wsS RX4 45 yX4_isBelow wsX4_isBelow) := goodIn_app (goodIn_of _ (by decide +kernel)) ggX4_checkReport_X4_isBelow
theorem dX4_checkReport_0 : decode cX4_checkReport 0 = .ok (.iload_n 1, 1) := by decide +kernel
theorem dX4_checkReport_1 : decode cX4_checkReport 1 = .ok (.aload_n 0, 1) := by decide +kernel
theorem dX4_checkReport_2 : decode cX4_checkReport 2 = .ok (.getfield 26, 3) := by decide +kernel
theorem dX4_checkReport_5 : decode cX4_checkReport 5 = .ok (.getfield 103, 3) := by decide +kernel
theorem dX4_checkReport_8 : decode cX4_checkReport 8 = .ok (.invokestatic 45, 3) := by decide +kernel
theorem dX4_checkReport_11 : decode cX4_checkReport 11 = .ok (.ifCond .ne 13, 3) := by decide +kernel
theorem dX4_checkReport_14 : decode cX4_checkReport 14 = .ok (.new 162, 3) := by decide +kernel
theorem dX4_checkReport_17 : decode cX4_checkReport 17 = .ok (.dup, 1) := by decide +kernel
theorem dX4_checkReport_18 : decode cX4_checkReport 18 = .ok (.ldc 164, 2) := by decide +kernel
theorem dX4_checkReport_20 : decode cX4_checkReport 20 = .ok (.invokespecial 166, 3) := by decide +kernel
theorem dX4_checkReport_23 : decode cX4_checkReport 23 = .ok (.athrow, 1) := by decide +kernel
theorem dX4_checkReport_24 : decode cX4_checkReport 24 = .ok (.return_, 1) := by decide +kernel
theorem dX4_isOf_0 : decode cX4_isOf 0 = .ok (.aload_n 0, 1) := by decide +kernel
theorem dX4_isOf_1 : decode cX4_isOf 1 = .ok (.getfield 33, 3) := by decide +kernel
theorem dX4_isOf_4 : decode cX4_isOf 4 = .ok (.getfield 133, 3) := by decide +kernel
theorem dX4_isOf_7 : decode cX4_isOf 7 = .ok (.iload_n 1, 1) := by decide +kernel
theorem dX4_isOf_8 : decode cX4_isOf 8 = .ok (.iaload, 1) := by decide +kernel
theorem dX4_isOf_9 : decode cX4_isOf 9 = .ok (.iload_n 2, 1) := by decide +kernel
theorem dX4_isOf_10 : decode cX4_isOf 10 = .ok (.if_icmp .ne 20, 3) := by decide +kernel
theorem dX4_isOf_13 : decode cX4_isOf 13 = .ok (.aload_n 0, 1) := by decide +kernel
theorem dX4_isOf_14 : decode cX4_isOf 14 = .ok (.getfield 26, 3) := by decide +kernel
theorem dX4_isOf_17 : decode cX4_isOf 17 = .ok (.getfield 167, 3) := by decide +kernel
theorem dX4_isOf_20 : decode cX4_isOf 20 = .ok (.iload_n 1, 1) := by decide +kernel
theorem dX4_isOf_21 : decode cX4_isOf 21 = .ok (.iaload, 1) := by decide +kernel
theorem dX4_isOf_22 : decode cX4_isOf 22 = .ok (.iload_n 3, 1) := by decide +kernel
theorem dX4_isOf_23 : decode cX4_isOf 23 = .ok (.if_icmp .ne 7, 3) := by decide +kernel
theorem dX4_isOf_26 : decode cX4_isOf 26 = .ok (.iconst 1, 1) := by decide +kernel
theorem dX4_isOf_27 : decode cX4_isOf 27 = .ok (.goto 4, 3) := by decide +kernel
theorem dX4_isOf_30 : decode cX4_isOf 30 = .ok (.iconst 0, 1) := by decide +kernel
theorem dX4_isOf_31 : decode cX4_isOf 31 = .ok (.ireturn, 1) := by decide +kernel
set_option maxRecDepth 20000 in
theorem ggX4_countIn_X4_isOf : GoodIn wsX4_countIn wsX4_isOf := goodIn_r _ [6, 7, 1, 8, 9, 10, 11, 12, 13, 19, 20, 21, 22, 14, 15, 16, 17, 18] (by decide +kernel) (by decide +kernel)
set_option maxRecDepth 20000 in
theorem gX4_countIn_X4_isOf : GoodIn wsX4_countIn (wsV RX4 170 RX4 yX4_isOf wsX4_isOf) := goodIn_app (goodIn_of _ (by decide +kernel)) ggX4_countIn_X4_isOf
theorem dX4_countIn_0 : decode cX4_countIn 0 = .ok (.iconst 0, 1) := by decide +kernel
theorem dX4_countIn_1 : decode cX4_countIn 1 = .ok (.istore_n 3, 1) := by decide +kernel
theorem dX4_countIn_2 : decode cX4_countIn 2 = .ok (.iconst 0, 1) := by decide +kernel
theorem dX4_countIn_3 : decode cX4_countIn 3 = .ok (.istore 4, 2) := by decide +kernel
theorem dX4_countIn_5 : decode cX4_countIn 5 = .ok (.iload 4, 2) := by decide +kernel
theorem dX4_countIn_7 : decode cX4_countIn 7 = .ok (.aload_n 0, 1) := by decide +kernel
theorem dX4_countIn_8 : decode cX4_countIn 8 = .ok (.getfield 26, 3) := by decide +kernel
theorem dX4_countIn_11 : decode cX4_countIn 11 = .ok (.getfield 103, 3) := by decide +kernel
theorem dX4_countIn_14 : decode cX4_countIn 14 = .ok (.if_icmp .ge 23, 3) := by decide +kernel
theorem dX4_countIn_17 : decode cX4_countIn 17 = .ok (.aload_n 0, 1) := by decide +kernel
theorem dX4_countIn_18 : decode cX4_countIn 18 = .ok (.iload 4, 2) := by decide +kernel
theorem dX4_countIn_20 : decode cX4_countIn 20 = .ok (.iload_n 1, 1) := by decide +kernel
theorem dX4_countIn_21 : decode cX4_countIn 21 = .ok (.iload_n 2, 1) := by decide +kernel
theorem dX4_countIn_22 : decode cX4_countIn 22 = .ok (.invokevirtual 170, 3) := by decide +kernel
theorem dX4_countIn_25 : decode cX4_countIn 25 = .ok (.ifCond .eq 6, 3) := by decide +kernel
theorem dX4_countIn_28 : decode cX4_countIn 28 = .ok (.iinc 3 1, 3) := by decide +kernel
theorem dX4_countIn_31 : decode cX4_countIn 31 = .ok (.iinc 4 1, 3) := by decide +kernel
theorem dX4_countIn_34 : decode cX4_countIn 34 = .ok (.goto (-29), 3) := by decide +kernel
theorem dX4_countIn_37 : decode cX4_countIn 37 = .ok (.iload_n 3, 1) := by decide +kernel
theorem dX4_countIn_38 : decode cX4_countIn 38 = .ok (.ireturn, 1) := by decide +kernel
set_option maxRecDepth 20000 in
theorem ggX4_rateOf_X4_countIn : GoodIn wsX4_rateOf wsX4_countIn := goodIn_r _ [6, 7, 8, 9, 10, 5, 11, 12, 13, 14, 15, 16, 17, 18, 19, 20, 21, 22, 23, 24, 25, 26, 27] (by decide +kernel) (by decide +kernel)
set_option maxRecDepth 20000 in
theorem gX4_rateOf_X4_countIn : GoodIn wsX4_rateOf (wsV RX4 139 RX4 yX4_countIn wsX4_countIn) := goodIn_app (goodIn_of _ (by decide +kernel)) ggX4_rateOf_X4_countIn
theorem dX4_rateOf_0 : decode cX4_rateOf 0 = .ok (.aload_n 0, 1) := by decide +kernel
theorem dX4_rateOf_1 : decode cX4_rateOf 1 = .ok (.getfield 37, 3) := by decide +kernel
theorem dX4_rateOf_4 : decode cX4_rateOf 4 = .ok (.iload_n 2, 1) := by decide +kernel
theorem dX4_rateOf_5 : decode cX4_rateOf 5 = .ok (.iaload, 1) := by decide +kernel
theorem dX4_rateOf_6 : decode cX4_rateOf 6 = .ok (.istore_n 3, 1) := by decide +kernel
theorem dX4_rateOf_7 : decode cX4_rateOf 7 = .ok (.iload_n 3, 1) := by decide +kernel
theorem dX4_rateOf_8 : decode cX4_rateOf 8 = .ok (.ifCond .le 18, 3) := by decide +kernel
theorem dX4_rateOf_11 : decode cX4_rateOf 11 = .ok (.sipush 10000, 3) := by decide +kernel
theorem dX4_rateOf_14 : decode cX4_rateOf 14 = .ok (.aload_n 0, 1) := by decide +kernel
theorem dX4_rateOf_15 : decode cX4_rateOf 15 = .ok (.iload_n 1, 1) := by decide +kernel
theorem dX4_rateOf_16 : decode cX4_rateOf 16 = .ok (.iload_n 2, 1) := by decide +kernel
theorem dX4_rateOf_17 : decode cX4_rateOf 17 = .ok (.invokevirtual 139, 3) := by decide +kernel
theorem dX4_rateOf_20 : decode cX4_rateOf 20 = .ok (.imul, 1) := by decide +kernel
theorem dX4_rateOf_21 : decode cX4_rateOf 21 = .ok (.iload_n 3, 1) := by decide +kernel
theorem dX4_rateOf_22 : decode cX4_rateOf 22 = .ok (.idiv, 1) := by decide +kernel
theorem dX4_rateOf_23 : decode cX4_rateOf 23 = .ok (.goto 4, 3) := by decide +kernel
theorem dX4_rateOf_26 : decode cX4_rateOf 26 = .ok (.iconst 0, 1) := by decide +kernel
theorem dX4_rateOf_27 : decode cX4_rateOf 27 = .ok (.ireturn, 1) := by decide +kernel
set_option maxRecDepth 20000 in
theorem ggX4_usersOf_X4_isOf : GoodIn wsX4_usersOf wsX4_isOf := goodIn_r _ [6, 7, 1, 15, 16, 17, 18, 19, 20, 26, 27, 28, 29, 21, 22, 23, 24, 25] (by decide +kernel) (by decide +kernel)
set_option maxRecDepth 20000 in
theorem gX4_usersOf_X4_isOf : GoodIn wsX4_usersOf (wsV RX4 170 RX4 yX4_isOf wsX4_isOf) := goodIn_app (goodIn_of _ (by decide +kernel)) ggX4_usersOf_X4_isOf
set_option maxRecDepth 20000 in
theorem ggX4_usersOf_J6_bitCount_0f7a4 : GoodIn wsX4_usersOf wsJ6_bitCount_0f7a4 := goodIn_r _ [11, 12, 13, 14] (by decide +kernel) (by decide +kernel)
set_option maxRecDepth 20000 in
theorem gX4_usersOf_J6_bitCount_0f7a4 : GoodIn wsX4_usersOf (va_wsS RX4 176 yJ6_bitCount_0f7a4 wsJ6_bitCount_0f7a4) := goodIn_app (goodIn_of _ (by decide +kernel)) ggX4_usersOf_J6_bitCount_0f7a4
theorem dX4_usersOf_0 : decode cX4_usersOf 0 = .ok (.iconst 0, 1) := by decide +kernel
theorem dX4_usersOf_1 : decode cX4_usersOf 1 = .ok (.istore_n 3, 1) := by decide +kernel
theorem dX4_usersOf_2 : decode cX4_usersOf 2 = .ok (.iconst 0, 1) := by decide +kernel
theorem dX4_usersOf_3 : decode cX4_usersOf 3 = .ok (.istore 4, 2) := by decide +kernel
theorem dX4_usersOf_5 : decode cX4_usersOf 5 = .ok (.iload 4, 2) := by decide +kernel
theorem dX4_usersOf_7 : decode cX4_usersOf 7 = .ok (.aload_n 0, 1) := by decide +kernel
theorem dX4_usersOf_8 : decode cX4_usersOf 8 = .ok (.getfield 26, 3) := by decide +kernel
theorem dX4_usersOf_11 : decode cX4_usersOf 11 = .ok (.getfield 103, 3) := by decide +kernel
theorem dX4_usersOf_14 : decode cX4_usersOf 14 = .ok (.if_icmp .ge 35, 3) := by decide +kernel
theorem dX4_usersOf_17 : decode cX4_usersOf 17 = .ok (.aload_n 0, 1) := by decide +kernel
theorem dX4_usersOf_18 : decode cX4_usersOf 18 = .ok (.iload 4, 2) := by decide +kernel
theorem dX4_usersOf_20 : decode cX4_usersOf 20 = .ok (.iload_n 1, 1) := by decide +kernel
theorem dX4_usersOf_21 : decode cX4_usersOf 21 = .ok (.iload_n 2, 1) := by decide +kernel
theorem dX4_usersOf_22 : decode cX4_usersOf 22 = .ok (.invokevirtual 170, 3) := by decide +kernel
theorem dX4_usersOf_25 : decode cX4_usersOf 25 = .ok (.ifCond .eq 18, 3) := by decide +kernel
theorem dX4_usersOf_28 : decode cX4_usersOf 28 = .ok (.iload_n 3, 1) := by decide +kernel
theorem dX4_usersOf_29 : decode cX4_usersOf 29 = .ok (.iconst 1, 1) := by decide +kernel
theorem dX4_usersOf_30 : decode cX4_usersOf 30 = .ok (.aload_n 0, 1) := by decide +kernel
theorem dX4_usersOf_31 : decode cX4_usersOf 31 = .ok (.getfield 26, 3) := by decide +kernel
theorem dX4_usersOf_34 : decode cX4_usersOf 34 = .ok (.getfield 173, 3) := by decide +kernel
theorem dX4_usersOf_37 : decode cX4_usersOf 37 = .ok (.iload 4, 2) := by decide +kernel
theorem dX4_usersOf_39 : decode cX4_usersOf 39 = .ok (.iaload, 1) := by decide +kernel
theorem dX4_usersOf_40 : decode cX4_usersOf 40 = .ok (.ishl, 1) := by decide +kernel
theorem dX4_usersOf_41 : decode cX4_usersOf 41 = .ok (.ior, 1) := by decide +kernel
theorem dX4_usersOf_42 : decode cX4_usersOf 42 = .ok (.istore_n 3, 1) := by decide +kernel
theorem dX4_usersOf_43 : decode cX4_usersOf 43 = .ok (.iinc 4 1, 3) := by decide +kernel
theorem dX4_usersOf_46 : decode cX4_usersOf 46 = .ok (.goto (-41), 3) := by decide +kernel
theorem dX4_usersOf_49 : decode cX4_usersOf 49 = .ok (.iload_n 3, 1) := by decide +kernel
theorem dX4_usersOf_50 : decode cX4_usersOf 50 = .ok (.invokestatic 176, 3) := by decide +kernel
theorem dX4_usersOf_53 : decode cX4_usersOf 53 = .ok (.ireturn, 1) := by decide +kernel
set_option maxRecDepth 20000 in
theorem ggX4_greatestRateBefore_X4_rateOf : GoodIn wsX4_greatestRateBefore wsX4_rateOf := goodIn_r _ [9, 10, 11, 12, 13, 8, 14, 15, 16, 17, 18, 19, 20, 21, 22, 23, 24, 25, 26, 27, 28, 29, 30, 31, 32, 33, 34, 35] (by decide +kernel) (by decide +kernel)
set_option maxRecDepth 20000 in
theorem gX4_greatestRateBefore_X4_rateOf : GoodIn wsX4_greatestRateBefore (wsV RX4 143 RX4 yX4_rateOf wsX4_rateOf) := goodIn_app (goodIn_of _ (by decide +kernel)) ggX4_greatestRateBefore_X4_rateOf
theorem dX4_greatestRateBefore_0 : decode cX4_greatestRateBefore 0 = .ok (.iconst 0, 1) := by decide +kernel
theorem dX4_greatestRateBefore_1 : decode cX4_greatestRateBefore 1 = .ok (.istore_n 3, 1) := by decide +kernel
theorem dX4_greatestRateBefore_2 : decode cX4_greatestRateBefore 2 = .ok (.iconst 0, 1) := by decide +kernel
theorem dX4_greatestRateBefore_3 : decode cX4_greatestRateBefore 3 = .ok (.istore 4, 2) := by decide +kernel
theorem dX4_greatestRateBefore_5 : decode cX4_greatestRateBefore 5 = .ok (.iload 4, 2) := by decide +kernel
theorem dX4_greatestRateBefore_7 : decode cX4_greatestRateBefore 7 = .ok (.iload_n 2, 1) := by decide +kernel
theorem dX4_greatestRateBefore_8 : decode cX4_greatestRateBefore 8 = .ok (.if_icmp .ge 21, 3) := by decide +kernel
theorem dX4_greatestRateBefore_11 : decode cX4_greatestRateBefore 11 = .ok (.iload_n 3, 1) := by decide +kernel
theorem dX4_greatestRateBefore_12 : decode cX4_greatestRateBefore 12 = .ok (.aload_n 0, 1) := by decide +kernel
theorem dX4_greatestRateBefore_13 : decode cX4_greatestRateBefore 13 = .ok (.iload_n 1, 1) := by decide +kernel
theorem dX4_greatestRateBefore_14 : decode cX4_greatestRateBefore 14 = .ok (.iload 4, 2) := by decide +kernel
theorem dX4_greatestRateBefore_16 : decode cX4_greatestRateBefore 16 = .ok (.invokevirtual 143, 3) := by decide +kernel
theorem dX4_greatestRateBefore_19 : decode cX4_greatestRateBefore 19 = .ok (.invokestatic 182, 3) := by decide +kernel
theorem dX4_greatestRateBefore_22 : decode cX4_greatestRateBefore 22 = .ok (.istore_n 3, 1) := by decide +kernel
theorem dX4_greatestRateBefore_23 : decode cX4_greatestRateBefore 23 = .ok (.iinc 4 1, 3) := by decide +kernel
theorem dX4_greatestRateBefore_26 : decode cX4_greatestRateBefore 26 = .ok (.goto (-21), 3) := by decide +kernel
theorem dX4_greatestRateBefore_29 : decode cX4_greatestRateBefore 29 = .ok (.iload_n 3, 1) := by decide +kernel
theorem dX4_greatestRateBefore_30 : decode cX4_greatestRateBefore 30 = .ok (.ireturn, 1) := by decide +kernel
end
section
theorem dJ6_bitCount_0f7a4_0 : decode cJ6_bitCount_0f7a4 0 = .ok (.iload_n 0, 1) := by decide +kernel
theorem dJ6_bitCount_0f7a4_1 : decode cJ6_bitCount_0f7a4 1 = .ok (.iload_n 0, 1) := by decide +kernel
theorem dJ6_bitCount_0f7a4_2 : decode cJ6_bitCount_0f7a4 2 = .ok (.iconst 1, 1) := by decide +kernel
theorem dJ6_bitCount_0f7a4_3 : decode cJ6_bitCount_0f7a4 3 = .ok (.iushr, 1) := by decide +kernel
theorem dJ6_bitCount_0f7a4_4 : decode cJ6_bitCount_0f7a4 4 = .ok (.ldc_w 265, 3) := by decide +kernel
theorem dJ6_bitCount_0f7a4_7 : decode cJ6_bitCount_0f7a4 7 = .ok (.iand, 1) := by decide +kernel
theorem dJ6_bitCount_0f7a4_8 : decode cJ6_bitCount_0f7a4 8 = .ok (.isub, 1) := by decide +kernel
theorem dJ6_bitCount_0f7a4_9 : decode cJ6_bitCount_0f7a4 9 = .ok (.istore_n 0, 1) := by decide +kernel
theorem dJ6_bitCount_0f7a4_10 : decode cJ6_bitCount_0f7a4 10 = .ok (.iload_n 0, 1) := by decide +kernel
theorem dJ6_bitCount_0f7a4_11 : decode cJ6_bitCount_0f7a4 11 = .ok (.ldc_w 266, 3) := by decide +kernel
theorem dJ6_bitCount_0f7a4_14 : decode cJ6_bitCount_0f7a4 14 = .ok (.iand, 1) := by decide +kernel
theorem dJ6_bitCount_0f7a4_15 : decode cJ6_bitCount_0f7a4 15 = .ok (.iload_n 0, 1) := by decide +kernel
theorem dJ6_bitCount_0f7a4_16 : decode cJ6_bitCount_0f7a4 16 = .ok (.iconst 2, 1) := by decide +kernel
theorem dJ6_bitCount_0f7a4_17 : decode cJ6_bitCount_0f7a4 17 = .ok (.iushr, 1) := by decide +kernel
theorem dJ6_bitCount_0f7a4_18 : decode cJ6_bitCount_0f7a4 18 = .ok (.ldc_w 266, 3) := by decide +kernel
theorem dJ6_bitCount_0f7a4_21 : decode cJ6_bitCount_0f7a4 21 = .ok (.iand, 1) := by decide +kernel
theorem dJ6_bitCount_0f7a4_22 : decode cJ6_bitCount_0f7a4 22 = .ok (.iadd, 1) := by decide +kernel
theorem dJ6_bitCount_0f7a4_23 : decode cJ6_bitCount_0f7a4 23 = .ok (.istore_n 0, 1) := by decide +kernel
theorem dJ6_bitCount_0f7a4_24 : decode cJ6_bitCount_0f7a4 24 = .ok (.iload_n 0, 1) := by decide +kernel
theorem dJ6_bitCount_0f7a4_25 : decode cJ6_bitCount_0f7a4 25 = .ok (.iload_n 0, 1) := by decide +kernel
theorem dJ6_bitCount_0f7a4_26 : decode cJ6_bitCount_0f7a4 26 = .ok (.iconst 4, 1) := by decide +kernel
theorem dJ6_bitCount_0f7a4_27 : decode cJ6_bitCount_0f7a4 27 = .ok (.iushr, 1) := by decide +kernel
theorem dJ6_bitCount_0f7a4_28 : decode cJ6_bitCount_0f7a4 28 = .ok (.iadd, 1) := by decide +kernel
theorem dJ6_bitCount_0f7a4_29 : decode cJ6_bitCount_0f7a4 29 = .ok (.ldc_w 267, 3) := by decide +kernel
theorem dJ6_bitCount_0f7a4_32 : decode cJ6_bitCount_0f7a4 32 = .ok (.iand, 1) := by decide +kernel
theorem dJ6_bitCount_0f7a4_33 : decode cJ6_bitCount_0f7a4 33 = .ok (.istore_n 0, 1) := by decide +kernel
theorem dJ6_bitCount_0f7a4_34 : decode cJ6_bitCount_0f7a4 34 = .ok (.iload_n 0, 1) := by decide +kernel
theorem dJ6_bitCount_0f7a4_35 : decode cJ6_bitCount_0f7a4 35 = .ok (.iload_n 0, 1) := by decide +kernel
theorem dJ6_bitCount_0f7a4_36 : decode cJ6_bitCount_0f7a4 36 = .ok (.bipush 8, 2) := by decide +kernel
theorem dJ6_bitCount_0f7a4_38 : decode cJ6_bitCount_0f7a4 38 = .ok (.iushr, 1) := by decide +kernel
theorem dJ6_bitCount_0f7a4_39 : decode cJ6_bitCount_0f7a4 39 = .ok (.iadd, 1) := by decide +kernel
theorem dJ6_bitCount_0f7a4_40 : decode cJ6_bitCount_0f7a4 40 = .ok (.istore_n 0, 1) := by decide +kernel
theorem dJ6_bitCount_0f7a4_41 : decode cJ6_bitCount_0f7a4 41 = .ok (.iload_n 0, 1) := by decide +kernel
theorem dJ6_bitCount_0f7a4_42 : decode cJ6_bitCount_0f7a4 42 = .ok (.iload_n 0, 1) := by decide +kernel
theorem dJ6_bitCount_0f7a4_43 : decode cJ6_bitCount_0f7a4 43 = .ok (.bipush 16, 2) := by decide +kernel
theorem dJ6_bitCount_0f7a4_45 : decode cJ6_bitCount_0f7a4 45 = .ok (.iushr, 1) := by decide +kernel
theorem dJ6_bitCount_0f7a4_46 : decode cJ6_bitCount_0f7a4 46 = .ok (.iadd, 1) := by decide +kernel
theorem dJ6_bitCount_0f7a4_47 : decode cJ6_bitCount_0f7a4 47 = .ok (.istore_n 0, 1) := by decide +kernel
theorem dJ6_bitCount_0f7a4_48 : decode cJ6_bitCount_0f7a4 48 = .ok (.iload_n 0, 1) := by decide +kernel
theorem dJ6_bitCount_0f7a4_49 : decode cJ6_bitCount_0f7a4 49 = .ok (.bipush 63, 2) := by decide +kernel
theorem dJ6_bitCount_0f7a4_51 : decode cJ6_bitCount_0f7a4 51 = .ok (.iand, 1) := by decide +kernel
theorem dJ6_bitCount_0f7a4_52 : decode cJ6_bitCount_0f7a4 52 = .ok (.ireturn, 1) := by decide +kernel
theorem dJ9_max_7cf53_0 : decode cJ9_max_7cf53 0 = .ok (.iload_n 0, 1) := by decide +kernel
theorem dJ9_max_7cf53_1 : decode cJ9_max_7cf53 1 = .ok (.iload_n 1, 1) := by decide +kernel
theorem dJ9_max_7cf53_2 : decode cJ9_max_7cf53 2 = .ok (.if_icmp .lt 7, 3) := by decide +kernel
theorem dJ9_max_7cf53_5 : decode cJ9_max_7cf53 5 = .ok (.iload_n 0, 1) := by decide +kernel
theorem dJ9_max_7cf53_6 : decode cJ9_max_7cf53 6 = .ok (.goto 4, 3) := by decide +kernel
theorem dJ9_max_7cf53_9 : decode cJ9_max_7cf53 9 = .ok (.iload_n 1, 1) := by decide +kernel
theorem dJ9_max_7cf53_10 : decode cJ9_max_7cf53 10 = .ok (.ireturn, 1) := by decide +kernel
end
section
/-! ===== the heap in my words: a value tau tag row place : Int32 for every int field and array; tags 0 to 25 the class, 30 to 39 the law's ten arrays q m f t o v u a y k ===== -/
abbrev xG : Type := va_G × ClassId × ClassId × ClassId × ClassId
abbrev xS : Type := Nat → Nat → Nat → Int32
abbrev xAd : Type := Nat → Nat → Nat
abbrev xNL : Type := List (Nat × Nat)
def xT (g : xG) : List (ClassId × FieldType) := [(g.2.1, .int), (g.2.2.1, .boolean), (g.2.2.2.1, .array .int)]
def xIa (g : xG) (n : Nat) (r : Nat → Int32) : va_E := .inl (g.2.1, n, .inl r)
def xZa (g : xG) (n : Nat) (r : Nat → Int32) : va_E := .inl (g.2.2.1, n, .inl r)
def xRa (g : xG) (n : Nat) (f : Nat → Nat) : va_E := .inl (g.2.2.2.1, n, .inr (.inr (.inr (.inr (fun j => some (f j))))))
def xB (g : xG) (a : xAd) (t : Nat) (r : Nat → Int32) : va_E := match t with
  | 0 => .inr (4, [.ref (a 1 0), .ref (a 2 0), .ref (a 3 0), .ref (a 4 0), .ref (a 5 0), .int (r 0)])
  | 1 => .inr (0, [.ref (a 6 0), .ref (a 7 0), .ref (a 8 0), .ref (a 9 0)])
  | 2 => .inr (3, [.ref (a 10 0), .ref (a 11 0), .int (r 0)])
  | 3 => .inr (2, [.int (r 0), .ref (a 12 0), .ref (a 13 0), .ref (a 14 0), .ref (a 15 0)])
  | 4 => .inr (1, [.ref (a 16 0), .ref (a 17 0), .ref (a 18 0), .ref (a 19 0)])
  | 5 => xIa g 4 r
  | 6 => xIa g 4 r
  | 7 => xRa g 4 (a 20)
  | 8 => xRa g 4 (a 21)
  | 9 => xRa g 4 (a 22)
  | 10 => xZa g 30 r
  | 11 => xIa g 30 r
  | 12 => xIa g 60 r
  | 13 => xIa g 60 r
  | 14 => xRa g 60 (a 23)
  | 15 => xIa g 60 r
  | 16 => xRa g 60 (a 24)
  | 17 => xRa g 60 (a 25)
  | 18 => xIa g 60 r
  | 19 => xIa g 60 r
  | 20 => xIa g 30 r
  | 21 => xIa g 30 r
  | 22 => xIa g 30 r
  | 23 => xIa g 4 r
  | 24 => xIa g 4 r
  | 25 => xIa g 4 r
  | 30 => xIa g 3 r
  | 31 => xIa g 20 r
  | 32 => xIa g 24 r
  | 33 => xIa g 24 r
  | 34 => xIa g 24 r
  | 35 => xIa g 12 r
  | 36 => xIa g 12 r
  | 37 => xIa g 48 r
  | 38 => xIa g 12 r
  | 39 => xIa g 24 r
  | _ => xIa g 24 r
def xwf (f : Nat → (Nat → Int32) → va_E) (NL : xNL) (a : xAd) (σ : xS) : va_W := NL.map (fun n => (a n.1 n.2, f n.1 (σ n.1 n.2)))
abbrev xw (NL : xNL) (g : xG) (a : xAd) (σ : xS) : va_W := xwf (xB g a) NL a σ
def upR (σ : xS) (t i : Nat) (r : Nat → Int32) : xS := fun t' i' => if t' = t ∧ i' = i then r else σ t' i'
def up3 (σ : xS) (t i j : Nat) (v : Int32) : xS := upR σ t i (upd (σ t i) j v)
theorem upR_self {σ : xS} {t i : Nat} {r : Nat → Int32} : upR σ t i r t i = r := by simp [upR]
theorem upR_ne {σ : xS} {t i t' i' : Nat} {r : Nat → Int32} (h : ¬ (t' = t ∧ i' = i)) : upR σ t i r t' i' = σ t' i' := by simp [upR, h]
theorem up3_self {σ : xS} {t i j : Nat} {v : Int32} : up3 σ t i j v t i j = v := by simp [up3, upR, upd]
theorem up3_ne {σ : xS} {t i j t' i' j' : Nat} {v : Int32} (h : ¬ (t' = t ∧ i' = i ∧ j' = j)) : up3 σ t i j v t' i' j' = σ t' i' j' := by
  unfold up3 upR
  by_cases h1 : t' = t ∧ i' = i
  · have h2 : j' ≠ j := fun e => h ⟨h1.1, h1.2, e⟩
    obtain ⟨rfl, rfl⟩ := h1
    simp [upd, h2]
  · simp [h1]
theorem up3_at (σ : xS) (t i j : Nat) (v : Int32) (t' i' j' : Nat) : up3 σ t i j v t' i' j' = if t' = t ∧ i' = i ∧ j' = j then v else σ t' i' j' := by
  by_cases h : t' = t ∧ i' = i ∧ j' = j
  · obtain ⟨rfl, rfl, rfl⟩ := h
    simp [up3_self]
  · rw [up3_ne h, if_neg h]
/-- the addresses are apart -/
def xDj (NL : xNL) (a : xAd) : Prop := ∀ (i j : Nat) (p q : Nat × Nat), NL[i]? = some p → NL[j]? = some q → a p.1 p.2 = a q.1 q.2 → i = j
def xA (NL : xNL) (a : xAd) (sz : Nat) : Nat → Prop := fun q => (∃ n ∈ NL, a n.1 n.2 = q) ∨ sz ≤ q
section XWF
variable {f : Nat → (Nat → Int32) → va_E} {NL NL' : xNL} {a : xAd} {σ τ : xS} {cl : List vw_C} {D : va_G} {H H1 : Heap}
theorem xwf_at {k : Nat} {n : Nat × Nat} (h : NL[k]? = some n) : (xwf f NL a σ)[k]? = some (a n.1 n.2, f n.1 (σ n.1 n.2)) := by
  unfold xwf
  rw [List.getElem?_map, h]
  rfl
theorem xwf_of {k : Nat} {q : Nat × va_E} (h : (xwf f NL a σ)[k]? = some q) : ∃ n, NL[k]? = some n ∧ q = (a n.1 n.2, f n.1 (σ n.1 n.2)) := by
  unfold xwf at h
  rw [List.getElem?_map] at h
  cases hn : NL[k]? with
  | none => rw [hn] at h; cases h
  | some n => rw [hn] at h; cases h; exact ⟨n, rfl, rfl⟩
theorem xwf_get {t i : Nat} (f : Nat → (Nat → Int32) → va_E) (a : xAd) (σ : xS) (h : (t, i) ∈ NL) : ∃ k : Nat, NL[k]? = some (t, i) ∧ (xwf f NL a σ)[k]? = some (a t i, f t (σ t i)) := by
  obtain ⟨k, hk⟩ := List.getElem?_of_mem h
  exact ⟨k, hk, xwf_at hk⟩
theorem xwf_D {A : Nat → Prop} (hj : xDj NL a) (hA : ∀ n ∈ NL, A (a n.1 n.2)) : va_D A (xwf f NL a σ) := by
  refine ⟨fun i j p q hp hq e => ?_, fun k q hk => ?_⟩
  · obtain ⟨n, h1, rfl⟩ := xwf_of hp
    obtain ⟨n', h2, rfl⟩ := xwf_of hq
    exact hj i j n n' h1 h2 e
  · obtain ⟨n, h1, rfl⟩ := xwf_of hk
    exact hA n (List.mem_of_getElem? h1)
theorem xwf_set {k t i : Nat} {r : Nat → Int32} (hj : xDj NL a) (hk : NL[k]? = some (t, i)) : (xwf f NL a σ).set k (a t i, f t r) = xwf f NL a (upR σ t i r) := by
  apply List.ext_getElem?
  intro k'
  by_cases hkk : k' = k
  · subst hkk
    have h1 : (xwf f NL a σ)[k']? = some (a t i, f t (σ t i)) := xwf_at hk
    have hl : k' < (xwf f NL a σ).length := (List.getElem?_eq_some_iff.mp h1).1
    have h2 : (xwf f NL a (upR σ t i r))[k']? = some (a t i, f t (upR σ t i r t i)) := xwf_at hk
    rw [List.getElem?_set_self hl, h2, upR_self]
  · rw [List.getElem?_set_ne (Ne.symm hkk)]
    cases hn : NL[k']? with
    | none =>
      unfold xwf
      rw [List.getElem?_map, List.getElem?_map, hn]
      rfl
    | some n =>
      rw [xwf_at hn, xwf_at hn]
      have hne : ¬ (n.1 = t ∧ n.2 = i) := fun e => hkk (by
        obtain ⟨e1, e2⟩ := e
        exact hj k' k n (t, i) hn hk (by rw [e1, e2]))
      rw [upR_ne hne]
theorem xwf_sub (hP : va_P D cl (xwf f NL a σ) H) (h : ∀ n ∈ NL', n ∈ NL) : va_P D cl (xwf f NL' a σ) H := by
  intro k q hk
  obtain ⟨n, h1, rfl⟩ := xwf_of hk
  obtain ⟨k', -, h3⟩ := xwf_get (t := n.1) (i := n.2) f a σ (h n (List.mem_of_getElem? h1))
  exact hP k' _ h3
theorem xwf_congr (h : ∀ n ∈ NL, σ n.1 n.2 = τ n.1 n.2) : xwf f NL a σ = xwf f NL a τ := by
  unfold xwf
  apply List.map_congr_left
  intro n hn
  rw [h n hn]
theorem xwf_kept (hP : va_P D cl (xwf f NL a σ) H) (hk : ∀ q : Nat, q < H.size → ¬ xA NL' a H.size q → H1[q]? = H[q]?) (hd : ∀ n ∈ NL, ∀ n' ∈ NL', a n.1 n.2 ≠ a n'.1 n'.2) : va_P D cl (xwf f NL a σ) H1 := by
  refine hP.kept (fun k q hq => ?_)
  have hl := (hP k q hq).lt
  obtain ⟨n, h1, rfl⟩ := xwf_of hq
  refine hk _ hl (fun h => ?_)
  rcases h with ⟨n', h2, e⟩ | h
  · exact hd n (List.mem_of_getElem? h1) n' h2 e.symm
  · have : a n.1 n.2 < H.size := hl
    omega
end XWF
/-- the words of nest mates' fields and methods: premises of every contract -/
def xNs : List Cond := [.fieldLinkNest RX4 82 RX0 "counts" "[I" RX4, .fieldLinkNest RX4 85 RX3 "ignored" "[Z" RX4, .fieldLinkNest RX1 65 RX3 "ignored" "[Z" RX4, .fieldLinkNest RX4 94 RX3 "standsFor" "[I" RX4, .fieldLinkNest RX4 97 RX3 "depth" "I" RX4, .fieldLinkNest RX1 60 RX3 "depth" "I" RX4, .fieldLinkNest RX1 26 RX2 "count" "I" RX4, .fieldLinkNest RX4 103 RX2 "count" "I" RX4, .fieldLinkNest RX1 32 RX2 "versions" "[I" RX4, .fieldLinkNest RX4 167 RX2 "versions" "[I" RX4, .fieldLinkNest RX4 173 RX2 "reporters" "[I" RX4, .fieldLinkNest RX1 39 RX2 "stacks" "[[I" RX4, .fieldLinkNest RX4 149 RX2 "fixedFrom" "[I" RX4, .fieldLinkNest RX4 126 RX1 "frames" "[[I" RX4, .fieldLinkNest RX4 130 RX1 "mattering" "[[I" RX4, .fieldLinkNest RX4 133 RX1 "names" "[I" RX4]
def xMs : List (String × Nat × MethodName) := [(RX4, 136, yX1_isName), (RX4, 53, yX0_isFull), (RX4, 64, yX0_overlaps), (RX4, 70, yX0_add), (RX4, 74, yX1_readStacksOf), (RX1, 42, yX0_functionAt), (RX4, 78, yX1_sortAll), (RX1, 69, yX3_inTheEnd), (RX4, 89, yX3_leadsTo), (RX4, 108, yX2_add), (RX4, 111, yX2_setStack), (RX4, 115, yX1_readStack), (RX4, 118, yX1_sort), (RX4, 9, yX0_init), (RX4, 18, yX3_init), (RX4, 25, yX2_init), (RX4, 32, yX1_init)]
def xN (U : State) : Prop := (∀ w ∈ xNs, va_Nw w U) ∧ ∀ q ∈ xMs, va_Nw (.methodLinkNest q.1 q.2.1 q.2.2 RX4) U
theorem xN.warm {s U : State} (hW : s.WarmedH U.vm) (h : xN s) : xN U := by
  refine ⟨?_, fun q hq => va_Nw.warmM hW (h.2 q hq)⟩
  unfold xNs
  simp only [List.forall_mem_cons]
  have h1 := h.1
  unfold xNs at h1
  simp only [List.forall_mem_cons] at h1
  obtain ⟨a1, a2, a3, a4, a5, a6, a7, a8, a9, b1, b2, b3, b4, b5, b6, b7, -⟩ := h1
  exact ⟨va_Nw.warmF hW a1, va_Nw.warmF hW a2, va_Nw.warmF hW a3, va_Nw.warmF hW a4, va_Nw.warmF hW a5, va_Nw.warmF hW a6, va_Nw.warmF hW a7, va_Nw.warmF hW a8, va_Nw.warmF hW a9, va_Nw.warmF hW b1, va_Nw.warmF hW b2, va_Nw.warmF hW b3, va_Nw.warmF hW b4, va_Nw.warmF hW b5, va_Nw.warmF hW b6, va_Nw.warmF hW b7, fun _ h => nomatch h⟩
theorem xN.same {s U : State} (hv : s.vm = U.vm) (h : xN s) : xN U := by
  refine ⟨?_, fun q hq => va_Nw.same rfl hv (h.2 q hq)⟩
  unfold xNs
  simp only [List.forall_mem_cons]
  have h1 := h.1
  unfold xNs at h1
  simp only [List.forall_mem_cons] at h1
  obtain ⟨a1, a2, a3, a4, a5, a6, a7, a8, a9, b1, b2, b3, b4, b5, b6, b7, -⟩ := h1
  exact ⟨va_Nw.same rfl hv a1, va_Nw.same rfl hv a2, va_Nw.same rfl hv a3, va_Nw.same rfl hv a4, va_Nw.same rfl hv a5, va_Nw.same rfl hv a6, va_Nw.same rfl hv a7, va_Nw.same rfl hv a8, va_Nw.same rfl hv a9, va_Nw.same rfl hv b1, va_Nw.same rfl hv b2, va_Nw.same rfl hv b3, va_Nw.same rfl hv b4, va_Nw.same rfl hv b5, va_Nw.same rfl hv b6, va_Nw.same rfl hv b7, fun _ h => nomatch h⟩
/-- what a method is called in -/
def xPre (NL : xNL) (g : xG) (a : xAd) (σ : xS) (U : State) : Prop := va_P g.1 vwCl (xw NL g a σ) U.heap ∧ va_K g.1 vwCl (xT g) U ∧ xN U ∧ xDj NL a
/-- what stands through a method's body -/
def xC (p : Program) (s : State) (m : MethodId) (args : Array Value) (c : Code) (cc : ByteArray) (nL : Nat) (Ts : List Cond) (own : String) (NL : xNL) (g : xG) (a : xAd) (A : Nat → Prop) : Prop :=
  CallFix p m c cc nL s args Ts own ∧ va_K g.1 vwCl (xT g) s ∧ xN s ∧ xDj NL a ∧ (∀ n ∈ NL, A (a n.1 n.2)) ∧ ∀ q, s.heap.size ≤ q → A q
theorem xFB {As : List Value} {NL : xNL} {g : xG} {a : xAd} {σ : xS} : FrameBlind (va_Pc As (xPre NL g a σ)) := fun v U g' mk q => by
  obtain ⟨q0, q1, q2, q3, q4⟩ := q
  exact ⟨q0, q1, va_K.moved (u := U) (U := U.calling g' mk v) (Vm.Alike.refl U.vm) q2, xN.same (s := U) (U := U.calling g' mk v) rfl q3, q4⟩
theorem xFBs {As : List Value} {NL : xNL} {g : xG} {a : xAd} {σ : xS} {sz : Nat} : FrameBlind (va_Pc As (fun U => U.heap.size = sz ∧ xPre NL g a σ U)) := fun v U g' mk q => by
  obtain ⟨q0, q9, q1, q2, q3, q4⟩ := q
  exact ⟨q0, q9, q1, va_K.moved (u := U) (U := U.calling g' mk v) (Vm.Alike.refl U.vm) q2, xN.same (s := U) (U := U.calling g' mk v) rfl q3, q4⟩
end
section
section XROWS
variable {p : Program} {l : Launch} {e : Env} {R : Room} {s : State} {m : MethodId} {args : Array Value} {below : List Frame} {meth : Method} {c : Code} {H : Heap} {locs : List Loc} {cells slots : Nat} {Q : State → Prop}
variable {cc : ByteArray} {pc nL : Nat} {ls : Array Slot} {rest : List Value} {Ts : List Cond} {own : String} {NL : xNL} {g : xG} {a : xAd} {A : Nat → Prop} {σ : xS}
theorem xC.hx (C0 : xC p s m args c cc nL Ts own NL g a A) : p.tables.exec = Jvm.exec := C0.1.1
theorem xC.hb (C0 : xC p s m args c cc nL Ts own NL g a A) : c.code = cc := C0.1.2.1
theorem xC.hts (C0 : xC p s m args c cc nL Ts own NL g a A) : ∀ w ∈ Ts, w.before args s = true := C0.1.2.2.2.2
theorem xC.hK (C0 : xC p s m args c cc nL Ts own NL g a A) : va_K g.1 vwCl (xT g) s := C0.2.1
theorem xC.hD (C0 : xC p s m args c cc nL Ts own NL g a A) (σ : xS) : va_D A (xw NL g a σ) := xwf_D C0.2.2.2.1 C0.2.2.2.2.1
/-- a field is read -/
theorem x_get (C0 : xC p s m args c cc nL Ts own NL g a A) (hP : va_P g.1 vwCl (xw NL g a σ) H) (t : Nat) {i : Nat} (hm : (t, i) ∈ NL) {ci N : Nat} {T : u_T} {C : String} {fs : List Value} (he : xB g a t (σ t i) = .inr (ci, fs)) (hc : vwCl[ci]? = some (C, T, N)) (k : Nat) (hk : k < N) (hin : ∀ w ∈ u_ws C T N, w ∈ Ts) {index : Nat} (hlink : Cond.fieldLink own index C (T k).2.1 (T k).2.2.1 ∈ Ts) (hdecl : (T k).1 = C) {v : Value} (hv : fs[k]? = some v) (hdg : decode cc pc = .ok (.getfield index, 3))
    (kk : W p l e R s m args below meth c H locs cells slots Q (F0 m (pc + 3) ls (v :: rest))) : W p l e R s m args below meth c H locs cells slots Q (F0 m pc ls (.ref (a t i) :: rest)) := by
  obtain ⟨q0, -, h2⟩ := xwf_get (xB g a) a σ hm
  rw [he] at h2
  exact va_get C0.hx C0.hb C0.hts hin C0.1.2.2.2.1 C0.hK hP q0 h2 hc k hk (C0.hts _ hlink) (fun x h => by rw [hdecl] at h; exact h) hv hdg kk
theorem x_getN (C0 : xC p s m args c cc nL Ts own NL g a A) (hP : va_P g.1 vwCl (xw NL g a σ) H) (t : Nat) {i : Nat} (hm : (t, i) ∈ NL) {ci N : Nat} {T : u_T} {C : String} {fs : List Value} (he : xB g a t (σ t i) = .inr (ci, fs)) (hc : vwCl[ci]? = some (C, T, N)) (k : Nat) (hk : k < N) (hin : ∀ w ∈ u_ws C T N, w ∈ Ts) {index : Nat} (hlink : Cond.fieldLinkNest own index C (T k).2.1 (T k).2.2.1 RX4 ∈ xNs) (hdecl : (T k).1 = C) {v : Value} (hv : fs[k]? = some v) (hdg : decode cc pc = .ok (.getfield index, 3))
    (kk : W p l e R s m args below meth c H locs cells slots Q (F0 m (pc + 3) ls (v :: rest))) : W p l e R s m args below meth c H locs cells slots Q (F0 m pc ls (.ref (a t i) :: rest)) := by
  obtain ⟨q0, -, h2⟩ := xwf_get (xB g a) a σ hm
  rw [he] at h2
  exact va_getN C0.hx C0.hb C0.hts hin C0.1.2.2.2.1 C0.hK hP q0 h2 hc k hk (va_Nw.use rfl (C0.2.2.1.1 _ hlink)) (fun x h => by rw [hdecl] at h; exact h) hv hdg kk
/-- an int field is written -/
theorem x_put (C0 : xC p s m args c cc nL Ts own NL g a A) (hP : va_P g.1 vwCl (xw NL g a σ) H) (hS : va_S A s.heap H locs) (t : Nat) {i : Nat} (hm : (t, i) ∈ NL) {ci N : Nat} {T : u_T} {C : String} {fs : List Value} (he : xB g a t (σ t i) = .inr (ci, fs)) (hc : vwCl[ci]? = some (C, T, N)) (ty0 : Nat → FieldType) (hty : ∀ k, k < N → parseFieldDescriptor (T k).2.2.1 = some (ty0 k)) (hnm : ∀ a, a < N → ∀ b, b < N → a ≠ b → (T a).2.1 ≠ (T b).2.1) (k : Nat) (hk : k < N) (hin : ∀ w ∈ u_ws C T N, w ∈ Ts) {index : Nat} (hlink : Cond.fieldLink own index C (T k).2.1 (T k).2.2.1 ∈ Ts) (hdecl : (T k).1 = C) (hfin : (T k).2.2.2 = false) (j : Nat) {v : Int32} (hd : parseFieldDescriptor (T k).2.2.1 = some .int) (hl : k < fs.length) (hup : (.inr (ci, fs.set k (.int v)) : va_E) = xB g a t (upd (σ t i) j v)) (hdg : decode cc pc = .ok (.putfield index, 3))
    (kk : ∀ (H1 : Heap) (locs1 : List Loc), va_P g.1 vwCl (xw NL g a (up3 σ t i j v)) H1 → va_S A s.heap H1 locs1 → W p l e R s m args below meth c H1 locs1 cells slots Q (F0 m (pc + 3) ls rest)) : W p l e R s m args below meth c H locs cells slots Q (F0 m pc ls (.int v :: .ref (a t i) :: rest)) := by
  obtain ⟨q0, h1, h2⟩ := xwf_get (xB g a) a σ hm
  rw [he] at h2
  refine va_put C0.hx C0.hb C0.hts hin ty0 hty hnm C0.1.2.2.2.1 C0.hK hP (C0.hD σ) hS q0 h2 hc k hk (C0.hts _ hlink) (fun x h => by rw [hdecl] at h; exact h) hfin hd rfl rfl hl hdg (fun H1 locs1 q1 q2 q3 => ?_)
  rw [hup, xwf_set C0.2.2.2.1 h1] at q1
  exact kk H1 locs1 q1 q3
theorem x_putN (C0 : xC p s m args c cc nL Ts own NL g a A) (hP : va_P g.1 vwCl (xw NL g a σ) H) (hS : va_S A s.heap H locs) (t : Nat) {i : Nat} (hm : (t, i) ∈ NL) {ci N : Nat} {T : u_T} {C : String} {fs : List Value} (he : xB g a t (σ t i) = .inr (ci, fs)) (hc : vwCl[ci]? = some (C, T, N)) (ty0 : Nat → FieldType) (hty : ∀ k, k < N → parseFieldDescriptor (T k).2.2.1 = some (ty0 k)) (hnm : ∀ a, a < N → ∀ b, b < N → a ≠ b → (T a).2.1 ≠ (T b).2.1) (k : Nat) (hk : k < N) (hin : ∀ w ∈ u_ws C T N, w ∈ Ts) {index : Nat} (hlink : Cond.fieldLinkNest own index C (T k).2.1 (T k).2.2.1 RX4 ∈ xNs) (hdecl : (T k).1 = C) (hfin : (T k).2.2.2 = false) (j : Nat) {v : Int32} (hd : parseFieldDescriptor (T k).2.2.1 = some .int) (hl : k < fs.length) (hup : (.inr (ci, fs.set k (.int v)) : va_E) = xB g a t (upd (σ t i) j v)) (hdg : decode cc pc = .ok (.putfield index, 3))
    (kk : ∀ (H1 : Heap) (locs1 : List Loc), va_P g.1 vwCl (xw NL g a (up3 σ t i j v)) H1 → va_S A s.heap H1 locs1 → W p l e R s m args below meth c H1 locs1 cells slots Q (F0 m (pc + 3) ls rest)) : W p l e R s m args below meth c H locs cells slots Q (F0 m pc ls (.int v :: .ref (a t i) :: rest)) := by
  obtain ⟨q0, h1, h2⟩ := xwf_get (xB g a) a σ hm
  rw [he] at h2
  refine va_putN C0.hx C0.hb C0.hts hin ty0 hty hnm C0.1.2.2.2.1 C0.hK hP (C0.hD σ) hS q0 h2 hc k hk (va_Nw.use rfl (C0.2.2.1.1 _ hlink)) (fun x h => by rw [hdecl] at h; exact h) hfin hd rfl rfl hl hdg (fun H1 locs1 q1 q2 q3 => ?_)
  rw [hup, xwf_set C0.2.2.2.1 h1] at q1
  exact kk H1 locs1 q1 q3
theorem x_vpin {j n : Nat} (hj : j < n) (hn : n < 2 ^ 31) : vp_in (nI j) n := vp_in_nI hj hn
/-- a place of an array of ints, by its number -/
theorem x_iald (C0 : xC p s m args c cc nL Ts own NL g a A) (hP : va_P g.1 vwCl (xw NL g a σ) H) (t : Nat) {i : Nat} (j n : Nat) (hm : (t, i) ∈ NL) (he : xB g a t (σ t i) = xIa g n (σ t i)) (hj : j < n) (hn : n < 2 ^ 31) (hdg : decode cc pc = .ok (.iaload, 1))
    (kk : W p l e R s m args below meth c H locs cells slots Q (F0 m (pc + 1) ls (.int (σ t i j) :: rest))) : W p l e R s m args below meth c H locs cells slots Q (F0 m pc ls (.int (nI j) :: .ref (a t i) :: rest)) := by
  obtain ⟨q0, -, h2⟩ := xwf_get (xB g a) a σ hm
  rw [he] at h2
  refine va_iald C0.hx C0.hb C0.hK hP q0 0 h2 rfl (x_vpin hj hn) hdg ?_
  rw [nI_clamp (Nat.lt_trans hj hn)]
  exact kk
theorem x_zald (C0 : xC p s m args c cc nL Ts own NL g a A) (hP : va_P g.1 vwCl (xw NL g a σ) H) (t : Nat) {i : Nat} (j n : Nat) (hm : (t, i) ∈ NL) (he : xB g a t (σ t i) = xZa g n (σ t i)) (hj : j < n) (hn : n < 2 ^ 31) (hdg : decode cc pc = .ok (.baload, 1))
    (kk : W p l e R s m args below meth c H locs cells slots Q (F0 m (pc + 1) ls (.int (σ t i j) :: rest))) : W p l e R s m args below meth c H locs cells slots Q (F0 m pc ls (.int (nI j) :: .ref (a t i) :: rest)) := by
  obtain ⟨q0, -, h2⟩ := xwf_get (xB g a) a σ hm
  rw [he] at h2
  refine va_zald C0.hx C0.hb C0.hK hP q0 1 h2 rfl (x_vpin hj hn) hdg ?_
  rw [nI_clamp (Nat.lt_trans hj hn)]
  exact kk
/-- a row of an array of arrays -/
theorem x_aald (C0 : xC p s m args c cc nL Ts own NL g a A) (hP : va_P g.1 vwCl (xw NL g a σ) H) (t : Nat) {i : Nat} (j n u : Nat) (hm : (t, i) ∈ NL) (he : xB g a t (σ t i) = xRa g n (a u)) (hj : j < n) (hn : n < 2 ^ 31) (hdg : decode cc pc = .ok (.aaload, 1))
    (kk : W p l e R s m args below meth c H locs cells slots Q (F0 m (pc + 1) ls (.ref (a u j) :: rest))) : W p l e R s m args below meth c H locs cells slots Q (F0 m pc ls (.int (nI j) :: .ref (a t i) :: rest)) := by
  obtain ⟨q0, -, h2⟩ := xwf_get (xB g a) a σ hm
  rw [he] at h2
  have hin := x_vpin hj hn
  have hcl : (nI j).toNatClampNeg = j := nI_clamp (Nat.lt_trans hj hn)
  have hlt : (nI j).toNatClampNeg < n := by rw [hcl]; exact hj
  exact W.aald (v := .ref (a u j)) (ty := .array .int) C0.hx C0.hb (hP q0 _ h2) ((C0.hK.2 2 _ rfl).1 n (fun j => va_rf (some (a u j)))) rfl (fun q => by cases q) (by show ¬ (nI j < 0 ∨ (arrV _ _ _).slots.size ≤ _); rw [arrV_size]; exact hin) (by show (arrV _ _ _).slots[_]? = _; rw [arrV_read _ _ hlt, hcl]; rfl) rfl rfl hdg kk
theorem x_iast (C0 : xC p s m args c cc nL Ts own NL g a A) (hP : va_P g.1 vwCl (xw NL g a σ) H) (hS : va_S A s.heap H locs) (t : Nat) {i : Nat} (j n : Nat) {v : Int32} (hm : (t, i) ∈ NL) (he : ∀ r, xB g a t r = xIa g n r) (hj : j < n) (hn : n < 2 ^ 31) (hdg : decode cc pc = .ok (.iastore, 1))
    (kk : ∀ (H1 : Heap) (locs1 : List Loc), va_P g.1 vwCl (xw NL g a (up3 σ t i j v)) H1 → va_S A s.heap H1 locs1 → W p l e R s m args below meth c H1 locs1 cells slots Q (F0 m (pc + 1) ls rest)) : W p l e R s m args below meth c H locs cells slots Q (F0 m pc ls (.int v :: .int (nI j) :: .ref (a t i) :: rest)) := by
  obtain ⟨q0, h1, h2⟩ := xwf_get (xB g a) a σ hm
  rw [he] at h2
  refine va_iast C0.hx C0.hb C0.hK hP (C0.hD σ) hS q0 0 h2 rfl (x_vpin hj hn) hdg (fun H1 locs1 q1 q2 q3 => ?_)
  rw [nI_clamp (Nat.lt_trans hj hn)] at q1
  have e9 : (Sum.inl (g.2.1, n, Sum.inl (upd (σ t i) j v)) : va_E) = xB g a t (upd (σ t i) j v) := (he _).symm
  first
    | rw [e9, xwf_set C0.2.2.2.1 h1] at q1
      exact kk H1 locs1 q1 q3
    | (have e8 : vp_nar .int v = v := rfl
       rw [e8, e9, xwf_set C0.2.2.2.1 h1] at q1
       exact kk H1 locs1 q1 q3)
theorem x_zast (C0 : xC p s m args c cc nL Ts own NL g a A) (hP : va_P g.1 vwCl (xw NL g a σ) H) (hS : va_S A s.heap H locs) (t : Nat) {i : Nat} (j n : Nat) {v : Int32} (hv : v = 0 ∨ v = 1) (hm : (t, i) ∈ NL) (he : ∀ r, xB g a t r = xZa g n r) (hj : j < n) (hn : n < 2 ^ 31) (hdg : decode cc pc = .ok (.bastore, 1))
    (kk : ∀ (H1 : Heap) (locs1 : List Loc), va_P g.1 vwCl (xw NL g a (up3 σ t i j v)) H1 → va_S A s.heap H1 locs1 → W p l e R s m args below meth c H1 locs1 cells slots Q (F0 m (pc + 1) ls rest)) : W p l e R s m args below meth c H locs cells slots Q (F0 m pc ls (.int v :: .int (nI j) :: .ref (a t i) :: rest)) := by
  obtain ⟨q0, h1, h2⟩ := xwf_get (xB g a) a σ hm
  rw [he] at h2
  refine va_zast C0.hx C0.hb C0.hK hP (C0.hD σ) hS q0 1 h2 rfl (x_vpin hj hn) hdg (fun H1 locs1 q1 q2 q3 => ?_)
  rw [nI_clamp (Nat.lt_trans hj hn)] at q1
  have e8 : vp_nar .boolean v = v := by rcases hv with rfl | rfl <;> rfl
  have e9 : (Sum.inl (g.2.2.1, n, Sum.inl (upd (σ t i) j v)) : va_E) = xB g a t (upd (σ t i) j v) := (he _).symm
  rw [e8, e9, xwf_set C0.2.2.2.1 h1] at q1
  exact kk H1 locs1 q1 q3
/-- the top of the stack by another name -/
theorem x_top {x y : Int32} (h : x = y) (k : W p l e R s m args below meth c H locs cells slots Q (F0 m pc ls (.int y :: rest))) : W p l e R s m args below meth c H locs cells slots Q (F0 m pc ls (.int x :: rest)) := h ▸ k
/-- compares of two numbers that are small -/
theorem x_icmp_lt (hexec : p.tables.exec = Jvm.exec) (hb : c.code = cc) {x y : Nat} {off : Int} {tgt : Nat} (hx : x < 2 ^ 31) (hy : y < 2 ^ 31) (hdg : decode cc pc = .ok (.if_icmp .lt off, 3)) (ht : (pc : Int) + off = (tgt : Int))
    (kt : x < y → W p l e R s m args below meth c H locs cells slots Q (F0 m tgt ls rest)) (kf : y ≤ x → W p l e R s m args below meth c H locs cells slots Q (F0 m (pc + 3) ls rest)) : W p l e R s m args below meth c H locs cells slots Q (F0 m pc ls (.int (nI y) :: .int (nI x) :: rest)) :=
  lv_icmp_lt hexec hb hdg ht (fun h => kt ((nI_ltI hx hy).mp h)) (fun h => kf (Nat.le_of_not_lt (fun h2 => h ((nI_ltI hx hy).mpr h2))))
theorem x_icmp_ge (hexec : p.tables.exec = Jvm.exec) (hb : c.code = cc) {x y : Nat} {off : Int} {tgt : Nat} (hx : x < 2 ^ 31) (hy : y < 2 ^ 31) (hdg : decode cc pc = .ok (.if_icmp .ge off, 3)) (ht : (pc : Int) + off = (tgt : Int))
    (kt : y ≤ x → W p l e R s m args below meth c H locs cells slots Q (F0 m tgt ls rest)) (kf : x < y → W p l e R s m args below meth c H locs cells slots Q (F0 m (pc + 3) ls rest)) : W p l e R s m args below meth c H locs cells slots Q (F0 m pc ls (.int (nI y) :: .int (nI x) :: rest)) :=
  lv_icmp_ge hexec hb hdg ht (fun h => kt ((nI_leI hy hx).mp h)) (fun h => kf (Nat.lt_of_not_le (fun h2 => h ((nI_leI hy hx).mpr h2))))
theorem x_icmp_gt (hexec : p.tables.exec = Jvm.exec) (hb : c.code = cc) {x y : Nat} {off : Int} {tgt : Nat} (hx : x < 2 ^ 31) (hy : y < 2 ^ 31) (hdg : decode cc pc = .ok (.if_icmp .gt off, 3)) (ht : (pc : Int) + off = (tgt : Int))
    (kt : y < x → W p l e R s m args below meth c H locs cells slots Q (F0 m tgt ls rest)) (kf : x ≤ y → W p l e R s m args below meth c H locs cells slots Q (F0 m (pc + 3) ls rest)) : W p l e R s m args below meth c H locs cells slots Q (F0 m pc ls (.int (nI y) :: .int (nI x) :: rest)) :=
  lv_icmp_gt hexec hb hdg ht (fun h => kt ((nI_ltI hy hx).mp h)) (fun h => kf (Nat.le_of_not_lt (fun h2 => h ((nI_ltI hy hx).mpr h2))))
theorem x_icmp_le (hexec : p.tables.exec = Jvm.exec) (hb : c.code = cc) {x y : Nat} {off : Int} {tgt : Nat} (hx : x < 2 ^ 31) (hy : y < 2 ^ 31) (hdg : decode cc pc = .ok (.if_icmp .le off, 3)) (ht : (pc : Int) + off = (tgt : Int))
    (kt : x ≤ y → W p l e R s m args below meth c H locs cells slots Q (F0 m tgt ls rest)) (kf : y < x → W p l e R s m args below meth c H locs cells slots Q (F0 m (pc + 3) ls rest)) : W p l e R s m args below meth c H locs cells slots Q (F0 m pc ls (.int (nI y) :: .int (nI x) :: rest)) :=
  lv_icmp_le hexec hb hdg ht (fun h => kt ((nI_leI hx hy).mp h)) (fun h => kf (Nat.lt_of_not_le (fun h2 => h ((nI_leI hx hy).mpr h2))))
theorem x_icmp_eq (hexec : p.tables.exec = Jvm.exec) (hb : c.code = cc) {x y : Nat} {off : Int} {tgt : Nat} (hx : x < 2 ^ 31) (hy : y < 2 ^ 31) (hdg : decode cc pc = .ok (.if_icmp .eq off, 3)) (ht : (pc : Int) + off = (tgt : Int))
    (kt : x = y → W p l e R s m args below meth c H locs cells slots Q (F0 m tgt ls rest)) (kf : x ≠ y → W p l e R s m args below meth c H locs cells slots Q (F0 m (pc + 3) ls rest)) : W p l e R s m args below meth c H locs cells slots Q (F0 m pc ls (.int (nI y) :: .int (nI x) :: rest)) :=
  lv_icmp_eq hexec hb hdg ht (fun h => kt ((nI_eq hx hy).mp h)) (fun h => kf (fun h2 => h ((nI_eq hx hy).mpr h2)))
theorem x_icmp_ne (hexec : p.tables.exec = Jvm.exec) (hb : c.code = cc) {x y : Nat} {off : Int} {tgt : Nat} (hx : x < 2 ^ 31) (hy : y < 2 ^ 31) (hdg : decode cc pc = .ok (.if_icmp .ne off, 3)) (ht : (pc : Int) + off = (tgt : Int))
    (kt : x ≠ y → W p l e R s m args below meth c H locs cells slots Q (F0 m tgt ls rest)) (kf : x = y → W p l e R s m args below meth c H locs cells slots Q (F0 m (pc + 3) ls rest)) : W p l e R s m args below meth c H locs cells slots Q (F0 m pc ls (.int (nI y) :: .int (nI x) :: rest)) :=
  lv_icmp_ne hexec hb hdg ht (fun h => kt (fun h2 => h ((nI_eq hx hy).mpr h2))) (fun h => kf ((nI_eq hx hy).mp h))
end XROWS
/-- a boolean as the machine holds it -/
def bI (b : Bool) : Int32 := if b = true then 1 else 0
theorem bI_01 (b : Bool) : bI b = 0 ∨ bI b = 1 := by cases b <;> simp [bI]
theorem bI_t {b : Bool} (h : b = true) : bI b = 1 := by rw [h]; rfl
theorem bI_f {b : Bool} (h : b = false) : bI b = 0 := by rw [h]; rfl
theorem bI_nar (b : Bool) : narrow .boolean (.int (bI b)) = .int (bI b) := by cases b <;> rfl
section XROWS2
variable {p : Program} {l : Launch} {e : Env} {R : Room} {s : State} {m : MethodId} {args : Array Value} {below : List Frame} {meth : Method} {c : Code} {H : Heap} {locs : List Loc} {cells slots : Nat} {Q : State → Prop}
variable {cc : ByteArray} {pc nL : Nat} {ls : Array Slot} {rest : List Value} {Ts : List Cond} {own : String} {NL : xNL} {g : xG} {a : xAd} {A : Nat → Prop} {σ : xS}
theorem x_ifeq (hexec : p.tables.exec = Jvm.exec) (hb : c.code = cc) {b : Bool} {off : Int} {tgt : Nat} (hdg : decode cc pc = .ok (.ifCond .eq off, 3)) (ht : (pc : Int) + off = (tgt : Int))
    (kt : b = false → W p l e R s m args below meth c H locs cells slots Q (F0 m tgt ls rest)) (kf : b = true → W p l e R s m args below meth c H locs cells slots Q (F0 m (pc + 3) ls rest)) : W p l e R s m args below meth c H locs cells slots Q (F0 m pc ls (.int (bI b) :: rest)) :=
  lv_if_eq hexec hb hdg ht (fun h => kt (by cases b <;> simp_all [bI])) (fun h => kf (by cases b <;> simp_all [bI]))
theorem x_ifne (hexec : p.tables.exec = Jvm.exec) (hb : c.code = cc) {b : Bool} {off : Int} {tgt : Nat} (hdg : decode cc pc = .ok (.ifCond .ne off, 3)) (ht : (pc : Int) + off = (tgt : Int))
    (kt : b = true → W p l e R s m args below meth c H locs cells slots Q (F0 m tgt ls rest)) (kf : b = false → W p l e R s m args below meth c H locs cells slots Q (F0 m (pc + 3) ls rest)) : W p l e R s m args below meth c H locs cells slots Q (F0 m pc ls (.int (bI b) :: rest)) :=
  lv_if_ne hexec hb hdg ht (fun h => kt (by cases b <;> simp_all [bI])) (fun h => kf (by cases b <;> simp_all [bI]))
/-- a method that only reads, and answers an int -/
def xMi (l : Launch) (y : MethodName) (ws : List Cond) (rm : Room) (NL : xNL) (g : xG) (a : xAd) (σ : xS) (As : List Value) (r : Int32) : Prop := Met l y ws rm (va_Pc As (xPre NL g a σ)) (vp_Si (fun q => q = r)) 0 0 (fun _ => False)
/-- a method that writes, and answers nothing -/
def xMv (l : Launch) (y : MethodName) (ws : List Cond) (rm : Room) (NL : xNL) (g : xG) (a : xAd) (σ : xS) (As : List Value) (τ : xS) : Prop := ∀ sz : Nat, Met l y ws rm (va_Pc As (fun U => U.heap.size = sz ∧ xPre NL g a σ U)) (va_Qv (fun u : xS => u = τ) (fun u t => va_P g.1 vwCl (xw NL g a u) t.heap) (xA NL a sz)) 0 0 (xA NL a sz)
/-- .. and answers an int -/
def xMw (l : Launch) (y : MethodName) (ws : List Cond) (rm : Room) (NL : xNL) (g : xG) (a : xAd) (σ : xS) (As : List Value) (r : Int32) (τ : xS) : Prop := ∀ sz : Nat, Met l y ws rm (va_Pc As (fun U => U.heap.size = sz ∧ xPre NL g a σ U)) (va_Qi (fun (q : Int32) (u : xS) => q = r ∧ u = τ) (fun u t => va_P g.1 vwCl (xw NL g a u) t.heap) (xA NL a sz)) 0 0 (xA NL a sz)
variable {mc ms n index maxL : Nat} {y : MethodName} {bytes : ByteArray} {ret : Option FieldType} {ws : List Cond} {rm : Room} {C : String} {b : Nat} {As : List Value} {st0 : List Value} {NL' : xNL} {σ' : xS} {τ : xS} {r : Int32}
theorem x_pre (C0 : xC p s m args c cc nL Ts own NL g a A) (hP : va_P g.1 vwCl (xw NL' g a σ') H) (hj : xDj NL' a) : ∀ U : State, U.heap = H → s.WarmedH U.vm → va_Pc As (xPre NL' g a σ') As.toArray U := fun U hU hW => ⟨rfl, by rw [hU]; exact hP, va_K.moved hW.alike C0.hK, xN.warm hW C0.2.2.1, hj⟩
theorem x_pres (C0 : xC p s m args c cc nL Ts own NL g a A) (hP : va_P g.1 vwCl (xw NL' g a σ') H) (hj : xDj NL' a) : ∀ U : State, U.heap = H → s.WarmedH U.vm → va_Pc As (fun U => U.heap.size = H.size ∧ xPre NL' g a σ' U) As.toArray U := fun U hU hW => ⟨rfl, by rw [hU], by rw [hU]; exact hP, va_K.moved hW.alike C0.hK, xN.warm hW C0.2.2.1, hj⟩
/-- the receiver of a class of ours -/
theorem x_recv (C0 : xC p s m args c cc nL Ts own NL g a A) (hP : va_P g.1 vwCl (xw NL g a σ) H) (t : Nat) {i : Nat} (hm : (t, i) ∈ NL) {ci N : Nat} {T : u_T} {C : String} {fs : List Value} (he : xB g a t (σ t i) = .inr (ci, fs)) (hc : vwCl[ci]? = some (C, T, N)) : ∃ cell : Cell, H[a t i]? = some cell ∧ cell.vm.isStatics = false ∧ s.vm.findClass C = some cell.cls := by
  obtain ⟨q0, -, h2⟩ := xwf_get (xB g a) a σ hm
  rw [he] at h2
  exact va_recv C0.hK hP hc h2
/-- calls: virtual (private or not) of the same class; a nest mate's; static -/
theorem x_Vi (C0 : xC p s m args c cc nL Ts own NL g a A) (hM : xMi l y ws rm NL' g a σ' (.ref b :: As) r) (hP : va_P g.1 vwCl (xw NL' g a σ') H) (hj : xDj NL' a) (cw : CallW R s args own C index y bytes maxL ret ws rm 0 0 n) (hrecv : ∃ cell : Cell, H[b]? = some cell ∧ cell.vm.isStatics = false ∧ s.vm.findClass C = some cell.cls) (hn : As.length = n) {lv : List (Nat × Value)} (hl : lv_has ls nL lv) (hst : st0 = As.reverse ++ .ref b :: rest) (hW : (rest.map fun v => v.category).sum ≤ 8) (hc1 : cells ≤ R.cells) (hs1 : slots ≤ R.slots) (hdg : decode cc pc = .ok (.invokevirtual index, 3))
    (kk : W p l e R s m args below meth c H locs cells slots Q (F0 m (pc + 3) ls (.int r :: rest))) : W p l e R s m args below meth c H locs cells slots Q (F0 m pc ls st0) := by
  have hU : xMi l y ws rm NL' g a σ' (.ref b :: As) r := hM
  unfold xMi at hU
  refine vp_callSi ((va_runV (g := F0 m pc ls st0) (As := As) (rest := rest) C0.1 hU cw ⟨xFB, hrecv, x_pre C0 hP hj⟩ rfl hn hl.1 hst (lv_room hW) hdg ⟨hc1, hs1⟩).run) (fun q hq => ?_)
  rw [hq]
  exact kk
theorem x_VNi (C0 : xC p s m args c cc nL Ts own NL g a A) (hM : xMi l y ws rm NL' g a σ' (.ref b :: As) r) (hP : va_P g.1 vwCl (xw NL' g a σ') H) (hj : xDj NL' a) {host : String} (cw : va_CN R s args own index y host bytes maxL ret ws rm 0 0 n) (hin : (Cond.instanceMethod y).before args s = true) (hsel : (Cond.selects C y y).before args s = true) (hrecv : ∃ cell : Cell, H[b]? = some cell ∧ cell.vm.isStatics = false ∧ s.vm.findClass C = some cell.cls) (hn : As.length = n) {lv : List (Nat × Value)} (hl : lv_has ls nL lv) (hst : st0 = As.reverse ++ .ref b :: rest) (hW : (rest.map fun v => v.category).sum ≤ 8) (hc1 : cells ≤ R.cells) (hs1 : slots ≤ R.slots) (hdg : decode cc pc = .ok (.invokevirtual index, 3))
    (kk : W p l e R s m args below meth c H locs cells slots Q (F0 m (pc + 3) ls (.int r :: rest))) : W p l e R s m args below meth c H locs cells slots Q (F0 m pc ls st0) := by
  have hU : xMi l y ws rm NL' g a σ' (.ref b :: As) r := hM
  unfold xMi at hU
  refine vp_callSi ((va_runVN (g := F0 m pc ls st0) (As := As) (rest := rest) C0.1 hU ⟨cw, hin, hsel⟩ ⟨xFB, hrecv, x_pre C0 hP hj⟩ rfl hn hl.1 hst (lv_room hW) hdg ⟨hc1, hs1⟩).run) (fun q hq => ?_)
  rw [hq]
  exact kk
theorem x_Si (C0 : xC p s m args c cc nL Ts own NL g a A) (hM : xMi l y ws rm NL' g a σ' As r) (hP : va_P g.1 vwCl (xw NL' g a σ') H) (hj : xDj NL' a) (cw : CallB R s args own index y bytes maxL ret ws rm 0 0 n ∧ (Cond.static y).before args s = true) (hn : As.length = n) {lv : List (Nat × Value)} (hl : lv_has ls nL lv) (hst : st0 = As.reverse ++ rest) (hW : (rest.map fun v => v.category).sum ≤ 8) (hc1 : cells ≤ R.cells) (hs1 : slots ≤ R.slots) (hdg : decode cc pc = .ok (.invokestatic index, 3))
    (kk : W p l e R s m args below meth c H locs cells slots Q (F0 m (pc + 3) ls (.int r :: rest))) : W p l e R s m args below meth c H locs cells slots Q (F0 m pc ls st0) := by
  have hU : xMi l y ws rm NL' g a σ' As r := hM
  unfold xMi at hU
  refine vp_callSi ((va_runS (g := F0 m pc ls st0) (As := As) (rest := rest) C0.1 hU cw ⟨xFB, x_pre C0 hP hj⟩ rfl hn hl.1 hst (lv_room hW) hdg ⟨hc1, hs1⟩).run) (fun q hq => ?_)
  rw [hq]
  exact kk
theorem x_AA (C0 : xC p s m args c cc nL Ts own NL g a A) (hS : va_S A s.heap H locs) : (∀ q, q < H.size → xA NL a H.size q → A q) ∧ ∀ q, xA NL a H.size q → A q := by
  have h2 : ∀ q, xA NL a H.size q → A q := by
    intro q h
    rcases h with ⟨n, h1, rfl⟩ | h
    · exact C0.2.2.2.2.1 n h1
    · exact C0.2.2.2.2.2 q (Nat.le_trans hS.1 h)
  exact ⟨fun q _ h => h2 q h, h2⟩
theorem x_Vv (C0 : xC p s m args c cc nL Ts own NL g a A) (hM : xMv l y ws rm NL g a σ (.ref b :: As) τ) (hP : va_P g.1 vwCl (xw NL g a σ) H) (hS : va_S A s.heap H locs) (cw : CallW R s args own C index y bytes maxL ret ws rm 0 0 n) (hrecv : ∃ cell : Cell, H[b]? = some cell ∧ cell.vm.isStatics = false ∧ s.vm.findClass C = some cell.cls) (hn : As.length = n) {lv : List (Nat × Value)} (hl : lv_has ls nL lv) (hst : st0 = As.reverse ++ .ref b :: rest) (hW : (rest.map fun v => v.category).sum ≤ 8) (hc1 : cells ≤ R.cells) (hs1 : slots ≤ R.slots) (hdg : decode cc pc = .ok (.invokevirtual index, 3))
    (kk : ∀ (H1 : Heap) (locs1 : List Loc), va_P g.1 vwCl (xw NL g a τ) H1 → va_S A s.heap H1 locs1 → W p l e R s m args below meth c H1 locs1 cells slots Q (F0 m (pc + 3) ls rest)) : W p l e R s m args below meth c H locs cells slots Q (F0 m pc ls st0) := by
  obtain ⟨h1, h2⟩ := x_AA C0 hS
  refine va_callv (va_runV (g := F0 m pc ls st0) (As := As) (rest := rest) C0.1 (hM H.size) cw ⟨xFBs, hrecv, x_pres C0 hP C0.2.2.2.1⟩ rfl hn hl.1 hst (lv_room hW) hdg ⟨hc1, hs1⟩) hS h1 h2 (fun u t H1 locs1 ht hvm hw hB hz hk hS1 => ?_)
  subst hw
  rw [ht] at hB
  exact kk H1 locs1 hB hS1
theorem x_VNv (C0 : xC p s m args c cc nL Ts own NL g a A) (hM : xMv l y ws rm NL g a σ (.ref b :: As) τ) (hP : va_P g.1 vwCl (xw NL g a σ) H) (hS : va_S A s.heap H locs) {host : String} (cw : va_CN R s args own index y host bytes maxL ret ws rm 0 0 n) (hin : (Cond.instanceMethod y).before args s = true) (hsel : (Cond.selects C y y).before args s = true) (hrecv : ∃ cell : Cell, H[b]? = some cell ∧ cell.vm.isStatics = false ∧ s.vm.findClass C = some cell.cls) (hn : As.length = n) {lv : List (Nat × Value)} (hl : lv_has ls nL lv) (hst : st0 = As.reverse ++ .ref b :: rest) (hW : (rest.map fun v => v.category).sum ≤ 8) (hc1 : cells ≤ R.cells) (hs1 : slots ≤ R.slots) (hdg : decode cc pc = .ok (.invokevirtual index, 3))
    (kk : ∀ (H1 : Heap) (locs1 : List Loc), va_P g.1 vwCl (xw NL g a τ) H1 → va_S A s.heap H1 locs1 → W p l e R s m args below meth c H1 locs1 cells slots Q (F0 m (pc + 3) ls rest)) : W p l e R s m args below meth c H locs cells slots Q (F0 m pc ls st0) := by
  obtain ⟨h1, h2⟩ := x_AA C0 hS
  refine va_callv (va_runVN (g := F0 m pc ls st0) (As := As) (rest := rest) C0.1 (hM H.size) ⟨cw, hin, hsel⟩ ⟨xFBs, hrecv, x_pres C0 hP C0.2.2.2.1⟩ rfl hn hl.1 hst (lv_room hW) hdg ⟨hc1, hs1⟩) hS h1 h2 (fun u t H1 locs1 ht hvm hw hB hz hk hS1 => ?_)
  subst hw
  rw [ht] at hB
  exact kk H1 locs1 hB hS1
theorem x_Vw (C0 : xC p s m args c cc nL Ts own NL g a A) (hM : xMw l y ws rm NL g a σ (.ref b :: As) r τ) (hP : va_P g.1 vwCl (xw NL g a σ) H) (hS : va_S A s.heap H locs) (cw : CallW R s args own C index y bytes maxL ret ws rm 0 0 n) (hrecv : ∃ cell : Cell, H[b]? = some cell ∧ cell.vm.isStatics = false ∧ s.vm.findClass C = some cell.cls) (hn : As.length = n) {lv : List (Nat × Value)} (hl : lv_has ls nL lv) (hst : st0 = As.reverse ++ .ref b :: rest) (hW : (rest.map fun v => v.category).sum ≤ 8) (hc1 : cells ≤ R.cells) (hs1 : slots ≤ R.slots) (hdg : decode cc pc = .ok (.invokevirtual index, 3))
    (kk : ∀ (H1 : Heap) (locs1 : List Loc), va_P g.1 vwCl (xw NL g a τ) H1 → va_S A s.heap H1 locs1 → W p l e R s m args below meth c H1 locs1 cells slots Q (F0 m (pc + 3) ls (.int r :: rest))) : W p l e R s m args below meth c H locs cells slots Q (F0 m pc ls st0) := by
  obtain ⟨h1, h2⟩ := x_AA C0 hS
  refine va_calli (va_runV (g := F0 m pc ls st0) (As := As) (rest := rest) C0.1 (hM H.size) cw ⟨xFBs, hrecv, x_pres C0 hP C0.2.2.2.1⟩ rfl hn hl.1 hst (lv_room hW) hdg ⟨hc1, hs1⟩) hS h1 h2 (fun q u t H1 locs1 ht hvm hw hB hz hk hS1 => ?_)
  obtain ⟨rfl, rfl⟩ := hw
  rw [ht] at hB
  exact kk H1 locs1 hB hS1
theorem x_VNw (C0 : xC p s m args c cc nL Ts own NL g a A) (hM : xMw l y ws rm NL g a σ (.ref b :: As) r τ) (hP : va_P g.1 vwCl (xw NL g a σ) H) (hS : va_S A s.heap H locs) {host : String} (cw : va_CN R s args own index y host bytes maxL ret ws rm 0 0 n) (hin : (Cond.instanceMethod y).before args s = true) (hsel : (Cond.selects C y y).before args s = true) (hrecv : ∃ cell : Cell, H[b]? = some cell ∧ cell.vm.isStatics = false ∧ s.vm.findClass C = some cell.cls) (hn : As.length = n) {lv : List (Nat × Value)} (hl : lv_has ls nL lv) (hst : st0 = As.reverse ++ .ref b :: rest) (hW : (rest.map fun v => v.category).sum ≤ 8) (hc1 : cells ≤ R.cells) (hs1 : slots ≤ R.slots) (hdg : decode cc pc = .ok (.invokevirtual index, 3))
    (kk : ∀ (H1 : Heap) (locs1 : List Loc), va_P g.1 vwCl (xw NL g a τ) H1 → va_S A s.heap H1 locs1 → W p l e R s m args below meth c H1 locs1 cells slots Q (F0 m (pc + 3) ls (.int r :: rest))) : W p l e R s m args below meth c H locs cells slots Q (F0 m pc ls st0) := by
  obtain ⟨h1, h2⟩ := x_AA C0 hS
  refine va_calli (va_runVN (g := F0 m pc ls st0) (As := As) (rest := rest) C0.1 (hM H.size) ⟨cw, hin, hsel⟩ ⟨xFBs, hrecv, x_pres C0 hP C0.2.2.2.1⟩ rfl hn hl.1 hst (lv_room hW) hdg ⟨hc1, hs1⟩) hS h1 h2 (fun q u t H1 locs1 ht hvm hw hB hz hk hS1 => ?_)
  obtain ⟨rfl, rfl⟩ := hw
  rw [ht] at hB
  exact kk H1 locs1 hB hS1
end XROWS2
section XLOOPS
variable {p : Program} {l : Launch} {e : Env} {R : Room} {s : State} {m : MethodId} {args : Array Value} {below : List Frame} {meth : Method} {c : Code} {H : Heap} {locs : List Loc} {cells slots : Nat} {Q : State → Prop}
variable {pc : Nat} {ls : Array Slot} {st : List Value}
/-- a loop that writes nothing -/
theorem x_loopR {α : Type} (μ : α → Nat) (I : α → Array Slot → Prop) (hs : ∀ (x : α) (ls : Array Slot), I x ls → (∀ (y : α) (ls : Array Slot), I y ls → μ y < μ x → W p l e R s m args below meth c H locs cells slots Q (F0 m pc ls st)) → W p l e R s m args below meth c H locs cells slots Q (F0 m pc ls st)) (x0 : α) (h0 : I x0 ls) : W p l e R s m args below meth c H locs cells slots Q (F0 m pc ls st) := by
  have key : ∀ (n : Nat) (x : α) (ls : Array Slot), μ x < n → I x ls → W p l e R s m args below meth c H locs cells slots Q (F0 m pc ls st) := by
    intro n
    induction n with
    | zero => intro x ls h; exact absurd h (Nat.not_lt_zero _)
    | succ n ih => intro x ls h hi; exact hs x ls hi (fun y ls hy hlt => ih y ls (by omega) hy)
  exact key (μ x0 + 1) x0 ls (Nat.lt_succ_self _) h0
theorem x_loopW {α : Type} (μ : α → Nat) (I : α → Heap → List Loc → Array Slot → Prop) (hs : ∀ (x : α) (H : Heap) (locs : List Loc) (ls : Array Slot), I x H locs ls → (∀ (y : α) (H : Heap) (locs : List Loc) (ls : Array Slot), I y H locs ls → μ y < μ x → W p l e R s m args below meth c H locs cells slots Q (F0 m pc ls st)) → W p l e R s m args below meth c H locs cells slots Q (F0 m pc ls st)) (x0 : α) (h0 : I x0 H locs ls) : W p l e R s m args below meth c H locs cells slots Q (F0 m pc ls st) := by
  have key : ∀ (n : Nat) (x : α) (H : Heap) (locs : List Loc) (ls : Array Slot), μ x < n → I x H locs ls → W p l e R s m args below meth c H locs cells slots Q (F0 m pc ls st) := by
    intro n
    induction n with
    | zero => intro x H locs ls h; exact absurd h (Nat.not_lt_zero _)
    | succ n ih => intro x H locs ls h hi; exact hs x H locs ls hi (fun y H locs ls hy hlt => ih y H locs ls (by omega) hy)
  exact key (μ x0 + 1) x0 H locs ls (Nat.lt_succ_self _) h0
/-- roads that meet at tgt -/
theorem x_join {α : Type} (tgt : Nat) (I : α → Heap → List Loc → Array Slot → Prop) (stk : α → List Value) (hk : ∀ (x : α) (H : Heap) (locs : List Loc) (ls : Array Slot), I x H locs ls → W p l e R s m args below meth c H locs cells slots Q (F0 m tgt ls (stk x))) (hb : (∀ (x : α) (H : Heap) (locs : List Loc) (ls : Array Slot), I x H locs ls → W p l e R s m args below meth c H locs cells slots Q (F0 m tgt ls (stk x))) → W p l e R s m args below meth c H locs cells slots Q (F0 m pc ls st)) : W p l e R s m args below meth c H locs cells slots Q (F0 m pc ls st) := hb hk
end XLOOPS
abbrev nv (x : Int32) : Nat := x.toNatClampNeg
def NLX : xNL := (List.range 20).map (fun t => (t, 0)) ++ ((List.range 4).map (fun i => (20, i)) ++ ((List.range 4).map (fun i => (21, i)) ++ ((List.range 4).map (fun i => (22, i)) ++ ((List.range 60).map (fun i => (23, i)) ++ ((List.range 60).map (fun i => (24, i)) ++ (List.range 60).map (fun i => (25, i)))))))
def NLM : xNL := (List.range 10).map (fun t => (30 + t, 0))
theorem mX {t : Nat} (h : t < 20) : (t, 0) ∈ NLX := List.mem_append_left _ (List.mem_map.mpr ⟨t, List.mem_range.mpr h, rfl⟩)
theorem mXr (t n : Nat) {i : Nat} (h : i < n) : (t, i) ∈ (List.range n).map (fun i => (t, i)) := List.mem_map.mpr ⟨i, List.mem_range.mpr h, rfl⟩
theorem mX20 {i : Nat} (h : i < 4) : (20, i) ∈ NLX := List.mem_append_right _ (List.mem_append_left _ (mXr 20 4 h))
theorem mX21 {i : Nat} (h : i < 4) : (21, i) ∈ NLX := List.mem_append_right _ (List.mem_append_right _ (List.mem_append_left _ (mXr 21 4 h)))
theorem mX22 {i : Nat} (h : i < 4) : (22, i) ∈ NLX := List.mem_append_right _ (List.mem_append_right _ (List.mem_append_right _ (List.mem_append_left _ (mXr 22 4 h))))
theorem mX23 {i : Nat} (h : i < 60) : (23, i) ∈ NLX := List.mem_append_right _ (List.mem_append_right _ (List.mem_append_right _ (List.mem_append_right _ (List.mem_append_left _ (mXr 23 60 h)))))
theorem mX24 {i : Nat} (h : i < 60) : (24, i) ∈ NLX := List.mem_append_right _ (List.mem_append_right _ (List.mem_append_right _ (List.mem_append_right _ (List.mem_append_right _ (List.mem_append_left _ (mXr 24 60 h))))))
theorem mX25 {i : Nat} (h : i < 60) : (25, i) ∈ NLX := List.mem_append_right _ (List.mem_append_right _ (List.mem_append_right _ (List.mem_append_right _ (List.mem_append_right _ (List.mem_append_right _ (mXr 25 60 h))))))
theorem mM {t : Nat} (h : t < 10) : (30 + t, 0) ∈ NLM := List.mem_map.mpr ⟨t, List.mem_range.mpr h, rfl⟩
theorem mX_n {t : Nat} (h : Nat.blt t 20 = true) : (t, 0) ∈ NLX := mX (by simpa using h)
theorem mM_n {t : Nat} (h1 : Nat.ble 30 t = true) (h2 : Nat.blt t 40 = true) : (t, 0) ∈ NLM := by
  have e1 : 30 ≤ t := Nat.le_of_ble_eq_true h1
  have e2 : t < 40 := by simpa using h2
  have := mM (t := t - 30) (by omega)
  rwa [show 30 + (t - 30) = t by omega] at this
/-- selects, instance, initialized of private methods out of a list of words -/
theorem x_nV {s : State} {args : Array Value} {Ts : List Cond} {w : Cond} (hts : ∀ w ∈ Ts, w.before args s = true) (h : w ∈ Ts) : w.before args s = true := hts w h
end
section
/-! ===== the class in my words, loop by loop as it runs ===== -/
/-- a number from 0 below n -/
def inR (x : Int32) (n : Nat) : Prop := x = nI (nv x) ∧ nv x < n
theorem nv_nI {j : Nat} (h : j < 2 ^ 31) : nv (nI j) = j := nI_clamp h
theorem inR_nI {j n : Nat} (h : j < n) (hn : n ≤ 2 ^ 31) : inR (nI j) n := by
  have e := nv_nI (j := j) (by omega)
  exact ⟨by rw [e], by rw [e]; exact h⟩
theorem inR_of {x : Int32} {j n : Nat} (e : x = nI j) (h : j < n) (hn : n ≤ 2 ^ 31) : inR x n := by rw [e]; exact inR_nI h hn
theorem inR.mono {x : Int32} {n m : Nat} (h : inR x n) (hm : n ≤ m) : inR x m := ⟨h.1, Nat.lt_of_lt_of_le h.2 hm⟩
theorem xDj0 {a : xAd} : xDj [] a := fun i j p q h => by simp at h
theorem xP0 {g : xG} {a : xAd} {H : Heap} (σ : xS) : va_P g.1 vwCl (xw [] g a σ) H := fun k q h => by simp [xwf] at h
/-- what the machine needs of a state of the class: every number that is used as a place, a bound or a divisor is in its range -/
def okX (σ : xS) : Prop := inR (σ 3 0 0) 61 ∧ (∀ v, v < 4 → inR (σ 6 0 v) 31) ∧ (∀ r, r < 60 → inR (σ 12 0 r) 4) ∧ (∀ f, f < 30 → inR (σ 11 0 f) 30) ∧ (∀ v, v < 4 → inR (σ 5 0 v) 1000001) ∧ inR (σ 2 0 0) 5 ∧ (∀ r, r < 60 → σ 15 0 r = -1 ∨ inR (σ 15 0 r) 4) ∧ (∀ v, v < 4 → ∀ k, k < 30 → inR (σ 22 v k) 30) ∧ (∀ r, r < 60 → inR (σ 13 0 r) 20) ∧ (∀ f, f < 30 → σ 10 0 f = 0 ∨ σ 10 0 f = 1)
def okF (σ : xS) : Prop := ∀ r, r < 60 → ∀ p, p < 4 → σ 24 r p = -1 ∨ inR (σ 24 r p) 30
/-- the tags that okX speaks of -/
def bT (t : Nat) : Bool := t == 2 || t == 3 || t == 5 || t == 6 || t == 10 || t == 11 || t == 12 || t == 13 || t == 15 || t == 22
theorem okX.congr {σ τ : xS} (h : ∀ t i j, bT t = true → τ t i j = σ t i j) (o : okX σ) : okX τ := by
  obtain ⟨o1, o2, o3, o4, o5, o6, o7, o8, o9, o10⟩ := o
  refine ⟨?_, fun v hv => ?_, fun r hr => ?_, fun f hf => ?_, fun v hv => ?_, ?_, fun r hr => ?_, fun v hv k hk => ?_, fun r hr => ?_, fun f hf => ?_⟩
  · rw [h 3 0 0 rfl]; exact o1
  · rw [h 6 0 v rfl]; exact o2 v hv
  · rw [h 12 0 r rfl]; exact o3 r hr
  · rw [h 11 0 f rfl]; exact o4 f hf
  · rw [h 5 0 v rfl]; exact o5 v hv
  · rw [h 2 0 0 rfl]; exact o6
  · rw [h 15 0 r rfl]; exact o7 r hr
  · rw [h 22 v k rfl]; exact o8 v hv k hk
  · rw [h 13 0 r rfl]; exact o9 r hr
  · rw [h 10 0 f rfl]; exact o10 f hf
theorem okX.n {σ : xS} (o : okX σ) : inR (σ 3 0 0) 61 := o.1
theorem okX.cnt {σ : xS} (o : okX σ) {v : Nat} (h : v < 4) : inR (σ 6 0 v) 31 := o.2.1 v h
theorem okX.ver {σ : xS} (o : okX σ) {r : Nat} (h : r < 60) : inR (σ 12 0 r) 4 := o.2.2.1 r h
theorem okX.std {σ : xS} (o : okX σ) {f : Nat} (h : f < 30) : inR (σ 11 0 f) 30 := o.2.2.2.1 f h
theorem okX.ses {σ : xS} (o : okX σ) {v : Nat} (h : v < 4) : inR (σ 5 0 v) 1000001 := o.2.2.2.2.1 v h
theorem okX.dep {σ : xS} (o : okX σ) : inR (σ 2 0 0) 5 := o.2.2.2.2.2.1
theorem okX.fix {σ : xS} (o : okX σ) {r : Nat} (h : r < 60) : σ 15 0 r = -1 ∨ inR (σ 15 0 r) 4 := o.2.2.2.2.2.2.1 r h
theorem okX.fn {σ : xS} (o : okX σ) {v k : Nat} (h : v < 4) (hk : k < 30) : inR (σ 22 v k) 30 := o.2.2.2.2.2.2.2.1 v h k hk
theorem okX.usr {σ : xS} (o : okX σ) {r : Nat} (h : r < 60) : inR (σ 13 0 r) 20 := o.2.2.2.2.2.2.2.2.1 r h
theorem okX.ign {σ : xS} (o : okX σ) {f : Nat} (h : f < 30) : σ 10 0 f = 0 ∨ σ 10 0 f = 1 := o.2.2.2.2.2.2.2.2.2 f h
def ovlA (σ : xS) (v : Nat) (x y : Int32) : Nat → Nat → Bool
  | 0, _ => false
  | n + 1, k => if ¬ y < σ 20 v k ∧ ¬ σ 21 v k < x then true else ovlA σ v x y n (k + 1)
def fnA (σ : xS) (v : Nat) (x : Int32) : Nat → Nat → Int32
  | 0, _ => -1
  | n + 1, k => if ¬ x < σ 20 v k ∧ ¬ σ 21 v k < x then σ 22 v k else fnA σ v x n (k + 1)
def fnX (σ : xS) (v : Nat) (x : Int32) : Int32 := fnA σ v x (nv (σ 6 0 v)) 0
def addS (σ : xS) (v c : Nat) (x y z : Int32) : xS := up3 (up3 (up3 (up3 σ 20 v c x) 21 v c y) 22 v c z) 6 0 v (nI (c + 1))
def ldA (σ : xS) (f : Nat) : Nat → Nat → Nat
  | 0, t => t
  | n + 1, t => if t = f then t else ldA σ f n (nv (σ 11 0 t))
def ieA (σ : xS) : Nat → Nat → Nat
  | 0, t => t
  | n + 1, t => if nv (σ 11 0 t) = t then t else ieA σ n (nv (σ 11 0 t))
theorem x_end {g : xG} {NL : xNL} {a : xAd} {u : xS} {H : Heap} {t : State} (ht : t.heap = H) (hP : va_P g.1 vwCl (xw NL g a u) H) : va_P g.1 vwCl (xw NL g a u) t.heap := ht ▸ hP
/-- Reports -/
def radS (σ : xS) (n v u : Nat) : xS := up3 (up3 (up3 (up3 σ 12 0 n (nI v)) 13 0 n (nI u)) 15 0 n (-1)) 3 0 0 (nI (n + 1))
def stkS (σ : xS) (n : Nat) (x y z w : Int32) : xS := up3 (up3 (up3 (up3 σ 23 n 0 x) 23 n 1 y) 23 n 2 z) 23 n 3 w
/-- Buckets: a row of frames, place by place -/
def rdL (σ : xS) (r : Nat) : Nat → xS
  | 0 => σ
  | p + 1 => up3 (rdL σ r p) 24 r p (fnX (rdL σ r p) (nv (rdL σ r p 12 0 r)) (rdL σ r p 23 r p))
def rdS (σ : xS) (r : Nat) : xS := rdL σ r 4
theorem rdL_ne {σ : xS} {r : Nat} : ∀ (p t i j : Nat), t ≠ 24 → rdL σ r p t i j = σ t i j
  | 0, _, _, _, _ => rfl
  | p + 1, t, i, j, h => by
    show up3 (rdL σ r p) 24 r p _ t i j = _
    rw [up3_ne (fun z => h z.1)]
    exact rdL_ne p t i j h
theorem okX.ne {σ τ : xS} (o : okX σ) (h : ∀ t i j, bT t = true → τ t i j = σ t i j) : okX τ := okX.congr h o
theorem bT_ne {t u : Nat} (h : bT t = true) (hu : bT u = false) : t ≠ u := fun e => by rw [e, hu] at h; cases h
theorem rdL_ok {σ : xS} {r p : Nat} (o : okX σ) : okX (rdL σ r p) := o.ne (fun t i j h => rdL_ne p t i j (bT_ne h rfl))
def rsL (σ : xS) (v : Nat) : Nat → xS
  | 0 => σ
  | k + 1 => if nv (rsL σ v k 12 0 k) = v then rdS (rsL σ v k) k else rsL σ v k
def rsS (σ : xS) (v : Nat) : xS := rsL σ v (nv (σ 3 0 0))
theorem rsL_ne {σ : xS} {v : Nat} : ∀ (k t i j : Nat), t ≠ 24 → rsL σ v k t i j = σ t i j
  | 0, _, _, _, _ => rfl
  | k + 1, t, i, j, h => by
    unfold rsL
    split
    · exact (rdL_ne 4 t i j h).trans (rsL_ne k t i j h)
    · exact rsL_ne k t i j h
theorem rsL_ok {σ : xS} {v k : Nat} (o : okX σ) : okX (rsL σ v k) := o.ne (fun t i j h => rsL_ne k t i j (bT_ne h rfl))
/-- the frames that matter: the road over the places, then the rest -/
def pkL (r : Nat) : Nat → Nat → Nat → xS → Nat × xS
  | 0, _, q, τ => (q, τ)
  | n + 1, p, q, τ => if nv (τ 2 0 0) ≤ q then (q, τ) else if τ 24 r p = -1 then pkL r n (p + 1) q τ else if τ 10 0 (nv (τ 24 r p)) ≠ 0 then pkL r n (p + 1) q τ else pkL r n (p + 1) (q + 1) (up3 τ 25 r q (nI (ieA τ 30 (nv (τ 24 r p)))))
def flL (r : Nat) : Nat → Nat → xS → xS
  | 0, _, τ => τ
  | n + 1, k, τ => flL r n (k + 1) (up3 τ 25 r k (-1))
def pkS (τ : xS) (r : Nat) : xS := flL r (4 - (pkL r 4 0 0 τ).1) (pkL r 4 0 0 τ).1 (pkL r 4 0 0 τ).2
theorem pkL_ne {r : Nat} : ∀ (n p q : Nat) (τ : xS) (t i j : Nat), t ≠ 25 → (pkL r n p q τ).2 t i j = τ t i j
  | 0, _, _, _, _, _, _, _ => rfl
  | n + 1, p, q, τ, t, i, j, h => by
    unfold pkL
    split
    · rfl
    · split
      · exact pkL_ne n _ _ _ t i j h
      · split
        · exact pkL_ne n _ _ _ t i j h
        · rw [pkL_ne n _ _ _ t i j h, up3_ne (fun z => h z.1)]
theorem flL_ne {r : Nat} : ∀ (n k : Nat) (τ : xS) (t i j : Nat), t ≠ 25 → flL r n k τ t i j = τ t i j
  | 0, _, _, _, _, _, _ => rfl
  | n + 1, k, τ, t, i, j, h => by
    unfold flL
    rw [flL_ne n _ _ t i j h, up3_ne (fun z => h z.1)]
theorem pkS_ne {τ : xS} {r : Nat} (t i j : Nat) (h : t ≠ 25) : pkS τ r t i j = τ t i j := by
  unfold pkS
  rw [flL_ne _ _ _ t i j h, pkL_ne _ _ _ _ t i j h]
theorem pkS_ok {σ : xS} {r : Nat} (o : okX σ) : okX (pkS σ r) := o.ne (fun t i j h => pkS_ne t i j (bT_ne h rfl))
def sgL (τ : xS) (r : Nat) : Nat → Int32
  | 0 => 0
  | p + 1 => sgL τ r p * 31 + τ 25 r p + 1
def sgX (τ : xS) (r : Nat) : Int32 := if sgL τ r 4 ≤ 0 then -1 - τ 12 0 r * 10000 - τ 23 r 0 else sgL τ r 4
def nmA (τ : xS) (r : Nat) : Nat → Nat → Nat
  | 0, k => k
  | n + 1, k => if τ 18 0 k = τ 18 0 r then k else nmA τ r n (k + 1)
def soS (σ : xS) (r : Nat) : xS := up3 (up3 (pkS σ r) 18 0 r (sgX (pkS σ r) r)) 19 0 r (nI (nmA (up3 (pkS σ r) 18 0 r (sgX (pkS σ r) r)) r r 0))
def dT (t : Nat) : Bool := t == 18 || t == 19 || t == 25
theorem soS_ne {σ : xS} {r : Nat} (t i j : Nat) (h : dT t = false) : soS σ r t i j = σ t i j := by
  have h1 : t ≠ 18 ∧ t ≠ 19 ∧ t ≠ 25 := by simp [dT] at h; omega
  unfold soS
  rw [up3_ne (fun z => h1.2.1 z.1), up3_ne (fun z => h1.1 z.1), pkS_ne t i j h1.2.2]
theorem dT_of {t : Nat} (h : bT t = true) : dT t = false := by
  simp [bT] at h
  simp [dT]
  omega
theorem soS_ok {σ : xS} {r : Nat} (o : okX σ) : okX (soS σ r) := o.ne (fun t i j h => soS_ne t i j (dT_of h))
def saL (σ : xS) : Nat → xS
  | 0 => σ
  | k + 1 => soS (saL σ k) k
def saS (σ : xS) : xS := saL σ (nv (σ 3 0 0))
theorem saL_ne {σ : xS} : ∀ (k t i j : Nat), dT t = false → saL σ k t i j = σ t i j
  | 0, _, _, _, _ => rfl
  | k + 1, t, i, j, h => (soS_ne t i j h).trans (saL_ne k t i j h)
theorem saL_ok {σ : xS} {k : Nat} (o : okX σ) : okX (saL σ k) := o.ne (fun t i j h => saL_ne k t i j (dT_of h))
theorem okF.ne {σ τ : xS} (o : okF σ) (h : ∀ i j, τ 24 i j = σ 24 i j) : okF τ := fun r hr p hp => by rw [h]; exact o r hr p hp
theorem saL_okF {σ : xS} {k : Nat} (o : okF σ) : okF (saL σ k) := o.ne (fun i j => saL_ne k 24 i j rfl)
/-- how many reports are of a bucket, in a version -/
def isOfX (σ : xS) (r : Nat) (nm : Int32) (v : Nat) : Bool := decide (σ 19 0 r = nm) && decide (nv (σ 12 0 r) = v)
def ciX (σ : xS) (nm : Int32) (v : Nat) : Nat → Nat
  | 0 => 0
  | k + 1 => ciX σ nm v k + (if isOfX σ k nm v = true then 1 else 0)
theorem ciX_le {σ : xS} {nm : Int32} {v : Nat} : ∀ k, ciX σ nm v k ≤ k
  | 0 => Nat.le_refl _
  | k + 1 => by
    unfold ciX
    have := ciX_le (σ := σ) (nm := nm) (v := v) k
    split <;> omega
def coX (σ : xS) (nm : Int32) (v : Nat) : Nat := ciX σ nm v (nv (σ 3 0 0))
def raX (σ : xS) (nm : Int32) (v : Nat) : Int32 := if σ 5 0 v ≤ 0 then 0 else nI (10000 * coX σ nm v) / σ 5 0 v
def rtX (σ : xS) (nm : Int32) (v : Nat) : Nat := 10000 * coX σ nm v / nv (σ 5 0 v)
theorem nI_le0 {n : Nat} (h : n < 2 ^ 31) : nI n ≤ 0 ↔ n = 0 := by
  have := nI_leI (a := n) (b := 0) h (by decide)
  rw [show (0 : Int32) = nI 0 from rfl, this]
  omega
section XROWS3
variable {p : Program} {l : Launch} {e : Env} {R : Room} {s : State} {m : MethodId} {args : Array Value} {below : List Frame} {meth : Method} {c : Code} {H : Heap} {locs : List Loc} {cells slots : Nat} {Q : State → Prop}
variable {cc : ByteArray} {pc : Nat} {ls : Array Slot} {rest : List Value}
theorem x_ifle (hexec : p.tables.exec = Jvm.exec) (hb : c.code = cc) {x : Nat} {off : Int} {tgt : Nat} (hx : x < 2 ^ 31) (hdg : decode cc pc = .ok (.ifCond .le off, 3)) (ht : (pc : Int) + off = (tgt : Int))
    (kt : x = 0 → W p l e R s m args below meth c H locs cells slots Q (F0 m tgt ls rest)) (kf : 0 < x → W p l e R s m args below meth c H locs cells slots Q (F0 m (pc + 3) ls rest)) : W p l e R s m args below meth c H locs cells slots Q (F0 m pc ls (.int (nI x) :: rest)) :=
  lv_if_le hexec hb hdg ht (fun h => kt ((nI_le0 hx).mp h)) (fun h => kf (Nat.pos_of_ne_zero (fun h2 => h ((nI_le0 hx).mpr h2))))
end XROWS3
def ibX (v n : Int32) : Bool := decide (¬ v < 0) && decide (¬ n ≤ v)
def usX (σ : xS) (nm : Int32) (v : Nat) : Nat → Int32
  | 0 => 0
  | k + 1 => if isOfX σ k nm v = true then usX σ nm v k ||| (nI 1 <<< (nI (nv (σ 13 0 k)) &&& 31)) else usX σ nm v k
def grX (σ : xS) (nm : Int32) : Nat → Nat
  | 0 => 0
  | k + 1 => if grX σ nm k < rtX σ nm k then rtX σ nm k else grX σ nm k
theorem coX_le {σ : xS} {nm : Int32} {v : Nat} (o : okX σ) : coX σ nm v ≤ 60 := by
  have h1 := ciX_le (σ := σ) (nm := nm) (v := v) (nv (σ 3 0 0))
  have h2 := o.n.2
  unfold coX
  omega
theorem rtX_le {σ : xS} {nm : Int32} {v : Nat} (o : okX σ) : rtX σ nm v ≤ 600000 := by
  have h1 := coX_le (nm := nm) (v := v) o
  unfold rtX
  exact Nat.le_trans (Nat.div_le_self _ _) (by omega)
theorem grX_le {σ : xS} {nm : Int32} (o : okX σ) : ∀ k, grX σ nm k ≤ 600000
  | 0 => Nat.zero_le _
  | k + 1 => by
    unfold grX
    split
    · exact rtX_le o
    · exact grX_le o k
def ush (x k : Int32) : Int32 := (x.toUInt32 >>> (k.toUInt32 &&& Int32.toUInt32 31)).toInt32
def bc1 (x : Int32) : Int32 := x - (ush x (nI 1) &&& 1431655765)
def bc2 (x : Int32) : Int32 := (x &&& 858993459) + (ush x (nI 2) &&& 858993459)
def bc3 (x : Int32) : Int32 := (x + ush x (nI 4)) &&& 252645135
def bc4 (x : Int32) : Int32 := x + ush x (nI 8)
def bc5 (x : Int32) : Int32 := x + ush x (nI 16)
def bcX (x : Int32) : Int32 := bc5 (bc4 (bc3 (bc2 (bc1 x)))) &&& nI 63
def ucX (σ : xS) (nm : Int32) (v : Nat) : Int32 := bcX (usX σ nm v (nv (σ 3 0 0)))
theorem mx_nI {a b : Nat} (ha : a < 2 ^ 31) (hb : b < 2 ^ 31) : (if nI a < nI b then nI b else nI a) = nI (if a < b then b else a) := by
  by_cases h : a < b
  · rw [if_pos h, if_pos ((nI_ltI ha hb).mpr h)]
  · rw [if_neg h, if_neg (fun z => h ((nI_ltI ha hb).mp z))]
def mfX (x y : Int32) : Bool := decide (y = -1) || (decide (¬ x = -1) && ibX y (nI 10000))
end
section
set_option maxHeartbeats 4000000 in
set_option maxRecDepth 100000 in
theorem mtX0_isFull (l : Launch) (g : xG) (a : xAd) (σ : xS) (v : Nat) (hv : v < 4) (ok : okX σ) : xMi l yX0_isFull wsX0_isFull ({ frames := 0, cells := 0, slots := 0, locals := 0 }) NLX g a σ [.ref (a 1 0), .int (nI v)] (bI (decide (30 ≤ nv (σ 6 0 v)))) := by
  unfold xMi
  refine Met.ofW (cc := cX0_isFull) (maxL := 2) (ret := (some .boolean)) (by decide) rfl ?_
  intro p e s m args below meth c s₁ B hml hv
  obtain ⟨rfl, hP, hK, hN, hj⟩ := hv
  have hr := B.returns
  have hlocks := B.notSynchronized
  have C0 : xC p s m _ c cX0_isFull 2 wsX0_isFull RX0 NLX g a (xA NLX a s.heap.size) := ⟨⟨B.exec, B.bytes, hml, findClass_of_methodNamed B.named, atoms_spec (ws := wsX0_isFull) B.pre⟩, hK, hN, hj, fun n h => Or.inl ⟨n, h, rfl⟩, fun q h => Or.inr h⟩
  have hS : va_S (xA NLX a s.heap.size) s.heap s.heap [] := va_S.rf
  have hl := lv_entry ([.ref (a 1 0), .int (nI v)]) (n := 2) (Nat.le_of_ble_eq_true rfl)
  rw [lg_entry_eq]
  generalize (lg_sl ([.ref (a 1 0), .int (nI v)]) ++ List.replicate (2 - (lg_sl ([.ref (a 1 0), .int (nI v)])).length) Slot.unset).toArray = ls at hl ⊢
  have hl : lv_has ls 2 [(0, .ref (a 1 0)), (1, .int (nI v))] := hl
  have k_0 : Cond.fieldLink RX0 9 RX0 (TX0 0).2.1 (TX0 0).2.2.1 ∈ wsX0_isFull := by decide +kernel
  have i_X0 : ∀ w ∈ wsX00, w ∈ wsX0_isFull := by decide +kernel
  refine lv_aload_n C0.hx C0.hb dX0_isFull_0 rfl (lv_at hl 0 rfl) ?_
  refine x_get C0 hP 1 (mX_n rfl) rfl rfl 0 (by decide) i_X0 k_0 rfl rfl dX0_isFull_1 ?_
  refine lv_iload_n C0.hx C0.hb dX0_isFull_4 rfl (lv_at hl 1 rfl) ?_
  refine x_iald C0 hP 6 v 4 (mX_n rfl) rfl (by omega) (by decide) dX0_isFull_5 ?_
  obtain ⟨e_1, b_2⟩ := (ok.cnt (by omega) : inR (σ 6 0 v) _)
  refine x_top e_1 ?_
  refine lv_bipush (v := nI 30) C0.hx C0.hb dX0_isFull_6 (by decide) ?_
  refine x_join (α := Bool) 16 (fun x H' locs' ls => (H' = s.heap ∧ locs' = [] ∧ x = decide (30 ≤ nv (σ 6 0 v))) ∧ lv_has ls 2 [(0, .ref (a 1 0)), (1, .int (nI v))]) (fun x => [.int (bI x)]) ?_ (fun J16 => ?_)
  · rintro x _ _ ls ⟨⟨rfl, rfl, hj16_0⟩, hl⟩
    exact W.zret (v := bI x) C0.hx C0.hb hr (bI_nar _) (fun t ht hW => ⟨_, rfl, congrArg bI hj16_0, ht⟩) (fun q h => nomatch h) dX0_isFull_16
  ·
    refine x_icmp_lt (tgt := 15) C0.hx C0.hb (by omega) (by omega) dX0_isFull_8 (by decide) (fun c_3 => ?_) (fun c_3 => ?_)
    ·
      refine lv_iconst (v := nI 0) C0.hx C0.hb dX0_isFull_15 (by decide) ?_
      exact J16 false _ _ ls ⟨⟨rfl, rfl, (by simp only [true_eq_decide_iff, false_eq_decide_iff]; omega)⟩, (lv_sub hl [0, 1] rfl)⟩
    ·
      refine lv_iconst (v := nI 1) C0.hx C0.hb dX0_isFull_11 (by decide) ?_
      refine lv_goto (tgt := 16) C0.hx C0.hb dX0_isFull_12 (by decide) ?_
      exact J16 true _ _ ls ⟨⟨rfl, rfl, (by simp only [true_eq_decide_iff, false_eq_decide_iff]; omega)⟩, (lv_sub hl [0, 1] rfl)⟩

set_option maxHeartbeats 4000000 in
set_option maxRecDepth 100000 in
theorem mtX0_overlaps (l : Launch) (g : xG) (a : xAd) (σ : xS) (v : Nat) (hv : v < 4) (ok : okX σ) (x y : Int32) : xMi l yX0_overlaps wsX0_overlaps ({ frames := 0, cells := 0, slots := 0, locals := 0 }) NLX g a σ [.ref (a 1 0), .int (nI v), .int x, .int y] (bI (ovlA σ v x y (nv (σ 6 0 v)) 0)) := by
  unfold xMi
  refine Met.ofW (cc := cX0_overlaps) (maxL := 5) (ret := (some .boolean)) (by decide) rfl ?_
  intro p e s m args below meth c s₁ B hml hv
  obtain ⟨rfl, hP, hK, hN, hj⟩ := hv
  have hr := B.returns
  have hlocks := B.notSynchronized
  have C0 : xC p s m _ c cX0_overlaps 5 wsX0_overlaps RX0 NLX g a (xA NLX a s.heap.size) := ⟨⟨B.exec, B.bytes, hml, findClass_of_methodNamed B.named, atoms_spec (ws := wsX0_overlaps) B.pre⟩, hK, hN, hj, fun n h => Or.inl ⟨n, h, rfl⟩, fun q h => Or.inr h⟩
  have hS : va_S (xA NLX a s.heap.size) s.heap s.heap [] := va_S.rf
  have hl := lv_entry ([.ref (a 1 0), .int (nI v), .int x, .int y]) (n := 5) (Nat.le_of_ble_eq_true rfl)
  rw [lg_entry_eq]
  generalize (lg_sl ([.ref (a 1 0), .int (nI v), .int x, .int y]) ++ List.replicate (5 - (lg_sl ([.ref (a 1 0), .int (nI v), .int x, .int y])).length) Slot.unset).toArray = ls at hl ⊢
  have hl : lv_has ls 5 [(0, .ref (a 1 0)), (1, .int (nI v)), (2, .int x), (3, .int y)] := hl
  have k_0 : Cond.fieldLink RX0 9 RX0 (TX0 0).2.1 (TX0 0).2.2.1 ∈ wsX0_overlaps := by decide +kernel
  have i_X0 : ∀ w ∈ wsX00, w ∈ wsX0_overlaps := by decide +kernel
  have k_2 : Cond.fieldLink RX0 17 RX0 (TX0 1).2.1 (TX0 1).2.2.1 ∈ wsX0_overlaps := by decide +kernel
  have k_3 : Cond.fieldLink RX0 20 RX0 (TX0 2).2.1 (TX0 2).2.2.1 ∈ wsX0_overlaps := by decide +kernel
  refine lv_iconst (v := nI 0) C0.hx C0.hb dX0_overlaps_0 (by decide) ?_
  refine lv_istore (lv' := [(4, .int (nI 0)), (0, .ref (a 1 0)), (1, .int (nI v)), (2, .int x), (3, .int y)]) C0.hx C0.hb dX0_overlaps_1 hl (by decide) rfl (fun ls hl => ?_)
  refine x_loopR (α := Nat × Nat) (fun u => u.1) (fun ⟨n, k⟩ ls => k + n = nv (σ 6 0 v) ∧ ovlA σ v x y n k = ovlA σ v x y (nv (σ 6 0 v)) 0 ∧ lv_has ls 5 [(0, .ref (a 1 0)), (1, .int (nI v)), (2, .int x), (3, .int y), (4, .int (nI k))]) ?_ ((nv (σ 6 0 v), 0)) ⟨(by omega), rfl, (lv_sub hl [1, 2, 3, 4, 0] rfl)⟩
  rintro ⟨n, k⟩ ls ⟨h3_0, h3_1, hl⟩ ih3
  refine lv_iload C0.hx C0.hb dX0_overlaps_3 (lv_at hl 4 rfl) ?_
  refine lv_aload_n C0.hx C0.hb dX0_overlaps_5 rfl (lv_at hl 0 rfl) ?_
  refine x_get C0 hP 1 (mX_n rfl) rfl rfl 0 (by decide) i_X0 k_0 rfl rfl dX0_overlaps_6 ?_
  refine lv_iload_n C0.hx C0.hb dX0_overlaps_9 rfl (lv_at hl 1 rfl) ?_
  refine x_iald C0 hP 6 v 4 (mX_n rfl) rfl (by omega) (by decide) dX0_overlaps_10 ?_
  obtain ⟨e_1, b_2⟩ := (ok.cnt (by omega) : inR (σ 6 0 v) _)
  refine x_top e_1 ?_
  refine x_icmp_ge (tgt := 48) C0.hx C0.hb (by omega) (by omega) dX0_overlaps_11 (by decide) (fun c_3 => ?_) (fun c_3 => ?_)
  ·
    refine lv_iconst (v := nI 0) C0.hx C0.hb dX0_overlaps_48 (by decide) ?_
    exact W.zret (v := nI 0) C0.hx C0.hb hr rfl (fun t ht hW => ⟨_, rfl, by rw [← h3_1, show n = 0 by omega]; rfl, ht⟩) (fun q h => nomatch h) dX0_overlaps_49
  ·
    refine lv_aload_n C0.hx C0.hb dX0_overlaps_14 rfl (lv_at hl 0 rfl) ?_
    refine x_get C0 hP 1 (mX_n rfl) rfl rfl 1 (by decide) i_X0 k_2 rfl rfl dX0_overlaps_15 ?_
    refine lv_iload_n C0.hx C0.hb dX0_overlaps_18 rfl (lv_at hl 1 rfl) ?_
    refine x_aald C0 hP 7 v 4 20 (mX_n rfl) rfl (by omega) (by decide) dX0_overlaps_19 ?_
    refine lv_iload C0.hx C0.hb dX0_overlaps_20 (lv_at hl 4 rfl) ?_
    refine x_iald C0 hP 20 k 30 (mX20 (by omega)) rfl (by omega) (by decide) dX0_overlaps_22 ?_
    refine lv_iload_n C0.hx C0.hb dX0_overlaps_23 rfl (lv_at hl 3 rfl) ?_
    refine lv_icmp_gt (tgt := 42) C0.hx C0.hb dX0_overlaps_24 (by decide) (fun c_4 => ?_) (fun c_4 => ?_)
    ·
      obtain ⟨n, rfl⟩ : ∃ z, n = z + 1 := ⟨n - 1, by omega⟩
      have hR : ovlA σ v x y n (k + 1) = ovlA σ v x y (nv (σ 6 0 v)) 0 := by rw [← h3_1, ovlA, if_neg (by rintro ⟨z1, z2⟩; first | exact z1 c_4 | exact z2 c_4)]
      refine lv_iinc (v := nI (k + 1)) (lv' := [(4, .int (nI (k + 1))), (0, .ref (a 1 0)), (1, .int (nI v)), (2, .int x), (3, .int y)]) C0.hx C0.hb dX0_overlaps_42 hl (k := 4) rfl (nI_1 k) (by decide) rfl (fun ls hl => ?_)
      refine lv_goto (tgt := 3) C0.hx C0.hb dX0_overlaps_45 (by decide) ?_
      exact ih3 ((n, k + 1)) ls ⟨(by omega), hR, (lv_sub hl [1, 2, 3, 4, 0] rfl)⟩ (Nat.lt_succ_self _)
    ·
      refine lv_iload_n C0.hx C0.hb dX0_overlaps_27 rfl (lv_at hl 2 rfl) ?_
      refine lv_aload_n C0.hx C0.hb dX0_overlaps_28 rfl (lv_at hl 0 rfl) ?_
      refine x_get C0 hP 1 (mX_n rfl) rfl rfl 2 (by decide) i_X0 k_3 rfl rfl dX0_overlaps_29 ?_
      refine lv_iload_n C0.hx C0.hb dX0_overlaps_32 rfl (lv_at hl 1 rfl) ?_
      refine x_aald C0 hP 8 v 4 21 (mX_n rfl) rfl (by omega) (by decide) dX0_overlaps_33 ?_
      refine lv_iload C0.hx C0.hb dX0_overlaps_34 (lv_at hl 4 rfl) ?_
      refine x_iald C0 hP 21 k 30 (mX21 (by omega)) rfl (by omega) (by decide) dX0_overlaps_36 ?_
      refine lv_icmp_gt (tgt := 42) C0.hx C0.hb dX0_overlaps_37 (by decide) (fun c_5 => ?_) (fun c_5 => ?_)
      ·
        obtain ⟨n, rfl⟩ : ∃ z, n = z + 1 := ⟨n - 1, by omega⟩
        have hR : ovlA σ v x y n (k + 1) = ovlA σ v x y (nv (σ 6 0 v)) 0 := by rw [← h3_1, ovlA, if_neg (by rintro ⟨z1, z2⟩; first | exact z1 c_5 | exact z2 c_5)]
        refine lv_iinc (v := nI (k + 1)) (lv' := [(4, .int (nI (k + 1))), (0, .ref (a 1 0)), (1, .int (nI v)), (2, .int x), (3, .int y)]) C0.hx C0.hb dX0_overlaps_42 hl (k := 4) rfl (nI_1 k) (by decide) rfl (fun ls hl => ?_)
        refine lv_goto (tgt := 3) C0.hx C0.hb dX0_overlaps_45 (by decide) ?_
        exact ih3 ((n, k + 1)) ls ⟨(by omega), hR, (lv_sub hl [1, 2, 3, 4, 0] rfl)⟩ (Nat.lt_succ_self _)
      ·
        refine lv_iconst (v := nI 1) C0.hx C0.hb dX0_overlaps_40 (by decide) ?_
        exact W.zret (v := nI 1) C0.hx C0.hb hr rfl (fun t ht hW => ⟨_, rfl, by rw [← h3_1]; obtain ⟨n, rfl⟩ : ∃ z, n = z + 1 := ⟨n - 1, by omega⟩; rw [ovlA, if_pos ⟨c_4, c_5⟩]; rfl, ht⟩) (fun q h => nomatch h) dX0_overlaps_41

set_option maxHeartbeats 4000000 in
set_option maxRecDepth 100000 in
theorem mtX0_add (l : Launch) (g : xG) (a : xAd) (σ : xS) (v : Nat) (hv : v < 4) (ok : okX σ) (hc : nv (σ 6 0 v) < 30) (x y z : Int32) : xMv l yX0_add wsX0_add ({ frames := 0, cells := 0, slots := 0, locals := 0 }) NLX g a σ [.ref (a 1 0), .int (nI v), .int x, .int y, .int z] (addS σ v (nv (σ 6 0 v)) x y z) := by
  intro sz
  refine Met.ofW (cc := cX0_add) (maxL := 6) (ret := none) (by decide) rfl ?_
  intro p e s m args below meth c s₁ B hml hv
  obtain ⟨rfl, hsz, hP, hK, hN, hj⟩ := hv
  subst hsz
  have hr := B.returns
  have hlocks := B.notSynchronized
  have C0 : xC p s m _ c cX0_add 6 wsX0_add RX0 NLX g a (xA NLX a s.heap.size) := ⟨⟨B.exec, B.bytes, hml, findClass_of_methodNamed B.named, atoms_spec (ws := wsX0_add) B.pre⟩, hK, hN, hj, fun n h => Or.inl ⟨n, h, rfl⟩, fun q h => Or.inr h⟩
  have hS : va_S (xA NLX a s.heap.size) s.heap s.heap [] := va_S.rf
  have hl := lv_entry ([.ref (a 1 0), .int (nI v), .int x, .int y, .int z]) (n := 6) (Nat.le_of_ble_eq_true rfl)
  rw [lg_entry_eq]
  generalize (lg_sl ([.ref (a 1 0), .int (nI v), .int x, .int y, .int z]) ++ List.replicate (6 - (lg_sl ([.ref (a 1 0), .int (nI v), .int x, .int y, .int z])).length) Slot.unset).toArray = ls at hl ⊢
  have hl : lv_has ls 6 [(0, .ref (a 1 0)), (1, .int (nI v)), (2, .int x), (3, .int y), (4, .int z)] := hl
  have k_0 : Cond.fieldLink RX0 9 RX0 (TX0 0).2.1 (TX0 0).2.2.1 ∈ wsX0_add := by decide +kernel
  have i_X0 : ∀ w ∈ wsX00, w ∈ wsX0_add := by decide +kernel
  have k_2 : Cond.fieldLink RX0 17 RX0 (TX0 1).2.1 (TX0 1).2.2.1 ∈ wsX0_add := by decide +kernel
  have k_3 : Cond.fieldLink RX0 20 RX0 (TX0 2).2.1 (TX0 2).2.2.1 ∈ wsX0_add := by decide +kernel
  have k_4 : Cond.fieldLink RX0 23 RX0 (TX0 3).2.1 (TX0 3).2.2.1 ∈ wsX0_add := by decide +kernel
  refine lv_aload_n C0.hx C0.hb dX0_add_0 rfl (lv_at hl 0 rfl) ?_
  refine x_get C0 hP 1 (mX_n rfl) rfl rfl 0 (by decide) i_X0 k_0 rfl rfl dX0_add_1 ?_
  refine lv_iload_n C0.hx C0.hb dX0_add_4 rfl (lv_at hl 1 rfl) ?_
  refine x_iald C0 hP 6 v 4 (mX_n rfl) rfl (by omega) (by decide) dX0_add_5 ?_
  obtain ⟨e_1, b_2⟩ := (ok.cnt (by omega) : inR (σ 6 0 v) _)
  refine x_top e_1 ?_
  refine lv_istore (lv' := [(5, .int (nI (nv (σ 6 0 v)))), (0, .ref (a 1 0)), (1, .int (nI v)), (2, .int x), (3, .int y), (4, .int z)]) C0.hx C0.hb dX0_add_6 hl (by decide) rfl (fun ls hl => ?_)
  refine lv_aload_n C0.hx C0.hb dX0_add_8 rfl (lv_at hl 1 rfl) ?_
  refine x_get C0 hP 1 (mX_n rfl) rfl rfl 1 (by decide) i_X0 k_2 rfl rfl dX0_add_9 ?_
  refine lv_iload_n C0.hx C0.hb dX0_add_12 rfl (lv_at hl 2 rfl) ?_
  refine x_aald C0 hP 7 v 4 20 (mX_n rfl) rfl (by omega) (by decide) dX0_add_13 ?_
  refine lv_iload C0.hx C0.hb dX0_add_14 (lv_at hl 0 rfl) ?_
  refine lv_iload_n C0.hx C0.hb dX0_add_16 rfl (lv_at hl 3 rfl) ?_
  refine x_iast C0 hP hS 20 (nv (σ 6 0 v)) 30 (v := x) (mX20 (by omega)) (fun _ => rfl) (by omega) (by decide) dX0_add_17 (fun H locs hP hS => ?_)
  refine lv_aload_n C0.hx C0.hb dX0_add_18 rfl (lv_at hl 1 rfl) ?_
  refine x_get C0 hP 1 (mX_n rfl) rfl rfl 2 (by decide) i_X0 k_3 rfl rfl dX0_add_19 ?_
  refine lv_iload_n C0.hx C0.hb dX0_add_22 rfl (lv_at hl 2 rfl) ?_
  refine x_aald C0 hP 8 v 4 21 (mX_n rfl) rfl (by omega) (by decide) dX0_add_23 ?_
  refine lv_iload C0.hx C0.hb dX0_add_24 (lv_at hl 0 rfl) ?_
  refine lv_iload_n C0.hx C0.hb dX0_add_26 rfl (lv_at hl 4 rfl) ?_
  refine x_iast C0 hP hS 21 (nv (σ 6 0 v)) 30 (v := y) (mX21 (by omega)) (fun _ => rfl) (by omega) (by decide) dX0_add_27 (fun H locs hP hS => ?_)
  refine lv_aload_n C0.hx C0.hb dX0_add_28 rfl (lv_at hl 1 rfl) ?_
  refine x_get C0 hP 1 (mX_n rfl) rfl rfl 3 (by decide) i_X0 k_4 rfl rfl dX0_add_29 ?_
  refine lv_iload_n C0.hx C0.hb dX0_add_32 rfl (lv_at hl 2 rfl) ?_
  refine x_aald C0 hP 9 v 4 22 (mX_n rfl) rfl (by omega) (by decide) dX0_add_33 ?_
  refine lv_iload C0.hx C0.hb dX0_add_34 (lv_at hl 0 rfl) ?_
  refine lv_iload C0.hx C0.hb dX0_add_36 (lv_at hl 5 rfl) ?_
  refine x_iast C0 hP hS 22 (nv (σ 6 0 v)) 30 (v := z) (mX22 (by omega)) (fun _ => rfl) (by omega) (by decide) dX0_add_38 (fun H locs hP hS => ?_)
  refine lv_aload_n C0.hx C0.hb dX0_add_39 rfl (lv_at hl 1 rfl) ?_
  refine x_get C0 hP 1 (mX_n rfl) rfl rfl 0 (by decide) i_X0 k_0 rfl rfl dX0_add_40 ?_
  refine lv_iload_n C0.hx C0.hb dX0_add_43 rfl (lv_at hl 2 rfl) ?_
  refine lv_iload C0.hx C0.hb dX0_add_44 (lv_at hl 0 rfl) ?_
  refine lv_iconst (v := nI 1) C0.hx C0.hb dX0_add_46 (by decide) ?_
  refine lv_iadd C0.hx C0.hb dX0_add_47 ?_
  refine x_top (nI_add (nv (σ 6 0 v)) 1) ?_
  refine x_iast C0 hP hS 6 v 4 (v := nI ((nv (σ 6 0 v)) + 1)) (mX_n rfl) (fun _ => rfl) (by omega) (by decide) dX0_add_48 (fun H locs hP hS => ?_)
  exact W.vret C0.hx C0.hb hr (fun t ht hW => ⟨⟨up3 (up3 (up3 (up3 σ 20 v (nv (σ 6 0 v)) x) 21 v (nv (σ 6 0 v)) y) 22 v (nv (σ 6 0 v)) z) 6 0 v (nI ((nv (σ 6 0 v)) + 1)), rfl, rfl, x_end ht hP⟩, hS.F ht⟩) hS.2.2 dX0_add_49

set_option maxHeartbeats 4000000 in
set_option maxRecDepth 100000 in
theorem mtX0_functionAt (l : Launch) (g : xG) (a : xAd) (σ : xS) (v : Nat) (hv : v < 4) (ok : okX σ) (x : Int32) : xMi l yX0_functionAt wsX0_functionAt ({ frames := 0, cells := 0, slots := 0, locals := 0 }) NLX g a σ [.ref (a 1 0), .int (nI v), .int x] (fnX σ v x) := by
  unfold xMi
  refine Met.ofW (cc := cX0_functionAt) (maxL := 4) (ret := (some .int)) (by decide) rfl ?_
  intro p e s m args below meth c s₁ B hml hv
  obtain ⟨rfl, hP, hK, hN, hj⟩ := hv
  have hr := B.returns
  have hlocks := B.notSynchronized
  have C0 : xC p s m _ c cX0_functionAt 4 wsX0_functionAt RX0 NLX g a (xA NLX a s.heap.size) := ⟨⟨B.exec, B.bytes, hml, findClass_of_methodNamed B.named, atoms_spec (ws := wsX0_functionAt) B.pre⟩, hK, hN, hj, fun n h => Or.inl ⟨n, h, rfl⟩, fun q h => Or.inr h⟩
  have hS : va_S (xA NLX a s.heap.size) s.heap s.heap [] := va_S.rf
  have hl := lv_entry ([.ref (a 1 0), .int (nI v), .int x]) (n := 4) (Nat.le_of_ble_eq_true rfl)
  rw [lg_entry_eq]
  generalize (lg_sl ([.ref (a 1 0), .int (nI v), .int x]) ++ List.replicate (4 - (lg_sl ([.ref (a 1 0), .int (nI v), .int x])).length) Slot.unset).toArray = ls at hl ⊢
  have hl : lv_has ls 4 [(0, .ref (a 1 0)), (1, .int (nI v)), (2, .int x)] := hl
  have k_0 : Cond.fieldLink RX0 9 RX0 (TX0 0).2.1 (TX0 0).2.2.1 ∈ wsX0_functionAt := by decide +kernel
  have i_X0 : ∀ w ∈ wsX00, w ∈ wsX0_functionAt := by decide +kernel
  have k_2 : Cond.fieldLink RX0 17 RX0 (TX0 1).2.1 (TX0 1).2.2.1 ∈ wsX0_functionAt := by decide +kernel
  have k_3 : Cond.fieldLink RX0 20 RX0 (TX0 2).2.1 (TX0 2).2.2.1 ∈ wsX0_functionAt := by decide +kernel
  have k_4 : Cond.fieldLink RX0 23 RX0 (TX0 3).2.1 (TX0 3).2.2.1 ∈ wsX0_functionAt := by decide +kernel
  refine lv_iconst (v := nI 0) C0.hx C0.hb dX0_functionAt_0 (by decide) ?_
  refine lv_istore_n (lv' := [(3, .int (nI 0)), (0, .ref (a 1 0)), (1, .int (nI v)), (2, .int x)]) C0.hx C0.hb dX0_functionAt_1 rfl hl (by decide) rfl (fun ls hl => ?_)
  refine x_loopR (α := Nat × Nat) (fun u => u.1) (fun ⟨n, k⟩ ls => k + n = nv (σ 6 0 v) ∧ fnA σ v x n k = fnX σ v x ∧ lv_has ls 4 [(0, .ref (a 1 0)), (1, .int (nI v)), (2, .int x), (3, .int (nI k))]) ?_ ((nv (σ 6 0 v), 0)) ⟨(by omega), rfl, (lv_sub hl [1, 2, 3, 0] rfl)⟩
  rintro ⟨n, k⟩ ls ⟨h2_0, h2_1, hl⟩ ih2
  refine lv_iload_n C0.hx C0.hb dX0_functionAt_2 rfl (lv_at hl 3 rfl) ?_
  refine lv_aload_n C0.hx C0.hb dX0_functionAt_3 rfl (lv_at hl 0 rfl) ?_
  refine x_get C0 hP 1 (mX_n rfl) rfl rfl 0 (by decide) i_X0 k_0 rfl rfl dX0_functionAt_4 ?_
  refine lv_iload_n C0.hx C0.hb dX0_functionAt_7 rfl (lv_at hl 1 rfl) ?_
  refine x_iald C0 hP 6 v 4 (mX_n rfl) rfl (by omega) (by decide) dX0_functionAt_8 ?_
  obtain ⟨e_1, b_2⟩ := (ok.cnt (by omega) : inR (σ 6 0 v) _)
  refine x_top e_1 ?_
  refine x_icmp_ge (tgt := 51) C0.hx C0.hb (by omega) (by omega) dX0_functionAt_9 (by decide) (fun c_3 => ?_) (fun c_3 => ?_)
  ·
    refine lv_iconst (v := -1) C0.hx C0.hb dX0_functionAt_51 (by decide) ?_
    exact W.iret (v := -1) C0.hx C0.hb hr (fun t ht hW => ⟨_, rfl, by rw [← h2_1, show n = 0 by omega]; rfl, ht⟩) (fun q h => nomatch h) dX0_functionAt_52
  ·
    refine lv_aload_n C0.hx C0.hb dX0_functionAt_12 rfl (lv_at hl 0 rfl) ?_
    refine x_get C0 hP 1 (mX_n rfl) rfl rfl 1 (by decide) i_X0 k_2 rfl rfl dX0_functionAt_13 ?_
    refine lv_iload_n C0.hx C0.hb dX0_functionAt_16 rfl (lv_at hl 1 rfl) ?_
    refine x_aald C0 hP 7 v 4 20 (mX_n rfl) rfl (by omega) (by decide) dX0_functionAt_17 ?_
    refine lv_iload_n C0.hx C0.hb dX0_functionAt_18 rfl (lv_at hl 3 rfl) ?_
    refine x_iald C0 hP 20 k 30 (mX20 (by omega)) rfl (by omega) (by decide) dX0_functionAt_19 ?_
    refine lv_iload_n C0.hx C0.hb dX0_functionAt_20 rfl (lv_at hl 2 rfl) ?_
    refine lv_icmp_gt (tgt := 45) C0.hx C0.hb dX0_functionAt_21 (by decide) (fun c_4 => ?_) (fun c_4 => ?_)
    ·
      obtain ⟨n, rfl⟩ : ∃ z, n = z + 1 := ⟨n - 1, by omega⟩
      have hR : fnA σ v x n (k + 1) = fnX σ v x := by rw [← h2_1, fnA, if_neg (by rintro ⟨z1, z2⟩; first | exact z1 c_4 | exact z2 c_4)]
      refine lv_iinc (v := nI (k + 1)) (lv' := [(3, .int (nI (k + 1))), (0, .ref (a 1 0)), (1, .int (nI v)), (2, .int x)]) C0.hx C0.hb dX0_functionAt_45 hl (k := 3) rfl (nI_1 k) (by decide) rfl (fun ls hl => ?_)
      refine lv_goto (tgt := 2) C0.hx C0.hb dX0_functionAt_48 (by decide) ?_
      exact ih2 ((n, k + 1)) ls ⟨(by omega), hR, (lv_sub hl [1, 2, 3, 0] rfl)⟩ (Nat.lt_succ_self _)
    ·
      refine lv_iload_n C0.hx C0.hb dX0_functionAt_24 rfl (lv_at hl 2 rfl) ?_
      refine lv_aload_n C0.hx C0.hb dX0_functionAt_25 rfl (lv_at hl 0 rfl) ?_
      refine x_get C0 hP 1 (mX_n rfl) rfl rfl 2 (by decide) i_X0 k_3 rfl rfl dX0_functionAt_26 ?_
      refine lv_iload_n C0.hx C0.hb dX0_functionAt_29 rfl (lv_at hl 1 rfl) ?_
      refine x_aald C0 hP 8 v 4 21 (mX_n rfl) rfl (by omega) (by decide) dX0_functionAt_30 ?_
      refine lv_iload_n C0.hx C0.hb dX0_functionAt_31 rfl (lv_at hl 3 rfl) ?_
      refine x_iald C0 hP 21 k 30 (mX21 (by omega)) rfl (by omega) (by decide) dX0_functionAt_32 ?_
      refine lv_icmp_gt (tgt := 45) C0.hx C0.hb dX0_functionAt_33 (by decide) (fun c_5 => ?_) (fun c_5 => ?_)
      ·
        obtain ⟨n, rfl⟩ : ∃ z, n = z + 1 := ⟨n - 1, by omega⟩
        have hR : fnA σ v x n (k + 1) = fnX σ v x := by rw [← h2_1, fnA, if_neg (by rintro ⟨z1, z2⟩; first | exact z1 c_5 | exact z2 c_5)]
        refine lv_iinc (v := nI (k + 1)) (lv' := [(3, .int (nI (k + 1))), (0, .ref (a 1 0)), (1, .int (nI v)), (2, .int x)]) C0.hx C0.hb dX0_functionAt_45 hl (k := 3) rfl (nI_1 k) (by decide) rfl (fun ls hl => ?_)
        refine lv_goto (tgt := 2) C0.hx C0.hb dX0_functionAt_48 (by decide) ?_
        exact ih2 ((n, k + 1)) ls ⟨(by omega), hR, (lv_sub hl [1, 2, 3, 0] rfl)⟩ (Nat.lt_succ_self _)
      ·
        refine lv_aload_n C0.hx C0.hb dX0_functionAt_36 rfl (lv_at hl 0 rfl) ?_
        refine x_get C0 hP 1 (mX_n rfl) rfl rfl 3 (by decide) i_X0 k_4 rfl rfl dX0_functionAt_37 ?_
        refine lv_iload_n C0.hx C0.hb dX0_functionAt_40 rfl (lv_at hl 1 rfl) ?_
        refine x_aald C0 hP 9 v 4 22 (mX_n rfl) rfl (by omega) (by decide) dX0_functionAt_41 ?_
        refine lv_iload_n C0.hx C0.hb dX0_functionAt_42 rfl (lv_at hl 3 rfl) ?_
        refine x_iald C0 hP 22 k 30 (mX22 (by omega)) rfl (by omega) (by decide) dX0_functionAt_43 ?_
        exact W.iret (v := σ 22 v k) C0.hx C0.hb hr (fun t ht hW => ⟨_, rfl, by rw [← h2_1]; obtain ⟨n, rfl⟩ : ∃ z, n = z + 1 := ⟨n - 1, by omega⟩; rw [fnA, if_pos ⟨c_4, c_5⟩], ht⟩) (fun q h => nomatch h) dX0_functionAt_44

set_option maxHeartbeats 4000000 in
set_option maxRecDepth 100000 in
theorem mtX3_leadsTo (l : Launch) (g : xG) (a : xAd) (σ : xS) (t f : Nat) (ht0 : t < 30) (hf : f < 30) (ok : okX σ) : xMi l yX3_leadsTo wsX3_leadsTo ({ frames := 0, cells := 0, slots := 0, locals := 0 }) NLX g a σ [.ref (a 2 0), .int (nI t), .int (nI f)] (bI (decide (ldA σ f 30 t = f))) := by
  unfold xMi
  refine Met.ofW (cc := cX3_leadsTo) (maxL := 5) (ret := (some .boolean)) (by decide) rfl ?_
  intro p e s m args below meth c s₁ B hml hv
  obtain ⟨rfl, hP, hK, hN, hj⟩ := hv
  have hr := B.returns
  have hlocks := B.notSynchronized
  have C0 : xC p s m _ c cX3_leadsTo 5 wsX3_leadsTo RX3 NLX g a (xA NLX a s.heap.size) := ⟨⟨B.exec, B.bytes, hml, findClass_of_methodNamed B.named, atoms_spec (ws := wsX3_leadsTo) B.pre⟩, hK, hN, hj, fun n h => Or.inl ⟨n, h, rfl⟩, fun q h => Or.inr h⟩
  have hS : va_S (xA NLX a s.heap.size) s.heap s.heap [] := va_S.rf
  have hl := lv_entry ([.ref (a 2 0), .int (nI t), .int (nI f)]) (n := 5) (Nat.le_of_ble_eq_true rfl)
  rw [lg_entry_eq]
  generalize (lg_sl ([.ref (a 2 0), .int (nI t), .int (nI f)]) ++ List.replicate (5 - (lg_sl ([.ref (a 2 0), .int (nI t), .int (nI f)])).length) Slot.unset).toArray = ls at hl ⊢
  have hl : lv_has ls 5 [(0, .ref (a 2 0)), (1, .int (nI t)), (2, .int (nI f))] := hl
  have k_0 : Cond.fieldLink RX3 15 RX3 (TX3 1).2.1 (TX3 1).2.2.1 ∈ wsX3_leadsTo := by decide +kernel
  have i_X3 : ∀ w ∈ wsX30, w ∈ wsX3_leadsTo := by decide +kernel
  refine lv_iload_n C0.hx C0.hb dX3_leadsTo_0 rfl (lv_at hl 1 rfl) ?_
  refine lv_istore_n (lv' := [(3, .int (nI t)), (0, .ref (a 2 0)), (1, .int (nI t)), (2, .int (nI f))]) C0.hx C0.hb dX3_leadsTo_1 rfl hl (by decide) rfl (fun ls hl => ?_)
  refine lv_iconst (v := nI 0) C0.hx C0.hb dX3_leadsTo_2 (by decide) ?_
  refine lv_istore (lv' := [(4, .int (nI 0)), (3, .int (nI t)), (0, .ref (a 2 0)), (1, .int (nI t)), (2, .int (nI f))]) C0.hx C0.hb dX3_leadsTo_3 hl (by decide) rfl (fun ls hl => ?_)
  refine x_loopR (α := Nat × Nat × Nat) (fun u => u.1) (fun ⟨n, k, t'⟩ ls => k + n = 30 ∧ t' < 30 ∧ ldA σ f n t' = ldA σ f 30 t ∧ lv_has ls 5 [(0, .ref (a 2 0)), (1, .int (nI t)), (2, .int (nI f)), (3, .int (nI t')), (4, .int (nI k))]) ?_ ((30, 0, t)) ⟨(by omega), ht0, rfl, (lv_sub hl [2, 3, 4, 1, 0] rfl)⟩
  rintro ⟨n, k, t'⟩ ls ⟨h5_0, h5_1, h5_2, hl⟩ ih5
  refine lv_iload C0.hx C0.hb dX3_leadsTo_5 (lv_at hl 4 rfl) ?_
  refine lv_bipush (v := nI 30) C0.hx C0.hb dX3_leadsTo_7 (by decide) ?_
  refine x_join (α := Unit) 30 (fun _ H' locs' ls => (H' = s.heap ∧ locs' = [] ∧ t' = ldA σ f 30 t) ∧ lv_has ls 5 [(0, .ref (a 2 0)), (1, .int (nI t)), (2, .int (nI f)), (3, .int (nI t')), (4, .int (nI k))]) (fun _ => []) ?_ (fun J30 => ?_)
  · rintro _ _ _ ls ⟨⟨rfl, rfl, hj30_0⟩, hl⟩
    refine lv_iload_n C0.hx C0.hb dX3_leadsTo_30 rfl (lv_at hl 3 rfl) ?_
    refine lv_iload_n C0.hx C0.hb dX3_leadsTo_31 rfl (lv_at hl 2 rfl) ?_
    refine x_join (α := Bool) 40 (fun x H' locs' ls => (H' = s.heap ∧ locs' = [] ∧ x = decide (t' = f)) ∧ lv_has ls 5 [(0, .ref (a 2 0)), (1, .int (nI t)), (2, .int (nI f)), (3, .int (nI t')), (4, .int (nI k))]) (fun x => [.int (bI x)]) ?_ (fun J40 => ?_)
    · rintro x _ _ ls ⟨⟨rfl, rfl, hj40_0⟩, hl⟩
      exact W.zret (v := bI x) C0.hx C0.hb hr (bI_nar _) (fun t ht hW => ⟨_, rfl, by rw [hj40_0, ← hj30_0], ht⟩) (fun q h => nomatch h) dX3_leadsTo_40
    ·
      refine x_icmp_ne (tgt := 39) C0.hx C0.hb (by omega) (by omega) dX3_leadsTo_32 (by decide) (fun c_1 => ?_) (fun c_1 => ?_)
      ·
        refine lv_iconst (v := nI 0) C0.hx C0.hb dX3_leadsTo_39 (by decide) ?_
        exact J40 false _ _ ls ⟨⟨rfl, rfl, (by simp only [true_eq_decide_iff, false_eq_decide_iff]; omega)⟩, (lv_sub hl [0, 1, 2, 3, 4] rfl)⟩
      ·
        refine lv_iconst (v := nI 1) C0.hx C0.hb dX3_leadsTo_35 (by decide) ?_
        refine lv_goto (tgt := 40) C0.hx C0.hb dX3_leadsTo_36 (by decide) ?_
        exact J40 true _ _ ls ⟨⟨rfl, rfl, (by simp only [true_eq_decide_iff, false_eq_decide_iff]; omega)⟩, (lv_sub hl [0, 1, 2, 3, 4] rfl)⟩
  ·
    refine x_icmp_ge (tgt := 30) C0.hx C0.hb (by omega) (by omega) dX3_leadsTo_9 (by decide) (fun c_2 => ?_) (fun c_2 => ?_)
    ·
      have hR : t' = ldA σ f 30 t := by rw [← h5_2, show n = 0 by omega]; rfl
      exact J30 () _ _ ls ⟨⟨rfl, rfl, hR⟩, (lv_sub hl [0, 1, 2, 3, 4] rfl)⟩
    ·
      refine lv_iload_n C0.hx C0.hb dX3_leadsTo_12 rfl (lv_at hl 3 rfl) ?_
      refine lv_iload_n C0.hx C0.hb dX3_leadsTo_13 rfl (lv_at hl 2 rfl) ?_
      refine x_icmp_eq (tgt := 30) C0.hx C0.hb (by omega) (by omega) dX3_leadsTo_14 (by decide) (fun c_3 => ?_) (fun c_3 => ?_)
      ·
        have hR : t' = ldA σ f 30 t := by rw [← h5_2]; obtain ⟨n, rfl⟩ : ∃ z, n = z + 1 := ⟨n - 1, by omega⟩; rw [ldA, if_pos c_3]
        exact J30 () _ _ ls ⟨⟨rfl, rfl, hR⟩, (lv_sub hl [0, 1, 2, 3, 4] rfl)⟩
      ·
        obtain ⟨n, rfl⟩ : ∃ z, n = z + 1 := ⟨n - 1, by omega⟩
        have hR : ldA σ f n (nv (σ 11 0 t')) = ldA σ f 30 t := by rw [← h5_2, ldA, if_neg c_3]
        refine lv_aload_n C0.hx C0.hb dX3_leadsTo_17 rfl (lv_at hl 0 rfl) ?_
        refine x_get C0 hP 2 (mX_n rfl) rfl rfl 1 (by decide) i_X3 k_0 rfl rfl dX3_leadsTo_18 ?_
        refine lv_iload_n C0.hx C0.hb dX3_leadsTo_21 rfl (lv_at hl 3 rfl) ?_
        refine x_iald C0 hP 11 t' 30 (mX_n rfl) rfl (by omega) (by decide) dX3_leadsTo_22 ?_
        obtain ⟨e_4, b_5⟩ := (ok.std (by omega) : inR (σ 11 0 t') _)
        refine x_top e_4 ?_
        refine lv_istore_n (lv' := [(3, .int (nI (nv (σ 11 0 t')))), (0, .ref (a 2 0)), (1, .int (nI t)), (2, .int (nI f)), (4, .int (nI k))]) C0.hx C0.hb dX3_leadsTo_23 rfl hl (by decide) rfl (fun ls hl => ?_)
        refine lv_iinc (v := nI (k + 1)) (lv' := [(4, .int (nI (k + 1))), (3, .int (nI (nv (σ 11 0 t')))), (0, .ref (a 2 0)), (1, .int (nI t)), (2, .int (nI f))]) C0.hx C0.hb dX3_leadsTo_24 hl (k := 4) rfl (nI_1 k) (by decide) rfl (fun ls hl => ?_)
        refine lv_goto (tgt := 5) C0.hx C0.hb dX3_leadsTo_27 (by decide) ?_
        exact ih5 ((n, k + 1, nv (σ 11 0 t'))) ls ⟨(by omega), (by omega), hR, (lv_sub hl [2, 3, 4, 1, 0] rfl)⟩ (Nat.lt_succ_self _)

set_option maxHeartbeats 4000000 in
set_option maxRecDepth 100000 in
theorem mtX3_inTheEnd (l : Launch) (g : xG) (a : xAd) (σ : xS) (t : Nat) (ht0 : t < 30) (ok : okX σ) : xMi l yX3_inTheEnd wsX3_inTheEnd ({ frames := 0, cells := 0, slots := 0, locals := 0 }) NLX g a σ [.ref (a 2 0), .int (nI t)] (nI (ieA σ 30 t)) := by
  unfold xMi
  refine Met.ofW (cc := cX3_inTheEnd) (maxL := 4) (ret := (some .int)) (by decide) rfl ?_
  intro p e s m args below meth c s₁ B hml hv
  obtain ⟨rfl, hP, hK, hN, hj⟩ := hv
  have hr := B.returns
  have hlocks := B.notSynchronized
  have C0 : xC p s m _ c cX3_inTheEnd 4 wsX3_inTheEnd RX3 NLX g a (xA NLX a s.heap.size) := ⟨⟨B.exec, B.bytes, hml, findClass_of_methodNamed B.named, atoms_spec (ws := wsX3_inTheEnd) B.pre⟩, hK, hN, hj, fun n h => Or.inl ⟨n, h, rfl⟩, fun q h => Or.inr h⟩
  have hS : va_S (xA NLX a s.heap.size) s.heap s.heap [] := va_S.rf
  have hl := lv_entry ([.ref (a 2 0), .int (nI t)]) (n := 4) (Nat.le_of_ble_eq_true rfl)
  rw [lg_entry_eq]
  generalize (lg_sl ([.ref (a 2 0), .int (nI t)]) ++ List.replicate (4 - (lg_sl ([.ref (a 2 0), .int (nI t)])).length) Slot.unset).toArray = ls at hl ⊢
  have hl : lv_has ls 4 [(0, .ref (a 2 0)), (1, .int (nI t))] := hl
  have k_0 : Cond.fieldLink RX3 15 RX3 (TX3 1).2.1 (TX3 1).2.2.1 ∈ wsX3_inTheEnd := by decide +kernel
  have i_X3 : ∀ w ∈ wsX30, w ∈ wsX3_inTheEnd := by decide +kernel
  refine lv_iload_n C0.hx C0.hb dX3_inTheEnd_0 rfl (lv_at hl 1 rfl) ?_
  refine lv_istore_n (lv' := [(2, .int (nI t)), (0, .ref (a 2 0)), (1, .int (nI t))]) C0.hx C0.hb dX3_inTheEnd_1 rfl hl (by decide) rfl (fun ls hl => ?_)
  refine lv_iconst (v := nI 0) C0.hx C0.hb dX3_inTheEnd_2 (by decide) ?_
  refine lv_istore_n (lv' := [(3, .int (nI 0)), (2, .int (nI t)), (0, .ref (a 2 0)), (1, .int (nI t))]) C0.hx C0.hb dX3_inTheEnd_3 rfl hl (by decide) rfl (fun ls hl => ?_)
  refine x_loopR (α := Nat × Nat × Nat) (fun u => u.1) (fun ⟨n, k, t'⟩ ls => k + n = 30 ∧ t' < 30 ∧ ieA σ n t' = ieA σ 30 t ∧ lv_has ls 4 [(0, .ref (a 2 0)), (1, .int (nI t)), (2, .int (nI t')), (3, .int (nI k))]) ?_ ((30, 0, t)) ⟨(by omega), ht0, rfl, (lv_sub hl [2, 3, 1, 0] rfl)⟩
  rintro ⟨n, k, t'⟩ ls ⟨h4_0, h4_1, h4_2, hl⟩ ih4
  refine lv_iload_n C0.hx C0.hb dX3_inTheEnd_4 rfl (lv_at hl 3 rfl) ?_
  refine lv_bipush (v := nI 30) C0.hx C0.hb dX3_inTheEnd_5 (by decide) ?_
  refine x_join (α := Unit) 33 (fun _ H' locs' ls => (H' = s.heap ∧ locs' = [] ∧ t' = ieA σ 30 t) ∧ lv_has ls 4 [(0, .ref (a 2 0)), (1, .int (nI t)), (2, .int (nI t')), (3, .int (nI k))]) (fun _ => []) ?_ (fun J33 => ?_)
  · rintro _ _ _ ls ⟨⟨rfl, rfl, hj33_0⟩, hl⟩
    refine lv_iload_n C0.hx C0.hb dX3_inTheEnd_33 rfl (lv_at hl 2 rfl) ?_
    exact W.iret (v := nI t') C0.hx C0.hb hr (fun t ht hW => ⟨_, rfl, by rw [← hj33_0], ht⟩) (fun q h => nomatch h) dX3_inTheEnd_34
  ·
    refine x_icmp_ge (tgt := 33) C0.hx C0.hb (by omega) (by omega) dX3_inTheEnd_7 (by decide) (fun c_1 => ?_) (fun c_1 => ?_)
    ·
      have hR : t' = ieA σ 30 t := by rw [← h4_2, show n = 0 by omega]; rfl
      exact J33 () _ _ ls ⟨⟨rfl, rfl, hR⟩, (lv_sub hl [0, 1, 2, 3] rfl)⟩
    ·
      refine lv_aload_n C0.hx C0.hb dX3_inTheEnd_10 rfl (lv_at hl 0 rfl) ?_
      refine x_get C0 hP 2 (mX_n rfl) rfl rfl 1 (by decide) i_X3 k_0 rfl rfl dX3_inTheEnd_11 ?_
      refine lv_iload_n C0.hx C0.hb dX3_inTheEnd_14 rfl (lv_at hl 2 rfl) ?_
      refine x_iald C0 hP 11 t' 30 (mX_n rfl) rfl (by omega) (by decide) dX3_inTheEnd_15 ?_
      obtain ⟨e_2, b_3⟩ := (ok.std (by omega) : inR (σ 11 0 t') _)
      refine x_top e_2 ?_
      refine lv_iload_n C0.hx C0.hb dX3_inTheEnd_16 rfl (lv_at hl 2 rfl) ?_
      refine x_icmp_eq (tgt := 33) C0.hx C0.hb (by omega) (by omega) dX3_inTheEnd_17 (by decide) (fun c_4 => ?_) (fun c_4 => ?_)
      ·
        have hR : t' = ieA σ 30 t := by rw [← h4_2]; obtain ⟨n, rfl⟩ : ∃ z, n = z + 1 := ⟨n - 1, by omega⟩; rw [ieA, if_pos c_4]
        exact J33 () _ _ ls ⟨⟨rfl, rfl, hR⟩, (lv_sub hl [0, 1, 2, 3] rfl)⟩
      ·
        obtain ⟨n, rfl⟩ : ∃ z, n = z + 1 := ⟨n - 1, by omega⟩
        have hR : ieA σ n (nv (σ 11 0 t')) = ieA σ 30 t := by rw [← h4_2, ieA, if_neg c_4]
        refine lv_aload_n C0.hx C0.hb dX3_inTheEnd_20 rfl (lv_at hl 0 rfl) ?_
        refine x_get C0 hP 2 (mX_n rfl) rfl rfl 1 (by decide) i_X3 k_0 rfl rfl dX3_inTheEnd_21 ?_
        refine lv_iload_n C0.hx C0.hb dX3_inTheEnd_24 rfl (lv_at hl 2 rfl) ?_
        refine x_iald C0 hP 11 t' 30 (mX_n rfl) rfl (by omega) (by decide) dX3_inTheEnd_25 ?_
        obtain ⟨e_5, b_6⟩ := (ok.std (by omega) : inR (σ 11 0 t') _)
        refine x_top e_5 ?_
        refine lv_istore_n (lv' := [(2, .int (nI (nv (σ 11 0 t')))), (0, .ref (a 2 0)), (1, .int (nI t)), (3, .int (nI k))]) C0.hx C0.hb dX3_inTheEnd_26 rfl hl (by decide) rfl (fun ls hl => ?_)
        refine lv_iinc (v := nI (k + 1)) (lv' := [(3, .int (nI (k + 1))), (2, .int (nI (nv (σ 11 0 t')))), (0, .ref (a 2 0)), (1, .int (nI t))]) C0.hx C0.hb dX3_inTheEnd_27 hl (k := 3) rfl (nI_1 k) (by decide) rfl (fun ls hl => ?_)
        refine lv_goto (tgt := 4) C0.hx C0.hb dX3_inTheEnd_30 (by decide) ?_
        exact ih4 ((n, k + 1, nv (σ 11 0 t'))) ls ⟨(by omega), (by omega), hR, (lv_sub hl [2, 3, 1, 0] rfl)⟩ (Nat.lt_succ_self _)
end
section
set_option maxHeartbeats 4000000 in
set_option maxRecDepth 100000 in
theorem mtX2_add (l : Launch) (g : xG) (a : xAd) (σ : xS) (v u : Nat) (ok : okX σ) (hn : nv (σ 3 0 0) < 60) : xMw l yX2_add wsX2_add ({ frames := 0, cells := 0, slots := 0, locals := 0 }) NLX g a σ [.ref (a 3 0), .int (nI v), .int (nI u)] (nI (nv (σ 3 0 0))) (radS σ (nv (σ 3 0 0)) v u) := by
  intro sz
  refine Met.ofW (cc := cX2_add) (maxL := 4) (ret := (some .int)) (by decide) rfl ?_
  intro p e s m args below meth c s₁ B hml hv
  obtain ⟨rfl, hsz, hP, hK, hN, hj⟩ := hv
  subst hsz
  have hr := B.returns
  have hlocks := B.notSynchronized
  have C0 : xC p s m _ c cX2_add 4 wsX2_add RX2 NLX g a (xA NLX a s.heap.size) := ⟨⟨B.exec, B.bytes, hml, findClass_of_methodNamed B.named, atoms_spec (ws := wsX2_add) B.pre⟩, hK, hN, hj, fun n h => Or.inl ⟨n, h, rfl⟩, fun q h => Or.inr h⟩
  have hS : va_S (xA NLX a s.heap.size) s.heap s.heap [] := va_S.rf
  have hl := lv_entry ([.ref (a 3 0), .int (nI v), .int (nI u)]) (n := 4) (Nat.le_of_ble_eq_true rfl)
  rw [lg_entry_eq]
  generalize (lg_sl ([.ref (a 3 0), .int (nI v), .int (nI u)]) ++ List.replicate (4 - (lg_sl ([.ref (a 3 0), .int (nI v), .int (nI u)])).length) Slot.unset).toArray = ls at hl ⊢
  have hl : lv_has ls 4 [(0, .ref (a 3 0)), (1, .int (nI v)), (2, .int (nI u))] := hl
  have k_0 : Cond.fieldLink RX2 9 RX2 (TX2 0).2.1 (TX2 0).2.2.1 ∈ wsX2_add := by decide +kernel
  have i_X2 : ∀ w ∈ wsX20, w ∈ wsX2_add := by decide +kernel
  have k_2 : Cond.fieldLink RX2 15 RX2 (TX2 1).2.1 (TX2 1).2.2.1 ∈ wsX2_add := by decide +kernel
  have k_3 : Cond.fieldLink RX2 19 RX2 (TX2 2).2.1 (TX2 2).2.2.1 ∈ wsX2_add := by decide +kernel
  have k_4 : Cond.fieldLink RX2 27 RX2 (TX2 4).2.1 (TX2 4).2.2.1 ∈ wsX2_add := by decide +kernel
  refine lv_aload_n C0.hx C0.hb dX2_add_0 rfl (lv_at hl 0 rfl) ?_
  refine x_get C0 hP 3 (mX_n rfl) rfl rfl 0 (by decide) i_X2 k_0 rfl rfl dX2_add_1 ?_
  obtain ⟨e_1, b_2⟩ := (ok.n : inR (σ 3 0 0) _)
  refine x_top e_1 ?_
  refine lv_istore_n (lv' := [(3, .int (nI (nv (σ 3 0 0)))), (0, .ref (a 3 0)), (1, .int (nI v)), (2, .int (nI u))]) C0.hx C0.hb dX2_add_4 rfl hl (by decide) rfl (fun ls hl => ?_)
  refine lv_aload_n C0.hx C0.hb dX2_add_5 rfl (lv_at hl 1 rfl) ?_
  refine x_get C0 hP 3 (mX_n rfl) rfl rfl 1 (by decide) i_X2 k_2 rfl rfl dX2_add_6 ?_
  refine lv_iload_n C0.hx C0.hb dX2_add_9 rfl (lv_at hl 0 rfl) ?_
  refine lv_iload_n C0.hx C0.hb dX2_add_10 rfl (lv_at hl 2 rfl) ?_
  refine x_iast C0 hP hS 12 (nv (σ 3 0 0)) 60 (v := nI v) (mX_n rfl) (fun _ => rfl) (by omega) (by decide) dX2_add_11 (fun H locs hP hS => ?_)
  refine lv_aload_n C0.hx C0.hb dX2_add_12 rfl (lv_at hl 1 rfl) ?_
  refine x_get C0 hP 3 (mX_n rfl) rfl rfl 2 (by decide) i_X2 k_3 rfl rfl dX2_add_13 ?_
  refine lv_iload_n C0.hx C0.hb dX2_add_16 rfl (lv_at hl 0 rfl) ?_
  refine lv_iload_n C0.hx C0.hb dX2_add_17 rfl (lv_at hl 3 rfl) ?_
  refine x_iast C0 hP hS 13 (nv (σ 3 0 0)) 60 (v := nI u) (mX_n rfl) (fun _ => rfl) (by omega) (by decide) dX2_add_18 (fun H locs hP hS => ?_)
  refine lv_aload_n C0.hx C0.hb dX2_add_19 rfl (lv_at hl 1 rfl) ?_
  refine x_get C0 hP 3 (mX_n rfl) rfl rfl 4 (by decide) i_X2 k_4 rfl rfl dX2_add_20 ?_
  refine lv_iload_n C0.hx C0.hb dX2_add_23 rfl (lv_at hl 0 rfl) ?_
  refine lv_iconst (v := -1) C0.hx C0.hb dX2_add_24 (by decide) ?_
  refine x_iast C0 hP hS 15 (nv (σ 3 0 0)) 60 (v := -1) (mX_n rfl) (fun _ => rfl) (by omega) (by decide) dX2_add_25 (fun H locs hP hS => ?_)
  refine lv_aload_n C0.hx C0.hb dX2_add_26 rfl (lv_at hl 1 rfl) ?_
  refine lv_iload_n C0.hx C0.hb dX2_add_27 rfl (lv_at hl 0 rfl) ?_
  refine lv_iconst (v := nI 1) C0.hx C0.hb dX2_add_28 (by decide) ?_
  refine lv_iadd C0.hx C0.hb dX2_add_29 ?_
  refine x_top (nI_add (nv (σ 3 0 0)) 1) ?_
  refine x_put C0 hP hS 3 (mX_n rfl) rfl rfl tyX2 tyX2_ok nmX2 0 (by decide) i_X2 k_0 rfl rfl 0 rfl (Nat.le_of_ble_eq_true rfl) rfl dX2_add_30 (fun H locs hP hS => ?_)
  refine lv_iload_n C0.hx C0.hb dX2_add_33 rfl (lv_at hl 0 rfl) ?_
  exact W.iret (v := nI (nv (σ 3 0 0))) C0.hx C0.hb hr (fun t ht hW => ⟨⟨_, up3 (up3 (up3 (up3 σ 12 0 (nv (σ 3 0 0)) (nI v)) 13 0 (nv (σ 3 0 0)) (nI u)) 15 0 (nv (σ 3 0 0)) (-1)) 3 0 0 (nI ((nv (σ 3 0 0)) + 1)), rfl, ⟨rfl, rfl⟩, x_end ht hP⟩, hS.F ht⟩) hS.2.2 dX2_add_34

set_option maxHeartbeats 4000000 in
set_option maxRecDepth 100000 in
theorem mtX2_setStack (l : Launch) (g : xG) (a : xAd) (σ : xS) (n : Nat) (hn : n < 60) (x y z w : Int32) : xMv l yX2_setStack wsX2_setStack ({ frames := 0, cells := 0, slots := 0, locals := 0 }) NLX g a σ [.ref (a 3 0), .int (nI n), .int x, .int y, .int z, .int w] (stkS σ n x y z w) := by
  intro sz
  refine Met.ofW (cc := cX2_setStack) (maxL := 6) (ret := none) (by decide) rfl ?_
  intro p e s m args below meth c s₁ B hml hv
  obtain ⟨rfl, hsz, hP, hK, hN, hj⟩ := hv
  subst hsz
  have hr := B.returns
  have hlocks := B.notSynchronized
  have C0 : xC p s m _ c cX2_setStack 6 wsX2_setStack RX2 NLX g a (xA NLX a s.heap.size) := ⟨⟨B.exec, B.bytes, hml, findClass_of_methodNamed B.named, atoms_spec (ws := wsX2_setStack) B.pre⟩, hK, hN, hj, fun n h => Or.inl ⟨n, h, rfl⟩, fun q h => Or.inr h⟩
  have hS : va_S (xA NLX a s.heap.size) s.heap s.heap [] := va_S.rf
  have hl := lv_entry ([.ref (a 3 0), .int (nI n), .int x, .int y, .int z, .int w]) (n := 6) (Nat.le_of_ble_eq_true rfl)
  rw [lg_entry_eq]
  generalize (lg_sl ([.ref (a 3 0), .int (nI n), .int x, .int y, .int z, .int w]) ++ List.replicate (6 - (lg_sl ([.ref (a 3 0), .int (nI n), .int x, .int y, .int z, .int w])).length) Slot.unset).toArray = ls at hl ⊢
  have hl : lv_has ls 6 [(0, .ref (a 3 0)), (1, .int (nI n)), (2, .int x), (3, .int y), (4, .int z), (5, .int w)] := hl
  have k_0 : Cond.fieldLink RX2 24 RX2 (TX2 3).2.1 (TX2 3).2.2.1 ∈ wsX2_setStack := by decide +kernel
  have i_X2 : ∀ w ∈ wsX20, w ∈ wsX2_setStack := by decide +kernel
  refine lv_aload_n C0.hx C0.hb dX2_setStack_0 rfl (lv_at hl 0 rfl) ?_
  refine x_get C0 hP 3 (mX_n rfl) rfl rfl 3 (by decide) i_X2 k_0 rfl rfl dX2_setStack_1 ?_
  refine lv_iload_n C0.hx C0.hb dX2_setStack_4 rfl (lv_at hl 1 rfl) ?_
  refine x_aald C0 hP 14 n 60 23 (mX_n rfl) rfl (by omega) (by decide) dX2_setStack_5 ?_
  refine lv_iconst (v := nI 0) C0.hx C0.hb dX2_setStack_6 (by decide) ?_
  refine lv_iload_n C0.hx C0.hb dX2_setStack_7 rfl (lv_at hl 2 rfl) ?_
  refine x_iast C0 hP hS 23 0 4 (v := x) (mX23 (by omega)) (fun _ => rfl) (by omega) (by decide) dX2_setStack_8 (fun H locs hP hS => ?_)
  refine lv_aload_n C0.hx C0.hb dX2_setStack_9 rfl (lv_at hl 0 rfl) ?_
  refine x_get C0 hP 3 (mX_n rfl) rfl rfl 3 (by decide) i_X2 k_0 rfl rfl dX2_setStack_10 ?_
  refine lv_iload_n C0.hx C0.hb dX2_setStack_13 rfl (lv_at hl 1 rfl) ?_
  refine x_aald C0 hP 14 n 60 23 (mX_n rfl) rfl (by omega) (by decide) dX2_setStack_14 ?_
  refine lv_iconst (v := nI 1) C0.hx C0.hb dX2_setStack_15 (by decide) ?_
  refine lv_iload_n C0.hx C0.hb dX2_setStack_16 rfl (lv_at hl 3 rfl) ?_
  refine x_iast C0 hP hS 23 1 4 (v := y) (mX23 (by omega)) (fun _ => rfl) (by omega) (by decide) dX2_setStack_17 (fun H locs hP hS => ?_)
  refine lv_aload_n C0.hx C0.hb dX2_setStack_18 rfl (lv_at hl 0 rfl) ?_
  refine x_get C0 hP 3 (mX_n rfl) rfl rfl 3 (by decide) i_X2 k_0 rfl rfl dX2_setStack_19 ?_
  refine lv_iload_n C0.hx C0.hb dX2_setStack_22 rfl (lv_at hl 1 rfl) ?_
  refine x_aald C0 hP 14 n 60 23 (mX_n rfl) rfl (by omega) (by decide) dX2_setStack_23 ?_
  refine lv_iconst (v := nI 2) C0.hx C0.hb dX2_setStack_24 (by decide) ?_
  refine lv_iload C0.hx C0.hb dX2_setStack_25 (lv_at hl 4 rfl) ?_
  refine x_iast C0 hP hS 23 2 4 (v := z) (mX23 (by omega)) (fun _ => rfl) (by omega) (by decide) dX2_setStack_27 (fun H locs hP hS => ?_)
  refine lv_aload_n C0.hx C0.hb dX2_setStack_28 rfl (lv_at hl 0 rfl) ?_
  refine x_get C0 hP 3 (mX_n rfl) rfl rfl 3 (by decide) i_X2 k_0 rfl rfl dX2_setStack_29 ?_
  refine lv_iload_n C0.hx C0.hb dX2_setStack_32 rfl (lv_at hl 1 rfl) ?_
  refine x_aald C0 hP 14 n 60 23 (mX_n rfl) rfl (by omega) (by decide) dX2_setStack_33 ?_
  refine lv_iconst (v := nI 3) C0.hx C0.hb dX2_setStack_34 (by decide) ?_
  refine lv_iload C0.hx C0.hb dX2_setStack_35 (lv_at hl 5 rfl) ?_
  refine x_iast C0 hP hS 23 3 4 (v := w) (mX23 (by omega)) (fun _ => rfl) (by omega) (by decide) dX2_setStack_37 (fun H locs hP hS => ?_)
  exact W.vret C0.hx C0.hb hr (fun t ht hW => ⟨⟨up3 (up3 (up3 (up3 σ 23 n 0 x) 23 n 1 y) 23 n 2 z) 23 n 3 w, rfl, rfl, x_end ht hP⟩, hS.F ht⟩) hS.2.2 dX2_setStack_38

set_option maxHeartbeats 4000000 in
set_option maxRecDepth 100000 in
theorem mtX1_isName (l : Launch) (g : xG) (a : xAd) (σ : xS) (r : Nat) (hr0 : r < 60) : xMi l yX1_isName wsX1_isName ({ frames := 0, cells := 0, slots := 0, locals := 0 }) NLX g a σ [.ref (a 4 0), .int (nI r)] (bI (decide (σ 19 0 r = nI r))) := by
  unfold xMi
  refine Met.ofW (cc := cX1_isName) (maxL := 2) (ret := (some .boolean)) (by decide) rfl ?_
  intro p e s m args below meth c s₁ B hml hv
  obtain ⟨rfl, hP, hK, hN, hj⟩ := hv
  have hr := B.returns
  have hlocks := B.notSynchronized
  have C0 : xC p s m _ c cX1_isName 2 wsX1_isName RX1 NLX g a (xA NLX a s.heap.size) := ⟨⟨B.exec, B.bytes, hml, findClass_of_methodNamed B.named, atoms_spec (ws := wsX1_isName) B.pre⟩, hK, hN, hj, fun n h => Or.inl ⟨n, h, rfl⟩, fun q h => Or.inr h⟩
  have hS : va_S (xA NLX a s.heap.size) s.heap s.heap [] := va_S.rf
  have hl := lv_entry ([.ref (a 4 0), .int (nI r)]) (n := 2) (Nat.le_of_ble_eq_true rfl)
  rw [lg_entry_eq]
  generalize (lg_sl ([.ref (a 4 0), .int (nI r)]) ++ List.replicate (2 - (lg_sl ([.ref (a 4 0), .int (nI r)])).length) Slot.unset).toArray = ls at hl ⊢
  have hl : lv_has ls 2 [(0, .ref (a 4 0)), (1, .int (nI r))] := hl
  have k_0 : Cond.fieldLink RX1 23 RX1 (TX1 3).2.1 (TX1 3).2.2.1 ∈ wsX1_isName := by decide +kernel
  have i_X1 : ∀ w ∈ wsX10, w ∈ wsX1_isName := by decide +kernel
  refine lv_aload_n C0.hx C0.hb dX1_isName_0 rfl (lv_at hl 0 rfl) ?_
  refine x_get C0 hP 4 (mX_n rfl) rfl rfl 3 (by decide) i_X1 k_0 rfl rfl dX1_isName_1 ?_
  refine lv_iload_n C0.hx C0.hb dX1_isName_4 rfl (lv_at hl 1 rfl) ?_
  refine x_iald C0 hP 19 r 60 (mX_n rfl) rfl (by omega) (by decide) dX1_isName_5 ?_
  refine lv_iload_n C0.hx C0.hb dX1_isName_6 rfl (lv_at hl 1 rfl) ?_
  refine x_join (α := Bool) 15 (fun x H' locs' ls => (H' = s.heap ∧ locs' = [] ∧ x = (decide (σ 19 0 r = nI r))) ∧ lv_has ls 2 [(0, .ref (a 4 0)), (1, .int (nI r))]) (fun x => [.int (bI x)]) ?_ (fun J15 => ?_)
  · rintro x _ _ ls ⟨⟨rfl, rfl, hj15_0⟩, hl⟩
    exact W.zret (v := bI x) C0.hx C0.hb hr (bI_nar _) (fun t ht hW => ⟨_, rfl, congrArg bI hj15_0, ht⟩) (fun q h => nomatch h) dX1_isName_15
  ·
    refine lv_icmp_ne (tgt := 14) C0.hx C0.hb dX1_isName_7 (by decide) (fun c_1 => ?_) (fun c_1 => ?_)
    ·
      refine lv_iconst (v := nI 0) C0.hx C0.hb dX1_isName_14 (by decide) ?_
      exact J15 false _ _ ls ⟨⟨rfl, rfl, (by simp [c_1])⟩, (lv_sub hl [0, 1] rfl)⟩
    ·
      refine lv_iconst (v := nI 1) C0.hx C0.hb dX1_isName_10 (by decide) ?_
      refine lv_goto (tgt := 15) C0.hx C0.hb dX1_isName_11 (by decide) ?_
      exact J15 true _ _ ls ⟨⟨rfl, rfl, (by simp [c_1])⟩, (lv_sub hl [0, 1] rfl)⟩

set_option maxHeartbeats 4000000 in
set_option maxRecDepth 100000 in
theorem mtX1_readStack (l : Launch) (g : xG) (a : xAd) (σ : xS) (r : Nat) (hr0 : r < 60) (ok : okX σ) : xMv l yX1_readStack wsX1_readStack ({ frames := 1, cells := 0, slots := 0, locals := 23 }) NLX g a σ [.ref (a 4 0), .int (nI r), .ref (a 3 0), .ref (a 1 0)] (rdS σ r) := by
  intro sz
  refine Met.ofW (cc := cX1_readStack) (maxL := 5) (ret := none) (by decide) rfl ?_
  intro p e s m args below meth c s₁ B hml hv
  obtain ⟨rfl, hsz, hP, hK, hN, hj⟩ := hv
  subst hsz
  have hr := B.returns
  have hlocks := B.notSynchronized
  have C0 : xC p s m _ c cX1_readStack 5 wsX1_readStack RX1 NLX g a (xA NLX a s.heap.size) := ⟨⟨B.exec, B.bytes, hml, findClass_of_methodNamed B.named, atoms_spec (ws := wsX1_readStack) B.pre⟩, hK, hN, hj, fun n h => Or.inl ⟨n, h, rfl⟩, fun q h => Or.inr h⟩
  have hS : va_S (xA NLX a s.heap.size) s.heap s.heap [] := va_S.rf
  have hl := lv_entry ([.ref (a 4 0), .int (nI r), .ref (a 3 0), .ref (a 1 0)]) (n := 5) (Nat.le_of_ble_eq_true rfl)
  rw [lg_entry_eq]
  generalize (lg_sl ([.ref (a 4 0), .int (nI r), .ref (a 3 0), .ref (a 1 0)]) ++ List.replicate (5 - (lg_sl ([.ref (a 4 0), .int (nI r), .ref (a 3 0), .ref (a 1 0)])).length) Slot.unset).toArray = ls at hl ⊢
  have hl : lv_has ls 5 [(0, .ref (a 4 0)), (1, .int (nI r)), (2, .ref (a 3 0)), (3, .ref (a 1 0))] := hl
  have k_0 : Cond.fieldLink RX1 11 RX1 (TX1 0).2.1 (TX1 0).2.2.1 ∈ wsX1_readStack := by decide +kernel
  have i_X1 : ∀ w ∈ wsX10, w ∈ wsX1_readStack := by decide +kernel
  have q_2 : Cond.fieldLinkNest RX1 32 RX2 (TX2 1).2.1 (TX2 1).2.2.1 RX4 ∈ xNs := by decide +kernel
  have i_X2 : ∀ w ∈ wsX20, w ∈ wsX1_readStack := by decide +kernel
  have q_4 : Cond.fieldLinkNest RX1 39 RX2 (TX2 3).2.1 (TX2 3).2.2.1 RX4 ∈ xNs := by decide +kernel
  have m_5 : (RX1, 42, yX0_functionAt) ∈ xMs := by decide +kernel
  have k_6 : Cond.initialized yX0_functionAt.cls ∈ wsX1_readStack := by decide +kernel
  have k_7 : Cond.instanceMethod yX0_functionAt ∈ wsX1_readStack := by decide +kernel
  have k_8 : Cond.selects RX0 yX0_functionAt yX0_functionAt ∈ wsX1_readStack := by decide +kernel
  refine lv_iconst (v := nI 0) C0.hx C0.hb dX1_readStack_0 (by decide) ?_
  refine lv_istore (lv' := [(4, .int (nI 0)), (0, .ref (a 4 0)), (1, .int (nI r)), (2, .ref (a 3 0)), (3, .ref (a 1 0))]) C0.hx C0.hb dX1_readStack_1 hl (by decide) rfl (fun ls hl => ?_)
  refine x_loopW (α := Nat) (fun k => 4 - k) (fun k H locs ls => va_P g.1 vwCl (xw NLX g a (rdL σ r k)) H ∧ va_S (xA NLX a s.heap.size) s.heap H locs ∧ k ≤ 4 ∧ lv_has ls 5 [(0, .ref (a 4 0)), (1, .int (nI r)), (2, .ref (a 3 0)), (3, .ref (a 1 0)), (4, .int (nI k))]) ?_ 0 ⟨hP, hS, (by omega), (lv_sub hl [1, 2, 3, 4, 0] rfl)⟩
  rintro k H locs ls ⟨hP, hS, h3_0, hl⟩ ih3
  have ok1 : okX (rdL σ r k) := rdL_ok ok
  have o12 := ok1.ver hr0
  refine lv_iload C0.hx C0.hb dX1_readStack_3 (lv_at hl 4 rfl) ?_
  refine lv_iconst (v := nI 4) C0.hx C0.hb dX1_readStack_5 (by decide) ?_
  refine x_icmp_ge (tgt := 43) C0.hx C0.hb (by omega) (by omega) dX1_readStack_6 (by decide) (fun c_1 => ?_) (fun c_1 => ?_)
  ·
    exact W.vret C0.hx C0.hb hr (fun t ht hW => ⟨⟨rdL σ r k, rfl, (by rw [show k = 4 by omega]; rfl), x_end ht hP⟩, hS.F ht⟩) hS.2.2 dX1_readStack_43
  ·
    refine lv_aload_n C0.hx C0.hb dX1_readStack_9 rfl (lv_at hl 0 rfl) ?_
    refine x_get C0 hP 4 (mX_n rfl) rfl rfl 0 (by decide) i_X1 k_0 rfl rfl dX1_readStack_10 ?_
    refine lv_iload_n C0.hx C0.hb dX1_readStack_13 rfl (lv_at hl 1 rfl) ?_
    refine x_aald C0 hP 16 r 60 24 (mX_n rfl) rfl (by omega) (by decide) dX1_readStack_14 ?_
    refine lv_iload C0.hx C0.hb dX1_readStack_15 (lv_at hl 4 rfl) ?_
    refine lv_aload_n C0.hx C0.hb dX1_readStack_17 rfl (lv_at hl 3 rfl) ?_
    refine lv_aload_n C0.hx C0.hb dX1_readStack_18 rfl (lv_at hl 2 rfl) ?_
    refine x_getN C0 hP 3 (mX_n rfl) rfl rfl 1 (by decide) i_X2 q_2 rfl rfl dX1_readStack_19 ?_
    refine lv_iload_n C0.hx C0.hb dX1_readStack_22 rfl (lv_at hl 1 rfl) ?_
    refine x_iald C0 hP 12 r 60 (mX_n rfl) rfl (by omega) (by decide) dX1_readStack_23 ?_
    obtain ⟨e_2, b_3⟩ := (o12 : inR ((rdL σ r k) 12 0 r) _)
    refine x_top e_2 ?_
    refine lv_aload_n C0.hx C0.hb dX1_readStack_24 rfl (lv_at hl 2 rfl) ?_
    refine x_getN C0 hP 3 (mX_n rfl) rfl rfl 3 (by decide) i_X2 q_4 rfl rfl dX1_readStack_25 ?_
    refine lv_iload_n C0.hx C0.hb dX1_readStack_28 rfl (lv_at hl 1 rfl) ?_
    refine x_aald C0 hP 14 r 60 23 (mX_n rfl) rfl (by omega) (by decide) dX1_readStack_29 ?_
    refine lv_iload C0.hx C0.hb dX1_readStack_30 (lv_at hl 4 rfl) ?_
    refine x_iald C0 hP 23 k 4 (mX23 (by omega)) rfl (by omega) (by decide) dX1_readStack_32 ?_
    refine x_VNi (As := [.int (nI (nv ((rdL σ r k) 12 0 r))), .int ((rdL σ r k) 23 r k)]) (rest := [.int (nI k), .ref (a 24 r)]) C0 (mtX0_functionAt l g a (rdL σ r k) (nv ((rdL σ r k) 12 0 r)) (by omega) ok1 ((rdL σ r k) 23 r k)) hP C0.2.2.2.1 (va_cnB 2 C0.hts gX1_readStack_X0_functionAt_n42 rfl rfl rfl (C0.2.2.1.2 _ m_5) (C0.hts _ k_6) (by decide +kernel) ⟨Nat.le_of_ble_eq_true rfl, Nat.le_of_ble_eq_true rfl⟩) (C0.hts _ k_7) (C0.hts _ k_8) (x_recv C0 hP 1 (mX_n rfl) rfl rfl) rfl hl rfl (Nat.le_of_ble_eq_true rfl) (Nat.zero_le _) (Nat.zero_le _) dX1_readStack_33 ?_
    refine x_iast C0 hP hS 24 k 4 (v := fnX (rdL σ r k) (nv ((rdL σ r k) 12 0 r)) ((rdL σ r k) 23 r k)) (mX24 (by omega)) (fun _ => rfl) (by omega) (by decide) dX1_readStack_36 (fun H locs hP hS => ?_)
    refine lv_iinc (v := nI (k + 1)) (lv' := [(4, .int (nI (k + 1))), (0, .ref (a 4 0)), (1, .int (nI r)), (2, .ref (a 3 0)), (3, .ref (a 1 0))]) C0.hx C0.hb dX1_readStack_37 hl (k := 4) rfl (nI_1 k) (by decide) rfl (fun ls hl => ?_)
    refine lv_goto (tgt := 3) C0.hx C0.hb dX1_readStack_40 (by decide) ?_
    exact ih3 ((k + 1)) H locs ls ⟨hP, hS, (by omega), (lv_sub hl [1, 2, 3, 4, 0] rfl)⟩ (by omega)

set_option maxHeartbeats 4000000 in
set_option maxRecDepth 100000 in
theorem mtX1_readStacksOf (l : Launch) (g : xG) (a : xAd) (σ : xS) (v : Nat) (hv : v < 4) (ok : okX σ) : xMv l yX1_readStacksOf wsX1_readStacksOf ({ frames := 2, cells := 0, slots := 0, locals := 47 }) NLX g a σ [.ref (a 4 0), .int (nI v), .ref (a 3 0), .ref (a 1 0)] (rsS σ v) := by
  intro sz
  refine Met.ofW (cc := cX1_readStacksOf) (maxL := 5) (ret := none) (by decide) rfl ?_
  intro p e s m args below meth c s₁ B hml hv
  obtain ⟨rfl, hsz, hP, hK, hN, hj⟩ := hv
  subst hsz
  have hr := B.returns
  have hlocks := B.notSynchronized
  have C0 : xC p s m _ c cX1_readStacksOf 5 wsX1_readStacksOf RX1 NLX g a (xA NLX a s.heap.size) := ⟨⟨B.exec, B.bytes, hml, findClass_of_methodNamed B.named, atoms_spec (ws := wsX1_readStacksOf) B.pre⟩, hK, hN, hj, fun n h => Or.inl ⟨n, h, rfl⟩, fun q h => Or.inr h⟩
  have hS : va_S (xA NLX a s.heap.size) s.heap s.heap [] := va_S.rf
  have hl := lv_entry ([.ref (a 4 0), .int (nI v), .ref (a 3 0), .ref (a 1 0)]) (n := 5) (Nat.le_of_ble_eq_true rfl)
  rw [lg_entry_eq]
  generalize (lg_sl ([.ref (a 4 0), .int (nI v), .ref (a 3 0), .ref (a 1 0)]) ++ List.replicate (5 - (lg_sl ([.ref (a 4 0), .int (nI v), .ref (a 3 0), .ref (a 1 0)])).length) Slot.unset).toArray = ls at hl ⊢
  have hl : lv_has ls 5 [(0, .ref (a 4 0)), (1, .int (nI v)), (2, .ref (a 3 0)), (3, .ref (a 1 0))] := hl
  have q_0 : Cond.fieldLinkNest RX1 26 RX2 (TX2 0).2.1 (TX2 0).2.2.1 RX4 ∈ xNs := by decide +kernel
  have i_X2 : ∀ w ∈ wsX20, w ∈ wsX1_readStacksOf := by decide +kernel
  have q_2 : Cond.fieldLinkNest RX1 32 RX2 (TX2 1).2.1 (TX2 1).2.2.1 RX4 ∈ xNs := by decide +kernel
  refine lv_iconst (v := nI 0) C0.hx C0.hb dX1_readStacksOf_0 (by decide) ?_
  refine lv_istore (lv' := [(4, .int (nI 0)), (0, .ref (a 4 0)), (1, .int (nI v)), (2, .ref (a 3 0)), (3, .ref (a 1 0))]) C0.hx C0.hb dX1_readStacksOf_1 hl (by decide) rfl (fun ls hl => ?_)
  refine x_loopW (α := Nat) (fun k => 60 - k) (fun k H locs ls => va_P g.1 vwCl (xw NLX g a (rsL σ v k)) H ∧ va_S (xA NLX a s.heap.size) s.heap H locs ∧ k ≤ nv (σ 3 0 0) ∧ lv_has ls 5 [(0, .ref (a 4 0)), (1, .int (nI v)), (2, .ref (a 3 0)), (3, .ref (a 1 0)), (4, .int (nI k))]) ?_ 0 ⟨hP, hS, (by omega), (lv_sub hl [1, 2, 3, 4, 0] rfl)⟩
  rintro k H locs ls ⟨hP, hS, h3_0, hl⟩ ih3
  have ok1 : okX (rsL σ v k) := rsL_ok ok
  have on : rsL σ v k 3 0 0 = nI (nv (σ 3 0 0)) := (rsL_ne k 3 0 0 (by decide)).trans ok.n.1
  have hn := ok.n.2
  refine lv_iload C0.hx C0.hb dX1_readStacksOf_3 (lv_at hl 4 rfl) ?_
  refine lv_aload_n C0.hx C0.hb dX1_readStacksOf_5 rfl (lv_at hl 2 rfl) ?_
  refine x_getN C0 hP 3 (mX_n rfl) rfl rfl 0 (by decide) i_X2 q_0 rfl rfl dX1_readStacksOf_6 ?_
  refine x_top on ?_
  refine x_icmp_ge (tgt := 37) C0.hx C0.hb (by omega) (by omega) dX1_readStacksOf_9 (by decide) (fun c_1 => ?_) (fun c_1 => ?_)
  ·
    exact W.vret C0.hx C0.hb hr (fun t ht hW => ⟨⟨rsL σ v k, rfl, (by rw [show k = nv (σ 3 0 0) by omega]; rfl), x_end ht hP⟩, hS.F ht⟩) hS.2.2 dX1_readStacksOf_37
  ·
    refine x_join (α := Unit) 31 (fun _ H' locs' ls => (va_P g.1 vwCl (xw NLX g a (rsL σ v (k + 1))) H' ∧ va_S (xA NLX a s.heap.size) s.heap H' locs') ∧ lv_has ls 5 [(0, .ref (a 4 0)), (1, .int (nI v)), (2, .ref (a 3 0)), (3, .ref (a 1 0)), (4, .int (nI k))]) (fun _ => []) ?_ (fun J31 => ?_)
    · rintro _ H locs ls ⟨⟨hP, hS⟩, hl⟩
      refine lv_iinc (v := nI (k + 1)) (lv' := [(4, .int (nI (k + 1))), (0, .ref (a 4 0)), (1, .int (nI v)), (2, .ref (a 3 0)), (3, .ref (a 1 0))]) C0.hx C0.hb dX1_readStacksOf_31 hl (k := 4) rfl (nI_1 k) (by decide) rfl (fun ls hl => ?_)
      refine lv_goto (tgt := 3) C0.hx C0.hb dX1_readStacksOf_34 (by decide) ?_
      exact ih3 ((k + 1)) H locs ls ⟨hP, hS, (by omega), (lv_sub hl [1, 2, 3, 4, 0] rfl)⟩ (by omega)
    ·
      refine lv_aload_n C0.hx C0.hb dX1_readStacksOf_12 rfl (lv_at hl 2 rfl) ?_
      refine x_getN C0 hP 3 (mX_n rfl) rfl rfl 1 (by decide) i_X2 q_2 rfl rfl dX1_readStacksOf_13 ?_
      refine lv_iload C0.hx C0.hb dX1_readStacksOf_16 (lv_at hl 4 rfl) ?_
      refine x_iald C0 hP 12 k 60 (mX_n rfl) rfl (by omega) (by decide) dX1_readStacksOf_18 ?_
      obtain ⟨e_2, b_3⟩ := (ok1.ver (by omega) : inR ((rsL σ v k) 12 0 k) _)
      refine x_top e_2 ?_
      refine lv_iload_n C0.hx C0.hb dX1_readStacksOf_19 rfl (lv_at hl 1 rfl) ?_
      refine x_icmp_ne (tgt := 31) C0.hx C0.hb (by omega) (by omega) dX1_readStacksOf_20 (by decide) (fun c_4 => ?_) (fun c_4 => ?_)
      ·
        exact J31 () _ _ ls ⟨⟨(by rw [rsL, if_neg (by omega)]; exact hP), hS⟩, (lv_sub hl [0, 1, 2, 3, 4] rfl)⟩
      ·
        refine lv_aload_n C0.hx C0.hb dX1_readStacksOf_23 rfl (lv_at hl 0 rfl) ?_
        refine lv_iload C0.hx C0.hb dX1_readStacksOf_24 (lv_at hl 4 rfl) ?_
        refine lv_aload_n C0.hx C0.hb dX1_readStacksOf_26 rfl (lv_at hl 2 rfl) ?_
        refine lv_aload_n C0.hx C0.hb dX1_readStacksOf_27 rfl (lv_at hl 3 rfl) ?_
        refine x_Vv (As := [.int (nI k), .ref (a 3 0), .ref (a 1 0)]) (rest := []) C0 (mtX1_readStack l g a (rsL σ v k) k (by omega) ok1) hP hS (cwV 3 C0.hts gX1_readStacksOf_X1_readStack rfl rfl rfl (by decide +kernel) ⟨Nat.le_of_ble_eq_true rfl, Nat.le_of_ble_eq_true rfl⟩) (x_recv C0 hP 4 (mX_n rfl) rfl rfl) rfl hl rfl (Nat.le_of_ble_eq_true rfl) (Nat.zero_le _) (Nat.zero_le _) dX1_readStacksOf_28 (fun H locs hP hS => ?_)
        exact J31 () _ _ ls ⟨⟨(by rw [rsL, if_pos (by omega)]; exact hP), hS⟩, (lv_sub hl [0, 1, 2, 3, 4] rfl)⟩

set_option maxHeartbeats 4000000 in
set_option maxRecDepth 100000 in
theorem mtX1_pickMattering (l : Launch) (g : xG) (a : xAd) (σ : xS) (r : Nat) (hr0 : r < 60) (ok0 : okX σ) (okf0 : okF σ) : xMv l yX1_pickMattering wsX1_pickMattering ({ frames := 1, cells := 0, slots := 0, locals := 23 }) NLX g a σ [.ref (a 4 0), .int (nI r), .ref (a 2 0)] (pkS σ r) := by
  intro sz
  refine Met.ofW (cc := cX1_pickMattering) (maxL := 6) (ret := none) (by decide) rfl ?_
  intro p e s m args below meth c s₁ B hml hv
  obtain ⟨rfl, hsz, hP, hK, hN, hj⟩ := hv
  subst hsz
  have hr := B.returns
  have hlocks := B.notSynchronized
  have C0 : xC p s m _ c cX1_pickMattering 6 wsX1_pickMattering RX1 NLX g a (xA NLX a s.heap.size) := ⟨⟨B.exec, B.bytes, hml, findClass_of_methodNamed B.named, atoms_spec (ws := wsX1_pickMattering) B.pre⟩, hK, hN, hj, fun n h => Or.inl ⟨n, h, rfl⟩, fun q h => Or.inr h⟩
  have hS : va_S (xA NLX a s.heap.size) s.heap s.heap [] := va_S.rf
  have hl := lv_entry ([.ref (a 4 0), .int (nI r), .ref (a 2 0)]) (n := 6) (Nat.le_of_ble_eq_true rfl)
  rw [lg_entry_eq]
  generalize (lg_sl ([.ref (a 4 0), .int (nI r), .ref (a 2 0)]) ++ List.replicate (6 - (lg_sl ([.ref (a 4 0), .int (nI r), .ref (a 2 0)])).length) Slot.unset).toArray = ls at hl ⊢
  have hl : lv_has ls 6 [(0, .ref (a 4 0)), (1, .int (nI r)), (2, .ref (a 2 0))] := hl
  have k_0 : Cond.fieldLink RX1 16 RX1 (TX1 1).2.1 (TX1 1).2.2.1 ∈ wsX1_pickMattering := by decide +kernel
  have i_X1 : ∀ w ∈ wsX10, w ∈ wsX1_pickMattering := by decide +kernel
  have q_2 : Cond.fieldLinkNest RX1 60 RX3 (TX3 2).2.1 (TX3 2).2.2.1 RX4 ∈ xNs := by decide +kernel
  have i_X3 : ∀ w ∈ wsX30, w ∈ wsX1_pickMattering := by decide +kernel
  have k_4 : Cond.fieldLink RX1 11 RX1 (TX1 0).2.1 (TX1 0).2.2.1 ∈ wsX1_pickMattering := by decide +kernel
  have q_5 : Cond.fieldLinkNest RX1 65 RX3 (TX3 0).2.1 (TX3 0).2.2.1 RX4 ∈ xNs := by decide +kernel
  have m_6 : (RX1, 69, yX3_inTheEnd) ∈ xMs := by decide +kernel
  have k_7 : Cond.initialized yX3_inTheEnd.cls ∈ wsX1_pickMattering := by decide +kernel
  have k_8 : Cond.instanceMethod yX3_inTheEnd ∈ wsX1_pickMattering := by decide +kernel
  have k_9 : Cond.selects RX3 yX3_inTheEnd yX3_inTheEnd ∈ wsX1_pickMattering := by decide +kernel
  refine lv_iconst (v := nI 0) C0.hx C0.hb dX1_pickMattering_0 (by decide) ?_
  refine lv_istore_n (lv' := [(3, .int (nI 0)), (0, .ref (a 4 0)), (1, .int (nI r)), (2, .ref (a 2 0))]) C0.hx C0.hb dX1_pickMattering_1 rfl hl (by decide) rfl (fun ls hl => ?_)
  refine lv_iconst (v := nI 0) C0.hx C0.hb dX1_pickMattering_2 (by decide) ?_
  refine lv_istore (lv' := [(4, .int (nI 0)), (3, .int (nI 0)), (0, .ref (a 4 0)), (1, .int (nI r)), (2, .ref (a 2 0))]) C0.hx C0.hb dX1_pickMattering_3 hl (by decide) rfl (fun ls hl => ?_)
  refine x_loopW (α := Nat × Nat × Nat × xS) (fun u => u.1) (fun ⟨n, k, q, τ⟩ H locs ls => va_P g.1 vwCl (xw NLX g a τ) H ∧ va_S (xA NLX a s.heap.size) s.heap H locs ∧ k + n = 4 ∧ q ≤ 4 ∧ okX τ ∧ okF τ ∧ pkL r n k q τ = pkL r 4 0 0 σ ∧ lv_has ls 6 [(0, .ref (a 4 0)), (1, .int (nI r)), (2, .ref (a 2 0)), (3, .int (nI q)), (4, .int (nI k))]) ?_ ((4, 0, 0, σ)) ⟨hP, hS, (by omega), (by omega), ok0, okf0, rfl, (lv_sub hl [2, 3, 4, 1, 0] rfl)⟩
  rintro ⟨n, k, q, τ⟩ H locs ls ⟨hP, hS, hn, hq, ok, okf, hR, hl⟩ ih5
  refine lv_iload C0.hx C0.hb dX1_pickMattering_5 (lv_at hl 4 rfl) ?_
  refine lv_iconst (v := nI 4) C0.hx C0.hb dX1_pickMattering_7 (by decide) ?_
  refine x_join (α := Nat × xS) 69 (fun ⟨q, τ⟩ H' locs' ls => (va_P g.1 vwCl (xw NLX g a τ) H' ∧ va_S (xA NLX a s.heap.size) s.heap H' locs' ∧ q ≤ 4 ∧ (q, τ) = pkL r 4 0 0 σ) ∧ lv_has ls 6 [(0, .ref (a 4 0)), (1, .int (nI r)), (2, .ref (a 2 0)), (3, .int (nI q))]) (fun ⟨q, τ⟩ => []) ?_ (fun J69 => ?_)
  · rintro ⟨q, τ⟩ H locs ls ⟨⟨hP, hS, hq, hq2⟩, hl⟩
    have hR3 : flL r (4 - q) q τ = pkS σ r := by unfold pkS; rw [← hq2]
    refine lv_iload_n C0.hx C0.hb dX1_pickMattering_69 rfl (lv_at hl 3 rfl) ?_
    refine lv_istore (lv' := [(4, .int (nI q)), (0, .ref (a 4 0)), (1, .int (nI r)), (2, .ref (a 2 0)), (3, .int (nI q))]) C0.hx C0.hb dX1_pickMattering_70 hl (by decide) rfl (fun ls hl => ?_)
    refine x_loopW (α := Nat × Nat × xS) (fun u => u.1) (fun ⟨n, k, τ⟩ H locs ls => va_P g.1 vwCl (xw NLX g a τ) H ∧ va_S (xA NLX a s.heap.size) s.heap H locs ∧ k + n = 4 ∧ flL r n k τ = pkS σ r ∧ lv_has ls 6 [(0, .ref (a 4 0)), (1, .int (nI r)), (2, .ref (a 2 0)), (4, .int (nI k))]) ?_ ((4 - q, q, τ)) ⟨hP, hS, (by omega), hR3, (lv_sub hl [1, 2, 3, 0] rfl)⟩
    rintro ⟨n, k, τ⟩ H locs ls ⟨hP, hS, hn, hR, hl⟩ ih72
    refine lv_iload C0.hx C0.hb dX1_pickMattering_72 (lv_at hl 3 rfl) ?_
    refine lv_iconst (v := nI 4) C0.hx C0.hb dX1_pickMattering_74 (by decide) ?_
    refine x_icmp_ge (tgt := 94) C0.hx C0.hb (by omega) (by omega) dX1_pickMattering_75 (by decide) (fun c_1 => ?_) (fun c_1 => ?_)
    ·
      exact W.vret C0.hx C0.hb hr (fun t ht hW => ⟨⟨τ, rfl, (by rw [← hR, show n = 0 by omega]; rfl), x_end ht hP⟩, hS.F ht⟩) hS.2.2 dX1_pickMattering_94
    ·
      obtain ⟨n, rfl⟩ : ∃ z, n = z + 1 := ⟨n - 1, by omega⟩
      rw [flL] at hR
      refine lv_aload_n C0.hx C0.hb dX1_pickMattering_78 rfl (lv_at hl 0 rfl) ?_
      refine x_get C0 hP 4 (mX_n rfl) rfl rfl 1 (by decide) i_X1 k_0 rfl rfl dX1_pickMattering_79 ?_
      refine lv_iload_n C0.hx C0.hb dX1_pickMattering_82 rfl (lv_at hl 1 rfl) ?_
      refine x_aald C0 hP 17 r 60 25 (mX_n rfl) rfl (by omega) (by decide) dX1_pickMattering_83 ?_
      refine lv_iload C0.hx C0.hb dX1_pickMattering_84 (lv_at hl 3 rfl) ?_
      refine lv_iconst (v := -1) C0.hx C0.hb dX1_pickMattering_86 (by decide) ?_
      refine x_iast C0 hP hS 25 k 4 (v := -1) (mX25 (by omega)) (fun _ => rfl) (by omega) (by decide) dX1_pickMattering_87 (fun H locs hP hS => ?_)
      have hR2 : flL r n (k + 1) (up3 τ 25 r k (-1)) = pkS σ r := hR
      refine lv_iinc (v := nI (k + 1)) (lv' := [(4, .int (nI (k + 1))), (0, .ref (a 4 0)), (1, .int (nI r)), (2, .ref (a 2 0))]) C0.hx C0.hb dX1_pickMattering_88 hl (k := 3) rfl (nI_1 k) (by decide) rfl (fun ls hl => ?_)
      refine lv_goto (tgt := 72) C0.hx C0.hb dX1_pickMattering_91 (by decide) ?_
      exact ih72 ((n, k + 1, up3 τ 25 r k (-1))) H locs ls ⟨hP, hS, (by omega), hR2, (lv_sub hl [1, 2, 3, 0] rfl)⟩ (Nat.lt_succ_self _)
  ·
    refine x_icmp_ge (tgt := 69) C0.hx C0.hb (by omega) (by omega) dX1_pickMattering_8 (by decide) (fun c_2 => ?_) (fun c_2 => ?_)
    ·
      have hR1 : (q, τ) = pkL r 4 0 0 σ := by rw [← hR, show n = 0 by omega]; rfl
      exact J69 (q, τ) _ _ ls ⟨⟨hP, hS, hq, hR1⟩, (lv_sub hl [0, 1, 2, 3] rfl)⟩
    ·
      refine lv_iload_n C0.hx C0.hb dX1_pickMattering_11 rfl (lv_at hl 3 rfl) ?_
      refine lv_aload_n C0.hx C0.hb dX1_pickMattering_12 rfl (lv_at hl 2 rfl) ?_
      refine x_getN C0 hP 2 (mX_n rfl) rfl rfl 2 (by decide) i_X3 q_2 rfl rfl dX1_pickMattering_13 ?_
      obtain ⟨e_3, b_4⟩ := (ok.dep : inR (τ 2 0 0) _)
      refine x_top e_3 ?_
      refine x_icmp_ge (tgt := 69) C0.hx C0.hb (by omega) (by omega) dX1_pickMattering_16 (by decide) (fun c_5 => ?_) (fun c_5 => ?_)
      ·
        obtain ⟨n, rfl⟩ : ∃ z, n = z + 1 := ⟨n - 1, by omega⟩
        have hR1 : (q, τ) = pkL r 4 0 0 σ := by rw [← hR, pkL, if_pos c_5]
        exact J69 (q, τ) _ _ ls ⟨⟨hP, hS, hq, hR1⟩, (lv_sub hl [0, 1, 2, 3] rfl)⟩
      ·
        obtain ⟨n, rfl⟩ : ∃ z, n = z + 1 := ⟨n - 1, by omega⟩
        rw [pkL, if_neg (by omega)] at hR
        refine lv_aload_n C0.hx C0.hb dX1_pickMattering_19 rfl (lv_at hl 0 rfl) ?_
        refine x_get C0 hP 4 (mX_n rfl) rfl rfl 0 (by decide) i_X1 k_4 rfl rfl dX1_pickMattering_20 ?_
        refine lv_iload_n C0.hx C0.hb dX1_pickMattering_23 rfl (lv_at hl 1 rfl) ?_
        refine x_aald C0 hP 16 r 60 24 (mX_n rfl) rfl (by omega) (by decide) dX1_pickMattering_24 ?_
        refine lv_iload C0.hx C0.hb dX1_pickMattering_25 (lv_at hl 4 rfl) ?_
        refine x_iald C0 hP 24 k 4 (mX24 (by omega)) rfl (by omega) (by decide) dX1_pickMattering_27 ?_
        refine lv_istore (lv' := [(5, .int (τ 24 r k)), (0, .ref (a 4 0)), (1, .int (nI r)), (2, .ref (a 2 0)), (3, .int (nI q)), (4, .int (nI k))]) C0.hx C0.hb dX1_pickMattering_28 hl (by decide) rfl (fun ls hl => ?_)
        refine x_join (α := Nat × xS) 63 (fun ⟨q', τ'⟩ H' locs' ls => (va_P g.1 vwCl (xw NLX g a τ') H' ∧ va_S (xA NLX a s.heap.size) s.heap H' locs' ∧ q' ≤ 4 ∧ okX τ' ∧ okF τ' ∧ pkL r n (k + 1) q' τ' = pkL r 4 0 0 σ) ∧ lv_has ls 6 [(0, .ref (a 4 0)), (1, .int (nI r)), (2, .ref (a 2 0)), (4, .int (nI k)), (3, .int (nI q'))]) (fun ⟨q', τ'⟩ => []) ?_ (fun J63 => ?_)
        · rintro ⟨q', τ'⟩ H locs ls ⟨⟨hP, hS, hq', ok', okf', hR2⟩, hl⟩
          refine lv_iinc (v := nI (k + 1)) (lv' := [(4, .int (nI (k + 1))), (0, .ref (a 4 0)), (1, .int (nI r)), (2, .ref (a 2 0)), (3, .int (nI q'))]) C0.hx C0.hb dX1_pickMattering_63 hl (k := 3) rfl (nI_1 k) (by decide) rfl (fun ls hl => ?_)
          refine lv_goto (tgt := 5) C0.hx C0.hb dX1_pickMattering_66 (by decide) ?_
          exact ih5 ((n, k + 1, q', τ')) H locs ls ⟨hP, hS, (by omega), (by omega), ok', okf', hR2, (lv_sub hl [1, 2, 3, 4, 0] rfl)⟩ (Nat.lt_succ_self _)
        ·
          refine lv_iload C0.hx C0.hb dX1_pickMattering_30 (lv_at hl 0 rfl) ?_
          refine lv_iconst (v := -1) C0.hx C0.hb dX1_pickMattering_32 (by decide) ?_
          refine lv_icmp_eq (tgt := 63) C0.hx C0.hb dX1_pickMattering_33 (by decide) (fun c_6 => ?_) (fun c_6 => ?_)
          ·
            have hR2 : pkL r n (k + 1) q τ = pkL r 4 0 0 σ := by rw [← hR, if_pos c_6]
            exact J63 (q, τ) _ _ ls ⟨⟨hP, hS, (by omega), ok, okf, hR2⟩, (lv_sub hl [1, 2, 3, 5, 4] rfl)⟩
          ·
            rw [if_neg c_6] at hR
            obtain ⟨e33, b33⟩ := (okf r hr0 k (by omega)).resolve_left c_6
            refine lv_aload_n C0.hx C0.hb dX1_pickMattering_36 rfl (lv_at hl 3 rfl) ?_
            refine x_getN C0 hP 2 (mX_n rfl) rfl rfl 0 (by decide) i_X3 q_5 rfl rfl dX1_pickMattering_37 ?_
            refine lv_iload C0.hx C0.hb dX1_pickMattering_40 (lv_at hl 0 rfl) ?_
            refine x_top e33 ?_
            refine x_zald C0 hP 10 (nv (τ 24 r k)) 30 (mX_n rfl) rfl (by omega) (by decide) dX1_pickMattering_42 ?_
            refine lv_if_ne (tgt := 63) C0.hx C0.hb dX1_pickMattering_43 (by decide) (fun c_7 => ?_) (fun c_7 => ?_)
            ·
              have hR2 : pkL r n (k + 1) q τ = pkL r 4 0 0 σ := by rw [← hR, if_pos c_7]
              exact J63 (q, τ) _ _ ls ⟨⟨hP, hS, (by omega), ok, okf, hR2⟩, (lv_sub hl [1, 2, 3, 5, 4] rfl)⟩
            ·
              rw [if_neg (fun z => z c_7)] at hR
              refine lv_aload_n C0.hx C0.hb dX1_pickMattering_46 rfl (lv_at hl 1 rfl) ?_
              refine x_get C0 hP 4 (mX_n rfl) rfl rfl 1 (by decide) i_X1 k_0 rfl rfl dX1_pickMattering_47 ?_
              refine lv_iload_n C0.hx C0.hb dX1_pickMattering_50 rfl (lv_at hl 2 rfl) ?_
              refine x_aald C0 hP 17 r 60 25 (mX_n rfl) rfl (by omega) (by decide) dX1_pickMattering_51 ?_
              refine lv_iload_n C0.hx C0.hb dX1_pickMattering_52 rfl (lv_at hl 4 rfl) ?_
              refine lv_aload_n C0.hx C0.hb dX1_pickMattering_53 rfl (lv_at hl 3 rfl) ?_
              refine lv_iload C0.hx C0.hb dX1_pickMattering_54 (lv_at hl 0 rfl) ?_
              refine x_top e33 ?_
              refine x_VNi (As := [.int (nI (nv (τ 24 r k)))]) (rest := [.int (nI q), .ref (a 25 r)]) C0 (mtX3_inTheEnd l g a τ (nv (τ 24 r k)) (by omega) ok) hP C0.2.2.2.1 (va_cnB 1 C0.hts gX1_pickMattering_X3_inTheEnd_n69 rfl rfl rfl (C0.2.2.1.2 _ m_6) (C0.hts _ k_7) (by decide +kernel) ⟨Nat.le_of_ble_eq_true rfl, Nat.le_of_ble_eq_true rfl⟩) (C0.hts _ k_8) (C0.hts _ k_9) (x_recv C0 hP 2 (mX_n rfl) rfl rfl) rfl hl rfl (Nat.le_of_ble_eq_true rfl) (Nat.zero_le _) (Nat.zero_le _) dX1_pickMattering_56 ?_
              refine x_iast C0 hP hS 25 q 4 (v := nI (ieA τ 30 (nv (τ 24 r k)))) (mX25 (by omega)) (fun _ => rfl) (by omega) (by decide) dX1_pickMattering_59 (fun H locs hP hS => ?_)
              have hR2 : pkL r n (k + 1) (q + 1) (up3 τ 25 r q (nI (ieA τ 30 (nv (τ 24 r k))))) = pkL r 4 0 0 σ := hR
              refine lv_iinc (v := nI (q + 1)) (lv' := [(3, .int (nI (q + 1))), (5, .int (τ 24 r k)), (0, .ref (a 4 0)), (1, .int (nI r)), (2, .ref (a 2 0)), (4, .int (nI k))]) C0.hx C0.hb dX1_pickMattering_60 hl (k := 4) rfl (nI_1 q) (by decide) rfl (fun ls hl => ?_)
              exact J63 (q + 1, up3 τ 25 r q (nI (ieA τ 30 (nv (τ 24 r k))))) _ _ ls ⟨⟨hP, hS, (by omega), (ok.ne (fun t i j h => up3_ne (fun z => bT_ne h (u := 25) rfl z.1))), (okf.ne (fun i j => up3_ne (fun z => absurd z.1 (by decide)))), hR2⟩, (lv_sub hl [2, 3, 4, 5, 0] rfl)⟩

set_option maxHeartbeats 4000000 in
set_option maxRecDepth 100000 in
theorem mtX1_signatureOf (l : Launch) (g : xG) (a : xAd) (σ : xS) (r : Nat) (hr0 : r < 60) : xMi l yX1_signatureOf wsX1_signatureOf ({ frames := 0, cells := 0, slots := 0, locals := 0 }) NLX g a σ [.ref (a 4 0), .int (nI r), .ref (a 3 0)] (sgX σ r) := by
  unfold xMi
  refine Met.ofW (cc := cX1_signatureOf) (maxL := 5) (ret := (some .int)) (by decide) rfl ?_
  intro p e s m args below meth c s₁ B hml hv
  obtain ⟨rfl, hP, hK, hN, hj⟩ := hv
  have hr := B.returns
  have hlocks := B.notSynchronized
  have C0 : xC p s m _ c cX1_signatureOf 5 wsX1_signatureOf RX1 NLX g a (xA NLX a s.heap.size) := ⟨⟨B.exec, B.bytes, hml, findClass_of_methodNamed B.named, atoms_spec (ws := wsX1_signatureOf) B.pre⟩, hK, hN, hj, fun n h => Or.inl ⟨n, h, rfl⟩, fun q h => Or.inr h⟩
  have hS : va_S (xA NLX a s.heap.size) s.heap s.heap [] := va_S.rf
  have hl := lv_entry ([.ref (a 4 0), .int (nI r), .ref (a 3 0)]) (n := 5) (Nat.le_of_ble_eq_true rfl)
  rw [lg_entry_eq]
  generalize (lg_sl ([.ref (a 4 0), .int (nI r), .ref (a 3 0)]) ++ List.replicate (5 - (lg_sl ([.ref (a 4 0), .int (nI r), .ref (a 3 0)])).length) Slot.unset).toArray = ls at hl ⊢
  have hl : lv_has ls 5 [(0, .ref (a 4 0)), (1, .int (nI r)), (2, .ref (a 3 0))] := hl
  have q_0 : Cond.fieldLinkNest RX1 32 RX2 (TX2 1).2.1 (TX2 1).2.2.1 RX4 ∈ xNs := by decide +kernel
  have i_X2 : ∀ w ∈ wsX20, w ∈ wsX1_signatureOf := by decide +kernel
  have q_2 : Cond.fieldLinkNest RX1 39 RX2 (TX2 3).2.1 (TX2 3).2.2.1 RX4 ∈ xNs := by decide +kernel
  have k_3 : Cond.fieldLink RX1 16 RX1 (TX1 1).2.1 (TX1 1).2.2.1 ∈ wsX1_signatureOf := by decide +kernel
  have i_X1 : ∀ w ∈ wsX10, w ∈ wsX1_signatureOf := by decide +kernel
  refine lv_iconst (v := nI 0) C0.hx C0.hb dX1_signatureOf_0 (by decide) ?_
  refine lv_istore_n (lv' := [(3, .int (nI 0)), (0, .ref (a 4 0)), (1, .int (nI r)), (2, .ref (a 3 0))]) C0.hx C0.hb dX1_signatureOf_1 rfl hl (by decide) rfl (fun ls hl => ?_)
  refine lv_iconst (v := nI 0) C0.hx C0.hb dX1_signatureOf_2 (by decide) ?_
  refine lv_istore (lv' := [(4, .int (nI 0)), (3, .int (nI 0)), (0, .ref (a 4 0)), (1, .int (nI r)), (2, .ref (a 3 0))]) C0.hx C0.hb dX1_signatureOf_3 hl (by decide) rfl (fun ls hl => ?_)
  refine x_loopR (α := Nat) (fun k => 4 - k) (fun k ls => k ≤ 4 ∧ lv_has ls 5 [(0, .ref (a 4 0)), (1, .int (nI r)), (2, .ref (a 3 0)), (3, .int (sgL σ r k)), (4, .int (nI k))]) ?_ 0 ⟨(by omega), (lv_sub hl [2, 3, 4, 1, 0] rfl)⟩
  rintro k ls ⟨h5_0, hl⟩ ih5
  have h5 := h5_0
  refine lv_iload C0.hx C0.hb dX1_signatureOf_5 (lv_at hl 4 rfl) ?_
  refine lv_iconst (v := nI 4) C0.hx C0.hb dX1_signatureOf_7 (by decide) ?_
  refine x_icmp_ge (tgt := 34) C0.hx C0.hb (by omega) (by omega) dX1_signatureOf_8 (by decide) (fun c_1 => ?_) (fun c_1 => ?_)
  ·
    obtain rfl : k = 4 := by omega
    have hl := lv_sub (l' := [(0, .ref (a 4 0)), (1, .int (nI r)), (2, .ref (a 3 0)), (3, .int (sgL σ r 4))]) hl [0, 1, 2, 3] rfl
    refine lv_iload_n C0.hx C0.hb dX1_signatureOf_34 rfl (lv_at hl 3 rfl) ?_
    refine lv_if_le (tgt := 40) C0.hx C0.hb dX1_signatureOf_35 (by decide) (fun c_2 => ?_) (fun c_2 => ?_)
    ·
      refine lv_iconst (v := -1) C0.hx C0.hb dX1_signatureOf_40 (by decide) ?_
      refine lv_aload_n C0.hx C0.hb dX1_signatureOf_41 rfl (lv_at hl 2 rfl) ?_
      refine x_getN C0 hP 3 (mX_n rfl) rfl rfl 1 (by decide) i_X2 q_0 rfl rfl dX1_signatureOf_42 ?_
      refine lv_iload_n C0.hx C0.hb dX1_signatureOf_45 rfl (lv_at hl 1 rfl) ?_
      refine x_iald C0 hP 12 r 60 (mX_n rfl) rfl (by omega) (by decide) dX1_signatureOf_46 ?_
      refine lv_sipush (v := nI 10000) C0.hx C0.hb dX1_signatureOf_47 (by decide) ?_
      refine lv_imul C0.hx C0.hb dX1_signatureOf_50 ?_
      refine lv_isub C0.hx C0.hb dX1_signatureOf_51 ?_
      refine lv_aload_n C0.hx C0.hb dX1_signatureOf_52 rfl (lv_at hl 2 rfl) ?_
      refine x_getN C0 hP 3 (mX_n rfl) rfl rfl 3 (by decide) i_X2 q_2 rfl rfl dX1_signatureOf_53 ?_
      refine lv_iload_n C0.hx C0.hb dX1_signatureOf_56 rfl (lv_at hl 1 rfl) ?_
      refine x_aald C0 hP 14 r 60 23 (mX_n rfl) rfl (by omega) (by decide) dX1_signatureOf_57 ?_
      refine lv_iconst (v := nI 0) C0.hx C0.hb dX1_signatureOf_58 (by decide) ?_
      refine x_iald C0 hP 23 0 4 (mX23 (by omega)) rfl (by omega) (by decide) dX1_signatureOf_59 ?_
      refine lv_isub C0.hx C0.hb dX1_signatureOf_60 ?_
      exact W.iret (v := ((-1) - ((σ 12 0 r) * (nI 10000))) - (σ 23 r 0)) C0.hx C0.hb hr (fun t ht hW => ⟨_, rfl, (by unfold sgX; rw [if_pos c_2]; rfl), ht⟩) (fun q h => nomatch h) dX1_signatureOf_61
    ·
      refine lv_iload_n C0.hx C0.hb dX1_signatureOf_38 rfl (lv_at hl 3 rfl) ?_
      exact W.iret (v := sgL σ r 4) C0.hx C0.hb hr (fun t ht hW => ⟨_, rfl, (by unfold sgX; rw [if_neg c_2]), ht⟩) (fun q h => nomatch h) dX1_signatureOf_39
  ·
    refine lv_iload_n C0.hx C0.hb dX1_signatureOf_11 rfl (lv_at hl 3 rfl) ?_
    refine lv_bipush (v := nI 31) C0.hx C0.hb dX1_signatureOf_12 (by decide) ?_
    refine lv_imul C0.hx C0.hb dX1_signatureOf_14 ?_
    refine lv_aload_n C0.hx C0.hb dX1_signatureOf_15 rfl (lv_at hl 0 rfl) ?_
    refine x_get C0 hP 4 (mX_n rfl) rfl rfl 1 (by decide) i_X1 k_3 rfl rfl dX1_signatureOf_16 ?_
    refine lv_iload_n C0.hx C0.hb dX1_signatureOf_19 rfl (lv_at hl 1 rfl) ?_
    refine x_aald C0 hP 17 r 60 25 (mX_n rfl) rfl (by omega) (by decide) dX1_signatureOf_20 ?_
    refine lv_iload C0.hx C0.hb dX1_signatureOf_21 (lv_at hl 4 rfl) ?_
    refine x_iald C0 hP 25 k 4 (mX25 (by omega)) rfl (by omega) (by decide) dX1_signatureOf_23 ?_
    refine lv_iadd C0.hx C0.hb dX1_signatureOf_24 ?_
    refine lv_iconst (v := nI 1) C0.hx C0.hb dX1_signatureOf_25 (by decide) ?_
    refine lv_iadd C0.hx C0.hb dX1_signatureOf_26 ?_
    refine lv_istore_n (lv' := [(3, .int ((((sgL σ r k) * (nI 31)) + (σ 25 r k)) + (nI 1))), (0, .ref (a 4 0)), (1, .int (nI r)), (2, .ref (a 3 0)), (4, .int (nI k))]) C0.hx C0.hb dX1_signatureOf_27 rfl hl (by decide) rfl (fun ls hl => ?_)
    refine lv_iinc (v := nI (k + 1)) (lv' := [(4, .int (nI (k + 1))), (3, .int ((((sgL σ r k) * (nI 31)) + (σ 25 r k)) + (nI 1))), (0, .ref (a 4 0)), (1, .int (nI r)), (2, .ref (a 3 0))]) C0.hx C0.hb dX1_signatureOf_28 hl (k := 4) rfl (nI_1 k) (by decide) rfl (fun ls hl => ?_)
    refine lv_goto (tgt := 5) C0.hx C0.hb dX1_signatureOf_31 (by decide) ?_
    exact ih5 ((k + 1)) ls ⟨(by omega), (lv_sub hl [2, 3, 4, 1, 0] rfl)⟩ (by omega)

set_option maxHeartbeats 4000000 in
set_option maxRecDepth 100000 in
theorem mtX1_sort (l : Launch) (g : xG) (a : xAd) (σ : xS) (r : Nat) (hr0 : r < 60) (ok : okX σ) (okf : okF σ) : xMv l yX1_sort wsX1_sort ({ frames := 2, cells := 0, slots := 0, locals := 48 }) NLX g a σ [.ref (a 4 0), .int (nI r), .ref (a 3 0), .ref (a 2 0)] (soS σ r) := by
  intro sz
  refine Met.ofW (cc := cX1_sort) (maxL := 5) (ret := none) (by decide) rfl ?_
  intro p e s m args below meth c s₁ B hml hv
  obtain ⟨rfl, hsz, hP, hK, hN, hj⟩ := hv
  subst hsz
  have hr := B.returns
  have hlocks := B.notSynchronized
  have C0 : xC p s m _ c cX1_sort 5 wsX1_sort RX1 NLX g a (xA NLX a s.heap.size) := ⟨⟨B.exec, B.bytes, hml, findClass_of_methodNamed B.named, atoms_spec (ws := wsX1_sort) B.pre⟩, hK, hN, hj, fun n h => Or.inl ⟨n, h, rfl⟩, fun q h => Or.inr h⟩
  have hS : va_S (xA NLX a s.heap.size) s.heap s.heap [] := va_S.rf
  have hl := lv_entry ([.ref (a 4 0), .int (nI r), .ref (a 3 0), .ref (a 2 0)]) (n := 5) (Nat.le_of_ble_eq_true rfl)
  rw [lg_entry_eq]
  generalize (lg_sl ([.ref (a 4 0), .int (nI r), .ref (a 3 0), .ref (a 2 0)]) ++ List.replicate (5 - (lg_sl ([.ref (a 4 0), .int (nI r), .ref (a 3 0), .ref (a 2 0)])).length) Slot.unset).toArray = ls at hl ⊢
  have hl : lv_has ls 5 [(0, .ref (a 4 0)), (1, .int (nI r)), (2, .ref (a 3 0)), (3, .ref (a 2 0))] := hl
  have k_0 : Cond.fieldLink RX1 19 RX1 (TX1 2).2.1 (TX1 2).2.2.1 ∈ wsX1_sort := by decide +kernel
  have i_X1 : ∀ w ∈ wsX10, w ∈ wsX1_sort := by decide +kernel
  have k_2 : Cond.fieldLink RX1 23 RX1 (TX1 3).2.1 (TX1 3).2.2.1 ∈ wsX1_sort := by decide +kernel
  refine lv_aload_n C0.hx C0.hb dX1_sort_0 rfl (lv_at hl 0 rfl) ?_
  refine lv_iload_n C0.hx C0.hb dX1_sort_1 rfl (lv_at hl 1 rfl) ?_
  refine lv_aload_n C0.hx C0.hb dX1_sort_2 rfl (lv_at hl 3 rfl) ?_
  refine x_Vv (As := [.int (nI r), .ref (a 2 0)]) (rest := []) C0 (mtX1_pickMattering l g a σ r (by omega) ok okf) hP hS (cwV 2 C0.hts gX1_sort_X1_pickMattering rfl rfl rfl (by decide +kernel) ⟨Nat.le_of_ble_eq_true rfl, Nat.le_of_ble_eq_true rfl⟩) (x_recv C0 hP 4 (mX_n rfl) rfl rfl) rfl hl rfl (Nat.le_of_ble_eq_true rfl) (Nat.zero_le _) (Nat.zero_le _) dX1_sort_3 (fun H locs hP hS => ?_)
  refine lv_aload_n C0.hx C0.hb dX1_sort_6 rfl (lv_at hl 0 rfl) ?_
  refine x_get C0 hP 4 (mX_n rfl) rfl rfl 2 (by decide) i_X1 k_0 rfl rfl dX1_sort_7 ?_
  refine lv_iload_n C0.hx C0.hb dX1_sort_10 rfl (lv_at hl 1 rfl) ?_
  refine lv_aload_n C0.hx C0.hb dX1_sort_11 rfl (lv_at hl 0 rfl) ?_
  refine lv_iload_n C0.hx C0.hb dX1_sort_12 rfl (lv_at hl 1 rfl) ?_
  refine lv_aload_n C0.hx C0.hb dX1_sort_13 rfl (lv_at hl 2 rfl) ?_
  refine x_Vi (As := [.int (nI r), .ref (a 3 0)]) (rest := [.int (nI r), .ref (a 18 0)]) C0 (mtX1_signatureOf l g a (pkS σ r) r (by omega)) hP C0.2.2.2.1 (cwV 2 C0.hts gX1_sort_X1_signatureOf rfl rfl rfl (by decide +kernel) ⟨Nat.le_of_ble_eq_true rfl, Nat.le_of_ble_eq_true rfl⟩) (x_recv C0 hP 4 (mX_n rfl) rfl rfl) rfl hl rfl (Nat.le_of_ble_eq_true rfl) (Nat.zero_le _) (Nat.zero_le _) dX1_sort_14 ?_
  refine x_iast C0 hP hS 18 r 60 (v := sgX (pkS σ r) r) (mX_n rfl) (fun _ => rfl) (by omega) (by decide) dX1_sort_17 (fun H locs hP hS => ?_)
  obtain ⟨υ, hυ⟩ : ∃ z : xS, z = up3 (pkS σ r) 18 0 r (sgX (pkS σ r) r) := ⟨_, rfl⟩
  rw [← hυ] at hP
  refine lv_iconst (v := nI 0) C0.hx C0.hb dX1_sort_18 (by decide) ?_
  refine lv_istore (lv' := [(4, .int (nI 0)), (0, .ref (a 4 0)), (1, .int (nI r)), (2, .ref (a 3 0)), (3, .ref (a 2 0))]) C0.hx C0.hb dX1_sort_19 hl (by decide) rfl (fun ls hl => ?_)
  refine x_loopR (α := Nat × Nat) (fun u => u.1) (fun ⟨n, k⟩ ls => k + n = r ∧ nmA υ r n k = nmA υ r r 0 ∧ lv_has ls 5 [(0, .ref (a 4 0)), (1, .int (nI r)), (2, .ref (a 3 0)), (3, .ref (a 2 0)), (4, .int (nI k))]) ?_ ((r, 0)) ⟨(by omega), rfl, (lv_sub hl [1, 2, 3, 4, 0] rfl)⟩
  rintro ⟨n, k⟩ ls ⟨h21_0, h21_1, hl⟩ ih21
  refine lv_iload C0.hx C0.hb dX1_sort_21 (lv_at hl 4 rfl) ?_
  refine lv_iload_n C0.hx C0.hb dX1_sort_23 rfl (lv_at hl 1 rfl) ?_
  refine x_join (α := Unit) 49 (fun _ H' locs' ls => (H' = H ∧ locs' = locs ∧ k = nmA υ r r 0) ∧ lv_has ls 5 [(0, .ref (a 4 0)), (1, .int (nI r)), (2, .ref (a 3 0)), (3, .ref (a 2 0)), (4, .int (nI k))]) (fun _ => []) ?_ (fun J49 => ?_)
  · rintro _ _ _ ls ⟨⟨rfl, rfl, hj49_0⟩, hl⟩
    refine lv_aload_n C0.hx C0.hb dX1_sort_49 rfl (lv_at hl 0 rfl) ?_
    refine x_get C0 hP 4 (mX_n rfl) rfl rfl 3 (by decide) i_X1 k_2 rfl rfl dX1_sort_50 ?_
    refine lv_iload_n C0.hx C0.hb dX1_sort_53 rfl (lv_at hl 1 rfl) ?_
    refine lv_iload C0.hx C0.hb dX1_sort_54 (lv_at hl 4 rfl) ?_
    refine x_iast C0 hP hS 19 r 60 (v := nI k) (mX_n rfl) (fun _ => rfl) (by omega) (by decide) dX1_sort_56 (fun H locs hP hS => ?_)
    exact W.vret C0.hx C0.hb hr (fun t ht hW => ⟨⟨up3 υ 19 0 r (nI k), rfl, (by rw [hj49_0, hυ]; rfl), x_end ht hP⟩, hS.F ht⟩) hS.2.2 dX1_sort_57
  ·
    refine x_icmp_ge (tgt := 49) C0.hx C0.hb (by omega) (by omega) dX1_sort_24 (by decide) (fun c_1 => ?_) (fun c_1 => ?_)
    ·
      have hR : k = nmA υ r r 0 := by rw [← h21_1, show n = 0 by omega]; rfl
      exact J49 () _ _ ls ⟨⟨rfl, rfl, hR⟩, (lv_sub hl [0, 1, 2, 3, 4] rfl)⟩
    ·
      refine lv_aload_n C0.hx C0.hb dX1_sort_27 rfl (lv_at hl 0 rfl) ?_
      refine x_get C0 hP 4 (mX_n rfl) rfl rfl 2 (by decide) i_X1 k_0 rfl rfl dX1_sort_28 ?_
      refine lv_iload C0.hx C0.hb dX1_sort_31 (lv_at hl 4 rfl) ?_
      refine x_iald C0 hP 18 k 60 (mX_n rfl) rfl (by omega) (by decide) dX1_sort_33 ?_
      refine lv_aload_n C0.hx C0.hb dX1_sort_34 rfl (lv_at hl 0 rfl) ?_
      refine x_get C0 hP 4 (mX_n rfl) rfl rfl 2 (by decide) i_X1 k_0 rfl rfl dX1_sort_35 ?_
      refine lv_iload_n C0.hx C0.hb dX1_sort_38 rfl (lv_at hl 1 rfl) ?_
      refine x_iald C0 hP 18 r 60 (mX_n rfl) rfl (by omega) (by decide) dX1_sort_39 ?_
      refine lv_icmp_eq (tgt := 49) C0.hx C0.hb dX1_sort_40 (by decide) (fun c_2 => ?_) (fun c_2 => ?_)
      ·
        have hR : k = nmA υ r r 0 := by rw [← h21_1]; obtain ⟨n, rfl⟩ : ∃ z, n = z + 1 := ⟨n - 1, by omega⟩; rw [nmA, if_pos c_2]
        exact J49 () _ _ ls ⟨⟨rfl, rfl, hR⟩, (lv_sub hl [0, 1, 2, 3, 4] rfl)⟩
      ·
        obtain ⟨n, rfl⟩ : ∃ z, n = z + 1 := ⟨n - 1, by omega⟩
        have hR : nmA υ r n (k + 1) = nmA υ r r 0 := by rw [← h21_1, nmA, if_neg c_2]
        refine lv_iinc (v := nI (k + 1)) (lv' := [(4, .int (nI (k + 1))), (0, .ref (a 4 0)), (1, .int (nI r)), (2, .ref (a 3 0)), (3, .ref (a 2 0))]) C0.hx C0.hb dX1_sort_43 hl (k := 4) rfl (nI_1 k) (by decide) rfl (fun ls hl => ?_)
        refine lv_goto (tgt := 21) C0.hx C0.hb dX1_sort_46 (by decide) ?_
        exact ih21 ((n, k + 1)) ls ⟨(by omega), hR, (lv_sub hl [1, 2, 3, 4, 0] rfl)⟩ (Nat.lt_succ_self _)

set_option maxHeartbeats 4000000 in
set_option maxRecDepth 100000 in
theorem mtX1_sortAll (l : Launch) (g : xG) (a : xAd) (σ : xS) (ok : okX σ) (okf : okF σ) : xMv l yX1_sortAll wsX1_sortAll ({ frames := 3, cells := 0, slots := 0, locals := 72 }) NLX g a σ [.ref (a 4 0), .ref (a 3 0), .ref (a 2 0)] (saS σ) := by
  intro sz
  refine Met.ofW (cc := cX1_sortAll) (maxL := 4) (ret := none) (by decide) rfl ?_
  intro p e s m args below meth c s₁ B hml hv
  obtain ⟨rfl, hsz, hP, hK, hN, hj⟩ := hv
  subst hsz
  have hr := B.returns
  have hlocks := B.notSynchronized
  have C0 : xC p s m _ c cX1_sortAll 4 wsX1_sortAll RX1 NLX g a (xA NLX a s.heap.size) := ⟨⟨B.exec, B.bytes, hml, findClass_of_methodNamed B.named, atoms_spec (ws := wsX1_sortAll) B.pre⟩, hK, hN, hj, fun n h => Or.inl ⟨n, h, rfl⟩, fun q h => Or.inr h⟩
  have hS : va_S (xA NLX a s.heap.size) s.heap s.heap [] := va_S.rf
  have hl := lv_entry ([.ref (a 4 0), .ref (a 3 0), .ref (a 2 0)]) (n := 4) (Nat.le_of_ble_eq_true rfl)
  rw [lg_entry_eq]
  generalize (lg_sl ([.ref (a 4 0), .ref (a 3 0), .ref (a 2 0)]) ++ List.replicate (4 - (lg_sl ([.ref (a 4 0), .ref (a 3 0), .ref (a 2 0)])).length) Slot.unset).toArray = ls at hl ⊢
  have hl : lv_has ls 4 [(0, .ref (a 4 0)), (1, .ref (a 3 0)), (2, .ref (a 2 0))] := hl
  have q_0 : Cond.fieldLinkNest RX1 26 RX2 (TX2 0).2.1 (TX2 0).2.2.1 RX4 ∈ xNs := by decide +kernel
  have i_X2 : ∀ w ∈ wsX20, w ∈ wsX1_sortAll := by decide +kernel
  refine lv_iconst (v := nI 0) C0.hx C0.hb dX1_sortAll_0 (by decide) ?_
  refine lv_istore_n (lv' := [(3, .int (nI 0)), (0, .ref (a 4 0)), (1, .ref (a 3 0)), (2, .ref (a 2 0))]) C0.hx C0.hb dX1_sortAll_1 rfl hl (by decide) rfl (fun ls hl => ?_)
  refine x_loopW (α := Nat) (fun k => 60 - k) (fun k H locs ls => va_P g.1 vwCl (xw NLX g a (saL σ k)) H ∧ va_S (xA NLX a s.heap.size) s.heap H locs ∧ k ≤ nv (σ 3 0 0) ∧ lv_has ls 4 [(0, .ref (a 4 0)), (1, .ref (a 3 0)), (2, .ref (a 2 0)), (3, .int (nI k))]) ?_ 0 ⟨hP, hS, (by omega), (lv_sub hl [1, 2, 3, 0] rfl)⟩
  rintro k H locs ls ⟨hP, hS, h2_0, hl⟩ ih2
  have ok1 : okX (saL σ k) := saL_ok ok
  have okf1 : okF (saL σ k) := saL_okF okf
  have on : saL σ k 3 0 0 = nI (nv (σ 3 0 0)) := (saL_ne k 3 0 0 rfl).trans ok.n.1
  have hn := ok.n.2
  refine lv_iload_n C0.hx C0.hb dX1_sortAll_2 rfl (lv_at hl 3 rfl) ?_
  refine lv_aload_n C0.hx C0.hb dX1_sortAll_3 rfl (lv_at hl 1 rfl) ?_
  refine x_getN C0 hP 3 (mX_n rfl) rfl rfl 0 (by decide) i_X2 q_0 rfl rfl dX1_sortAll_4 ?_
  refine x_top on ?_
  refine x_icmp_ge (tgt := 23) C0.hx C0.hb (by omega) (by omega) dX1_sortAll_7 (by decide) (fun c_1 => ?_) (fun c_1 => ?_)
  ·
    exact W.vret C0.hx C0.hb hr (fun t ht hW => ⟨⟨saL σ k, rfl, (by rw [show k = nv (σ 3 0 0) by omega]; rfl), x_end ht hP⟩, hS.F ht⟩) hS.2.2 dX1_sortAll_23
  ·
    refine lv_aload_n C0.hx C0.hb dX1_sortAll_10 rfl (lv_at hl 0 rfl) ?_
    refine lv_iload_n C0.hx C0.hb dX1_sortAll_11 rfl (lv_at hl 3 rfl) ?_
    refine lv_aload_n C0.hx C0.hb dX1_sortAll_12 rfl (lv_at hl 1 rfl) ?_
    refine lv_aload_n C0.hx C0.hb dX1_sortAll_13 rfl (lv_at hl 2 rfl) ?_
    refine x_Vv (As := [.int (nI k), .ref (a 3 0), .ref (a 2 0)]) (rest := []) C0 (mtX1_sort l g a (saL σ k) k (by omega) ok1 okf1) hP hS (cwV 3 C0.hts gX1_sortAll_X1_sort rfl rfl rfl (by decide +kernel) ⟨Nat.le_of_ble_eq_true rfl, Nat.le_of_ble_eq_true rfl⟩) (x_recv C0 hP 4 (mX_n rfl) rfl rfl) rfl hl rfl (Nat.le_of_ble_eq_true rfl) (Nat.zero_le _) (Nat.zero_le _) dX1_sortAll_14 (fun H locs hP hS => ?_)
    refine lv_iinc (v := nI (k + 1)) (lv' := [(3, .int (nI (k + 1))), (0, .ref (a 4 0)), (1, .ref (a 3 0)), (2, .ref (a 2 0))]) C0.hx C0.hb dX1_sortAll_17 hl (k := 3) rfl (nI_1 k) (by decide) rfl (fun ls hl => ?_)
    refine lv_goto (tgt := 2) C0.hx C0.hb dX1_sortAll_20 (by decide) ?_
    exact ih2 ((k + 1)) H locs ls ⟨hP, hS, (by omega), (lv_sub hl [1, 2, 3, 0] rfl)⟩ (by omega)
end
section
set_option maxHeartbeats 4000000 in
set_option maxRecDepth 100000 in
theorem mtJ6_bitCount_0f7a4 (l : Launch) (g : xG) (a : xAd) (σ : xS) (x : Int32) : xMi l yJ6_bitCount_0f7a4 wsJ6_bitCount_0f7a4 ({ frames := 0, cells := 0, slots := 0, locals := 0 }) [] g a σ [.int x] (bcX x) := by
  unfold xMi
  refine Met.ofW (cc := cJ6_bitCount_0f7a4) (maxL := 1) (ret := (some .int)) (by decide) rfl ?_
  intro p e s m args below meth c s₁ B hml hv
  obtain ⟨rfl, hP, hK, hN, hj⟩ := hv
  have hr := B.returns
  have hlocks := B.notSynchronized
  have C0 : xC p s m _ c cJ6_bitCount_0f7a4 1 wsJ6_bitCount_0f7a4 RJ6 [] g a (xA [] a s.heap.size) := ⟨⟨B.exec, B.bytes, hml, findClass_of_methodNamed B.named, atoms_spec (ws := wsJ6_bitCount_0f7a4) B.pre⟩, hK, hN, hj, fun n h => Or.inl ⟨n, h, rfl⟩, fun q h => Or.inr h⟩
  have hS : va_S (xA [] a s.heap.size) s.heap s.heap [] := va_S.rf
  have hl := lv_entry ([.int x]) (n := 1) (Nat.le_of_ble_eq_true rfl)
  rw [lg_entry_eq]
  generalize (lg_sl ([.int x]) ++ List.replicate (1 - (lg_sl ([.int x])).length) Slot.unset).toArray = ls at hl ⊢
  have hl : lv_has ls 1 [(0, .int x)] := hl
  have k_0 : Cond.constant RJ6 265 (1431655765 : Int32) ∈ wsJ6_bitCount_0f7a4 := by decide +kernel
  have k_1 : Cond.constant RJ6 266 (858993459 : Int32) ∈ wsJ6_bitCount_0f7a4 := by decide +kernel
  have k_2 : Cond.constant RJ6 267 (252645135 : Int32) ∈ wsJ6_bitCount_0f7a4 := by decide +kernel
  refine lv_iload_n C0.hx C0.hb dJ6_bitCount_0f7a4_0 rfl (lv_at hl 0 rfl) ?_
  refine lv_iload_n C0.hx C0.hb dJ6_bitCount_0f7a4_1 rfl (lv_at hl 0 rfl) ?_
  refine lv_iconst (v := nI 1) C0.hx C0.hb dJ6_bitCount_0f7a4_2 (by decide) ?_
  refine lv_iushr (v := ush x (nI 1)) C0.hx C0.hb dJ6_bitCount_0f7a4_3 rfl ?_
  refine lv_ldcw C0.hx C0.hb C0.1.2.2.2.1 (C0.hts _ k_0) dJ6_bitCount_0f7a4_4 ?_
  refine lv_iand C0.hx C0.hb dJ6_bitCount_0f7a4_7 ?_
  refine lv_isub C0.hx C0.hb dJ6_bitCount_0f7a4_8 ?_
  refine x_top (show _ = bc1 x from rfl) ?_
  refine lv_istore_n (lv' := [(0, .int (bc1 x))]) C0.hx C0.hb dJ6_bitCount_0f7a4_9 rfl hl (by decide) rfl (fun ls hl => ?_)
  refine lv_iload_n C0.hx C0.hb dJ6_bitCount_0f7a4_10 rfl (lv_at hl 0 rfl) ?_
  refine lv_ldcw C0.hx C0.hb C0.1.2.2.2.1 (C0.hts _ k_1) dJ6_bitCount_0f7a4_11 ?_
  refine lv_iand C0.hx C0.hb dJ6_bitCount_0f7a4_14 ?_
  refine lv_iload_n C0.hx C0.hb dJ6_bitCount_0f7a4_15 rfl (lv_at hl 0 rfl) ?_
  refine lv_iconst (v := nI 2) C0.hx C0.hb dJ6_bitCount_0f7a4_16 (by decide) ?_
  refine lv_iushr (v := ush (bc1 x) (nI 2)) C0.hx C0.hb dJ6_bitCount_0f7a4_17 rfl ?_
  refine lv_ldcw C0.hx C0.hb C0.1.2.2.2.1 (C0.hts _ k_1) dJ6_bitCount_0f7a4_18 ?_
  refine lv_iand C0.hx C0.hb dJ6_bitCount_0f7a4_21 ?_
  refine lv_iadd C0.hx C0.hb dJ6_bitCount_0f7a4_22 ?_
  refine x_top (show _ = bc2 (bc1 x) from rfl) ?_
  refine lv_istore_n (lv' := [(0, .int (bc2 (bc1 x)))]) C0.hx C0.hb dJ6_bitCount_0f7a4_23 rfl hl (by decide) rfl (fun ls hl => ?_)
  refine lv_iload_n C0.hx C0.hb dJ6_bitCount_0f7a4_24 rfl (lv_at hl 0 rfl) ?_
  refine lv_iload_n C0.hx C0.hb dJ6_bitCount_0f7a4_25 rfl (lv_at hl 0 rfl) ?_
  refine lv_iconst (v := nI 4) C0.hx C0.hb dJ6_bitCount_0f7a4_26 (by decide) ?_
  refine lv_iushr (v := ush (bc2 (bc1 x)) (nI 4)) C0.hx C0.hb dJ6_bitCount_0f7a4_27 rfl ?_
  refine lv_iadd C0.hx C0.hb dJ6_bitCount_0f7a4_28 ?_
  refine lv_ldcw C0.hx C0.hb C0.1.2.2.2.1 (C0.hts _ k_2) dJ6_bitCount_0f7a4_29 ?_
  refine lv_iand C0.hx C0.hb dJ6_bitCount_0f7a4_32 ?_
  refine x_top (show _ = bc3 (bc2 (bc1 x)) from rfl) ?_
  refine lv_istore_n (lv' := [(0, .int (bc3 (bc2 (bc1 x))))]) C0.hx C0.hb dJ6_bitCount_0f7a4_33 rfl hl (by decide) rfl (fun ls hl => ?_)
  refine lv_iload_n C0.hx C0.hb dJ6_bitCount_0f7a4_34 rfl (lv_at hl 0 rfl) ?_
  refine lv_iload_n C0.hx C0.hb dJ6_bitCount_0f7a4_35 rfl (lv_at hl 0 rfl) ?_
  refine lv_bipush (v := nI 8) C0.hx C0.hb dJ6_bitCount_0f7a4_36 (by decide) ?_
  refine lv_iushr (v := ush (bc3 (bc2 (bc1 x))) (nI 8)) C0.hx C0.hb dJ6_bitCount_0f7a4_38 rfl ?_
  refine lv_iadd C0.hx C0.hb dJ6_bitCount_0f7a4_39 ?_
  refine x_top (show _ = bc4 (bc3 (bc2 (bc1 x))) from rfl) ?_
  refine lv_istore_n (lv' := [(0, .int (bc4 (bc3 (bc2 (bc1 x)))))]) C0.hx C0.hb dJ6_bitCount_0f7a4_40 rfl hl (by decide) rfl (fun ls hl => ?_)
  refine lv_iload_n C0.hx C0.hb dJ6_bitCount_0f7a4_41 rfl (lv_at hl 0 rfl) ?_
  refine lv_iload_n C0.hx C0.hb dJ6_bitCount_0f7a4_42 rfl (lv_at hl 0 rfl) ?_
  refine lv_bipush (v := nI 16) C0.hx C0.hb dJ6_bitCount_0f7a4_43 (by decide) ?_
  refine lv_iushr (v := ush (bc4 (bc3 (bc2 (bc1 x)))) (nI 16)) C0.hx C0.hb dJ6_bitCount_0f7a4_45 rfl ?_
  refine lv_iadd C0.hx C0.hb dJ6_bitCount_0f7a4_46 ?_
  refine x_top (show _ = bc5 (bc4 (bc3 (bc2 (bc1 x)))) from rfl) ?_
  refine lv_istore_n (lv' := [(0, .int (bc5 (bc4 (bc3 (bc2 (bc1 x))))))]) C0.hx C0.hb dJ6_bitCount_0f7a4_47 rfl hl (by decide) rfl (fun ls hl => ?_)
  refine lv_iload_n C0.hx C0.hb dJ6_bitCount_0f7a4_48 rfl (lv_at hl 0 rfl) ?_
  refine lv_bipush (v := nI 63) C0.hx C0.hb dJ6_bitCount_0f7a4_49 (by decide) ?_
  refine lv_iand C0.hx C0.hb dJ6_bitCount_0f7a4_51 ?_
  exact W.iret (v := (bc5 (bc4 (bc3 (bc2 (bc1 x))))) &&& (nI 63)) C0.hx C0.hb hr (fun t ht hW => ⟨_, rfl, rfl, ht⟩) (fun q h => nomatch h) dJ6_bitCount_0f7a4_52

set_option maxHeartbeats 4000000 in
set_option maxRecDepth 100000 in
theorem mtX4_isBelow (l : Launch) (g : xG) (a : xAd) (σ : xS) (x n : Int32) : xMi l yX4_isBelow wsX4_isBelow ({ frames := 0, cells := 0, slots := 0, locals := 0 }) [] g a σ [.int x, .int n] (bI (ibX x n)) := by
  unfold xMi
  refine Met.ofW (cc := cX4_isBelow) (maxL := 2) (ret := (some .boolean)) (by decide) rfl ?_
  intro p e s m args below meth c s₁ B hml hv
  obtain ⟨rfl, hP, hK, hN, hj⟩ := hv
  have hr := B.returns
  have hlocks := B.notSynchronized
  have C0 : xC p s m _ c cX4_isBelow 2 wsX4_isBelow RX4 [] g a (xA [] a s.heap.size) := ⟨⟨B.exec, B.bytes, hml, findClass_of_methodNamed B.named, atoms_spec (ws := wsX4_isBelow) B.pre⟩, hK, hN, hj, fun n h => Or.inl ⟨n, h, rfl⟩, fun q h => Or.inr h⟩
  have hS : va_S (xA [] a s.heap.size) s.heap s.heap [] := va_S.rf
  have hl := lv_entry ([.int x, .int n]) (n := 2) (Nat.le_of_ble_eq_true rfl)
  rw [lg_entry_eq]
  generalize (lg_sl ([.int x, .int n]) ++ List.replicate (2 - (lg_sl ([.int x, .int n])).length) Slot.unset).toArray = ls at hl ⊢
  have hl : lv_has ls 2 [(0, .int x), (1, .int n)] := hl
  refine x_join (α := Bool) 14 (fun b H' locs' ls => (H' = s.heap ∧ locs' = [] ∧ b = ibX x n) ∧ lv_has ls 2 [(0, .int x), (1, .int n)]) (fun b => [.int (bI b)]) ?_ (fun J14 => ?_)
  · rintro b _ _ ls ⟨⟨rfl, rfl, hj14_0⟩, hl⟩
    exact W.zret (v := bI b) C0.hx C0.hb hr (bI_nar _) (fun t ht hW => ⟨_, rfl, congrArg bI hj14_0, ht⟩) (fun q h => nomatch h) dX4_isBelow_14
  ·
    refine lv_iload_n C0.hx C0.hb dX4_isBelow_0 rfl (lv_at hl 0 rfl) ?_
    refine lv_if_lt (tgt := 13) C0.hx C0.hb dX4_isBelow_1 (by decide) (fun c_1 => ?_) (fun c_1 => ?_)
    ·
      refine lv_iconst (v := nI 0) C0.hx C0.hb dX4_isBelow_13 (by decide) ?_
      exact J14 false _ _ ls ⟨⟨rfl, rfl, (by simp [ibX, c_1])⟩, (lv_sub hl [0, 1] rfl)⟩
    ·
      refine lv_iload_n C0.hx C0.hb dX4_isBelow_4 rfl (lv_at hl 0 rfl) ?_
      refine lv_iload_n C0.hx C0.hb dX4_isBelow_5 rfl (lv_at hl 1 rfl) ?_
      refine lv_icmp_ge (tgt := 13) C0.hx C0.hb dX4_isBelow_6 (by decide) (fun c_2 => ?_) (fun c_2 => ?_)
      ·
        refine lv_iconst (v := nI 0) C0.hx C0.hb dX4_isBelow_13 (by decide) ?_
        exact J14 false _ _ ls ⟨⟨rfl, rfl, (by simp [ibX, c_2, c_1])⟩, (lv_sub hl [0, 1] rfl)⟩
      ·
        refine lv_iconst (v := nI 1) C0.hx C0.hb dX4_isBelow_9 (by decide) ?_
        refine lv_goto (tgt := 14) C0.hx C0.hb dX4_isBelow_10 (by decide) ?_
        exact J14 true _ _ ls ⟨⟨rfl, rfl, (by simp [ibX, c_2, c_1])⟩, (lv_sub hl [0, 1] rfl)⟩

set_option maxHeartbeats 4000000 in
set_option maxRecDepth 100000 in
theorem mtX4_mayFollow (l : Launch) (g : xG) (a : xAd) (σ : xS) (x y : Int32) : xMi l yX4_mayFollow wsX4_mayFollow ({ frames := 1, cells := 0, slots := 0, locals := 21 }) [] g a σ [.int x, .int y] (bI (mfX x y)) := by
  unfold xMi
  refine Met.ofW (cc := cX4_mayFollow) (maxL := 2) (ret := (some .boolean)) (by decide) rfl ?_
  intro p e s m args below meth c s₁ B hml hv
  obtain ⟨rfl, hP, hK, hN, hj⟩ := hv
  have hr := B.returns
  have hlocks := B.notSynchronized
  have C0 : xC p s m _ c cX4_mayFollow 2 wsX4_mayFollow RX4 [] g a (xA [] a s.heap.size) := ⟨⟨B.exec, B.bytes, hml, findClass_of_methodNamed B.named, atoms_spec (ws := wsX4_mayFollow) B.pre⟩, hK, hN, hj, fun n h => Or.inl ⟨n, h, rfl⟩, fun q h => Or.inr h⟩
  have hS : va_S (xA [] a s.heap.size) s.heap s.heap [] := va_S.rf
  have hl := lv_entry ([.int x, .int y]) (n := 2) (Nat.le_of_ble_eq_true rfl)
  rw [lg_entry_eq]
  generalize (lg_sl ([.int x, .int y]) ++ List.replicate (2 - (lg_sl ([.int x, .int y])).length) Slot.unset).toArray = ls at hl ⊢
  have hl : lv_has ls 2 [(0, .int x), (1, .int y)] := hl
  refine x_join (α := Bool) 25 (fun b H' locs' ls => (H' = s.heap ∧ locs' = [] ∧ b = mfX x y) ∧ lv_has ls 2 [(0, .int x), (1, .int y)]) (fun b => [.int (bI b)]) ?_ (fun J25 => ?_)
  · rintro b _ _ ls ⟨⟨rfl, rfl, hj25_0⟩, hl⟩
    exact W.zret (v := bI b) C0.hx C0.hb hr (bI_nar _) (fun t ht hW => ⟨_, rfl, congrArg bI hj25_0, ht⟩) (fun q h => nomatch h) dX4_mayFollow_25
  ·
    refine lv_iload_n C0.hx C0.hb dX4_mayFollow_0 rfl (lv_at hl 1 rfl) ?_
    refine lv_iconst (v := -1) C0.hx C0.hb dX4_mayFollow_1 (by decide) ?_
    refine lv_icmp_eq (tgt := 20) C0.hx C0.hb dX4_mayFollow_2 (by decide) (fun c_1 => ?_) (fun c_1 => ?_)
    ·
      refine lv_iconst (v := nI 1) C0.hx C0.hb dX4_mayFollow_20 (by decide) ?_
      refine lv_goto (tgt := 25) C0.hx C0.hb dX4_mayFollow_21 (by decide) ?_
      exact J25 true _ _ ls ⟨⟨rfl, rfl, (by simp [mfX, c_1])⟩, (lv_sub hl [0, 1] rfl)⟩
    ·
      refine lv_iload_n C0.hx C0.hb dX4_mayFollow_5 rfl (lv_at hl 0 rfl) ?_
      refine lv_iconst (v := -1) C0.hx C0.hb dX4_mayFollow_6 (by decide) ?_
      refine lv_icmp_eq (tgt := 24) C0.hx C0.hb dX4_mayFollow_7 (by decide) (fun c_2 => ?_) (fun c_2 => ?_)
      ·
        refine lv_iconst (v := nI 0) C0.hx C0.hb dX4_mayFollow_24 (by decide) ?_
        exact J25 false _ _ ls ⟨⟨rfl, rfl, (by simp [mfX, c_2, c_1])⟩, (lv_sub hl [0, 1] rfl)⟩
      ·
        refine lv_iload_n C0.hx C0.hb dX4_mayFollow_10 rfl (lv_at hl 1 rfl) ?_
        refine lv_sipush (v := nI 10000) C0.hx C0.hb dX4_mayFollow_11 (by decide) ?_
        refine x_Si (As := [.int y, .int (nI 10000)]) (rest := []) C0 (mtX4_isBelow l g a σ y (nI 10000)) hP C0.2.2.2.1 (va_cwS 2 C0.hts gX4_mayFollow_X4_isBelow rfl rfl rfl (by decide +kernel) ⟨Nat.le_of_ble_eq_true rfl, Nat.le_of_ble_eq_true rfl⟩) rfl hl rfl (Nat.le_of_ble_eq_true rfl) (Nat.zero_le _) (Nat.zero_le _) dX4_mayFollow_14 ?_
        refine x_ifeq (tgt := 24) C0.hx C0.hb dX4_mayFollow_17 (by decide) (fun c_3 => ?_) (fun c_3 => ?_)
        ·
          refine lv_iconst (v := nI 0) C0.hx C0.hb dX4_mayFollow_24 (by decide) ?_
          exact J25 false _ _ ls ⟨⟨rfl, rfl, (by simp [mfX, c_3, c_2, c_1])⟩, (lv_sub hl [0, 1] rfl)⟩
        ·
          refine lv_iconst (v := nI 1) C0.hx C0.hb dX4_mayFollow_20 (by decide) ?_
          refine lv_goto (tgt := 25) C0.hx C0.hb dX4_mayFollow_21 (by decide) ?_
          exact J25 true _ _ ls ⟨⟨rfl, rfl, (by simp [mfX, c_3, c_2, c_1])⟩, (lv_sub hl [0, 1] rfl)⟩

set_option maxHeartbeats 4000000 in
set_option maxRecDepth 100000 in
theorem mtX4_isOf (l : Launch) (g : xG) (a : xAd) (σ : xS) (r : Nat) (hr0 : r < 60) (nm : Int32) (v : Nat) (hv : v < 4) (ok : okX σ) : xMi l yX4_isOf wsX4_isOf ({ frames := 0, cells := 0, slots := 0, locals := 0 }) NLX g a σ [.ref (a 0 0), .int (nI r), .int nm, .int (nI v)] (bI (isOfX σ r nm v)) := by
  unfold xMi
  refine Met.ofW (cc := cX4_isOf) (maxL := 4) (ret := (some .boolean)) (by decide) rfl ?_
  intro p e s m args below meth c s₁ B hml hv
  obtain ⟨rfl, hP, hK, hN, hj⟩ := hv
  have hr := B.returns
  have hlocks := B.notSynchronized
  have C0 : xC p s m _ c cX4_isOf 4 wsX4_isOf RX4 NLX g a (xA NLX a s.heap.size) := ⟨⟨B.exec, B.bytes, hml, findClass_of_methodNamed B.named, atoms_spec (ws := wsX4_isOf) B.pre⟩, hK, hN, hj, fun n h => Or.inl ⟨n, h, rfl⟩, fun q h => Or.inr h⟩
  have hS : va_S (xA NLX a s.heap.size) s.heap s.heap [] := va_S.rf
  have hl := lv_entry ([.ref (a 0 0), .int (nI r), .int nm, .int (nI v)]) (n := 4) (Nat.le_of_ble_eq_true rfl)
  rw [lg_entry_eq]
  generalize (lg_sl ([.ref (a 0 0), .int (nI r), .int nm, .int (nI v)]) ++ List.replicate (4 - (lg_sl ([.ref (a 0 0), .int (nI r), .int nm, .int (nI v)])).length) Slot.unset).toArray = ls at hl ⊢
  have hl : lv_has ls 4 [(0, .ref (a 0 0)), (1, .int (nI r)), (2, .int nm), (3, .int (nI v))] := hl
  have k_0 : Cond.fieldLink RX4 33 RX4 (TX4 3).2.1 (TX4 3).2.2.1 ∈ wsX4_isOf := by decide +kernel
  have i_X4 : ∀ w ∈ wsX40, w ∈ wsX4_isOf := by decide +kernel
  have q_2 : Cond.fieldLinkNest RX4 133 RX1 (TX1 3).2.1 (TX1 3).2.2.1 RX4 ∈ xNs := by decide +kernel
  have i_X1 : ∀ w ∈ wsX10, w ∈ wsX4_isOf := by decide +kernel
  have k_4 : Cond.fieldLink RX4 26 RX4 (TX4 2).2.1 (TX4 2).2.2.1 ∈ wsX4_isOf := by decide +kernel
  have q_5 : Cond.fieldLinkNest RX4 167 RX2 (TX2 1).2.1 (TX2 1).2.2.1 RX4 ∈ xNs := by decide +kernel
  have i_X2 : ∀ w ∈ wsX20, w ∈ wsX4_isOf := by decide +kernel
  refine lv_aload_n C0.hx C0.hb dX4_isOf_0 rfl (lv_at hl 0 rfl) ?_
  refine x_get C0 hP 0 (mX_n rfl) rfl rfl 3 (by decide) i_X4 k_0 rfl rfl dX4_isOf_1 ?_
  refine x_getN C0 hP 4 (mX_n rfl) rfl rfl 3 (by decide) i_X1 q_2 rfl rfl dX4_isOf_4 ?_
  refine lv_iload_n C0.hx C0.hb dX4_isOf_7 rfl (lv_at hl 1 rfl) ?_
  refine x_iald C0 hP 19 r 60 (mX_n rfl) rfl (by omega) (by decide) dX4_isOf_8 ?_
  refine x_join (α := Bool) 31 (fun b H' locs' ls => (H' = s.heap ∧ locs' = [] ∧ b = isOfX σ r nm v) ∧ lv_has ls 4 [(0, .ref (a 0 0)), (1, .int (nI r)), (2, .int nm), (3, .int (nI v))]) (fun b => [.int (bI b)]) ?_ (fun J31 => ?_)
  · rintro b _ _ ls ⟨⟨rfl, rfl, hj31_0⟩, hl⟩
    exact W.zret (v := bI b) C0.hx C0.hb hr (bI_nar _) (fun t ht hW => ⟨_, rfl, congrArg bI hj31_0, ht⟩) (fun q h => nomatch h) dX4_isOf_31
  ·
    refine lv_iload_n C0.hx C0.hb dX4_isOf_9 rfl (lv_at hl 2 rfl) ?_
    refine lv_icmp_ne (tgt := 30) C0.hx C0.hb dX4_isOf_10 (by decide) (fun c_1 => ?_) (fun c_1 => ?_)
    ·
      refine lv_iconst (v := nI 0) C0.hx C0.hb dX4_isOf_30 (by decide) ?_
      exact J31 false _ _ ls ⟨⟨rfl, rfl, (by simp [isOfX, c_1])⟩, (lv_sub hl [0, 1, 2, 3] rfl)⟩
    ·
      refine lv_aload_n C0.hx C0.hb dX4_isOf_13 rfl (lv_at hl 0 rfl) ?_
      refine x_get C0 hP 0 (mX_n rfl) rfl rfl 2 (by decide) i_X4 k_4 rfl rfl dX4_isOf_14 ?_
      refine x_getN C0 hP 3 (mX_n rfl) rfl rfl 1 (by decide) i_X2 q_5 rfl rfl dX4_isOf_17 ?_
      refine lv_iload_n C0.hx C0.hb dX4_isOf_20 rfl (lv_at hl 1 rfl) ?_
      refine x_iald C0 hP 12 r 60 (mX_n rfl) rfl (by omega) (by decide) dX4_isOf_21 ?_
      obtain ⟨e_2, b_3⟩ := (ok.ver (by omega) : inR (σ 12 0 r) _)
      refine x_top e_2 ?_
      refine lv_iload_n C0.hx C0.hb dX4_isOf_22 rfl (lv_at hl 3 rfl) ?_
      refine x_icmp_ne (tgt := 30) C0.hx C0.hb (by omega) (by omega) dX4_isOf_23 (by decide) (fun c_4 => ?_) (fun c_4 => ?_)
      ·
        refine lv_iconst (v := nI 0) C0.hx C0.hb dX4_isOf_30 (by decide) ?_
        exact J31 false _ _ ls ⟨⟨rfl, rfl, (by simp [isOfX, c_4, c_1])⟩, (lv_sub hl [0, 1, 2, 3] rfl)⟩
      ·
        refine lv_iconst (v := nI 1) C0.hx C0.hb dX4_isOf_26 (by decide) ?_
        refine lv_goto (tgt := 31) C0.hx C0.hb dX4_isOf_27 (by decide) ?_
        exact J31 true _ _ ls ⟨⟨rfl, rfl, (by simp [isOfX, c_4, c_1])⟩, (lv_sub hl [0, 1, 2, 3] rfl)⟩

set_option maxHeartbeats 4000000 in
set_option maxRecDepth 100000 in
theorem mtX4_countIn (l : Launch) (g : xG) (a : xAd) (σ : xS) (nm : Int32) (v : Nat) (hv : v < 4) (ok : okX σ) : xMi l yX4_countIn wsX4_countIn ({ frames := 1, cells := 0, slots := 0, locals := 23 }) NLX g a σ [.ref (a 0 0), .int nm, .int (nI v)] (nI (coX σ nm v)) := by
  unfold xMi
  refine Met.ofW (cc := cX4_countIn) (maxL := 5) (ret := (some .int)) (by decide) rfl ?_
  intro p e s m args below meth c s₁ B hml hv
  obtain ⟨rfl, hP, hK, hN, hj⟩ := hv
  have hr := B.returns
  have hlocks := B.notSynchronized
  have C0 : xC p s m _ c cX4_countIn 5 wsX4_countIn RX4 NLX g a (xA NLX a s.heap.size) := ⟨⟨B.exec, B.bytes, hml, findClass_of_methodNamed B.named, atoms_spec (ws := wsX4_countIn) B.pre⟩, hK, hN, hj, fun n h => Or.inl ⟨n, h, rfl⟩, fun q h => Or.inr h⟩
  have hS : va_S (xA NLX a s.heap.size) s.heap s.heap [] := va_S.rf
  have hl := lv_entry ([.ref (a 0 0), .int nm, .int (nI v)]) (n := 5) (Nat.le_of_ble_eq_true rfl)
  rw [lg_entry_eq]
  generalize (lg_sl ([.ref (a 0 0), .int nm, .int (nI v)]) ++ List.replicate (5 - (lg_sl ([.ref (a 0 0), .int nm, .int (nI v)])).length) Slot.unset).toArray = ls at hl ⊢
  have hl : lv_has ls 5 [(0, .ref (a 0 0)), (1, .int nm), (2, .int (nI v))] := hl
  have k_0 : Cond.fieldLink RX4 26 RX4 (TX4 2).2.1 (TX4 2).2.2.1 ∈ wsX4_countIn := by decide +kernel
  have i_X4 : ∀ w ∈ wsX40, w ∈ wsX4_countIn := by decide +kernel
  have q_2 : Cond.fieldLinkNest RX4 103 RX2 (TX2 0).2.1 (TX2 0).2.2.1 RX4 ∈ xNs := by decide +kernel
  have i_X2 : ∀ w ∈ wsX20, w ∈ wsX4_countIn := by decide +kernel
  refine lv_iconst (v := nI 0) C0.hx C0.hb dX4_countIn_0 (by decide) ?_
  refine lv_istore_n (lv' := [(3, .int (nI 0)), (0, .ref (a 0 0)), (1, .int nm), (2, .int (nI v))]) C0.hx C0.hb dX4_countIn_1 rfl hl (by decide) rfl (fun ls hl => ?_)
  refine lv_iconst (v := nI 0) C0.hx C0.hb dX4_countIn_2 (by decide) ?_
  refine lv_istore (lv' := [(4, .int (nI 0)), (3, .int (nI 0)), (0, .ref (a 0 0)), (1, .int nm), (2, .int (nI v))]) C0.hx C0.hb dX4_countIn_3 hl (by decide) rfl (fun ls hl => ?_)
  refine x_loopR (α := Nat) (fun k => 60 - k) (fun k ls => k ≤ nv (σ 3 0 0) ∧ lv_has ls 5 [(0, .ref (a 0 0)), (1, .int nm), (2, .int (nI v)), (3, .int (nI (ciX σ nm v k))), (4, .int (nI k))]) ?_ 0 ⟨(by omega), (lv_sub hl [2, 3, 4, 1, 0] rfl)⟩
  rintro k ls ⟨h5_0, hl⟩ ih5
  have hn := ok.n.2
  refine lv_iload C0.hx C0.hb dX4_countIn_5 (lv_at hl 4 rfl) ?_
  refine lv_aload_n C0.hx C0.hb dX4_countIn_7 rfl (lv_at hl 0 rfl) ?_
  refine x_get C0 hP 0 (mX_n rfl) rfl rfl 2 (by decide) i_X4 k_0 rfl rfl dX4_countIn_8 ?_
  refine x_getN C0 hP 3 (mX_n rfl) rfl rfl 0 (by decide) i_X2 q_2 rfl rfl dX4_countIn_11 ?_
  obtain ⟨e_1, b_2⟩ := (ok.n : inR (σ 3 0 0) _)
  refine x_top e_1 ?_
  refine x_icmp_ge (tgt := 37) C0.hx C0.hb (by omega) (by omega) dX4_countIn_14 (by decide) (fun c_3 => ?_) (fun c_3 => ?_)
  ·
    refine lv_iload_n C0.hx C0.hb dX4_countIn_37 rfl (lv_at hl 3 rfl) ?_
    exact W.iret (v := nI (ciX σ nm v k)) C0.hx C0.hb hr (fun t ht hW => ⟨_, rfl, (by rw [show k = nv (σ 3 0 0) by omega]; rfl), ht⟩) (fun q h => nomatch h) dX4_countIn_38
  ·
    refine lv_aload_n C0.hx C0.hb dX4_countIn_17 rfl (lv_at hl 0 rfl) ?_
    refine lv_iload C0.hx C0.hb dX4_countIn_18 (lv_at hl 4 rfl) ?_
    refine lv_iload_n C0.hx C0.hb dX4_countIn_20 rfl (lv_at hl 1 rfl) ?_
    refine lv_iload_n C0.hx C0.hb dX4_countIn_21 rfl (lv_at hl 2 rfl) ?_
    refine x_Vi (As := [.int (nI k), .int nm, .int (nI v)]) (rest := []) C0 (mtX4_isOf l g a σ k (by omega) nm v (by omega) ok) hP C0.2.2.2.1 (cwV 3 C0.hts gX4_countIn_X4_isOf rfl rfl rfl (by decide +kernel) ⟨Nat.le_of_ble_eq_true rfl, Nat.le_of_ble_eq_true rfl⟩) (x_recv C0 hP 0 (mX_n rfl) rfl rfl) rfl hl rfl (Nat.le_of_ble_eq_true rfl) (Nat.zero_le _) (Nat.zero_le _) dX4_countIn_22 ?_
    refine x_ifeq (tgt := 31) C0.hx C0.hb dX4_countIn_25 (by decide) (fun c_4 => ?_) (fun c_4 => ?_)
    ·
      have e31 : ciX σ nm v (k + 1) = ciX σ nm v k := by rw [ciX, if_neg (by rw [c_4]; decide)]; rfl
      rw [← e31] at hl
      refine lv_iinc (v := nI (k + 1)) (lv' := [(4, .int (nI (k + 1))), (0, .ref (a 0 0)), (1, .int nm), (2, .int (nI v)), (3, .int (nI (ciX σ nm v (k + 1))))]) C0.hx C0.hb dX4_countIn_31 hl (k := 4) rfl (nI_1 k) (by decide) rfl (fun ls hl => ?_)
      refine lv_goto (tgt := 5) C0.hx C0.hb dX4_countIn_34 (by decide) ?_
      exact ih5 ((k + 1)) ls ⟨(by omega), (lv_sub hl [1, 2, 3, 4, 0] rfl)⟩ (by omega)
    ·
      refine lv_iinc (v := nI (ciX σ nm v k + 1)) (lv' := [(3, .int (nI (ciX σ nm v k + 1))), (0, .ref (a 0 0)), (1, .int nm), (2, .int (nI v)), (4, .int (nI k))]) C0.hx C0.hb dX4_countIn_28 hl (k := 3) rfl (nI_1 (ciX σ nm v k)) (by decide) rfl (fun ls hl => ?_)
      have e31 : ciX σ nm v (k + 1) = ciX σ nm v k + 1 := by rw [ciX, if_pos c_4]
      rw [← e31] at hl
      refine lv_iinc (v := nI (k + 1)) (lv' := [(4, .int (nI (k + 1))), (3, .int (nI (ciX σ nm v (k + 1)))), (0, .ref (a 0 0)), (1, .int nm), (2, .int (nI v))]) C0.hx C0.hb dX4_countIn_31 hl (k := 4) rfl (nI_1 k) (by decide) rfl (fun ls hl => ?_)
      refine lv_goto (tgt := 5) C0.hx C0.hb dX4_countIn_34 (by decide) ?_
      exact ih5 ((k + 1)) ls ⟨(by omega), (lv_sub hl [2, 3, 4, 1, 0] rfl)⟩ (by omega)

set_option maxHeartbeats 4000000 in
set_option maxRecDepth 100000 in
theorem mtX4_rateOf (l : Launch) (g : xG) (a : xAd) (σ : xS) (nm : Int32) (v : Nat) (hv : v < 4) (ok : okX σ) : xMi l yX4_rateOf wsX4_rateOf ({ frames := 2, cells := 0, slots := 0, locals := 47 }) NLX g a σ [.ref (a 0 0), .int nm, .int (nI v)] (nI (rtX σ nm v)) := by
  unfold xMi
  refine Met.ofW (cc := cX4_rateOf) (maxL := 4) (ret := (some .int)) (by decide) rfl ?_
  intro p e s m args below meth c s₁ B hml hv
  obtain ⟨rfl, hP, hK, hN, hj⟩ := hv
  have hr := B.returns
  have hlocks := B.notSynchronized
  have C0 : xC p s m _ c cX4_rateOf 4 wsX4_rateOf RX4 NLX g a (xA NLX a s.heap.size) := ⟨⟨B.exec, B.bytes, hml, findClass_of_methodNamed B.named, atoms_spec (ws := wsX4_rateOf) B.pre⟩, hK, hN, hj, fun n h => Or.inl ⟨n, h, rfl⟩, fun q h => Or.inr h⟩
  have hS : va_S (xA NLX a s.heap.size) s.heap s.heap [] := va_S.rf
  have hl := lv_entry ([.ref (a 0 0), .int nm, .int (nI v)]) (n := 4) (Nat.le_of_ble_eq_true rfl)
  rw [lg_entry_eq]
  generalize (lg_sl ([.ref (a 0 0), .int nm, .int (nI v)]) ++ List.replicate (4 - (lg_sl ([.ref (a 0 0), .int nm, .int (nI v)])).length) Slot.unset).toArray = ls at hl ⊢
  have hl : lv_has ls 4 [(0, .ref (a 0 0)), (1, .int nm), (2, .int (nI v))] := hl
  have k_0 : Cond.fieldLink RX4 37 RX4 (TX4 4).2.1 (TX4 4).2.2.1 ∈ wsX4_rateOf := by decide +kernel
  have i_X4 : ∀ w ∈ wsX40, w ∈ wsX4_rateOf := by decide +kernel
  refine lv_aload_n C0.hx C0.hb dX4_rateOf_0 rfl (lv_at hl 0 rfl) ?_
  refine x_get C0 hP 0 (mX_n rfl) rfl rfl 4 (by decide) i_X4 k_0 rfl rfl dX4_rateOf_1 ?_
  refine lv_iload_n C0.hx C0.hb dX4_rateOf_4 rfl (lv_at hl 2 rfl) ?_
  refine x_iald C0 hP 5 v 4 (mX_n rfl) rfl (by omega) (by decide) dX4_rateOf_5 ?_
  obtain ⟨e_1, b_2⟩ := (ok.ses (by omega) : inR (σ 5 0 v) _)
  refine x_top e_1 ?_
  refine lv_istore_n (lv' := [(3, .int (nI (nv (σ 5 0 v)))), (0, .ref (a 0 0)), (1, .int nm), (2, .int (nI v))]) C0.hx C0.hb dX4_rateOf_6 rfl hl (by decide) rfl (fun ls hl => ?_)
  refine x_join (α := Nat) 27 (fun z H' locs' ls => (H' = s.heap ∧ locs' = [] ∧ z = rtX σ nm v) ∧ lv_has ls 4 [(0, .ref (a 0 0)), (1, .int nm), (2, .int (nI v)), (3, .int (nI (nv (σ 5 0 v))))]) (fun z => [.int (nI z)]) ?_ (fun J27 => ?_)
  · rintro z _ _ ls ⟨⟨rfl, rfl, hj27_0⟩, hl⟩
    exact W.iret (v := nI z) C0.hx C0.hb hr (fun t ht hW => ⟨_, rfl, (by rw [hj27_0]), ht⟩) (fun q h => nomatch h) dX4_rateOf_27
  ·
    have hco := coX_le (nm := nm) (v := v) ok
    refine lv_iload_n C0.hx C0.hb dX4_rateOf_7 rfl (lv_at hl 0 rfl) ?_
    refine x_ifle (tgt := 26) C0.hx C0.hb (by omega) dX4_rateOf_8 (by decide) (fun c_3 => ?_) (fun c_3 => ?_)
    ·
      refine lv_iconst (v := nI 0) C0.hx C0.hb dX4_rateOf_26 (by decide) ?_
      exact J27 0 _ _ ls ⟨⟨rfl, rfl, (by unfold rtX; rw [c_3, Nat.div_zero])⟩, (lv_sub hl [1, 2, 3, 0] rfl)⟩
    ·
      refine lv_sipush (v := nI 10000) C0.hx C0.hb dX4_rateOf_11 (by decide) ?_
      refine lv_aload_n C0.hx C0.hb dX4_rateOf_14 rfl (lv_at hl 1 rfl) ?_
      refine lv_iload_n C0.hx C0.hb dX4_rateOf_15 rfl (lv_at hl 2 rfl) ?_
      refine lv_iload_n C0.hx C0.hb dX4_rateOf_16 rfl (lv_at hl 3 rfl) ?_
      refine x_Vi (As := [.int nm, .int (nI v)]) (rest := [.int (nI 10000)]) C0 (mtX4_countIn l g a σ nm v (by omega) ok) hP C0.2.2.2.1 (cwV 2 C0.hts gX4_rateOf_X4_countIn rfl rfl rfl (by decide +kernel) ⟨Nat.le_of_ble_eq_true rfl, Nat.le_of_ble_eq_true rfl⟩) (x_recv C0 hP 0 (mX_n rfl) rfl rfl) rfl hl rfl (Nat.le_of_ble_eq_true rfl) (Nat.zero_le _) (Nat.zero_le _) dX4_rateOf_17 ?_
      refine lv_imul C0.hx C0.hb dX4_rateOf_20 ?_
      refine x_top (pk_mul 10000 (coX σ nm v)) ?_
      refine lv_iload_n C0.hx C0.hb dX4_rateOf_21 rfl (lv_at hl 0 rfl) ?_
      refine lv_idiv C0.hx C0.hb dX4_rateOf_22 (nI_ne0 (by omega) (by omega)) ?_
      refine x_top (pk_div (by omega) (by omega) (by omega)) ?_
      refine lv_goto (tgt := 27) C0.hx C0.hb dX4_rateOf_23 (by decide) ?_
      exact J27 ((10000 * (coX σ nm v)) / (nv (σ 5 0 v))) _ _ ls ⟨⟨rfl, rfl, rfl⟩, (lv_sub hl [1, 2, 3, 0] rfl)⟩

set_option maxHeartbeats 4000000 in
set_option maxRecDepth 100000 in
theorem mtX4_usersOf (l : Launch) (g : xG) (a : xAd) (σ : xS) (nm : Int32) (v : Nat) (hv : v < 4) (ok : okX σ) : xMi l yX4_usersOf wsX4_usersOf ({ frames := 1, cells := 0, slots := 0, locals := 23 }) NLX g a σ [.ref (a 0 0), .int nm, .int (nI v)] (ucX σ nm v) := by
  unfold xMi
  refine Met.ofW (cc := cX4_usersOf) (maxL := 5) (ret := (some .int)) (by decide) rfl ?_
  intro p e s m args below meth c s₁ B hml hv
  obtain ⟨rfl, hP, hK, hN, hj⟩ := hv
  have hr := B.returns
  have hlocks := B.notSynchronized
  have C0 : xC p s m _ c cX4_usersOf 5 wsX4_usersOf RX4 NLX g a (xA NLX a s.heap.size) := ⟨⟨B.exec, B.bytes, hml, findClass_of_methodNamed B.named, atoms_spec (ws := wsX4_usersOf) B.pre⟩, hK, hN, hj, fun n h => Or.inl ⟨n, h, rfl⟩, fun q h => Or.inr h⟩
  have hS : va_S (xA NLX a s.heap.size) s.heap s.heap [] := va_S.rf
  have hl := lv_entry ([.ref (a 0 0), .int nm, .int (nI v)]) (n := 5) (Nat.le_of_ble_eq_true rfl)
  rw [lg_entry_eq]
  generalize (lg_sl ([.ref (a 0 0), .int nm, .int (nI v)]) ++ List.replicate (5 - (lg_sl ([.ref (a 0 0), .int nm, .int (nI v)])).length) Slot.unset).toArray = ls at hl ⊢
  have hl : lv_has ls 5 [(0, .ref (a 0 0)), (1, .int nm), (2, .int (nI v))] := hl
  have k_0 : Cond.fieldLink RX4 26 RX4 (TX4 2).2.1 (TX4 2).2.2.1 ∈ wsX4_usersOf := by decide +kernel
  have i_X4 : ∀ w ∈ wsX40, w ∈ wsX4_usersOf := by decide +kernel
  have q_2 : Cond.fieldLinkNest RX4 103 RX2 (TX2 0).2.1 (TX2 0).2.2.1 RX4 ∈ xNs := by decide +kernel
  have i_X2 : ∀ w ∈ wsX20, w ∈ wsX4_usersOf := by decide +kernel
  have q_4 : Cond.fieldLinkNest RX4 173 RX2 (TX2 2).2.1 (TX2 2).2.2.1 RX4 ∈ xNs := by decide +kernel
  refine lv_iconst (v := nI 0) C0.hx C0.hb dX4_usersOf_0 (by decide) ?_
  refine lv_istore_n (lv' := [(3, .int (nI 0)), (0, .ref (a 0 0)), (1, .int nm), (2, .int (nI v))]) C0.hx C0.hb dX4_usersOf_1 rfl hl (by decide) rfl (fun ls hl => ?_)
  refine lv_iconst (v := nI 0) C0.hx C0.hb dX4_usersOf_2 (by decide) ?_
  refine lv_istore (lv' := [(4, .int (nI 0)), (3, .int (nI 0)), (0, .ref (a 0 0)), (1, .int nm), (2, .int (nI v))]) C0.hx C0.hb dX4_usersOf_3 hl (by decide) rfl (fun ls hl => ?_)
  refine x_loopR (α := Nat) (fun k => 60 - k) (fun k ls => k ≤ nv (σ 3 0 0) ∧ lv_has ls 5 [(0, .ref (a 0 0)), (1, .int nm), (2, .int (nI v)), (3, .int (usX σ nm v k)), (4, .int (nI k))]) ?_ 0 ⟨(by omega), (lv_sub hl [2, 3, 4, 1, 0] rfl)⟩
  rintro k ls ⟨h5_0, hl⟩ ih5
  have hn := ok.n.2
  refine lv_iload C0.hx C0.hb dX4_usersOf_5 (lv_at hl 4 rfl) ?_
  refine lv_aload_n C0.hx C0.hb dX4_usersOf_7 rfl (lv_at hl 0 rfl) ?_
  refine x_get C0 hP 0 (mX_n rfl) rfl rfl 2 (by decide) i_X4 k_0 rfl rfl dX4_usersOf_8 ?_
  refine x_getN C0 hP 3 (mX_n rfl) rfl rfl 0 (by decide) i_X2 q_2 rfl rfl dX4_usersOf_11 ?_
  obtain ⟨e_1, b_2⟩ := (ok.n : inR (σ 3 0 0) _)
  refine x_top e_1 ?_
  refine x_icmp_ge (tgt := 49) C0.hx C0.hb (by omega) (by omega) dX4_usersOf_14 (by decide) (fun c_3 => ?_) (fun c_3 => ?_)
  ·
    refine lv_iload_n C0.hx C0.hb dX4_usersOf_49 rfl (lv_at hl 3 rfl) ?_
    refine x_Si (As := [.int (usX σ nm v k)]) (rest := []) C0 (mtJ6_bitCount_0f7a4 l g a σ (usX σ nm v k)) (xP0 _) xDj0 (va_cwS 1 C0.hts gX4_usersOf_J6_bitCount_0f7a4 rfl rfl rfl (by decide +kernel) ⟨Nat.le_of_ble_eq_true rfl, Nat.le_of_ble_eq_true rfl⟩) rfl hl rfl (Nat.le_of_ble_eq_true rfl) (Nat.zero_le _) (Nat.zero_le _) dX4_usersOf_50 ?_
    exact W.iret (v := bcX (usX σ nm v k)) C0.hx C0.hb hr (fun t ht hW => ⟨_, rfl, (by rw [show k = nv (σ 3 0 0) by omega]; rfl), ht⟩) (fun q h => nomatch h) dX4_usersOf_53
  ·
    refine lv_aload_n C0.hx C0.hb dX4_usersOf_17 rfl (lv_at hl 0 rfl) ?_
    refine lv_iload C0.hx C0.hb dX4_usersOf_18 (lv_at hl 4 rfl) ?_
    refine lv_iload_n C0.hx C0.hb dX4_usersOf_20 rfl (lv_at hl 1 rfl) ?_
    refine lv_iload_n C0.hx C0.hb dX4_usersOf_21 rfl (lv_at hl 2 rfl) ?_
    refine x_Vi (As := [.int (nI k), .int nm, .int (nI v)]) (rest := []) C0 (mtX4_isOf l g a σ k (by omega) nm v (by omega) ok) hP C0.2.2.2.1 (cwV 3 C0.hts gX4_usersOf_X4_isOf rfl rfl rfl (by decide +kernel) ⟨Nat.le_of_ble_eq_true rfl, Nat.le_of_ble_eq_true rfl⟩) (x_recv C0 hP 0 (mX_n rfl) rfl rfl) rfl hl rfl (Nat.le_of_ble_eq_true rfl) (Nat.zero_le _) (Nat.zero_le _) dX4_usersOf_22 ?_
    refine x_ifeq (tgt := 43) C0.hx C0.hb dX4_usersOf_25 (by decide) (fun c_4 => ?_) (fun c_4 => ?_)
    ·
      have e43 : usX σ nm v (k + 1) = usX σ nm v k := by rw [usX, if_neg (by rw [c_4]; decide)]
      rw [← e43] at hl
      refine lv_iinc (v := nI (k + 1)) (lv' := [(4, .int (nI (k + 1))), (0, .ref (a 0 0)), (1, .int nm), (2, .int (nI v)), (3, .int (usX σ nm v (k + 1)))]) C0.hx C0.hb dX4_usersOf_43 hl (k := 4) rfl (nI_1 k) (by decide) rfl (fun ls hl => ?_)
      refine lv_goto (tgt := 5) C0.hx C0.hb dX4_usersOf_46 (by decide) ?_
      exact ih5 ((k + 1)) ls ⟨(by omega), (lv_sub hl [1, 2, 3, 4, 0] rfl)⟩ (by omega)
    ·
      refine lv_iload_n C0.hx C0.hb dX4_usersOf_28 rfl (lv_at hl 3 rfl) ?_
      refine lv_iconst (v := nI 1) C0.hx C0.hb dX4_usersOf_29 (by decide) ?_
      refine lv_aload_n C0.hx C0.hb dX4_usersOf_30 rfl (lv_at hl 0 rfl) ?_
      refine x_get C0 hP 0 (mX_n rfl) rfl rfl 2 (by decide) i_X4 k_0 rfl rfl dX4_usersOf_31 ?_
      refine x_getN C0 hP 3 (mX_n rfl) rfl rfl 2 (by decide) i_X2 q_4 rfl rfl dX4_usersOf_34 ?_
      refine lv_iload C0.hx C0.hb dX4_usersOf_37 (lv_at hl 4 rfl) ?_
      refine x_iald C0 hP 13 k 60 (mX_n rfl) rfl (by omega) (by decide) dX4_usersOf_39 ?_
      obtain ⟨e_5, b_6⟩ := (ok.usr (by omega) : inR (σ 13 0 k) _)
      refine x_top e_5 ?_
      refine lv_ishl C0.hx C0.hb dX4_usersOf_40 ?_
      refine lv_ior C0.hx C0.hb dX4_usersOf_41 ?_
      refine lv_istore_n (lv' := [(3, .int ((usX σ nm v k) ||| ((nI 1) <<< ((nI (nv (σ 13 0 k))) &&& 31)))), (0, .ref (a 0 0)), (1, .int nm), (2, .int (nI v)), (4, .int (nI k))]) C0.hx C0.hb dX4_usersOf_42 rfl hl (by decide) rfl (fun ls hl => ?_)
      have e43 : usX σ nm v (k + 1) = (usX σ nm v k) ||| ((nI 1) <<< ((nI (nv (σ 13 0 k))) &&& 31)) := by rw [usX, if_pos c_4]
      rw [← e43] at hl
      refine lv_iinc (v := nI (k + 1)) (lv' := [(4, .int (nI (k + 1))), (3, .int (usX σ nm v (k + 1))), (0, .ref (a 0 0)), (1, .int nm), (2, .int (nI v))]) C0.hx C0.hb dX4_usersOf_43 hl (k := 4) rfl (nI_1 k) (by decide) rfl (fun ls hl => ?_)
      refine lv_goto (tgt := 5) C0.hx C0.hb dX4_usersOf_46 (by decide) ?_
      exact ih5 ((k + 1)) ls ⟨(by omega), (lv_sub hl [2, 3, 4, 1, 0] rfl)⟩ (by omega)

set_option maxHeartbeats 4000000 in
set_option maxRecDepth 100000 in
theorem mtX4_greatestRateBefore (l : Launch) (g : xG) (a : xAd) (σ : xS) (nm : Int32) (n : Nat) (hn : n ≤ 4) (ok : okX σ) : xMi l yX4_greatestRateBefore wsX4_greatestRateBefore ({ frames := 3, cells := 0, slots := 0, locals := 70 }) NLX g a σ [.ref (a 0 0), .int nm, .int (nI n)] (nI (grX σ nm n)) := by
  unfold xMi
  refine Met.ofW (cc := cX4_greatestRateBefore) (maxL := 5) (ret := (some .int)) (by decide) rfl ?_
  intro p e s m args below meth c s₁ B hml hv
  obtain ⟨rfl, hP, hK, hN, hj⟩ := hv
  have hr := B.returns
  have hlocks := B.notSynchronized
  have C0 : xC p s m _ c cX4_greatestRateBefore 5 wsX4_greatestRateBefore RX4 NLX g a (xA NLX a s.heap.size) := ⟨⟨B.exec, B.bytes, hml, findClass_of_methodNamed B.named, atoms_spec (ws := wsX4_greatestRateBefore) B.pre⟩, hK, hN, hj, fun n h => Or.inl ⟨n, h, rfl⟩, fun q h => Or.inr h⟩
  have hS : va_S (xA NLX a s.heap.size) s.heap s.heap [] := va_S.rf
  have hl := lv_entry ([.ref (a 0 0), .int nm, .int (nI n)]) (n := 5) (Nat.le_of_ble_eq_true rfl)
  rw [lg_entry_eq]
  generalize (lg_sl ([.ref (a 0 0), .int nm, .int (nI n)]) ++ List.replicate (5 - (lg_sl ([.ref (a 0 0), .int nm, .int (nI n)])).length) Slot.unset).toArray = ls at hl ⊢
  have hl : lv_has ls 5 [(0, .ref (a 0 0)), (1, .int nm), (2, .int (nI n))] := hl
  have k_0 : Cond.methodLink RX4 182 Lib.Math.max.name ∈ wsX4_greatestRateBefore := by decide +kernel
  have k_1 : Cond.static Lib.Math.max.name ∈ wsX4_greatestRateBefore := by decide +kernel
  have k_2 : Cond.initialized "java/lang/Math" ∈ wsX4_greatestRateBefore := by decide +kernel
  have k_3 : Cond.code Lib.Math.max.name Lib.Math.max.code 2 (some .int) ∈ wsX4_greatestRateBefore := by decide +kernel
  refine lv_iconst (v := nI 0) C0.hx C0.hb dX4_greatestRateBefore_0 (by decide) ?_
  refine lv_istore_n (lv' := [(3, .int (nI 0)), (0, .ref (a 0 0)), (1, .int nm), (2, .int (nI n))]) C0.hx C0.hb dX4_greatestRateBefore_1 rfl hl (by decide) rfl (fun ls hl => ?_)
  refine lv_iconst (v := nI 0) C0.hx C0.hb dX4_greatestRateBefore_2 (by decide) ?_
  refine lv_istore (lv' := [(4, .int (nI 0)), (3, .int (nI 0)), (0, .ref (a 0 0)), (1, .int nm), (2, .int (nI n))]) C0.hx C0.hb dX4_greatestRateBefore_3 hl (by decide) rfl (fun ls hl => ?_)
  refine x_loopR (α := Nat) (fun k => n - k) (fun k ls => k ≤ n ∧ lv_has ls 5 [(0, .ref (a 0 0)), (1, .int nm), (2, .int (nI n)), (3, .int (nI (grX σ nm k))), (4, .int (nI k))]) ?_ 0 ⟨(by omega), (lv_sub hl [2, 3, 4, 1, 0] rfl)⟩
  rintro k ls ⟨h5_0, hl⟩ ih5
  have hg := grX_le (nm := nm) ok k
  have hr1 := rtX_le (nm := nm) (v := k) ok
  refine lv_iload C0.hx C0.hb dX4_greatestRateBefore_5 (lv_at hl 4 rfl) ?_
  refine lv_iload_n C0.hx C0.hb dX4_greatestRateBefore_7 rfl (lv_at hl 2 rfl) ?_
  refine x_icmp_ge (tgt := 29) C0.hx C0.hb (by omega) (by omega) dX4_greatestRateBefore_8 (by decide) (fun c_1 => ?_) (fun c_1 => ?_)
  ·
    refine lv_iload_n C0.hx C0.hb dX4_greatestRateBefore_29 rfl (lv_at hl 3 rfl) ?_
    exact W.iret (v := nI (grX σ nm k)) C0.hx C0.hb hr (fun t ht hW => ⟨_, rfl, (by rw [show k = n by omega]), ht⟩) (fun q h => nomatch h) dX4_greatestRateBefore_30
  ·
    refine lv_iload_n C0.hx C0.hb dX4_greatestRateBefore_11 rfl (lv_at hl 3 rfl) ?_
    refine lv_aload_n C0.hx C0.hb dX4_greatestRateBefore_12 rfl (lv_at hl 0 rfl) ?_
    refine lv_iload_n C0.hx C0.hb dX4_greatestRateBefore_13 rfl (lv_at hl 1 rfl) ?_
    refine lv_iload C0.hx C0.hb dX4_greatestRateBefore_14 (lv_at hl 4 rfl) ?_
    refine x_Vi (As := [.int nm, .int (nI k)]) (rest := [.int (nI (grX σ nm k))]) C0 (mtX4_rateOf l g a σ nm k (by omega) ok) hP C0.2.2.2.1 (cwV 2 C0.hts gX4_greatestRateBefore_X4_rateOf rfl rfl rfl (by decide +kernel) ⟨Nat.le_of_ble_eq_true rfl, Nat.le_of_ble_eq_true rfl⟩) (x_recv C0 hP 0 (mX_n rfl) rfl rfl) rfl hl rfl (Nat.le_of_ble_eq_true rfl) (Nat.zero_le _) (Nat.zero_le _) dX4_greatestRateBefore_16 ?_
    refine va_mmax (rest := []) C0.hx C0.hb (hml.trans hl.1.symm) C0.1.2.2.2.1 (C0.hts _ k_0) (C0.hts _ k_1) (C0.hts _ k_2) (C0.hts _ k_3) (Nat.le_of_ble_eq_true rfl) (Nat.le_of_ble_eq_true rfl) (Nat.zero_le _) (Nat.zero_le _) dX4_greatestRateBefore_19 ?_
    refine x_top (mx_nI (by omega) (by omega)) ?_
    refine lv_istore_n (lv' := [(3, .int (nI (if (grX σ nm k) < (rtX σ nm k) then rtX σ nm k else grX σ nm k))), (0, .ref (a 0 0)), (1, .int nm), (2, .int (nI n)), (4, .int (nI k))]) C0.hx C0.hb dX4_greatestRateBefore_22 rfl hl (by decide) rfl (fun ls hl => ?_)
    have e23 : grX σ nm (k + 1) = if (grX σ nm k) < (rtX σ nm k) then rtX σ nm k else grX σ nm k := rfl
    rw [← e23] at hl
    refine lv_iinc (v := nI (k + 1)) (lv' := [(4, .int (nI (k + 1))), (3, .int (nI (grX σ nm (k + 1)))), (0, .ref (a 0 0)), (1, .int nm), (2, .int (nI n))]) C0.hx C0.hb dX4_greatestRateBefore_23 hl (k := 4) rfl (nI_1 k) (by decide) rfl (fun ls hl => ?_)
    refine lv_goto (tgt := 5) C0.hx C0.hb dX4_greatestRateBefore_26 (by decide) ?_
    exact ih5 ((k + 1)) ls ⟨(by omega), (lv_sub hl [2, 3, 4, 1, 0] rfl)⟩ (by omega)
end
section
/-! ===== methods that may throw ===== -/
def eIA : String := "java/lang/IllegalArgumentException"
def eIS : String := "java/lang/IllegalStateException"
def eIO : String := "java/lang/IndexOutOfBoundsException"
def xNm : List String := ["java/lang/RuntimeException", "java/lang/Exception"]
/-- the words of a throw that no list of words holds: they stand as premises -/
def xTw : List Cond := [.castable eIA eIA, .castable eIS eIS, .castable eIO eIO, .declares (Bundle.initS "java/lang/RuntimeException"), .declares (Bundle.initS "java/lang/Exception"), .declares (Bundle.initS Bundle.tN)]
def xTx : List (Nat × String) := [(159, "an argument is out of range"), (59, "the map has 30 ranges"), (68, "the range overlaps with one of the map"), (92, "the other function comes to stand for this one"), (106, "there are 60 reports"), (164, "there is no such report"), (152, "the report has no fix")]
def xZt (U : State) : Prop := (∀ w ∈ xTw, va_Nw w U) ∧ ∀ q ∈ xTx, ∃ sa, vk_R RX4 q.1 q.2 sa U
def xZh (A : Nat → Prop) (U : State) (H : Heap) : Prop := vx_Zq Bundle.tN "UNASSIGNED_STACK" Bundle.steD A U H ∧ vx_Zq Bundle.tN "SUPPRESSED_SENTINEL" Bundle.listD A U H
theorem xZt.warm {s U : State} (hW : s.WarmedH U.vm) (h : xZt s) : xZt U := by
  refine ⟨?_, fun q hq => ?_⟩
  · have h1 := h.1
    unfold xTw at h1 ⊢
    simp only [List.forall_mem_cons] at h1 ⊢
    obtain ⟨a1, a2, a3, a4, a5, a6, -⟩ := h1
    exact ⟨va_Nw.warmC hW a1, va_Nw.warmC hW a2, va_Nw.warmC hW a3, va_Nw.warmD hW a4, va_Nw.warmD hW a5, va_Nw.warmD hW a6, fun _ h => nomatch h⟩
  · obtain ⟨sa, hsa⟩ := h.2 q hq
    exact ⟨sa, vk_R.warm hW hsa⟩
theorem xZt.same {s U : State} (hv : s.vm = U.vm) (h : xZt s) : xZt U := by
  refine ⟨?_, fun q hq => ?_⟩
  · have h1 := h.1
    unfold xTw at h1 ⊢
    simp only [List.forall_mem_cons] at h1 ⊢
    obtain ⟨a1, a2, a3, a4, a5, a6, -⟩ := h1
    exact ⟨va_Nw.same rfl hv a1, va_Nw.same rfl hv a2, va_Nw.same rfl hv a3, va_Nw.same rfl hv a4, va_Nw.same rfl hv a5, va_Nw.same rfl hv a6, fun _ h => nomatch h⟩
  · obtain ⟨sa, hsa⟩ := h.2 q hq
    exact ⟨sa, vk_R.same hv.symm hsa⟩
theorem xZh.moved {A : Nat → Prop} {u U : State} {H : Heap} (hvm : u.vm.Alike U.vm) (h : xZh A u H) : xZh A U H := ⟨vx_Zq.moved hvm h.1, vx_Zq.moved hvm h.2⟩
theorem xZh.kept {A : Nat → Prop} {U : State} {H H1 : Heap} (h : xZh A U H) (hq : ∀ a : Nat, a < H.size → ¬ A a → H1[a]? = H[a]?) : xZh A U H1 := ⟨vx_Zq.kept h.1 hq, vx_Zq.kept h.2 hq⟩
theorem xZh.narrow {A B : Nat → Prop} {U : State} {H : Heap} (h : xZh A U H) (hAB : ∀ q, B q → A q) : xZh B U H := ⟨vx_Zq.narrow h.1 hAB, vx_Zq.narrow h.2 hAB⟩
def xPrz (NL : xNL) (g : xG) (a : xAd) (σ : xS) (sz : Nat) (U : State) : Prop := U.heap.size = sz ∧ xPre NL g a σ U ∧ xZt U ∧ xZh (xA NL a sz) U U.heap
def xBX (NL : xNL) (g : xG) (a : xAd) (σ : xS) (ex : String → Prop) : String → Unit → State → Prop := fun E _ t => ex E ∧ va_P g.1 vwCl (xw NL g a σ) t.heap
/-- returns nothing, in the state τ, if okp; else throws one of ex, the state as it was -/
def xMxv (l : Launch) (y : MethodName) (ws : List Cond) (rm : Room) (mc ms : Nat) (NL : xNL) (g : xG) (a : xAd) (σ : xS) (As : List Value) (okp : Prop) (τ : xS) (ex : String → Prop) : Prop :=
  ∀ sz : Nat, vx_Met l y ws rm (va_Pc As (xPrz NL g a σ sz)) (va_Qv (fun u : xS => okp ∧ u = τ) (fun u t => va_P g.1 vwCl (xw NL g a u) t.heap) (xA NL a sz)) (vx_X (fun _ : Unit => True) (xBX NL g a σ ex) (xA NL a sz)) mc ms (xA NL a sz)
def xMxi (l : Launch) (y : MethodName) (ws : List Cond) (rm : Room) (mc ms : Nat) (NL : xNL) (g : xG) (a : xAd) (σ : xS) (As : List Value) (okp : Prop) (r : Int32) (τ : xS) (ex : String → Prop) : Prop :=
  ∀ sz : Nat, vx_Met l y ws rm (va_Pc As (xPrz NL g a σ sz)) (va_Qi (fun (q : Int32) (u : xS) => (okp ∧ q = r) ∧ u = τ) (fun u t => va_P g.1 vwCl (xw NL g a u) t.heap) (xA NL a sz)) (vx_X (fun _ : Unit => True) (xBX NL g a σ ex) (xA NL a sz)) mc ms (xA NL a sz)
theorem xFBz {As : List Value} {NL : xNL} {g : xG} {a : xAd} {σ : xS} {sz : Nat} : FrameBlind (va_Pc As (xPrz NL g a σ sz)) := fun v U g' mk q => by
  obtain ⟨q0, q9, ⟨q1, q2, q3, q4⟩, q5, q6⟩ := q
  exact ⟨q0, q9, ⟨q1, va_K.moved (u := U) (U := U.calling g' mk v) (Vm.Alike.refl U.vm) q2, xN.same (s := U) (U := U.calling g' mk v) rfl q3, q4⟩, xZt.same (s := U) (U := U.calling g' mk v) rfl q5, xZh.moved (u := U) (U := U.calling g' mk v) (Vm.Alike.refl U.vm) q6⟩
section XEXC
variable {p : Program} {l : Launch} {e : Env} {R : Room} {s : State} {m : MethodId} {args : Array Value} {below : List Frame} {meth : Method} {c : Code} {H : Heap} {locs : List Loc} {cells slots : Nat} {Q : State → Prop}
variable {cc : ByteArray} {pc nL : Nat} {ls : Array Slot} {rest : List Value} {Ts : List Cond} {own : String} {NL : xNL} {g : xG} {a : xAd} {σ : xS}
variable {mc ms n index maxL : Nat} {y : MethodName} {bytes : ByteArray} {ret : Option FieldType} {ws : List Cond} {rm : Room} {C : String} {b : Nat} {As : List Value} {st0 : List Value} {σ' τ : xS} {r : Int32} {okp : Prop} {ex : String → Prop}
theorem xA_sub {A : Nat → Prop} {NL' : xNL} (C0 : xC p s m args c cc nL Ts own NL g a A) (hS : va_S A s.heap H locs) (hsub : ∀ n ∈ NL', n ∈ NL) : ∀ q, xA NL' a H.size q → A q := by
  intro q h
  rcases h with ⟨n, h1, rfl⟩ | h
  · exact C0.2.2.2.2.1 n (hsub n h1)
  · exact C0.2.2.2.2.2 q (Nat.le_trans hS.1 h)
theorem xZh_now {A : Nat → Prop} {NL' : xNL} (C0 : xC p s m args c cc nL Ts own NL g a A) (hS : va_S A s.heap H locs) (hsub : ∀ n ∈ NL', n ∈ NL) (hZ : xZh A s s.heap) {U : State} (hU : U.heap = H) (hW : s.WarmedH U.vm) : xZh (xA NL' a H.size) U U.heap := by
  rw [hU]
  exact ((hZ.kept hS.2.1).narrow (xA_sub C0 hS hsub)).moved hW.alike
theorem x_prez {A : Nat → Prop} {NL' : xNL} (C0 : xC p s m args c cc nL Ts own NL g a A) (hP : va_P g.1 vwCl (xw NL' g a σ') H) (hj : xDj NL' a) (hS : va_S A s.heap H locs) (hsub : ∀ n ∈ NL', n ∈ NL) (hT : xZt s) (hZ : xZh A s s.heap) : ∀ U : State, U.heap = H → s.WarmedH U.vm → va_Pc As (xPrz NL' g a σ' H.size) As.toArray U := fun U hU hW => ⟨rfl, by rw [hU], ⟨by rw [hU]; exact hP, va_K.moved hW.alike C0.hK, xN.warm hW C0.2.2.1, hj⟩, xZt.warm hW hT, xZh_now C0 hS hsub hZ hU hW⟩
abbrev xKX (p : Program) (l : Launch) (e : Env) (R : Room) (s : State) (m : MethodId) (args : Array Value) (below : List Frame) (meth : Method) (c : Code) (cells slots : Nat) (Q : State → Prop) (NL : xNL) (g : xG) (a : xAd) (A : Nat → Prop) (σ : xS) (ex : String → Prop) (f : JFrame) : Prop :=
  ∀ (E : String) (ce : Cell) (q : Addr) (H1 : Heap) (locs1 : List Loc), ex E → va_P g.1 vwCl (xw NL g a σ) H1 → va_S A s.heap H1 locs1 → H1[q]? = some ce → ce.vm = .none → s.vm.findClass E = some ce.cls → vx_W p l e R s m args below meth c H1 locs1 cells slots Q f q
theorem xnil_kept {A : Nat → Prop} {H1 : Heap} (hP : va_P g.1 vwCl (xw NL g a σ) H) (hk : ∀ q : Nat, q < H.size → ¬ xA [] a H.size q → H1[q]? = H[q]?) : va_P g.1 vwCl (xw NL g a σ) H1 := xwf_kept (NL' := []) hP hk (fun n _ n' h => nomatch h)
/-- a static method without a world of its own, that may throw -/
theorem x_SX0 {A : Nat → Prop} (C0 : xC p s m args c cc nL Ts own NL g a A) (hM : xMxv l y ws rm mc ms [] g a σ As okp σ ex) (hP : va_P g.1 vwCl (xw NL g a σ) H) (hS : va_S A s.heap H locs) (hT : xZt s) (hZ : xZh A s s.heap) (cw : CallB R s args own index y bytes maxL ret ws rm mc ms n ∧ (Cond.static y).before args s = true) (hn : As.length = n) {lv : List (Nat × Value)} (hl : lv_has ls nL lv) (hst : st0 = As.reverse ++ rest) (hW : (rest.map fun v => v.category).sum ≤ 8) (hc1 : cells + mc ≤ R.cells) (hs1 : slots + ms ≤ R.slots) (hdg : decode cc pc = .ok (.invokestatic index, 3))
    (kx : xKX p l e R s m args below meth c (cells + mc) (slots + ms) Q NL g a A σ ex (F0 m pc ls rest))
    (kk : ∀ (H1 : Heap) (locs1 : List Loc), okp → va_P g.1 vwCl (xw NL g a σ) H1 → va_S A s.heap H1 locs1 → W p l e R s m args below meth c H1 locs1 (cells + mc) (slots + ms) Q (F0 m (pc + 3) ls rest)) : W p l e R s m args below meth c H locs cells slots Q (F0 m pc ls st0) := by
  have h2 := xA_sub (NL' := []) C0 hS (fun n h => nomatch h)
  refine vx_callv (vx_runS (g := F0 m pc ls st0) (As := As) (rest := rest) C0.1 (hM H.size) cw ⟨xFBz, x_prez C0 (xP0 σ) xDj0 hS (fun n h => nomatch h) hT hZ⟩ rfl hn hl.1 hst (lv_room hW) hdg ⟨hc1, hs1⟩) hS (fun q _ h => h2 q h) h2 (fun q _ h => h2 q h) (fun E ce q u t H1 locs1 ht hvm hu hB hz hk hS1 hq hv hcl => ?_) (fun u t H1 locs1 ht hvm hw hB hz hk hS1 => ?_)
  · exact kx E ce q H1 locs1 hB.1 (xnil_kept (A := A) hP hk) hS1 hq hv hcl
  · exact kk H1 locs1 hw.1 (xnil_kept (A := A) hP hk) hS1
/-- a method of the class's own world that may throw -/
theorem x_VXv {A : Nat → Prop} (C0 : xC p s m args c cc nL Ts own NL g a A) (hM : xMxv l y ws rm mc ms NL g a σ (.ref b :: As) okp τ ex) (hP : va_P g.1 vwCl (xw NL g a σ) H) (hS : va_S A s.heap H locs) (hT : xZt s) (hZ : xZh A s s.heap) (cw : CallW R s args own C index y bytes maxL ret ws rm mc ms n) (hrecv : ∃ cell : Cell, H[b]? = some cell ∧ cell.vm.isStatics = false ∧ s.vm.findClass C = some cell.cls) (hn : As.length = n) {lv : List (Nat × Value)} (hl : lv_has ls nL lv) (hst : st0 = As.reverse ++ .ref b :: rest) (hW : (rest.map fun v => v.category).sum ≤ 8) (hc1 : cells + mc ≤ R.cells) (hs1 : slots + ms ≤ R.slots) (hdg : decode cc pc = .ok (.invokevirtual index, 3))
    (kx : xKX p l e R s m args below meth c (cells + mc) (slots + ms) Q NL g a A σ ex (F0 m pc ls rest))
    (kk : ∀ (H1 : Heap) (locs1 : List Loc), okp → va_P g.1 vwCl (xw NL g a τ) H1 → va_S A s.heap H1 locs1 → W p l e R s m args below meth c H1 locs1 (cells + mc) (slots + ms) Q (F0 m (pc + 3) ls rest)) : W p l e R s m args below meth c H locs cells slots Q (F0 m pc ls st0) := by
  have h2 := xA_sub (NL' := NL) C0 hS (fun n h => h)
  refine vx_callv (vx_runV (g := F0 m pc ls st0) (As := As) (rest := rest) C0.1 (hM H.size) cw ⟨xFBz, hrecv, x_prez C0 hP C0.2.2.2.1 hS (fun n h => h) hT hZ⟩ rfl hn hl.1 hst (lv_room hW) hdg ⟨hc1, hs1⟩) hS (fun q _ h => h2 q h) h2 (fun q _ h => h2 q h) (fun E ce q u t H1 locs1 ht hvm hu hB hz hk hS1 hq hv hcl => ?_) (fun u t H1 locs1 ht hvm hw hB hz hk hS1 => ?_)
  · have hB2 := hB.2
    rw [ht] at hB2
    exact kx E ce q H1 locs1 hB.1 hB2 hS1 hq hv hcl
  · obtain ⟨h9, rfl⟩ := hw
    rw [ht] at hB
    exact kk H1 locs1 h9 hB hS1
theorem x_VXi {A : Nat → Prop} (C0 : xC p s m args c cc nL Ts own NL g a A) (hM : xMxi l y ws rm mc ms NL g a σ (.ref b :: As) okp r τ ex) (hP : va_P g.1 vwCl (xw NL g a σ) H) (hS : va_S A s.heap H locs) (hT : xZt s) (hZ : xZh A s s.heap) (cw : CallW R s args own C index y bytes maxL ret ws rm mc ms n) (hrecv : ∃ cell : Cell, H[b]? = some cell ∧ cell.vm.isStatics = false ∧ s.vm.findClass C = some cell.cls) (hn : As.length = n) {lv : List (Nat × Value)} (hl : lv_has ls nL lv) (hst : st0 = As.reverse ++ .ref b :: rest) (hW : (rest.map fun v => v.category).sum ≤ 8) (hc1 : cells + mc ≤ R.cells) (hs1 : slots + ms ≤ R.slots) (hdg : decode cc pc = .ok (.invokevirtual index, 3))
    (kx : xKX p l e R s m args below meth c (cells + mc) (slots + ms) Q NL g a A σ ex (F0 m pc ls rest))
    (kk : ∀ (H1 : Heap) (locs1 : List Loc), okp → va_P g.1 vwCl (xw NL g a τ) H1 → va_S A s.heap H1 locs1 → W p l e R s m args below meth c H1 locs1 (cells + mc) (slots + ms) Q (F0 m (pc + 3) ls (.int r :: rest))) : W p l e R s m args below meth c H locs cells slots Q (F0 m pc ls st0) := by
  have h2 := xA_sub (NL' := NL) C0 hS (fun n h => h)
  refine vx_calli (vx_runV (g := F0 m pc ls st0) (As := As) (rest := rest) C0.1 (hM H.size) cw ⟨xFBz, hrecv, x_prez C0 hP C0.2.2.2.1 hS (fun n h => h) hT hZ⟩ rfl hn hl.1 hst (lv_room hW) hdg ⟨hc1, hs1⟩) hS (fun q _ h => h2 q h) h2 (fun q _ h => h2 q h) (fun E ce q u t H1 locs1 ht hvm hu hB hz hk hS1 hq hv hcl => ?_) (fun q u t H1 locs1 ht hvm hw hB hz hk hS1 => ?_)
  · have hB2 := hB.2
    rw [ht] at hB2
    exact kx E ce q H1 locs1 hB.1 hB2 hS1 hq hv hcl
  · obtain ⟨⟨h9, rfl⟩, rfl⟩ := hw
    rw [ht] at hB
    exact kk H1 locs1 h9 hB hS1
/-- it goes on to the caller -/
theorem x_out {A : Nat → Prop} {Qc : Array Value → State → Outcome → State → Prop} {E : String} {ce : Cell} {q : Addr} (hex : ∀ x ∈ c.exceptionTable.toList, False) (hlocks : meth.locks = false) (hP : va_P g.1 vwCl (xw NL g a σ) H) (hS : va_S A s.heap H locs) (hcell : H[q]? = some ce) (hv : ce.vm = .none) (hcl : s.vm.findClass E = some ce.cls) (he : ex E) (hc : cells ≤ mc) (hs : slots ≤ ms) : vx_W p l e R s m args below meth c H locs cells slots (vx_MQ below Qc (vx_X (fun _ : Unit => True) (xBX NL g a σ ex) A) args s mc ms A) (F0 m pc ls rest) q :=
  vx_out (fun x hx => (hex x hx).elim) hlocks hcell hv hcl (fun t ht hvm => ⟨(), trivial, ⟨he, x_end ht hP⟩, hS.F ht⟩) hS.2.2 hc hs
/-- throw new E("text") -/
theorem x_throw {A : Nat → Prop} {Qc : Array Value → State → Outcome → State → Prop} (C0 : xC p s m args c cc nL Ts RX4 NL g a A) (hl9 : l.stackTraces = false) (hex : ∀ x ∈ c.exceptionTable.toList, False) (hlocks : meth.locks = false) (hP : va_P g.1 vwCl (xw NL g a σ) H) (hS : va_S A s.heap H locs) (hT : xZt s) (hZ : xZh A s s.heap) {lv : List (Nat × Value)} (hl : lv_has ls nL lv) {cls : String} {ik is ic : Nat} {text : String} (hcls : Bundle.fit cls = true)
    (hk : Cond.classLink RX4 ik cls ∈ Ts) (hini : Cond.initialized cls ∈ Ts) (htx : (is, text) ∈ xTx) (h1 : ∀ w ∈ (vx_atS RX4 ic cls xNm).filter goodWord, w ∈ Ts) (h2 : ∀ w ∈ (vx_atS RX4 ic cls xNm).filter (fun w => !goodWord w), w ∈ xTw) (hgood : ∀ w ∈ Cond.classLink RX4 ik cls :: Cond.initialized cls :: vx_atS RX4 ic cls xNm, vx_ot w = true)
    (d0 : decode cc pc = .ok (.new ik, 3)) (d3 : decode cc (pc + 3) = .ok (.dup, 1)) (d4 : decode cc (pc + 4) = .ok (.ldc is, 2)) (d6 : decode cc (pc + 6) = .ok (.invokespecial ic, 3)) (d9 : decode cc (pc + 9) = .ok (.athrow, 1))
    (hRframes : 5 < R.frames) (hRlocals : (rest.map fun v => v.category).sum + 82 ≤ R.locals) (hRcells : cells + 1 ≤ R.cells) (hRslots : slots + 6 ≤ R.slots) (he : ex cls) (hc : cells + 1 ≤ mc) (hs : slots + 6 ≤ ms) :
    W p l e R s m args below meth c H locs cells slots (vx_MQ below Qc (vx_X (fun _ : Unit => True) (xBX NL g a σ ex) A) args s mc ms A) (F0 m pc ls rest) := by
  obtain ⟨sa, hsa⟩ := hT.2 _ htx
  refine vx_throwS (names := xNm) (text := text) (sa := sa) (A := A) C0.hx C0.hb hl9 C0.1.2.2.2.1 hcls (by decide +kernel) (C0.hts _ hk) (C0.hts _ hini) hsa (vx_hat (B := xTw) (fun w hw => C0.hts w (h1 w hw)) h2 (fun w hw => va_Nw.use ?_ (hT.1 w hw))) hgood hZ.1 hZ.2 hS (by rw [C0.1.2.2.1]; exact hl.1) d0 d3 d4 d6 d9 (fun x hx => (hex x hx).elim) hRframes hRlocals hRcells hRslots hlocks (fun t hvm hz hk9 => ?_) hS.2.2 hc hs
  · unfold xTw at hw
    simp only [List.mem_cons, List.not_mem_nil, or_false] at hw
    rcases hw with rfl | rfl | rfl | rfl | rfl | rfl <;> rfl
  · refine ⟨(), trivial, ⟨he, hP.kept (fun k q hq => hk9 q.1 ((hP k q hq).lt))⟩, ⟨Nat.le_trans hS.1 hz, fun q h1 h2 => ?_⟩⟩
    rw [hk9 q (Nat.lt_of_lt_of_le h1 hS.1)]
    exact hS.2.1 q h1 h2
end XEXC
end
section
/-! ===== the class's face in my words ===== -/
def chOk : List (Bool × String) → Prop
  | [] => True
  | (c, _) :: l => c = true ∧ chOk l
def chEx : List (Bool × String) → String → Prop
  | [], _ => False
  | (c, e) :: l, E => (c = false ∧ E = e) ∨ (c = true ∧ chEx l E)
theorem ibX_nat {x : Int32} {n : Nat} (hn : n < 2 ^ 31) (h : ibX x (nI n) = true) : ∃ j : Nat, j < n ∧ x = nI j := by
  simp only [ibX, Bool.and_eq_true, decide_eq_true_eq] at h
  obtain ⟨j, hj, rfl⟩ := nI_of h.1
  refine ⟨j, ?_, rfl⟩
  have := h.2
  rw [nI_leI hn hj] at this
  omega
def crX (σ : xS) (r : Int32) : Bool := ibX r (nI (nv (σ 3 0 0)))
theorem crX_nat {σ : xS} (o : okX σ) {r : Int32} (h : crX σ r = true) : ∃ j : Nat, (j < nv (σ 3 0 0) ∧ nv (σ 3 0 0) ≤ 60) ∧ r = nI j := by
  have hn := o.n.2
  obtain ⟨j, h1, h2⟩ := ibX_nat (by omega) h
  exact ⟨j, ⟨h1, by omega⟩, h2⟩
theorem fnA_rng {σ : xS} {v : Nat} {x : Int32} (o : okX σ) (hv : v < 4) : ∀ (n k : Nat), k + n ≤ 30 → fnA σ v x n k = -1 ∨ inR (fnA σ v x n k) 30
  | 0, _, _ => Or.inl rfl
  | n + 1, k, h => by
    unfold fnA
    split
    · exact Or.inr (o.fn hv (by omega))
    · exact fnA_rng o hv n (k + 1) (by omega)
theorem fnX_rng {σ : xS} {v : Nat} {x : Int32} (o : okX σ) (hv : v < 4) : fnX σ v x = -1 ∨ inR (fnX σ v x) 30 := fnA_rng o hv _ _ (by have := (o.cnt hv).2; omega)
theorem rdL_okF {σ : xS} {r : Nat} (o : okX σ) (f : okF σ) (hr : r < 60) : ∀ p, okF (rdL σ r p)
  | 0 => f
  | p + 1 => by
    intro r' hr' p' hp'
    have h1 := rdL_okF o f hr p
    have h2 : okX (rdL σ r p) := rdL_ok o
    show up3 (rdL σ r p) 24 r p _ 24 r' p' = -1 ∨ inR (up3 (rdL σ r p) 24 r p _ 24 r' p') 30
    rw [up3_at]
    split
    · exact fnX_rng h2 ((h2.ver hr).2)
    · exact h1 r' hr' p' hp'
theorem rsL_okF {σ : xS} {v : Nat} (o : okX σ) (f : okF σ) : ∀ k, k ≤ 60 → okF (rsL σ v k)
  | 0, _ => f
  | k + 1, h => by
    have h1 := rsL_okF o f (v := v) k (by omega)
    unfold rsL
    split
    · exact rdL_okF (rsL_ok o) h1 (by omega) 4
    · exact h1
theorem rsS_okF {σ : xS} {v : Nat} (o : okX σ) (f : okF σ) : okF (rsS σ v) := rsL_okF o f _ (by have := o.n.2; omega)
theorem rsS_ok {σ : xS} {v : Nat} (o : okX σ) : okX (rsS σ v) := rsL_ok o
theorem addS_ok {σ : xS} {v : Nat} {x y : Int32} {f : Nat} (o : okX σ) (hv : v < 4) (hc : nv (σ 6 0 v) < 30) (hf : f < 30) : okX (addS σ v (nv (σ 6 0 v)) x y (nI f)) := by
  obtain ⟨o1, o2, o3, o4, o5, o6, o7, o8, o9, o10⟩ := o
  refine ⟨o1, fun u hu => ?_, o3, o4, o5, o6, o7, fun u hu k hk => ?_, o9, o10⟩
  · unfold addS
    rw [up3_at]
    split
    · exact inR_nI (by omega) (by decide)
    · exact o2 u hu
  · show inR (up3 (up3 (up3 (up3 σ 20 v (nv (σ 6 0 v)) x) 21 v (nv (σ 6 0 v)) y) 22 v (nv (σ 6 0 v)) (nI f)) 6 0 v (nI (nv (σ 6 0 v) + 1)) 22 u k) 30
    rw [up3_ne (fun z => absurd z.1 (by decide)), up3_at]
    split
    · exact inR_nI hf (by decide)
    · exact o8 u hu k hk
theorem addS_okF {σ : xS} {v c : Nat} {x y z : Int32} (f : okF σ) : okF (addS σ v c x y z) := f
/-- addRange -/
def arC (σ : xS) (v x y f : Int32) : List (Bool × String) := [(ibX v (nI 4) && ibX f (nI 30), eIA), (ibX x (nI 10000) && (ibX y (nI 10000) && decide (¬ y < x)), eIA), (!decide (30 ≤ nv (σ 6 0 (nv v))), eIS), (!ovlA σ (nv v) x y (nv (σ 6 0 (nv v))) 0, eIS)]
def arS (σ : xS) (v x y f : Int32) : xS := saS (rsS (addS σ (nv v) (nv (σ 6 0 (nv v))) x y f) (nv v))
/-- ignore -/
def igC (f : Int32) : List (Bool × String) := [(ibX f (nI 30), eIA)]
def igS (σ : xS) (f : Int32) (b : Bool) : xS := saS (up3 σ 10 0 (nv f) (bI b))
theorem igU_ok {σ : xS} {f : Nat} {b : Bool} (o : okX σ) : okX (up3 σ 10 0 f (bI b)) := by
  obtain ⟨o1, o2, o3, o4, o5, o6, o7, o8, o9, o10⟩ := o
  refine ⟨o1, o2, o3, o4, o5, o6, o7, o8, o9, fun u hu => ?_⟩
  rw [up3_at]
  split
  · exact bI_01 b
  · exact o10 u hu
/-- standFor -/
def sfC (σ : xS) (f o : Int32) : List (Bool × String) := [(ibX f (nI 30) && ibX o (nI 30), eIA), (!(decide (nv f ≠ nv o) && decide (ldA σ (nv f) 30 (nv o) = nv f)), eIS)]
def sfS (σ : xS) (f o : Int32) : xS := saS (up3 σ 11 0 (nv f) o)
theorem sfU_ok {σ : xS} {f g : Nat} (o : okX σ) (hg : g < 30) : okX (up3 σ 11 0 f (nI g)) := by
  obtain ⟨o1, o2, o3, o4, o5, o6, o7, o8, o9, o10⟩ := o
  refine ⟨o1, o2, o3, fun u hu => ?_, o5, o6, o7, o8, o9, o10⟩
  rw [up3_at]
  split
  · exact inR_nI hg (by decide)
  · exact o4 u hu
/-- setDepth -/
def sdC (d : Int32) : List (Bool × String) := [(decide (¬ d < nI 1) && decide (¬ nI 4 < d), eIA)]
def sdS (σ : xS) (d : Int32) : xS := saS (up3 σ 2 0 0 d)
theorem sd_nat {d : Int32} (h : (decide (¬ d < nI 1) && decide (¬ nI 4 < d)) = true) : ∃ j : Nat, (1 ≤ j ∧ j ≤ 4) ∧ d = nI j := by
  simp only [Bool.and_eq_true, decide_eq_true_eq] at h
  have h0 : ¬ d < 0 := fun z => h.1 (by
    rw [Int32.lt_iff_toInt_lt] at z ⊢
    have e0 : (0 : Int32).toInt = 0 := rfl
    have e1 : (nI 1).toInt = 1 := rfl
    omega)
  obtain ⟨j, hj, rfl⟩ := nI_of h0
  have h1 := h.1
  have h2 := h.2
  rw [nI_ltI hj (by decide)] at h1
  rw [nI_ltI (by decide) hj] at h2
  exact ⟨j, by omega, rfl⟩
theorem sdU_ok {σ : xS} {d : Nat} (o : okX σ) (hd : d ≤ 4) : okX (up3 σ 2 0 0 (nI d)) := by
  obtain ⟨o1, o2, o3, o4, o5, o6, o7, o8, o9, o10⟩ := o
  exact ⟨o1, o2, o3, o4, o5, inR_nI (by omega) (by decide), o7, o8, o9, o10⟩
/-- report -/
def rpC (σ : xS) (v u x y z w : Int32) : List (Bool × String) := [(ibX v (nI 4) && ibX u (nI 20), eIA), (ibX x (nI 10000) && (mfX x y && (mfX y z && mfX z w)), eIA), (decide (nv (σ 3 0 0) < 60), eIS)]
def rpS (σ : xS) (v u x y z w : Int32) : xS := soS (rdS (stkS (radS σ (nv (σ 3 0 0)) (nv v) (nv u)) (nv (σ 3 0 0)) x y z w) (nv (σ 3 0 0))) (nv (σ 3 0 0))
theorem radS_ok {σ : xS} {n v u : Nat} (o : okX σ) (hn : n < 60) (hv : v < 4) (hu : u < 20) : okX (radS σ n v u) := by
  obtain ⟨o1, o2, o3, o4, o5, o6, o7, o8, o9, o10⟩ := o
  refine ⟨inR_nI (by omega) (by decide), o2, fun r hr => ?_, o4, o5, o6, fun r hr => ?_, o8, fun r hr => ?_, o10⟩
  · show inR (up3 (up3 (up3 (up3 σ 12 0 n (nI v)) 13 0 n (nI u)) 15 0 n (-1)) 3 0 0 (nI (n + 1)) 12 0 r) 4
    rw [up3_ne (fun z => absurd z.1 (by decide)), up3_ne (fun z => absurd z.1 (by decide)), up3_ne (fun z => absurd z.1 (by decide)), up3_at]
    split
    · exact inR_nI hv (by decide)
    · exact o3 r hr
  · show up3 (up3 (up3 (up3 σ 12 0 n (nI v)) 13 0 n (nI u)) 15 0 n (-1)) 3 0 0 (nI (n + 1)) 15 0 r = -1 ∨ inR (up3 (up3 (up3 (up3 σ 12 0 n (nI v)) 13 0 n (nI u)) 15 0 n (-1)) 3 0 0 (nI (n + 1)) 15 0 r) 4
    rw [up3_ne (fun z => absurd z.1 (by decide)), up3_at]
    split
    · exact Or.inl rfl
    · exact o7 r hr
  · show inR (up3 (up3 (up3 (up3 σ 12 0 n (nI v)) 13 0 n (nI u)) 15 0 n (-1)) 3 0 0 (nI (n + 1)) 13 0 r) 20
    rw [up3_ne (fun z => absurd z.1 (by decide)), up3_ne (fun z => absurd z.1 (by decide)), up3_at]
    split
    · exact inR_nI hu (by decide)
    · exact o9 r hr
theorem stkS_ok {σ : xS} {n : Nat} {x y z w : Int32} (o : okX σ) : okX (stkS σ n x y z w) := o
theorem rad_okF {σ : xS} {n v u m : Nat} {x y z w : Int32} (f : okF σ) : okF (stkS (radS σ n v u) m x y z w) := f
/-- buckets, size -/
def buL (σ : xS) : Nat → Nat
  | 0 => 0
  | k + 1 => buL σ k + (if σ 19 0 k = nI k then 1 else 0)
theorem buL_le {σ : xS} : ∀ k, buL σ k ≤ k
  | 0 => Nat.le_refl _
  | k + 1 => by
    unfold buL
    have := buL_le (σ := σ) k
    split <;> omega
def siL (σ : xS) (nm : Int32) : Nat → Nat
  | 0 => 0
  | k + 1 => siL σ nm k + coX σ nm k
theorem siL_le {σ : xS} {nm : Int32} (o : okX σ) : ∀ k, siL σ nm k ≤ 60 * k
  | 0 => Nat.le_refl _
  | k + 1 => by
    unfold siL
    have := siL_le (nm := nm) o k
    have := coX_le (nm := nm) (v := k) o
    omega
/-- setSessions, setLimit -/
def ssC (v n : Int32) : List (Bool × String) := [(ibX v (nI 4) && (decide (¬ n < 0) && decide (¬ 1000000 < n)), eIA)]
def ssS (σ : xS) (v n : Int32) : xS := up3 σ 5 0 (nv v) n
def slC (n : Int32) : List (Bool × String) := [(decide (¬ n < nI 1) && decide (¬ nI 10000 < n), eIA)]
def slS (σ : xS) (n : Int32) : xS := up3 σ 0 0 0 n
/-- gate, worst -/
def gaL (σ : xS) (v : Nat) : Nat → Nat → Bool → Int32
  | 0, _, b => if b = true then nI 1 else nI 0
  | n + 1, k, b => if σ 19 0 k = nI k then (if 50 ≤ nv (σ 5 0 v) ∧ ¬ nI (rtX σ (nI k) v) < σ 0 0 0 ∧ ¬ ucX σ (nI k) v < nI 2 then nI 2 else gaL σ v n (k + 1) (b || decide (¬ nI (2 * rtX σ (nI k) v) < σ 0 0 0))) else gaL σ v n (k + 1) b
def gaX (σ : xS) (v : Nat) : Int32 := gaL σ v (nv (σ 3 0 0)) 0 (!decide (50 ≤ nv (σ 5 0 v)))
def woL (σ : xS) (v : Nat) : Nat → Nat → Int32 → Nat → Int32
  | 0, _, w, _ => w
  | n + 1, k, w, t => if σ 19 0 k = nI k ∧ t < rtX σ (nI k) v then woL σ v n (k + 1) (nI k) (rtX σ (nI k) v) else woL σ v n (k + 1) w t
def woX (σ : xS) (v : Nat) : Int32 := woL σ v (nv (σ 3 0 0)) 0 (-1) 0
/-- fix, holds -/
def fxC (σ : xS) (r v : Int32) : List (Bool × String) := [(crX σ r, eIO), (decide (¬ v < nI 1) && ibX v (nI 4), eIA)]
def fxS (σ : xS) (r v : Int32) : xS := up3 σ 15 0 (nv r) v
def hoC (σ : xS) (r : Int32) : List (Bool × String) := [(crX σ r, eIO), (!decide (σ 15 0 (nv r) = -1), eIS)]
def hoL (σ : xS) (nm : Int32) (t : Nat) : Nat → Nat → Bool
  | 0, _ => true
  | n + 1, v => if ¬ nv (σ 5 0 v) = 0 ∧ ¬ 2 * rtX σ nm v ≤ t then false else hoL σ nm t n (v + 1)
def hoX (σ : xS) (r : Nat) : Bool := hoL σ (σ 19 0 r) (grX σ (σ 19 0 r) (nv (σ 15 0 r))) (4 - nv (σ 15 0 r)) (nv (σ 15 0 r))
def frC (σ : xS) (r q : Int32) : List (Bool × String) := [(crX σ r, eIO), (ibX q (nI 4), eIA)]
def r1C (σ : xS) (r : Int32) : List (Bool × String) := [(crX σ r, eIO)]
def v1C (v : Int32) : List (Bool × String) := [(ibX v (nI 4), eIA)]
/-- the words of the three throws, decided once -/
theorem tw_eIA : (∀ w ∈ (vx_atS RX4 161 eIA xNm).filter (fun w => !goodWord w), w ∈ xTw) ∧ ∀ w ∈ Cond.classLink RX4 157 eIA :: Cond.initialized eIA :: vx_atS RX4 161 eIA xNm, vx_ot w = true := ⟨by decide +kernel, by decide +kernel⟩
theorem tw_eIS : (∀ w ∈ (vx_atS RX4 61 eIS xNm).filter (fun w => !goodWord w), w ∈ xTw) ∧ ∀ w ∈ Cond.classLink RX4 57 eIS :: Cond.initialized eIS :: vx_atS RX4 61 eIS xNm, vx_ot w = true := ⟨by decide +kernel, by decide +kernel⟩
theorem tw_eIO : (∀ w ∈ (vx_atS RX4 166 eIO xNm).filter (fun w => !goodWord w), w ∈ xTw) ∧ ∀ w ∈ Cond.classLink RX4 162 eIO :: Cond.initialized eIO :: vx_atS RX4 166 eIO xNm, vx_ot w = true := ⟨by decide +kernel, by decide +kernel⟩
end
section
set_option maxHeartbeats 4000000 in
set_option maxRecDepth 100000 in
theorem mtX4_checkArgument (l : Launch) (hfl : l.stackTraces = false) (g : xG) (a : xAd) (σ : xS) (b : Bool) : xMxv l yX4_checkArgument wsX4_checkArgument ({ frames := 6, cells := 1, slots := 6, locals := 82 }) 1 6 [] g a σ [.int (bI b)] (b = true) σ (fun E => b = false ∧ E = eIA) := by
  intro sz
  refine vx_ofW (cc := cX4_checkArgument) (maxL := 1) (ret := none) (by decide) rfl ?_
  intro p e s m args below meth c s₁ B hml hex hv
  obtain ⟨rfl, hsz, ⟨hP, hK, hN, hj⟩, hT, hZ⟩ := hv
  subst hsz
  have hr := B.returns
  have hlocks := B.notSynchronized
  have C0 : xC p s m _ c cX4_checkArgument 1 wsX4_checkArgument RX4 [] g a (xA [] a s.heap.size) := ⟨⟨B.exec, B.bytes, hml, findClass_of_methodNamed B.named, atoms_spec (ws := wsX4_checkArgument) B.pre⟩, hK, hN, hj, fun n h => Or.inl ⟨n, h, rfl⟩, fun q h => Or.inr h⟩
  have hS : va_S (xA [] a s.heap.size) s.heap s.heap [] := va_S.rf
  have hl := lv_entry ([.int (bI b)]) (n := 1) (Nat.le_of_ble_eq_true rfl)
  rw [lg_entry_eq]
  generalize (lg_sl ([.int (bI b)]) ++ List.replicate (1 - (lg_sl ([.int (bI b)])).length) Slot.unset).toArray = ls at hl ⊢
  have hl : lv_has ls 1 [(0, .int (bI b))] := hl
  have k_0 : Cond.classLink RX4 157 eIA ∈ wsX4_checkArgument := by decide +kernel
  have k_1 : Cond.initialized eIA ∈ wsX4_checkArgument := by decide +kernel
  have t_eIA : ∀ w ∈ (vx_atS RX4 161 eIA xNm).filter goodWord, w ∈ wsX4_checkArgument := fun w h => List.mem_cons_of_mem _ (List.mem_append_right _ h)
  refine lv_iload_n C0.hx C0.hb dX4_checkArgument_0 rfl (lv_at hl 0 rfl) ?_
  refine x_ifne (tgt := 14) C0.hx C0.hb dX4_checkArgument_1 (by decide) (fun c_1 => ?_) (fun c_1 => ?_)
  ·
    refine vx_ret ?_
    refine W.widen (k := 1) (n := 6) (Nat.le_of_ble_eq_true rfl) (Nat.le_of_ble_eq_true rfl) ?_
    exact W.vret C0.hx C0.hb hr (fun t ht hW => ⟨⟨σ, rfl, ⟨c_1, rfl⟩, x_end ht hP⟩, hS.F ht⟩) hS.2.2 dX4_checkArgument_14
  ·
    exact x_throw C0 hfl hex hlocks hP hS hT hZ hl (cls := eIA) (is := 159) (ic := 161) (text := "an argument is out of range") (by decide +kernel) k_0 k_1 (by decide +kernel) t_eIA (tw_eIA).1 (tw_eIA).2 dX4_checkArgument_4 dX4_checkArgument_7 dX4_checkArgument_8 dX4_checkArgument_10 dX4_checkArgument_13 (Nat.le_of_ble_eq_true rfl) (Nat.le_of_ble_eq_true rfl) (Nat.le_of_ble_eq_true rfl) (Nat.le_of_ble_eq_true rfl) ⟨c_1, rfl⟩ (Nat.le_of_ble_eq_true rfl) (Nat.le_of_ble_eq_true rfl)

set_option maxHeartbeats 4000000 in
set_option maxRecDepth 100000 in
theorem mtX4_checkReport (l : Launch) (hfl : l.stackTraces = false) (g : xG) (a : xAd) (σ : xS) (r : Int32) (ok : okX σ) : xMxv l yX4_checkReport wsX4_checkReport ({ frames := 6, cells := 1, slots := 6, locals := 82 }) 1 6 NLX g a σ [.ref (a 0 0), .int r] (crX σ r = true) σ (fun E => crX σ r = false ∧ E = eIO) := by
  intro sz
  refine vx_ofW (cc := cX4_checkReport) (maxL := 2) (ret := none) (by decide) rfl ?_
  intro p e s m args below meth c s₁ B hml hex hv
  obtain ⟨rfl, hsz, ⟨hP, hK, hN, hj⟩, hT, hZ⟩ := hv
  subst hsz
  have hr := B.returns
  have hlocks := B.notSynchronized
  have C0 : xC p s m _ c cX4_checkReport 2 wsX4_checkReport RX4 NLX g a (xA NLX a s.heap.size) := ⟨⟨B.exec, B.bytes, hml, findClass_of_methodNamed B.named, atoms_spec (ws := wsX4_checkReport) B.pre⟩, hK, hN, hj, fun n h => Or.inl ⟨n, h, rfl⟩, fun q h => Or.inr h⟩
  have hS : va_S (xA NLX a s.heap.size) s.heap s.heap [] := va_S.rf
  have hl := lv_entry ([.ref (a 0 0), .int r]) (n := 2) (Nat.le_of_ble_eq_true rfl)
  rw [lg_entry_eq]
  generalize (lg_sl ([.ref (a 0 0), .int r]) ++ List.replicate (2 - (lg_sl ([.ref (a 0 0), .int r])).length) Slot.unset).toArray = ls at hl ⊢
  have hl : lv_has ls 2 [(0, .ref (a 0 0)), (1, .int r)] := hl
  have k_0 : Cond.fieldLink RX4 26 RX4 (TX4 2).2.1 (TX4 2).2.2.1 ∈ wsX4_checkReport := by decide +kernel
  have i_X4 : ∀ w ∈ wsX40, w ∈ wsX4_checkReport := by decide +kernel
  have q_2 : Cond.fieldLinkNest RX4 103 RX2 (TX2 0).2.1 (TX2 0).2.2.1 RX4 ∈ xNs := by decide +kernel
  have i_X2 : ∀ w ∈ wsX20, w ∈ wsX4_checkReport := by decide +kernel
  have k_4 : Cond.classLink RX4 162 eIO ∈ wsX4_checkReport := by decide +kernel
  have k_5 : Cond.initialized eIO ∈ wsX4_checkReport := by decide +kernel
  have t_eIO : ∀ w ∈ (vx_atS RX4 166 eIO xNm).filter goodWord, w ∈ wsX4_checkReport := fun w h => List.mem_cons_of_mem _ (List.mem_append_right _ h)
  refine lv_iload_n C0.hx C0.hb dX4_checkReport_0 rfl (lv_at hl 1 rfl) ?_
  refine lv_aload_n C0.hx C0.hb dX4_checkReport_1 rfl (lv_at hl 0 rfl) ?_
  refine x_get C0 hP 0 (mX_n rfl) rfl rfl 2 (by decide) i_X4 k_0 rfl rfl dX4_checkReport_2 ?_
  refine x_getN C0 hP 3 (mX_n rfl) rfl rfl 0 (by decide) i_X2 q_2 rfl rfl dX4_checkReport_5 ?_
  obtain ⟨e_1, b_2⟩ := (ok.n : inR (σ 3 0 0) _)
  refine x_top e_1 ?_
  refine x_Si (As := [.int r, .int (nI (nv (σ 3 0 0)))]) (rest := []) C0 (mtX4_isBelow l g a σ r (nI (nv (σ 3 0 0)))) (xP0 _) xDj0 (va_cwS 2 C0.hts gX4_checkReport_X4_isBelow rfl rfl rfl (by decide +kernel) ⟨Nat.le_of_ble_eq_true rfl, Nat.le_of_ble_eq_true rfl⟩) rfl hl rfl (Nat.le_of_ble_eq_true rfl) (Nat.le_of_ble_eq_true rfl) (Nat.le_of_ble_eq_true rfl) dX4_checkReport_8 ?_
  refine x_ifne (tgt := 24) C0.hx C0.hb dX4_checkReport_11 (by decide) (fun c_3 => ?_) (fun c_3 => ?_)
  ·
    refine vx_ret ?_
    refine W.widen (k := 1) (n := 6) (Nat.le_of_ble_eq_true rfl) (Nat.le_of_ble_eq_true rfl) ?_
    exact W.vret C0.hx C0.hb hr (fun t ht hW => ⟨⟨σ, rfl, ⟨c_3, rfl⟩, x_end ht hP⟩, hS.F ht⟩) hS.2.2 dX4_checkReport_24
  ·
    exact x_throw C0 hfl hex hlocks hP hS hT hZ hl (cls := eIO) (is := 164) (ic := 166) (text := "there is no such report") (by decide +kernel) k_4 k_5 (by decide +kernel) t_eIO (tw_eIO).1 (tw_eIO).2 dX4_checkReport_14 dX4_checkReport_17 dX4_checkReport_18 dX4_checkReport_20 dX4_checkReport_23 (Nat.le_of_ble_eq_true rfl) (Nat.le_of_ble_eq_true rfl) (Nat.le_of_ble_eq_true rfl) (Nat.le_of_ble_eq_true rfl) ⟨c_3, rfl⟩ (Nat.le_of_ble_eq_true rfl) (Nat.le_of_ble_eq_true rfl)

set_option maxHeartbeats 4000000 in
set_option maxRecDepth 100000 in
theorem mtX4_addRange (l : Launch) (hfl : l.stackTraces = false) (g : xG) (a : xAd) (σ : xS) (v x y f : Int32) (ok : okX σ) (okf : okF σ) : xMxi l yX4_addRange wsX4_addRange ({ frames := 7, cells := 3, slots := 18, locals := 102 }) 3 18 NLX g a σ [.ref (a 0 0), .int v, .int x, .int y, .int f] (chOk (arC σ v x y f)) (arS σ v x y f 6 0 (nv v)) (arS σ v x y f) (chEx (arC σ v x y f)) := by
  intro sz
  refine vx_ofW (cc := cX4_addRange) (maxL := 5) (ret := (some .int)) (by decide) rfl ?_
  intro p e s m args below meth c s₁ B hml hex hv
  obtain ⟨rfl, hsz, ⟨hP, hK, hN, hj⟩, hT, hZ⟩ := hv
  subst hsz
  have hr := B.returns
  have hlocks := B.notSynchronized
  have C0 : xC p s m _ c cX4_addRange 5 wsX4_addRange RX4 NLX g a (xA NLX a s.heap.size) := ⟨⟨B.exec, B.bytes, hml, findClass_of_methodNamed B.named, atoms_spec (ws := wsX4_addRange) B.pre⟩, hK, hN, hj, fun n h => Or.inl ⟨n, h, rfl⟩, fun q h => Or.inr h⟩
  have hS : va_S (xA NLX a s.heap.size) s.heap s.heap [] := va_S.rf
  have hl := lv_entry ([.ref (a 0 0), .int v, .int x, .int y, .int f]) (n := 5) (Nat.le_of_ble_eq_true rfl)
  rw [lg_entry_eq]
  generalize (lg_sl ([.ref (a 0 0), .int v, .int x, .int y, .int f]) ++ List.replicate (5 - (lg_sl ([.ref (a 0 0), .int v, .int x, .int y, .int f])).length) Slot.unset).toArray = ls at hl ⊢
  have hl : lv_has ls 5 [(0, .ref (a 0 0)), (1, .int v), (2, .int x), (3, .int y), (4, .int f)] := hl
  have k_0 : Cond.fieldLink RX4 10 RX4 (TX4 0).2.1 (TX4 0).2.2.1 ∈ wsX4_addRange := by decide +kernel
  have i_X4 : ∀ w ∈ wsX40, w ∈ wsX4_addRange := by decide +kernel
  have m_2 : (RX4, 53, yX0_isFull) ∈ xMs := by decide +kernel
  have k_3 : Cond.initialized yX0_isFull.cls ∈ wsX4_addRange := by decide +kernel
  have k_4 : Cond.instanceMethod yX0_isFull ∈ wsX4_addRange := by decide +kernel
  have k_5 : Cond.selects RX0 yX0_isFull yX0_isFull ∈ wsX4_addRange := by decide +kernel
  have m_6 : (RX4, 64, yX0_overlaps) ∈ xMs := by decide +kernel
  have k_7 : Cond.initialized yX0_overlaps.cls ∈ wsX4_addRange := by decide +kernel
  have k_8 : Cond.instanceMethod yX0_overlaps ∈ wsX4_addRange := by decide +kernel
  have k_9 : Cond.selects RX0 yX0_overlaps yX0_overlaps ∈ wsX4_addRange := by decide +kernel
  have m_10 : (RX4, 70, yX0_add) ∈ xMs := by decide +kernel
  have k_11 : Cond.initialized yX0_add.cls ∈ wsX4_addRange := by decide +kernel
  have k_12 : Cond.instanceMethod yX0_add ∈ wsX4_addRange := by decide +kernel
  have k_13 : Cond.selects RX0 yX0_add yX0_add ∈ wsX4_addRange := by decide +kernel
  have k_14 : Cond.fieldLink RX4 33 RX4 (TX4 3).2.1 (TX4 3).2.2.1 ∈ wsX4_addRange := by decide +kernel
  have k_15 : Cond.fieldLink RX4 26 RX4 (TX4 2).2.1 (TX4 2).2.2.1 ∈ wsX4_addRange := by decide +kernel
  have m_16 : (RX4, 74, yX1_readStacksOf) ∈ xMs := by decide +kernel
  have k_17 : Cond.initialized yX1_readStacksOf.cls ∈ wsX4_addRange := by decide +kernel
  have k_18 : Cond.instanceMethod yX1_readStacksOf ∈ wsX4_addRange := by decide +kernel
  have k_19 : Cond.selects RX1 yX1_readStacksOf yX1_readStacksOf ∈ wsX4_addRange := by decide +kernel
  have k_20 : Cond.fieldLink RX4 19 RX4 (TX4 1).2.1 (TX4 1).2.2.1 ∈ wsX4_addRange := by decide +kernel
  have m_21 : (RX4, 78, yX1_sortAll) ∈ xMs := by decide +kernel
  have k_22 : Cond.initialized yX1_sortAll.cls ∈ wsX4_addRange := by decide +kernel
  have k_23 : Cond.instanceMethod yX1_sortAll ∈ wsX4_addRange := by decide +kernel
  have k_24 : Cond.selects RX1 yX1_sortAll yX1_sortAll ∈ wsX4_addRange := by decide +kernel
  have q_25 : Cond.fieldLinkNest RX4 82 RX0 (TX0 0).2.1 (TX0 0).2.2.1 RX4 ∈ xNs := by decide +kernel
  have i_X0 : ∀ w ∈ wsX00, w ∈ wsX4_addRange := by decide +kernel
  have k_27 : Cond.classLink RX4 57 eIS ∈ wsX4_addRange := by decide +kernel
  have k_28 : Cond.initialized eIS ∈ wsX4_addRange := by decide +kernel
  have t_eIS : ∀ w ∈ (vx_atS RX4 61 eIS xNm).filter goodWord, w ∈ wsX4_addRange := fun w h => List.mem_cons_of_mem _ (List.mem_append_left _ (List.mem_append_right _ h))
  refine x_join (α := Bool) 23 (fun b H' locs' ls => (H' = s.heap ∧ locs' = [] ∧ b = (ibX v (nI 4) && ibX f (nI 30))) ∧ lv_has ls 5 [(0, .ref (a 0 0)), (1, .int v), (2, .int x), (3, .int y), (4, .int f)]) (fun b => [.int (bI b)]) ?_ (fun J23 => ?_)
  · rintro b _ _ ls ⟨⟨rfl, rfl, hb23⟩, hl⟩
    subst hb23
    refine x_SX0 (As := [.int (bI (ibX v (nI 4) && ibX f (nI 30)))]) (rest := []) C0 (mtX4_checkArgument l hfl g a σ (ibX v (nI 4) && ibX f (nI 30))) hP hS hT hZ (va_cwS 1 C0.hts gX4_addRange_X4_checkArgument rfl rfl rfl (by decide +kernel) ⟨Nat.le_of_ble_eq_true rfl, Nat.le_of_ble_eq_true rfl⟩) rfl hl rfl (Nat.le_of_ble_eq_true rfl) (Nat.le_of_ble_eq_true rfl) (Nat.le_of_ble_eq_true rfl) dX4_addRange_23 (fun E ce q H1 locs1 hE hP hS hq hv hcl => x_out hex hlocks hP hS hq hv hcl (Or.inl hE) (Nat.le_of_ble_eq_true rfl) (Nat.le_of_ble_eq_true rfl)) (fun H locs hk_1 hP hS => ?_)
    have hA := hk_1
    simp only [Bool.and_eq_true] at hA
    obtain ⟨v, hv, rfl⟩ := ibX_nat (by decide) hA.1
    obtain ⟨f, hf, rfl⟩ := ibX_nat (by decide) hA.2
    have ev : nv (nI v) = v := nv_nI (by omega)
    refine x_join (α := Bool) 56 (fun b H' locs' ls => (H' = H ∧ locs' = locs ∧ b = (ibX x (nI 10000) && (ibX y (nI 10000) && decide (¬ y < x)))) ∧ lv_has ls 5 [(0, .ref (a 0 0)), (1, .int (nI v)), (2, .int x), (3, .int y), (4, .int (nI f))]) (fun b => [.int (bI b)]) ?_ (fun J56 => ?_)
    · rintro b _ _ ls ⟨⟨rfl, rfl, hb56⟩, hl⟩
      subst hb56
      refine x_SX0 (As := [.int (bI (ibX x (nI 10000) && (ibX y (nI 10000) && decide (¬ y < x))))]) (rest := []) C0 (mtX4_checkArgument l hfl g a σ (ibX x (nI 10000) && (ibX y (nI 10000) && decide (¬ y < x)))) hP hS hT hZ (va_cwS 1 C0.hts gX4_addRange_X4_checkArgument rfl rfl rfl (by decide +kernel) ⟨Nat.le_of_ble_eq_true rfl, Nat.le_of_ble_eq_true rfl⟩) rfl hl rfl (Nat.le_of_ble_eq_true rfl) (Nat.le_of_ble_eq_true rfl) (Nat.le_of_ble_eq_true rfl) dX4_addRange_56 (fun E ce q H1 locs1 hE hP hS hq hv hcl => x_out hex hlocks hP hS hq hv hcl (Or.inr ⟨hk_1, Or.inl hE⟩) (Nat.le_of_ble_eq_true rfl) (Nat.le_of_ble_eq_true rfl)) (fun H locs hk_2 hP hS => ?_)
      refine lv_aload_n C0.hx C0.hb dX4_addRange_59 rfl (lv_at hl 0 rfl) ?_
      refine x_get C0 hP 0 (mX_n rfl) rfl rfl 0 (by decide) i_X4 k_0 rfl rfl dX4_addRange_60 ?_
      refine lv_iload_n C0.hx C0.hb dX4_addRange_63 rfl (lv_at hl 1 rfl) ?_
      refine x_VNi (As := [.int (nI v)]) (rest := []) C0 (mtX0_isFull l g a σ v (by omega) ok) hP C0.2.2.2.1 (va_cnB 1 C0.hts gX4_addRange_X0_isFull_n53 rfl rfl rfl (C0.2.2.1.2 _ m_2) (C0.hts _ k_3) (by decide +kernel) ⟨Nat.le_of_ble_eq_true rfl, Nat.le_of_ble_eq_true rfl⟩) (C0.hts _ k_4) (C0.hts _ k_5) (x_recv C0 hP 1 (mX_n rfl) rfl rfl) rfl hl rfl (Nat.le_of_ble_eq_true rfl) (Nat.le_of_ble_eq_true rfl) (Nat.le_of_ble_eq_true rfl) dX4_addRange_64 ?_
      refine x_ifeq (tgt := 80) C0.hx C0.hb dX4_addRange_67 (by decide) (fun c_3 => ?_) (fun c_3 => ?_)
      ·
        have h30 : nv (σ 6 0 v) < 30 := by simpa using c_3
        refine lv_aload_n C0.hx C0.hb dX4_addRange_80 rfl (lv_at hl 0 rfl) ?_
        refine x_get C0 hP 0 (mX_n rfl) rfl rfl 0 (by decide) i_X4 k_0 rfl rfl dX4_addRange_81 ?_
        refine lv_iload_n C0.hx C0.hb dX4_addRange_84 rfl (lv_at hl 1 rfl) ?_
        refine lv_iload_n C0.hx C0.hb dX4_addRange_85 rfl (lv_at hl 2 rfl) ?_
        refine lv_iload_n C0.hx C0.hb dX4_addRange_86 rfl (lv_at hl 3 rfl) ?_
        refine x_VNi (As := [.int (nI v), .int x, .int y]) (rest := []) C0 (mtX0_overlaps l g a σ v (by omega) ok x y) hP C0.2.2.2.1 (va_cnB 3 C0.hts gX4_addRange_X0_overlaps_n64 rfl rfl rfl (C0.2.2.1.2 _ m_6) (C0.hts _ k_7) (by decide +kernel) ⟨Nat.le_of_ble_eq_true rfl, Nat.le_of_ble_eq_true rfl⟩) (C0.hts _ k_8) (C0.hts _ k_9) (x_recv C0 hP 1 (mX_n rfl) rfl rfl) rfl hl rfl (Nat.le_of_ble_eq_true rfl) (Nat.le_of_ble_eq_true rfl) (Nat.le_of_ble_eq_true rfl) dX4_addRange_87 ?_
        refine x_ifeq (tgt := 103) C0.hx C0.hb dX4_addRange_90 (by decide) (fun c_4 => ?_) (fun c_4 => ?_)
        ·
          refine lv_aload_n C0.hx C0.hb dX4_addRange_103 rfl (lv_at hl 0 rfl) ?_
          refine x_get C0 hP 0 (mX_n rfl) rfl rfl 0 (by decide) i_X4 k_0 rfl rfl dX4_addRange_104 ?_
          refine lv_iload_n C0.hx C0.hb dX4_addRange_107 rfl (lv_at hl 1 rfl) ?_
          refine lv_iload_n C0.hx C0.hb dX4_addRange_108 rfl (lv_at hl 2 rfl) ?_
          refine lv_iload_n C0.hx C0.hb dX4_addRange_109 rfl (lv_at hl 3 rfl) ?_
          refine lv_iload C0.hx C0.hb dX4_addRange_110 (lv_at hl 4 rfl) ?_
          refine x_VNv (As := [.int (nI v), .int x, .int y, .int (nI f)]) (rest := []) C0 (mtX0_add l g a σ v (by omega) ok (by omega) x y (nI f)) hP hS (va_cnB 4 C0.hts gX4_addRange_X0_add_n70 rfl rfl rfl (C0.2.2.1.2 _ m_10) (C0.hts _ k_11) (by decide +kernel) ⟨Nat.le_of_ble_eq_true rfl, Nat.le_of_ble_eq_true rfl⟩) (C0.hts _ k_12) (C0.hts _ k_13) (x_recv C0 hP 1 (mX_n rfl) rfl rfl) rfl hl rfl (Nat.le_of_ble_eq_true rfl) (Nat.le_of_ble_eq_true rfl) (Nat.le_of_ble_eq_true rfl) dX4_addRange_112 (fun H locs hP hS => ?_)
          have ok1 : okX (addS σ v (nv (σ 6 0 v)) x y (nI f)) := addS_ok ok hv h30 hf
          refine lv_aload_n C0.hx C0.hb dX4_addRange_115 rfl (lv_at hl 0 rfl) ?_
          refine x_get C0 hP 0 (mX_n rfl) rfl rfl 3 (by decide) i_X4 k_14 rfl rfl dX4_addRange_116 ?_
          refine lv_iload_n C0.hx C0.hb dX4_addRange_119 rfl (lv_at hl 1 rfl) ?_
          refine lv_aload_n C0.hx C0.hb dX4_addRange_120 rfl (lv_at hl 0 rfl) ?_
          refine x_get C0 hP 0 (mX_n rfl) rfl rfl 2 (by decide) i_X4 k_15 rfl rfl dX4_addRange_121 ?_
          refine lv_aload_n C0.hx C0.hb dX4_addRange_124 rfl (lv_at hl 0 rfl) ?_
          refine x_get C0 hP 0 (mX_n rfl) rfl rfl 0 (by decide) i_X4 k_0 rfl rfl dX4_addRange_125 ?_
          refine x_VNv (As := [.int (nI v), .ref (a 3 0), .ref (a 1 0)]) (rest := []) C0 (mtX1_readStacksOf l g a (addS σ v (nv (σ 6 0 v)) x y (nI f)) v (by omega) ok1) hP hS (va_cnB 3 C0.hts gX4_addRange_X1_readStacksOf_n74 rfl rfl rfl (C0.2.2.1.2 _ m_16) (C0.hts _ k_17) (by decide +kernel) ⟨Nat.le_of_ble_eq_true rfl, Nat.le_of_ble_eq_true rfl⟩) (C0.hts _ k_18) (C0.hts _ k_19) (x_recv C0 hP 4 (mX_n rfl) rfl rfl) rfl hl rfl (Nat.le_of_ble_eq_true rfl) (Nat.le_of_ble_eq_true rfl) (Nat.le_of_ble_eq_true rfl) dX4_addRange_128 (fun H locs hP hS => ?_)
          refine lv_aload_n C0.hx C0.hb dX4_addRange_131 rfl (lv_at hl 0 rfl) ?_
          refine x_get C0 hP 0 (mX_n rfl) rfl rfl 3 (by decide) i_X4 k_14 rfl rfl dX4_addRange_132 ?_
          refine lv_aload_n C0.hx C0.hb dX4_addRange_135 rfl (lv_at hl 0 rfl) ?_
          refine x_get C0 hP 0 (mX_n rfl) rfl rfl 2 (by decide) i_X4 k_15 rfl rfl dX4_addRange_136 ?_
          refine lv_aload_n C0.hx C0.hb dX4_addRange_139 rfl (lv_at hl 0 rfl) ?_
          refine x_get C0 hP 0 (mX_n rfl) rfl rfl 1 (by decide) i_X4 k_20 rfl rfl dX4_addRange_140 ?_
          refine x_VNv (As := [.ref (a 3 0), .ref (a 2 0)]) (rest := []) C0 (mtX1_sortAll l g a (rsS (addS σ v (nv (σ 6 0 v)) x y (nI f)) v) (rsS_ok ok1) (rsS_okF ok1 okf)) hP hS (va_cnB 2 C0.hts gX4_addRange_X1_sortAll_n78 rfl rfl rfl (C0.2.2.1.2 _ m_21) (C0.hts _ k_22) (by decide +kernel) ⟨Nat.le_of_ble_eq_true rfl, Nat.le_of_ble_eq_true rfl⟩) (C0.hts _ k_23) (C0.hts _ k_24) (x_recv C0 hP 4 (mX_n rfl) rfl rfl) rfl hl rfl (Nat.le_of_ble_eq_true rfl) (Nat.le_of_ble_eq_true rfl) (Nat.le_of_ble_eq_true rfl) dX4_addRange_143 (fun H locs hP hS => ?_)
          refine lv_aload_n C0.hx C0.hb dX4_addRange_146 rfl (lv_at hl 0 rfl) ?_
          refine x_get C0 hP 0 (mX_n rfl) rfl rfl 0 (by decide) i_X4 k_0 rfl rfl dX4_addRange_147 ?_
          refine x_getN C0 hP 1 (mX_n rfl) rfl rfl 0 (by decide) i_X0 q_25 rfl rfl dX4_addRange_150 ?_
          refine lv_iload_n C0.hx C0.hb dX4_addRange_153 rfl (lv_at hl 1 rfl) ?_
          refine x_iald C0 hP 6 v 4 (mX_n rfl) rfl (by omega) (by decide) dX4_addRange_154 ?_
          refine vx_ret ?_
          refine W.widen (k := 3) (n := 18) (Nat.le_of_ble_eq_true rfl) (Nat.le_of_ble_eq_true rfl) ?_
          exact W.iret (v := (saS (rsS (addS σ v (nv (σ 6 0 v)) x y (nI f)) v)) 6 0 v) C0.hx C0.hb hr (fun t ht hW => ⟨⟨_, saS (rsS (addS σ v (nv (σ 6 0 v)) x y (nI f)) v), rfl, ⟨⟨(by rw [arC]; exact ⟨hk_1, hk_2, by rw [ev]; simp [c_3], by rw [ev]; simp [c_4], trivial⟩), (by unfold arS; rw [ev])⟩, (by unfold arS; rw [ev])⟩, x_end ht hP⟩, hS.F ht⟩) hS.2.2 dX4_addRange_155
        ·
          exact x_throw C0 hfl hex hlocks hP hS hT hZ hl (cls := eIS) (is := 68) (ic := 61) (text := "the range overlaps with one of the map") (by decide +kernel) k_27 k_28 (by decide +kernel) t_eIS (tw_eIS).1 (tw_eIS).2 dX4_addRange_93 dX4_addRange_96 dX4_addRange_97 dX4_addRange_99 dX4_addRange_102 (Nat.le_of_ble_eq_true rfl) (Nat.le_of_ble_eq_true rfl) (Nat.le_of_ble_eq_true rfl) (Nat.le_of_ble_eq_true rfl) (by rw [arC]; exact Or.inr ⟨hk_1, Or.inr ⟨hk_2, Or.inr ⟨by rw [ev]; simp [c_3], Or.inl ⟨by rw [ev]; simp [c_4], rfl⟩⟩⟩⟩) (Nat.le_of_ble_eq_true rfl) (Nat.le_of_ble_eq_true rfl)
      ·
        exact x_throw C0 hfl hex hlocks hP hS hT hZ hl (cls := eIS) (is := 59) (ic := 61) (text := "the map has 30 ranges") (by decide +kernel) k_27 k_28 (by decide +kernel) t_eIS (tw_eIS).1 (tw_eIS).2 dX4_addRange_70 dX4_addRange_73 dX4_addRange_74 dX4_addRange_76 dX4_addRange_79 (Nat.le_of_ble_eq_true rfl) (Nat.le_of_ble_eq_true rfl) (Nat.le_of_ble_eq_true rfl) (Nat.le_of_ble_eq_true rfl) (by rw [arC]; exact Or.inr ⟨hk_1, Or.inr ⟨hk_2, Or.inl ⟨by rw [ev]; simp [c_3], rfl⟩⟩⟩) (Nat.le_of_ble_eq_true rfl) (Nat.le_of_ble_eq_true rfl)
    ·
      refine lv_iload_n C0.hx C0.hb dX4_addRange_26 rfl (lv_at hl 2 rfl) ?_
      refine lv_sipush (v := nI 10000) C0.hx C0.hb dX4_addRange_27 (by decide) ?_
      refine x_Si (As := [.int x, .int (nI 10000)]) (rest := []) C0 (mtX4_isBelow l g a σ x (nI 10000)) (xP0 _) xDj0 (va_cwS 2 C0.hts gX4_addRange_X4_isBelow rfl rfl rfl (by decide +kernel) ⟨Nat.le_of_ble_eq_true rfl, Nat.le_of_ble_eq_true rfl⟩) rfl hl rfl (Nat.le_of_ble_eq_true rfl) (Nat.le_of_ble_eq_true rfl) (Nat.le_of_ble_eq_true rfl) dX4_addRange_30 ?_
      refine x_ifeq (tgt := 55) C0.hx C0.hb dX4_addRange_33 (by decide) (fun c_5 => ?_) (fun c_5 => ?_)
      ·
        refine lv_iconst (v := nI 0) C0.hx C0.hb dX4_addRange_55 (by decide) ?_
        exact J56 false _ _ ls ⟨⟨rfl, rfl, (by simp [c_5])⟩, (lv_sub hl [0, 1, 2, 3, 4] rfl)⟩
      ·
        refine lv_iload_n C0.hx C0.hb dX4_addRange_36 rfl (lv_at hl 3 rfl) ?_
        refine lv_sipush (v := nI 10000) C0.hx C0.hb dX4_addRange_37 (by decide) ?_
        refine x_Si (As := [.int y, .int (nI 10000)]) (rest := []) C0 (mtX4_isBelow l g a σ y (nI 10000)) (xP0 _) xDj0 (va_cwS 2 C0.hts gX4_addRange_X4_isBelow rfl rfl rfl (by decide +kernel) ⟨Nat.le_of_ble_eq_true rfl, Nat.le_of_ble_eq_true rfl⟩) rfl hl rfl (Nat.le_of_ble_eq_true rfl) (Nat.le_of_ble_eq_true rfl) (Nat.le_of_ble_eq_true rfl) dX4_addRange_40 ?_
        refine x_ifeq (tgt := 55) C0.hx C0.hb dX4_addRange_43 (by decide) (fun c_6 => ?_) (fun c_6 => ?_)
        ·
          refine lv_iconst (v := nI 0) C0.hx C0.hb dX4_addRange_55 (by decide) ?_
          exact J56 false _ _ ls ⟨⟨rfl, rfl, (by simp [c_6, c_5])⟩, (lv_sub hl [0, 1, 2, 3, 4] rfl)⟩
        ·
          refine lv_iload_n C0.hx C0.hb dX4_addRange_46 rfl (lv_at hl 2 rfl) ?_
          refine lv_iload_n C0.hx C0.hb dX4_addRange_47 rfl (lv_at hl 3 rfl) ?_
          refine lv_icmp_gt (tgt := 55) C0.hx C0.hb dX4_addRange_48 (by decide) (fun c_7 => ?_) (fun c_7 => ?_)
          ·
            refine lv_iconst (v := nI 0) C0.hx C0.hb dX4_addRange_55 (by decide) ?_
            exact J56 false _ _ ls ⟨⟨rfl, rfl, (by simp [c_7, c_6, c_5])⟩, (lv_sub hl [0, 1, 2, 3, 4] rfl)⟩
          ·
            refine lv_iconst (v := nI 1) C0.hx C0.hb dX4_addRange_51 (by decide) ?_
            refine lv_goto (tgt := 56) C0.hx C0.hb dX4_addRange_52 (by decide) ?_
            exact J56 true _ _ ls ⟨⟨rfl, rfl, (by simp [c_7, c_6, c_5])⟩, (lv_sub hl [0, 1, 2, 3, 4] rfl)⟩
  ·
    refine lv_iload_n C0.hx C0.hb dX4_addRange_0 rfl (lv_at hl 1 rfl) ?_
    refine lv_iconst (v := nI 4) C0.hx C0.hb dX4_addRange_1 (by decide) ?_
    refine x_Si (As := [.int v, .int (nI 4)]) (rest := []) C0 (mtX4_isBelow l g a σ v (nI 4)) (xP0 _) xDj0 (va_cwS 2 C0.hts gX4_addRange_X4_isBelow rfl rfl rfl (by decide +kernel) ⟨Nat.le_of_ble_eq_true rfl, Nat.le_of_ble_eq_true rfl⟩) rfl hl rfl (Nat.le_of_ble_eq_true rfl) (Nat.le_of_ble_eq_true rfl) (Nat.le_of_ble_eq_true rfl) dX4_addRange_2 ?_
    refine x_ifeq (tgt := 22) C0.hx C0.hb dX4_addRange_5 (by decide) (fun c_8 => ?_) (fun c_8 => ?_)
    ·
      refine lv_iconst (v := nI 0) C0.hx C0.hb dX4_addRange_22 (by decide) ?_
      exact J23 false _ _ ls ⟨⟨rfl, rfl, (by simp [c_8])⟩, (lv_sub hl [0, 1, 2, 3, 4] rfl)⟩
    ·
      refine lv_iload C0.hx C0.hb dX4_addRange_8 (lv_at hl 4 rfl) ?_
      refine lv_bipush (v := nI 30) C0.hx C0.hb dX4_addRange_10 (by decide) ?_
      refine x_Si (As := [.int f, .int (nI 30)]) (rest := []) C0 (mtX4_isBelow l g a σ f (nI 30)) (xP0 _) xDj0 (va_cwS 2 C0.hts gX4_addRange_X4_isBelow rfl rfl rfl (by decide +kernel) ⟨Nat.le_of_ble_eq_true rfl, Nat.le_of_ble_eq_true rfl⟩) rfl hl rfl (Nat.le_of_ble_eq_true rfl) (Nat.le_of_ble_eq_true rfl) (Nat.le_of_ble_eq_true rfl) dX4_addRange_12 ?_
      refine x_ifeq (tgt := 22) C0.hx C0.hb dX4_addRange_15 (by decide) (fun c_9 => ?_) (fun c_9 => ?_)
      ·
        refine lv_iconst (v := nI 0) C0.hx C0.hb dX4_addRange_22 (by decide) ?_
        exact J23 false _ _ ls ⟨⟨rfl, rfl, (by simp [c_9, c_8])⟩, (lv_sub hl [0, 1, 2, 3, 4] rfl)⟩
      ·
        refine lv_iconst (v := nI 1) C0.hx C0.hb dX4_addRange_18 (by decide) ?_
        refine lv_goto (tgt := 23) C0.hx C0.hb dX4_addRange_19 (by decide) ?_
        exact J23 true _ _ ls ⟨⟨rfl, rfl, (by simp [c_9, c_8])⟩, (lv_sub hl [0, 1, 2, 3, 4] rfl)⟩

set_option maxHeartbeats 4000000 in
set_option maxRecDepth 100000 in
theorem mtX4_ignore (l : Launch) (hfl : l.stackTraces = false) (g : xG) (a : xAd) (σ : xS) (f : Int32) (b : Bool) (ok : okX σ) (okf : okF σ) : xMxi l yX4_ignore wsX4_ignore ({ frames := 7, cells := 1, slots := 6, locals := 102 }) 1 6 NLX g a σ [.ref (a 0 0), .int f, .int (bI b)] (chOk (igC f)) (σ 10 0 (nv f)) (igS σ f b) (chEx (igC f)) := by
  intro sz
  refine vx_ofW (cc := cX4_ignore) (maxL := 4) (ret := (some .boolean)) (by decide) rfl ?_
  intro p e s m args below meth c s₁ B hml hex hv
  obtain ⟨rfl, hsz, ⟨hP, hK, hN, hj⟩, hT, hZ⟩ := hv
  subst hsz
  have hr := B.returns
  have hlocks := B.notSynchronized
  have C0 : xC p s m _ c cX4_ignore 4 wsX4_ignore RX4 NLX g a (xA NLX a s.heap.size) := ⟨⟨B.exec, B.bytes, hml, findClass_of_methodNamed B.named, atoms_spec (ws := wsX4_ignore) B.pre⟩, hK, hN, hj, fun n h => Or.inl ⟨n, h, rfl⟩, fun q h => Or.inr h⟩
  have hS : va_S (xA NLX a s.heap.size) s.heap s.heap [] := va_S.rf
  have hl := lv_entry ([.ref (a 0 0), .int f, .int (bI b)]) (n := 4) (Nat.le_of_ble_eq_true rfl)
  rw [lg_entry_eq]
  generalize (lg_sl ([.ref (a 0 0), .int f, .int (bI b)]) ++ List.replicate (4 - (lg_sl ([.ref (a 0 0), .int f, .int (bI b)])).length) Slot.unset).toArray = ls at hl ⊢
  have hl : lv_has ls 4 [(0, .ref (a 0 0)), (1, .int f), (2, .int (bI b))] := hl
  have k_0 : Cond.fieldLink RX4 19 RX4 (TX4 1).2.1 (TX4 1).2.2.1 ∈ wsX4_ignore := by decide +kernel
  have i_X4 : ∀ w ∈ wsX40, w ∈ wsX4_ignore := by decide +kernel
  have q_2 : Cond.fieldLinkNest RX4 85 RX3 (TX3 0).2.1 (TX3 0).2.2.1 RX4 ∈ xNs := by decide +kernel
  have i_X3 : ∀ w ∈ wsX30, w ∈ wsX4_ignore := by decide +kernel
  have k_4 : Cond.fieldLink RX4 33 RX4 (TX4 3).2.1 (TX4 3).2.2.1 ∈ wsX4_ignore := by decide +kernel
  have k_5 : Cond.fieldLink RX4 26 RX4 (TX4 2).2.1 (TX4 2).2.2.1 ∈ wsX4_ignore := by decide +kernel
  have m_6 : (RX4, 78, yX1_sortAll) ∈ xMs := by decide +kernel
  have k_7 : Cond.initialized yX1_sortAll.cls ∈ wsX4_ignore := by decide +kernel
  have k_8 : Cond.instanceMethod yX1_sortAll ∈ wsX4_ignore := by decide +kernel
  have k_9 : Cond.selects RX1 yX1_sortAll yX1_sortAll ∈ wsX4_ignore := by decide +kernel
  refine lv_iload_n C0.hx C0.hb dX4_ignore_0 rfl (lv_at hl 1 rfl) ?_
  refine lv_bipush (v := nI 30) C0.hx C0.hb dX4_ignore_1 (by decide) ?_
  refine x_Si (As := [.int f, .int (nI 30)]) (rest := []) C0 (mtX4_isBelow l g a σ f (nI 30)) (xP0 _) xDj0 (va_cwS 2 C0.hts gX4_ignore_X4_isBelow rfl rfl rfl (by decide +kernel) ⟨Nat.le_of_ble_eq_true rfl, Nat.le_of_ble_eq_true rfl⟩) rfl hl rfl (Nat.le_of_ble_eq_true rfl) (Nat.le_of_ble_eq_true rfl) (Nat.le_of_ble_eq_true rfl) dX4_ignore_3 ?_
  refine x_SX0 (As := [.int (bI (ibX f (nI 30)))]) (rest := []) C0 (mtX4_checkArgument l hfl g a σ (ibX f (nI 30))) hP hS hT hZ (va_cwS 1 C0.hts gX4_ignore_X4_checkArgument rfl rfl rfl (by decide +kernel) ⟨Nat.le_of_ble_eq_true rfl, Nat.le_of_ble_eq_true rfl⟩) rfl hl rfl (Nat.le_of_ble_eq_true rfl) (Nat.le_of_ble_eq_true rfl) (Nat.le_of_ble_eq_true rfl) dX4_ignore_6 (fun E ce q H1 locs1 hE hP hS hq hv hcl => x_out hex hlocks hP hS hq hv hcl (Or.inl hE) (Nat.le_of_ble_eq_true rfl) (Nat.le_of_ble_eq_true rfl)) (fun H locs hk_1 hP hS => ?_)
  obtain ⟨f, hf, rfl⟩ := ibX_nat (by decide) hk_1
  have ev : nv (nI f) = f := nv_nI (by omega)
  refine lv_aload_n C0.hx C0.hb dX4_ignore_9 rfl (lv_at hl 0 rfl) ?_
  refine x_get C0 hP 0 (mX_n rfl) rfl rfl 1 (by decide) i_X4 k_0 rfl rfl dX4_ignore_10 ?_
  refine x_getN C0 hP 2 (mX_n rfl) rfl rfl 0 (by decide) i_X3 q_2 rfl rfl dX4_ignore_13 ?_
  refine lv_iload_n C0.hx C0.hb dX4_ignore_16 rfl (lv_at hl 1 rfl) ?_
  refine x_zald C0 hP 10 f 30 (mX_n rfl) rfl (by omega) (by decide) dX4_ignore_17 ?_
  refine lv_istore_n (lv' := [(3, .int (σ 10 0 f)), (0, .ref (a 0 0)), (1, .int (nI f)), (2, .int (bI b))]) C0.hx C0.hb dX4_ignore_18 rfl hl (by decide) rfl (fun ls hl => ?_)
  refine lv_aload_n C0.hx C0.hb dX4_ignore_19 rfl (lv_at hl 1 rfl) ?_
  refine x_get C0 hP 0 (mX_n rfl) rfl rfl 1 (by decide) i_X4 k_0 rfl rfl dX4_ignore_20 ?_
  refine x_getN C0 hP 2 (mX_n rfl) rfl rfl 0 (by decide) i_X3 q_2 rfl rfl dX4_ignore_23 ?_
  refine lv_iload_n C0.hx C0.hb dX4_ignore_26 rfl (lv_at hl 2 rfl) ?_
  refine lv_iload_n C0.hx C0.hb dX4_ignore_27 rfl (lv_at hl 3 rfl) ?_
  refine x_zast C0 hP hS 10 f 30 (v := bI b) (bI_01 _) (mX_n rfl) (fun _ => rfl) (by omega) (by decide) dX4_ignore_28 (fun H locs hP hS => ?_)
  refine lv_aload_n C0.hx C0.hb dX4_ignore_29 rfl (lv_at hl 1 rfl) ?_
  refine x_get C0 hP 0 (mX_n rfl) rfl rfl 3 (by decide) i_X4 k_4 rfl rfl dX4_ignore_30 ?_
  refine lv_aload_n C0.hx C0.hb dX4_ignore_33 rfl (lv_at hl 1 rfl) ?_
  refine x_get C0 hP 0 (mX_n rfl) rfl rfl 2 (by decide) i_X4 k_5 rfl rfl dX4_ignore_34 ?_
  refine lv_aload_n C0.hx C0.hb dX4_ignore_37 rfl (lv_at hl 1 rfl) ?_
  refine x_get C0 hP 0 (mX_n rfl) rfl rfl 1 (by decide) i_X4 k_0 rfl rfl dX4_ignore_38 ?_
  refine x_VNv (As := [.ref (a 3 0), .ref (a 2 0)]) (rest := []) C0 (mtX1_sortAll l g a (up3 σ 10 0 f (bI b)) (igU_ok ok) okf) hP hS (va_cnB 2 C0.hts gX4_ignore_X1_sortAll_n78 rfl rfl rfl (C0.2.2.1.2 _ m_6) (C0.hts _ k_7) (by decide +kernel) ⟨Nat.le_of_ble_eq_true rfl, Nat.le_of_ble_eq_true rfl⟩) (C0.hts _ k_8) (C0.hts _ k_9) (x_recv C0 hP 4 (mX_n rfl) rfl rfl) rfl hl rfl (Nat.le_of_ble_eq_true rfl) (Nat.le_of_ble_eq_true rfl) (Nat.le_of_ble_eq_true rfl) dX4_ignore_41 (fun H locs hP hS => ?_)
  refine lv_iload_n C0.hx C0.hb dX4_ignore_44 rfl (lv_at hl 0 rfl) ?_
  refine vx_ret ?_
  refine W.widen (k := 1) (n := 6) (Nat.le_of_ble_eq_true rfl) (Nat.le_of_ble_eq_true rfl) ?_
  exact W.zret (v := σ 10 0 f) C0.hx C0.hb hr (by rcases ok.ign hf with z | z <;> rw [z] <;> rfl) (fun t ht hW => ⟨⟨_, saS (up3 σ 10 0 f (bI b)), rfl, ⟨⟨⟨hk_1, trivial⟩, (by rw [ev])⟩, (by unfold igS; rw [ev])⟩, x_end ht hP⟩, hS.F ht⟩) hS.2.2 dX4_ignore_45
end
section
set_option maxHeartbeats 4000000 in
set_option maxRecDepth 100000 in
theorem mtX4_standFor (l : Launch) (hfl : l.stackTraces = false) (g : xG) (a : xAd) (σ : xS) (f o : Int32) (ok : okX σ) (okf : okF σ) : xMxi l yX4_standFor wsX4_standFor ({ frames := 7, cells := 2, slots := 12, locals := 102 }) 2 12 NLX g a σ [.ref (a 0 0), .int f, .int o] (chOk (sfC σ f o)) (σ 11 0 (nv f)) (sfS σ f o) (chEx (sfC σ f o)) := by
  intro sz
  refine vx_ofW (cc := cX4_standFor) (maxL := 4) (ret := (some .int)) (by decide) rfl ?_
  intro p e s m args below meth c s₁ B hml hex hv
  obtain ⟨rfl, hsz, ⟨hP, hK, hN, hj⟩, hT, hZ⟩ := hv
  subst hsz
  have hr := B.returns
  have hlocks := B.notSynchronized
  have C0 : xC p s m _ c cX4_standFor 4 wsX4_standFor RX4 NLX g a (xA NLX a s.heap.size) := ⟨⟨B.exec, B.bytes, hml, findClass_of_methodNamed B.named, atoms_spec (ws := wsX4_standFor) B.pre⟩, hK, hN, hj, fun n h => Or.inl ⟨n, h, rfl⟩, fun q h => Or.inr h⟩
  have hS : va_S (xA NLX a s.heap.size) s.heap s.heap [] := va_S.rf
  have hl := lv_entry ([.ref (a 0 0), .int f, .int o]) (n := 4) (Nat.le_of_ble_eq_true rfl)
  rw [lg_entry_eq]
  generalize (lg_sl ([.ref (a 0 0), .int f, .int o]) ++ List.replicate (4 - (lg_sl ([.ref (a 0 0), .int f, .int o])).length) Slot.unset).toArray = ls at hl ⊢
  have hl : lv_has ls 4 [(0, .ref (a 0 0)), (1, .int f), (2, .int o)] := hl
  have k_0 : Cond.fieldLink RX4 19 RX4 (TX4 1).2.1 (TX4 1).2.2.1 ∈ wsX4_standFor := by decide +kernel
  have i_X4 : ∀ w ∈ wsX40, w ∈ wsX4_standFor := by decide +kernel
  have q_2 : Cond.fieldLinkNest RX4 94 RX3 (TX3 1).2.1 (TX3 1).2.2.1 RX4 ∈ xNs := by decide +kernel
  have i_X3 : ∀ w ∈ wsX30, w ∈ wsX4_standFor := by decide +kernel
  have k_4 : Cond.fieldLink RX4 33 RX4 (TX4 3).2.1 (TX4 3).2.2.1 ∈ wsX4_standFor := by decide +kernel
  have k_5 : Cond.fieldLink RX4 26 RX4 (TX4 2).2.1 (TX4 2).2.2.1 ∈ wsX4_standFor := by decide +kernel
  have m_6 : (RX4, 78, yX1_sortAll) ∈ xMs := by decide +kernel
  have k_7 : Cond.initialized yX1_sortAll.cls ∈ wsX4_standFor := by decide +kernel
  have k_8 : Cond.instanceMethod yX1_sortAll ∈ wsX4_standFor := by decide +kernel
  have k_9 : Cond.selects RX1 yX1_sortAll yX1_sortAll ∈ wsX4_standFor := by decide +kernel
  have m_10 : (RX4, 89, yX3_leadsTo) ∈ xMs := by decide +kernel
  have k_11 : Cond.initialized yX3_leadsTo.cls ∈ wsX4_standFor := by decide +kernel
  have k_12 : Cond.instanceMethod yX3_leadsTo ∈ wsX4_standFor := by decide +kernel
  have k_13 : Cond.selects RX3 yX3_leadsTo yX3_leadsTo ∈ wsX4_standFor := by decide +kernel
  have k_14 : Cond.classLink RX4 57 eIS ∈ wsX4_standFor := by decide +kernel
  have k_15 : Cond.initialized eIS ∈ wsX4_standFor := by decide +kernel
  have t_eIS : ∀ w ∈ (vx_atS RX4 61 eIS xNm).filter goodWord, w ∈ wsX4_standFor := fun w h => List.mem_cons_of_mem _ (List.mem_append_left _ (List.mem_append_right _ h))
  refine x_join (α := Bool) 23 (fun b H' locs' ls => (H' = s.heap ∧ locs' = [] ∧ b = (ibX f (nI 30) && ibX o (nI 30))) ∧ lv_has ls 4 [(0, .ref (a 0 0)), (1, .int f), (2, .int o)]) (fun b => [.int (bI b)]) ?_ (fun J23 => ?_)
  · rintro b _ _ ls ⟨⟨rfl, rfl, hb23⟩, hl⟩
    subst hb23
    refine x_SX0 (As := [.int (bI (ibX f (nI 30) && ibX o (nI 30)))]) (rest := []) C0 (mtX4_checkArgument l hfl g a σ (ibX f (nI 30) && ibX o (nI 30))) hP hS hT hZ (va_cwS 1 C0.hts gX4_standFor_X4_checkArgument rfl rfl rfl (by decide +kernel) ⟨Nat.le_of_ble_eq_true rfl, Nat.le_of_ble_eq_true rfl⟩) rfl hl rfl (Nat.le_of_ble_eq_true rfl) (Nat.le_of_ble_eq_true rfl) (Nat.le_of_ble_eq_true rfl) dX4_standFor_23 (fun E ce q H1 locs1 hE hP hS hq hv hcl => x_out hex hlocks hP hS hq hv hcl (Or.inl hE) (Nat.le_of_ble_eq_true rfl) (Nat.le_of_ble_eq_true rfl)) (fun H locs hk_1 hP hS => ?_)
    have hA := hk_1
    simp only [Bool.and_eq_true] at hA
    obtain ⟨f, hf, rfl⟩ := ibX_nat (by decide) hA.1
    obtain ⟨o, ho, rfl⟩ := ibX_nat (by decide) hA.2
    have ev : nv (nI f) = f := nv_nI (by omega)
    have ev2 : nv (nI o) = o := nv_nI (by omega)
    refine x_join (α := Unit) 53 (fun _ H' locs' ls => (H' = H ∧ locs' = locs ∧ (decide (f ≠ o) && decide (ldA σ f 30 o = f)) = false) ∧ lv_has ls 4 [(0, .ref (a 0 0)), (1, .int (nI f)), (2, .int (nI o))]) (fun _ => []) ?_ (fun J53 => ?_)
    · rintro _ _ _ ls ⟨⟨rfl, rfl, hq⟩, hl⟩
      refine lv_aload_n C0.hx C0.hb dX4_standFor_53 rfl (lv_at hl 0 rfl) ?_
      refine x_get C0 hP 0 (mX_n rfl) rfl rfl 1 (by decide) i_X4 k_0 rfl rfl dX4_standFor_54 ?_
      refine x_getN C0 hP 2 (mX_n rfl) rfl rfl 1 (by decide) i_X3 q_2 rfl rfl dX4_standFor_57 ?_
      refine lv_iload_n C0.hx C0.hb dX4_standFor_60 rfl (lv_at hl 1 rfl) ?_
      refine x_iald C0 hP 11 f 30 (mX_n rfl) rfl (by omega) (by decide) dX4_standFor_61 ?_
      refine lv_istore_n (lv' := [(3, .int (σ 11 0 f)), (0, .ref (a 0 0)), (1, .int (nI f)), (2, .int (nI o))]) C0.hx C0.hb dX4_standFor_62 rfl hl (by decide) rfl (fun ls hl => ?_)
      refine lv_aload_n C0.hx C0.hb dX4_standFor_63 rfl (lv_at hl 1 rfl) ?_
      refine x_get C0 hP 0 (mX_n rfl) rfl rfl 1 (by decide) i_X4 k_0 rfl rfl dX4_standFor_64 ?_
      refine x_getN C0 hP 2 (mX_n rfl) rfl rfl 1 (by decide) i_X3 q_2 rfl rfl dX4_standFor_67 ?_
      refine lv_iload_n C0.hx C0.hb dX4_standFor_70 rfl (lv_at hl 2 rfl) ?_
      refine lv_iload_n C0.hx C0.hb dX4_standFor_71 rfl (lv_at hl 3 rfl) ?_
      refine x_iast C0 hP hS 11 f 30 (v := nI o) (mX_n rfl) (fun _ => rfl) (by omega) (by decide) dX4_standFor_72 (fun H locs hP hS => ?_)
      refine lv_aload_n C0.hx C0.hb dX4_standFor_73 rfl (lv_at hl 1 rfl) ?_
      refine x_get C0 hP 0 (mX_n rfl) rfl rfl 3 (by decide) i_X4 k_4 rfl rfl dX4_standFor_74 ?_
      refine lv_aload_n C0.hx C0.hb dX4_standFor_77 rfl (lv_at hl 1 rfl) ?_
      refine x_get C0 hP 0 (mX_n rfl) rfl rfl 2 (by decide) i_X4 k_5 rfl rfl dX4_standFor_78 ?_
      refine lv_aload_n C0.hx C0.hb dX4_standFor_81 rfl (lv_at hl 1 rfl) ?_
      refine x_get C0 hP 0 (mX_n rfl) rfl rfl 1 (by decide) i_X4 k_0 rfl rfl dX4_standFor_82 ?_
      refine x_VNv (As := [.ref (a 3 0), .ref (a 2 0)]) (rest := []) C0 (mtX1_sortAll l g a (up3 σ 11 0 f (nI o)) (sfU_ok ok ho) okf) hP hS (va_cnB 2 C0.hts gX4_standFor_X1_sortAll_n78 rfl rfl rfl (C0.2.2.1.2 _ m_6) (C0.hts _ k_7) (by decide +kernel) ⟨Nat.le_of_ble_eq_true rfl, Nat.le_of_ble_eq_true rfl⟩) (C0.hts _ k_8) (C0.hts _ k_9) (x_recv C0 hP 4 (mX_n rfl) rfl rfl) rfl hl rfl (Nat.le_of_ble_eq_true rfl) (Nat.le_of_ble_eq_true rfl) (Nat.le_of_ble_eq_true rfl) dX4_standFor_85 (fun H locs hP hS => ?_)
      refine lv_iload_n C0.hx C0.hb dX4_standFor_88 rfl (lv_at hl 0 rfl) ?_
      refine vx_ret ?_
      refine W.widen (k := 2) (n := 12) (Nat.le_of_ble_eq_true rfl) (Nat.le_of_ble_eq_true rfl) ?_
      exact W.iret (v := σ 11 0 f) C0.hx C0.hb hr (fun t ht hW => ⟨⟨_, saS (up3 σ 11 0 f (nI o)), rfl, ⟨⟨⟨hk_1, by rw [ev, ev2, hq]; rfl, trivial⟩, (by rw [ev])⟩, (by unfold sfS; rw [ev])⟩, x_end ht hP⟩, hS.F ht⟩) hS.2.2 dX4_standFor_89
    ·
      refine lv_iload_n C0.hx C0.hb dX4_standFor_26 rfl (lv_at hl 1 rfl) ?_
      refine lv_iload_n C0.hx C0.hb dX4_standFor_27 rfl (lv_at hl 2 rfl) ?_
      refine x_icmp_eq (tgt := 53) C0.hx C0.hb (by omega) (by omega) dX4_standFor_28 (by decide) (fun c_2 => ?_) (fun c_2 => ?_)
      ·
        exact J53 () _ _ ls ⟨⟨rfl, rfl, (by simp [c_2])⟩, (lv_sub hl [0, 1, 2] rfl)⟩
      ·
        refine lv_aload_n C0.hx C0.hb dX4_standFor_31 rfl (lv_at hl 0 rfl) ?_
        refine x_get C0 hP 0 (mX_n rfl) rfl rfl 1 (by decide) i_X4 k_0 rfl rfl dX4_standFor_32 ?_
        refine lv_iload_n C0.hx C0.hb dX4_standFor_35 rfl (lv_at hl 2 rfl) ?_
        refine lv_iload_n C0.hx C0.hb dX4_standFor_36 rfl (lv_at hl 1 rfl) ?_
        refine x_VNi (As := [.int (nI o), .int (nI f)]) (rest := []) C0 (mtX3_leadsTo l g a σ o f (by omega) (by omega) ok) hP C0.2.2.2.1 (va_cnB 2 C0.hts gX4_standFor_X3_leadsTo_n89 rfl rfl rfl (C0.2.2.1.2 _ m_10) (C0.hts _ k_11) (by decide +kernel) ⟨Nat.le_of_ble_eq_true rfl, Nat.le_of_ble_eq_true rfl⟩) (C0.hts _ k_12) (C0.hts _ k_13) (x_recv C0 hP 2 (mX_n rfl) rfl rfl) rfl hl rfl (Nat.le_of_ble_eq_true rfl) (Nat.le_of_ble_eq_true rfl) (Nat.le_of_ble_eq_true rfl) dX4_standFor_37 ?_
        refine x_ifeq (tgt := 53) C0.hx C0.hb dX4_standFor_40 (by decide) (fun c_3 => ?_) (fun c_3 => ?_)
        ·
          exact J53 () _ _ ls ⟨⟨rfl, rfl, (by simp [c_3, c_2])⟩, (lv_sub hl [0, 1, 2] rfl)⟩
        ·
          exact x_throw C0 hfl hex hlocks hP hS hT hZ hl (cls := eIS) (is := 92) (ic := 61) (text := "the other function comes to stand for this one") (by decide +kernel) k_14 k_15 (by decide +kernel) t_eIS (tw_eIS).1 (tw_eIS).2 dX4_standFor_43 dX4_standFor_46 dX4_standFor_47 dX4_standFor_49 dX4_standFor_52 (Nat.le_of_ble_eq_true rfl) (Nat.le_of_ble_eq_true rfl) (Nat.le_of_ble_eq_true rfl) (Nat.le_of_ble_eq_true rfl) (Or.inr ⟨hk_1, Or.inl ⟨by rw [ev, ev2]; simp at c_3; simp [c_3, c_2], rfl⟩⟩) (Nat.le_of_ble_eq_true rfl) (Nat.le_of_ble_eq_true rfl)
  ·
    refine lv_iload_n C0.hx C0.hb dX4_standFor_0 rfl (lv_at hl 1 rfl) ?_
    refine lv_bipush (v := nI 30) C0.hx C0.hb dX4_standFor_1 (by decide) ?_
    refine x_Si (As := [.int f, .int (nI 30)]) (rest := []) C0 (mtX4_isBelow l g a σ f (nI 30)) (xP0 _) xDj0 (va_cwS 2 C0.hts gX4_standFor_X4_isBelow rfl rfl rfl (by decide +kernel) ⟨Nat.le_of_ble_eq_true rfl, Nat.le_of_ble_eq_true rfl⟩) rfl hl rfl (Nat.le_of_ble_eq_true rfl) (Nat.le_of_ble_eq_true rfl) (Nat.le_of_ble_eq_true rfl) dX4_standFor_3 ?_
    refine x_ifeq (tgt := 22) C0.hx C0.hb dX4_standFor_6 (by decide) (fun c_4 => ?_) (fun c_4 => ?_)
    ·
      refine lv_iconst (v := nI 0) C0.hx C0.hb dX4_standFor_22 (by decide) ?_
      exact J23 false _ _ ls ⟨⟨rfl, rfl, (by simp [c_4])⟩, (lv_sub hl [0, 1, 2] rfl)⟩
    ·
      refine lv_iload_n C0.hx C0.hb dX4_standFor_9 rfl (lv_at hl 2 rfl) ?_
      refine lv_bipush (v := nI 30) C0.hx C0.hb dX4_standFor_10 (by decide) ?_
      refine x_Si (As := [.int o, .int (nI 30)]) (rest := []) C0 (mtX4_isBelow l g a σ o (nI 30)) (xP0 _) xDj0 (va_cwS 2 C0.hts gX4_standFor_X4_isBelow rfl rfl rfl (by decide +kernel) ⟨Nat.le_of_ble_eq_true rfl, Nat.le_of_ble_eq_true rfl⟩) rfl hl rfl (Nat.le_of_ble_eq_true rfl) (Nat.le_of_ble_eq_true rfl) (Nat.le_of_ble_eq_true rfl) dX4_standFor_12 ?_
      refine x_ifeq (tgt := 22) C0.hx C0.hb dX4_standFor_15 (by decide) (fun c_5 => ?_) (fun c_5 => ?_)
      ·
        refine lv_iconst (v := nI 0) C0.hx C0.hb dX4_standFor_22 (by decide) ?_
        exact J23 false _ _ ls ⟨⟨rfl, rfl, (by simp [c_5, c_4])⟩, (lv_sub hl [0, 1, 2] rfl)⟩
      ·
        refine lv_iconst (v := nI 1) C0.hx C0.hb dX4_standFor_18 (by decide) ?_
        refine lv_goto (tgt := 23) C0.hx C0.hb dX4_standFor_19 (by decide) ?_
        exact J23 true _ _ ls ⟨⟨rfl, rfl, (by simp [c_5, c_4])⟩, (lv_sub hl [0, 1, 2] rfl)⟩

set_option maxHeartbeats 4000000 in
set_option maxRecDepth 100000 in
theorem mtX4_setDepth (l : Launch) (hfl : l.stackTraces = false) (g : xG) (a : xAd) (σ : xS) (d : Int32) (ok : okX σ) (okf : okF σ) : xMxi l yX4_setDepth wsX4_setDepth ({ frames := 7, cells := 1, slots := 6, locals := 102 }) 1 6 NLX g a σ [.ref (a 0 0), .int d] (chOk (sdC d)) (σ 2 0 0) (sdS σ d) (chEx (sdC d)) := by
  intro sz
  refine vx_ofW (cc := cX4_setDepth) (maxL := 3) (ret := (some .int)) (by decide) rfl ?_
  intro p e s m args below meth c s₁ B hml hex hv
  obtain ⟨rfl, hsz, ⟨hP, hK, hN, hj⟩, hT, hZ⟩ := hv
  subst hsz
  have hr := B.returns
  have hlocks := B.notSynchronized
  have C0 : xC p s m _ c cX4_setDepth 3 wsX4_setDepth RX4 NLX g a (xA NLX a s.heap.size) := ⟨⟨B.exec, B.bytes, hml, findClass_of_methodNamed B.named, atoms_spec (ws := wsX4_setDepth) B.pre⟩, hK, hN, hj, fun n h => Or.inl ⟨n, h, rfl⟩, fun q h => Or.inr h⟩
  have hS : va_S (xA NLX a s.heap.size) s.heap s.heap [] := va_S.rf
  have hl := lv_entry ([.ref (a 0 0), .int d]) (n := 3) (Nat.le_of_ble_eq_true rfl)
  rw [lg_entry_eq]
  generalize (lg_sl ([.ref (a 0 0), .int d]) ++ List.replicate (3 - (lg_sl ([.ref (a 0 0), .int d])).length) Slot.unset).toArray = ls at hl ⊢
  have hl : lv_has ls 3 [(0, .ref (a 0 0)), (1, .int d)] := hl
  have k_0 : Cond.fieldLink RX4 19 RX4 (TX4 1).2.1 (TX4 1).2.2.1 ∈ wsX4_setDepth := by decide +kernel
  have i_X4 : ∀ w ∈ wsX40, w ∈ wsX4_setDepth := by decide +kernel
  have q_2 : Cond.fieldLinkNest RX4 97 RX3 (TX3 2).2.1 (TX3 2).2.2.1 RX4 ∈ xNs := by decide +kernel
  have i_X3 : ∀ w ∈ wsX30, w ∈ wsX4_setDepth := by decide +kernel
  have k_4 : Cond.fieldLink RX4 33 RX4 (TX4 3).2.1 (TX4 3).2.2.1 ∈ wsX4_setDepth := by decide +kernel
  have k_5 : Cond.fieldLink RX4 26 RX4 (TX4 2).2.1 (TX4 2).2.2.1 ∈ wsX4_setDepth := by decide +kernel
  have m_6 : (RX4, 78, yX1_sortAll) ∈ xMs := by decide +kernel
  have k_7 : Cond.initialized yX1_sortAll.cls ∈ wsX4_setDepth := by decide +kernel
  have k_8 : Cond.instanceMethod yX1_sortAll ∈ wsX4_setDepth := by decide +kernel
  have k_9 : Cond.selects RX1 yX1_sortAll yX1_sortAll ∈ wsX4_setDepth := by decide +kernel
  refine x_join (α := Bool) 15 (fun b H' locs' ls => (H' = s.heap ∧ locs' = [] ∧ b = (decide (¬ d < nI 1) && decide (¬ nI 4 < d))) ∧ lv_has ls 3 [(0, .ref (a 0 0)), (1, .int d)]) (fun b => [.int (bI b)]) ?_ (fun J15 => ?_)
  · rintro b _ _ ls ⟨⟨rfl, rfl, hb15⟩, hl⟩
    subst hb15
    refine x_SX0 (As := [.int (bI (decide (¬ d < nI 1) && decide (¬ nI 4 < d)))]) (rest := []) C0 (mtX4_checkArgument l hfl g a σ (decide (¬ d < nI 1) && decide (¬ nI 4 < d))) hP hS hT hZ (va_cwS 1 C0.hts gX4_setDepth_X4_checkArgument rfl rfl rfl (by decide +kernel) ⟨Nat.le_of_ble_eq_true rfl, Nat.le_of_ble_eq_true rfl⟩) rfl hl rfl (Nat.le_of_ble_eq_true rfl) (Nat.le_of_ble_eq_true rfl) (Nat.le_of_ble_eq_true rfl) dX4_setDepth_15 (fun E ce q H1 locs1 hE hP hS hq hv hcl => x_out hex hlocks hP hS hq hv hcl (Or.inl hE) (Nat.le_of_ble_eq_true rfl) (Nat.le_of_ble_eq_true rfl)) (fun H locs hk_1 hP hS => ?_)
    obtain ⟨d, hd, rfl⟩ := sd_nat hk_1
    refine lv_aload_n C0.hx C0.hb dX4_setDepth_18 rfl (lv_at hl 0 rfl) ?_
    refine x_get C0 hP 0 (mX_n rfl) rfl rfl 1 (by decide) i_X4 k_0 rfl rfl dX4_setDepth_19 ?_
    refine x_getN C0 hP 2 (mX_n rfl) rfl rfl 2 (by decide) i_X3 q_2 rfl rfl dX4_setDepth_22 ?_
    refine lv_istore_n (lv' := [(2, .int (σ 2 0 0)), (0, .ref (a 0 0)), (1, .int (nI d))]) C0.hx C0.hb dX4_setDepth_25 rfl hl (by decide) rfl (fun ls hl => ?_)
    refine lv_aload_n C0.hx C0.hb dX4_setDepth_26 rfl (lv_at hl 1 rfl) ?_
    refine x_get C0 hP 0 (mX_n rfl) rfl rfl 1 (by decide) i_X4 k_0 rfl rfl dX4_setDepth_27 ?_
    refine lv_iload_n C0.hx C0.hb dX4_setDepth_30 rfl (lv_at hl 2 rfl) ?_
    refine x_putN C0 hP hS 2 (mX_n rfl) rfl rfl tyX3 tyX3_ok nmX3 2 (by decide) i_X3 q_2 rfl rfl 0 rfl (Nat.le_of_ble_eq_true rfl) rfl dX4_setDepth_31 (fun H locs hP hS => ?_)
    refine lv_aload_n C0.hx C0.hb dX4_setDepth_34 rfl (lv_at hl 1 rfl) ?_
    refine x_get C0 hP 0 (mX_n rfl) rfl rfl 3 (by decide) i_X4 k_4 rfl rfl dX4_setDepth_35 ?_
    refine lv_aload_n C0.hx C0.hb dX4_setDepth_38 rfl (lv_at hl 1 rfl) ?_
    refine x_get C0 hP 0 (mX_n rfl) rfl rfl 2 (by decide) i_X4 k_5 rfl rfl dX4_setDepth_39 ?_
    refine lv_aload_n C0.hx C0.hb dX4_setDepth_42 rfl (lv_at hl 1 rfl) ?_
    refine x_get C0 hP 0 (mX_n rfl) rfl rfl 1 (by decide) i_X4 k_0 rfl rfl dX4_setDepth_43 ?_
    refine x_VNv (As := [.ref (a 3 0), .ref (a 2 0)]) (rest := []) C0 (mtX1_sortAll l g a (up3 σ 2 0 0 (nI d)) (sdU_ok ok hd.2) okf) hP hS (va_cnB 2 C0.hts gX4_setDepth_X1_sortAll_n78 rfl rfl rfl (C0.2.2.1.2 _ m_6) (C0.hts _ k_7) (by decide +kernel) ⟨Nat.le_of_ble_eq_true rfl, Nat.le_of_ble_eq_true rfl⟩) (C0.hts _ k_8) (C0.hts _ k_9) (x_recv C0 hP 4 (mX_n rfl) rfl rfl) rfl hl rfl (Nat.le_of_ble_eq_true rfl) (Nat.le_of_ble_eq_true rfl) (Nat.le_of_ble_eq_true rfl) dX4_setDepth_46 (fun H locs hP hS => ?_)
    refine lv_iload_n C0.hx C0.hb dX4_setDepth_49 rfl (lv_at hl 0 rfl) ?_
    refine vx_ret ?_
    refine W.widen (k := 1) (n := 6) (Nat.le_of_ble_eq_true rfl) (Nat.le_of_ble_eq_true rfl) ?_
    exact W.iret (v := σ 2 0 0) C0.hx C0.hb hr (fun t ht hW => ⟨⟨_, saS (up3 σ 2 0 0 (nI d)), rfl, ⟨⟨⟨hk_1, trivial⟩, rfl⟩, rfl⟩, x_end ht hP⟩, hS.F ht⟩) hS.2.2 dX4_setDepth_50
  ·
    refine lv_iload_n C0.hx C0.hb dX4_setDepth_0 rfl (lv_at hl 1 rfl) ?_
    refine lv_iconst (v := nI 1) C0.hx C0.hb dX4_setDepth_1 (by decide) ?_
    refine lv_icmp_lt (tgt := 14) C0.hx C0.hb dX4_setDepth_2 (by decide) (fun c_2 => ?_) (fun c_2 => ?_)
    ·
      refine lv_iconst (v := nI 0) C0.hx C0.hb dX4_setDepth_14 (by decide) ?_
      exact J15 false _ _ ls ⟨⟨rfl, rfl, (by simp [c_2])⟩, (lv_sub hl [0, 1] rfl)⟩
    ·
      refine lv_iload_n C0.hx C0.hb dX4_setDepth_5 rfl (lv_at hl 1 rfl) ?_
      refine lv_iconst (v := nI 4) C0.hx C0.hb dX4_setDepth_6 (by decide) ?_
      refine lv_icmp_gt (tgt := 14) C0.hx C0.hb dX4_setDepth_7 (by decide) (fun c_3 => ?_) (fun c_3 => ?_)
      ·
        refine lv_iconst (v := nI 0) C0.hx C0.hb dX4_setDepth_14 (by decide) ?_
        exact J15 false _ _ ls ⟨⟨rfl, rfl, (by simp [c_3, c_2])⟩, (lv_sub hl [0, 1] rfl)⟩
      ·
        refine lv_iconst (v := nI 1) C0.hx C0.hb dX4_setDepth_10 (by decide) ?_
        refine lv_goto (tgt := 15) C0.hx C0.hb dX4_setDepth_11 (by decide) ?_
        exact J15 true _ _ ls ⟨⟨rfl, rfl, (by simp [c_3, c_2])⟩, (lv_sub hl [0, 1] rfl)⟩

set_option maxHeartbeats 4000000 in
set_option maxRecDepth 100000 in
theorem mtX4_report (l : Launch) (hfl : l.stackTraces = false) (g : xG) (a : xAd) (σ : xS) (v u x y z w : Int32) (ok : okX σ) (okf : okF σ) : xMxi l yX4_report wsX4_report ({ frames := 7, cells := 3, slots := 18, locals := 102 }) 3 18 NLX g a σ [.ref (a 0 0), .int v, .int u, .int x, .int y, .int z, .int w] (chOk (rpC σ v u x y z w)) (nI (nv (σ 3 0 0))) (rpS σ v u x y z w) (chEx (rpC σ v u x y z w)) := by
  intro sz
  refine vx_ofW (cc := cX4_report) (maxL := 8) (ret := (some .int)) (by decide) rfl ?_
  intro p e s m args below meth c s₁ B hml hex hv
  obtain ⟨rfl, hsz, ⟨hP, hK, hN, hj⟩, hT, hZ⟩ := hv
  subst hsz
  have hr := B.returns
  have hlocks := B.notSynchronized
  have C0 : xC p s m _ c cX4_report 8 wsX4_report RX4 NLX g a (xA NLX a s.heap.size) := ⟨⟨B.exec, B.bytes, hml, findClass_of_methodNamed B.named, atoms_spec (ws := wsX4_report) B.pre⟩, hK, hN, hj, fun n h => Or.inl ⟨n, h, rfl⟩, fun q h => Or.inr h⟩
  have hS : va_S (xA NLX a s.heap.size) s.heap s.heap [] := va_S.rf
  have hl := lv_entry ([.ref (a 0 0), .int v, .int u, .int x, .int y, .int z, .int w]) (n := 8) (Nat.le_of_ble_eq_true rfl)
  rw [lg_entry_eq]
  generalize (lg_sl ([.ref (a 0 0), .int v, .int u, .int x, .int y, .int z, .int w]) ++ List.replicate (8 - (lg_sl ([.ref (a 0 0), .int v, .int u, .int x, .int y, .int z, .int w])).length) Slot.unset).toArray = ls at hl ⊢
  have hl : lv_has ls 8 [(0, .ref (a 0 0)), (1, .int v), (2, .int u), (3, .int x), (4, .int y), (5, .int z), (6, .int w)] := hl
  have k_0 : Cond.fieldLink RX4 26 RX4 (TX4 2).2.1 (TX4 2).2.2.1 ∈ wsX4_report := by decide +kernel
  have i_X4 : ∀ w ∈ wsX40, w ∈ wsX4_report := by decide +kernel
  have q_2 : Cond.fieldLinkNest RX4 103 RX2 (TX2 0).2.1 (TX2 0).2.2.1 RX4 ∈ xNs := by decide +kernel
  have i_X2 : ∀ w ∈ wsX20, w ∈ wsX4_report := by decide +kernel
  have m_4 : (RX4, 108, yX2_add) ∈ xMs := by decide +kernel
  have k_5 : Cond.initialized yX2_add.cls ∈ wsX4_report := by decide +kernel
  have k_6 : Cond.instanceMethod yX2_add ∈ wsX4_report := by decide +kernel
  have k_7 : Cond.selects RX2 yX2_add yX2_add ∈ wsX4_report := by decide +kernel
  have m_8 : (RX4, 111, yX2_setStack) ∈ xMs := by decide +kernel
  have k_9 : Cond.initialized yX2_setStack.cls ∈ wsX4_report := by decide +kernel
  have k_10 : Cond.instanceMethod yX2_setStack ∈ wsX4_report := by decide +kernel
  have k_11 : Cond.selects RX2 yX2_setStack yX2_setStack ∈ wsX4_report := by decide +kernel
  have k_12 : Cond.fieldLink RX4 33 RX4 (TX4 3).2.1 (TX4 3).2.2.1 ∈ wsX4_report := by decide +kernel
  have k_13 : Cond.fieldLink RX4 10 RX4 (TX4 0).2.1 (TX4 0).2.2.1 ∈ wsX4_report := by decide +kernel
  have m_14 : (RX4, 115, yX1_readStack) ∈ xMs := by decide +kernel
  have k_15 : Cond.initialized yX1_readStack.cls ∈ wsX4_report := by decide +kernel
  have k_16 : Cond.instanceMethod yX1_readStack ∈ wsX4_report := by decide +kernel
  have k_17 : Cond.selects RX1 yX1_readStack yX1_readStack ∈ wsX4_report := by decide +kernel
  have k_18 : Cond.fieldLink RX4 19 RX4 (TX4 1).2.1 (TX4 1).2.2.1 ∈ wsX4_report := by decide +kernel
  have m_19 : (RX4, 118, yX1_sort) ∈ xMs := by decide +kernel
  have k_20 : Cond.initialized yX1_sort.cls ∈ wsX4_report := by decide +kernel
  have k_21 : Cond.instanceMethod yX1_sort ∈ wsX4_report := by decide +kernel
  have k_22 : Cond.selects RX1 yX1_sort yX1_sort ∈ wsX4_report := by decide +kernel
  have k_23 : Cond.classLink RX4 57 eIS ∈ wsX4_report := by decide +kernel
  have k_24 : Cond.initialized eIS ∈ wsX4_report := by decide +kernel
  have t_eIS : ∀ w ∈ (vx_atS RX4 61 eIS xNm).filter goodWord, w ∈ wsX4_report := fun w h => List.mem_cons_of_mem _ (List.mem_append_left _ (List.mem_append_right _ h))
  refine x_join (α := Bool) 22 (fun b H' locs' ls => (H' = s.heap ∧ locs' = [] ∧ b = (ibX v (nI 4) && ibX u (nI 20))) ∧ lv_has ls 8 [(0, .ref (a 0 0)), (1, .int v), (2, .int u), (3, .int x), (4, .int y), (5, .int z), (6, .int w)]) (fun b => [.int (bI b)]) ?_ (fun J22 => ?_)
  · rintro b _ _ ls ⟨⟨rfl, rfl, hb22⟩, hl⟩
    subst hb22
    refine x_SX0 (As := [.int (bI (ibX v (nI 4) && ibX u (nI 20)))]) (rest := []) C0 (mtX4_checkArgument l hfl g a σ (ibX v (nI 4) && ibX u (nI 20))) hP hS hT hZ (va_cwS 1 C0.hts gX4_report_X4_checkArgument rfl rfl rfl (by decide +kernel) ⟨Nat.le_of_ble_eq_true rfl, Nat.le_of_ble_eq_true rfl⟩) rfl hl rfl (Nat.le_of_ble_eq_true rfl) (Nat.le_of_ble_eq_true rfl) (Nat.le_of_ble_eq_true rfl) dX4_report_22 (fun E ce q H1 locs1 hE hP hS hq hv hcl => x_out hex hlocks hP hS hq hv hcl (Or.inl hE) (Nat.le_of_ble_eq_true rfl) (Nat.le_of_ble_eq_true rfl)) (fun H locs hk_1 hP hS => ?_)
    have hA := hk_1
    simp only [Bool.and_eq_true] at hA
    obtain ⟨v, hv, rfl⟩ := ibX_nat (by decide) hA.1
    obtain ⟨u, hu, rfl⟩ := ibX_nat (by decide) hA.2
    have ev : nv (nI v) = v := nv_nI (by omega)
    have eu : nv (nI u) = u := nv_nI (by omega)
    refine x_join (α := Bool) 69 (fun b H' locs' ls => (H' = H ∧ locs' = locs ∧ b = (ibX x (nI 10000) && (mfX x y && (mfX y z && mfX z w)))) ∧ lv_has ls 8 [(0, .ref (a 0 0)), (1, .int (nI v)), (2, .int (nI u)), (3, .int x), (4, .int y), (5, .int z), (6, .int w)]) (fun b => [.int (bI b)]) ?_ (fun J69 => ?_)
    · rintro b _ _ ls ⟨⟨rfl, rfl, hb69⟩, hl⟩
      subst hb69
      refine x_SX0 (As := [.int (bI (ibX x (nI 10000) && (mfX x y && (mfX y z && mfX z w))))]) (rest := []) C0 (mtX4_checkArgument l hfl g a σ (ibX x (nI 10000) && (mfX x y && (mfX y z && mfX z w)))) hP hS hT hZ (va_cwS 1 C0.hts gX4_report_X4_checkArgument rfl rfl rfl (by decide +kernel) ⟨Nat.le_of_ble_eq_true rfl, Nat.le_of_ble_eq_true rfl⟩) rfl hl rfl (Nat.le_of_ble_eq_true rfl) (Nat.le_of_ble_eq_true rfl) (Nat.le_of_ble_eq_true rfl) dX4_report_69 (fun E ce q H1 locs1 hE hP hS hq hv hcl => x_out hex hlocks hP hS hq hv hcl (Or.inr ⟨hk_1, Or.inl hE⟩) (Nat.le_of_ble_eq_true rfl) (Nat.le_of_ble_eq_true rfl)) (fun H locs hk_2 hP hS => ?_)
      refine lv_aload_n C0.hx C0.hb dX4_report_72 rfl (lv_at hl 0 rfl) ?_
      refine x_get C0 hP 0 (mX_n rfl) rfl rfl 2 (by decide) i_X4 k_0 rfl rfl dX4_report_73 ?_
      refine x_getN C0 hP 3 (mX_n rfl) rfl rfl 0 (by decide) i_X2 q_2 rfl rfl dX4_report_76 ?_
      obtain ⟨e_3, b_4⟩ := (ok.n : inR (σ 3 0 0) _)
      refine x_top e_3 ?_
      refine lv_bipush (v := nI 60) C0.hx C0.hb dX4_report_79 (by decide) ?_
      refine x_icmp_lt (tgt := 94) C0.hx C0.hb (by omega) (by omega) dX4_report_81 (by decide) (fun c_5 => ?_) (fun c_5 => ?_)
      ·
        refine lv_aload_n C0.hx C0.hb dX4_report_94 rfl (lv_at hl 0 rfl) ?_
        refine x_get C0 hP 0 (mX_n rfl) rfl rfl 2 (by decide) i_X4 k_0 rfl rfl dX4_report_95 ?_
        refine lv_iload_n C0.hx C0.hb dX4_report_98 rfl (lv_at hl 1 rfl) ?_
        refine lv_iload_n C0.hx C0.hb dX4_report_99 rfl (lv_at hl 2 rfl) ?_
        refine x_VNw (As := [.int (nI v), .int (nI u)]) (rest := []) C0 (mtX2_add l g a σ v u ok (by omega)) hP hS (va_cnB 2 C0.hts gX4_report_X2_add_n108 rfl rfl rfl (C0.2.2.1.2 _ m_4) (C0.hts _ k_5) (by decide +kernel) ⟨Nat.le_of_ble_eq_true rfl, Nat.le_of_ble_eq_true rfl⟩) (C0.hts _ k_6) (C0.hts _ k_7) (x_recv C0 hP 3 (mX_n rfl) rfl rfl) rfl hl rfl (Nat.le_of_ble_eq_true rfl) (Nat.le_of_ble_eq_true rfl) (Nat.le_of_ble_eq_true rfl) dX4_report_100 (fun H locs hP hS => ?_)
        refine lv_istore (lv' := [(7, .int (nI (nv (σ 3 0 0)))), (0, .ref (a 0 0)), (1, .int (nI v)), (2, .int (nI u)), (3, .int x), (4, .int y), (5, .int z), (6, .int w)]) C0.hx C0.hb dX4_report_103 hl (by decide) rfl (fun ls hl => ?_)
        refine lv_aload_n C0.hx C0.hb dX4_report_105 rfl (lv_at hl 1 rfl) ?_
        refine x_get C0 hP 0 (mX_n rfl) rfl rfl 2 (by decide) i_X4 k_0 rfl rfl dX4_report_106 ?_
        refine lv_iload C0.hx C0.hb dX4_report_109 (lv_at hl 0 rfl) ?_
        refine lv_iload_n C0.hx C0.hb dX4_report_111 rfl (lv_at hl 4 rfl) ?_
        refine lv_iload C0.hx C0.hb dX4_report_112 (lv_at hl 5 rfl) ?_
        refine lv_iload C0.hx C0.hb dX4_report_114 (lv_at hl 6 rfl) ?_
        refine lv_iload C0.hx C0.hb dX4_report_116 (lv_at hl 7 rfl) ?_
        refine x_VNv (As := [.int (nI (nv (σ 3 0 0))), .int x, .int y, .int z, .int w]) (rest := []) C0 (mtX2_setStack l g a (radS σ (nv (σ 3 0 0)) v u) (nv (σ 3 0 0)) (by omega) x y z w) hP hS (va_cnB 5 C0.hts gX4_report_X2_setStack_n111 rfl rfl rfl (C0.2.2.1.2 _ m_8) (C0.hts _ k_9) (by decide +kernel) ⟨Nat.le_of_ble_eq_true rfl, Nat.le_of_ble_eq_true rfl⟩) (C0.hts _ k_10) (C0.hts _ k_11) (x_recv C0 hP 3 (mX_n rfl) rfl rfl) rfl hl rfl (Nat.le_of_ble_eq_true rfl) (Nat.le_of_ble_eq_true rfl) (Nat.le_of_ble_eq_true rfl) dX4_report_118 (fun H locs hP hS => ?_)
        have ok1 : okX (stkS (radS σ (nv (σ 3 0 0)) v u) (nv (σ 3 0 0)) x y z w) := stkS_ok (radS_ok ok (by omega) hv hu)
        have okf1 : okF (stkS (radS σ (nv (σ 3 0 0)) v u) (nv (σ 3 0 0)) x y z w) := rad_okF okf
        refine lv_aload_n C0.hx C0.hb dX4_report_121 rfl (lv_at hl 1 rfl) ?_
        refine x_get C0 hP 0 (mX_n rfl) rfl rfl 3 (by decide) i_X4 k_12 rfl rfl dX4_report_122 ?_
        refine lv_iload C0.hx C0.hb dX4_report_125 (lv_at hl 0 rfl) ?_
        refine lv_aload_n C0.hx C0.hb dX4_report_127 rfl (lv_at hl 1 rfl) ?_
        refine x_get C0 hP 0 (mX_n rfl) rfl rfl 2 (by decide) i_X4 k_0 rfl rfl dX4_report_128 ?_
        refine lv_aload_n C0.hx C0.hb dX4_report_131 rfl (lv_at hl 1 rfl) ?_
        refine x_get C0 hP 0 (mX_n rfl) rfl rfl 0 (by decide) i_X4 k_13 rfl rfl dX4_report_132 ?_
        refine x_VNv (As := [.int (nI (nv (σ 3 0 0))), .ref (a 3 0), .ref (a 1 0)]) (rest := []) C0 (mtX1_readStack l g a (stkS (radS σ (nv (σ 3 0 0)) v u) (nv (σ 3 0 0)) x y z w) (nv (σ 3 0 0)) (by omega) ok1) hP hS (va_cnB 3 C0.hts gX4_report_X1_readStack_n115 rfl rfl rfl (C0.2.2.1.2 _ m_14) (C0.hts _ k_15) (by decide +kernel) ⟨Nat.le_of_ble_eq_true rfl, Nat.le_of_ble_eq_true rfl⟩) (C0.hts _ k_16) (C0.hts _ k_17) (x_recv C0 hP 4 (mX_n rfl) rfl rfl) rfl hl rfl (Nat.le_of_ble_eq_true rfl) (Nat.le_of_ble_eq_true rfl) (Nat.le_of_ble_eq_true rfl) dX4_report_135 (fun H locs hP hS => ?_)
        refine lv_aload_n C0.hx C0.hb dX4_report_138 rfl (lv_at hl 1 rfl) ?_
        refine x_get C0 hP 0 (mX_n rfl) rfl rfl 3 (by decide) i_X4 k_12 rfl rfl dX4_report_139 ?_
        refine lv_iload C0.hx C0.hb dX4_report_142 (lv_at hl 0 rfl) ?_
        refine lv_aload_n C0.hx C0.hb dX4_report_144 rfl (lv_at hl 1 rfl) ?_
        refine x_get C0 hP 0 (mX_n rfl) rfl rfl 2 (by decide) i_X4 k_0 rfl rfl dX4_report_145 ?_
        refine lv_aload_n C0.hx C0.hb dX4_report_148 rfl (lv_at hl 1 rfl) ?_
        refine x_get C0 hP 0 (mX_n rfl) rfl rfl 1 (by decide) i_X4 k_18 rfl rfl dX4_report_149 ?_
        refine x_VNv (As := [.int (nI (nv (σ 3 0 0))), .ref (a 3 0), .ref (a 2 0)]) (rest := []) C0 (mtX1_sort l g a (rdS (stkS (radS σ (nv (σ 3 0 0)) v u) (nv (σ 3 0 0)) x y z w) (nv (σ 3 0 0))) (nv (σ 3 0 0)) (by omega) (rdL_ok ok1 (p := 4)) (rdL_okF ok1 okf1 (by omega) 4)) hP hS (va_cnB 3 C0.hts gX4_report_X1_sort_n118 rfl rfl rfl (C0.2.2.1.2 _ m_19) (C0.hts _ k_20) (by decide +kernel) ⟨Nat.le_of_ble_eq_true rfl, Nat.le_of_ble_eq_true rfl⟩) (C0.hts _ k_21) (C0.hts _ k_22) (x_recv C0 hP 4 (mX_n rfl) rfl rfl) rfl hl rfl (Nat.le_of_ble_eq_true rfl) (Nat.le_of_ble_eq_true rfl) (Nat.le_of_ble_eq_true rfl) dX4_report_152 (fun H locs hP hS => ?_)
        refine lv_iload C0.hx C0.hb dX4_report_155 (lv_at hl 0 rfl) ?_
        refine vx_ret ?_
        refine W.widen (k := 3) (n := 18) (Nat.le_of_ble_eq_true rfl) (Nat.le_of_ble_eq_true rfl) ?_
        exact W.iret (v := nI (nv (σ 3 0 0))) C0.hx C0.hb hr (fun t ht hW => ⟨⟨_, soS (rdS (stkS (radS σ (nv (σ 3 0 0)) v u) (nv (σ 3 0 0)) x y z w) (nv (σ 3 0 0))) (nv (σ 3 0 0)), rfl, ⟨⟨⟨hk_1, hk_2, by simp; omega, trivial⟩, rfl⟩, (by unfold rpS; rw [ev, eu])⟩, x_end ht hP⟩, hS.F ht⟩) hS.2.2 dX4_report_157
      ·
        exact x_throw C0 hfl hex hlocks hP hS hT hZ hl (cls := eIS) (is := 106) (ic := 61) (text := "there are 60 reports") (by decide +kernel) k_23 k_24 (by decide +kernel) t_eIS (tw_eIS).1 (tw_eIS).2 dX4_report_84 dX4_report_87 dX4_report_88 dX4_report_90 dX4_report_93 (Nat.le_of_ble_eq_true rfl) (Nat.le_of_ble_eq_true rfl) (Nat.le_of_ble_eq_true rfl) (Nat.le_of_ble_eq_true rfl) (Or.inr ⟨hk_1, Or.inr ⟨hk_2, Or.inl ⟨by simp; omega, rfl⟩⟩⟩) (Nat.le_of_ble_eq_true rfl) (Nat.le_of_ble_eq_true rfl)
    ·
      refine lv_iload_n C0.hx C0.hb dX4_report_25 rfl (lv_at hl 3 rfl) ?_
      refine lv_sipush (v := nI 10000) C0.hx C0.hb dX4_report_26 (by decide) ?_
      refine x_Si (As := [.int x, .int (nI 10000)]) (rest := []) C0 (mtX4_isBelow l g a σ x (nI 10000)) (xP0 _) xDj0 (va_cwS 2 C0.hts gX4_report_X4_isBelow rfl rfl rfl (by decide +kernel) ⟨Nat.le_of_ble_eq_true rfl, Nat.le_of_ble_eq_true rfl⟩) rfl hl rfl (Nat.le_of_ble_eq_true rfl) (Nat.le_of_ble_eq_true rfl) (Nat.le_of_ble_eq_true rfl) dX4_report_29 ?_
      refine x_ifeq (tgt := 68) C0.hx C0.hb dX4_report_32 (by decide) (fun c_6 => ?_) (fun c_6 => ?_)
      ·
        refine lv_iconst (v := nI 0) C0.hx C0.hb dX4_report_68 (by decide) ?_
        exact J69 false _ _ ls ⟨⟨rfl, rfl, (by simp [c_6])⟩, (lv_sub hl [0, 1, 2, 3, 4, 5, 6] rfl)⟩
      ·
        refine lv_iload_n C0.hx C0.hb dX4_report_35 rfl (lv_at hl 3 rfl) ?_
        refine lv_iload C0.hx C0.hb dX4_report_36 (lv_at hl 4 rfl) ?_
        refine x_Si (As := [.int x, .int y]) (rest := []) C0 (mtX4_mayFollow l g a σ x y) (xP0 _) xDj0 (va_cwS 2 C0.hts gX4_report_X4_mayFollow rfl rfl rfl (by decide +kernel) ⟨Nat.le_of_ble_eq_true rfl, Nat.le_of_ble_eq_true rfl⟩) rfl hl rfl (Nat.le_of_ble_eq_true rfl) (Nat.le_of_ble_eq_true rfl) (Nat.le_of_ble_eq_true rfl) dX4_report_38 ?_
        refine x_ifeq (tgt := 68) C0.hx C0.hb dX4_report_41 (by decide) (fun c_7 => ?_) (fun c_7 => ?_)
        ·
          refine lv_iconst (v := nI 0) C0.hx C0.hb dX4_report_68 (by decide) ?_
          exact J69 false _ _ ls ⟨⟨rfl, rfl, (by simp [c_7, c_6])⟩, (lv_sub hl [0, 1, 2, 3, 4, 5, 6] rfl)⟩
        ·
          refine lv_iload C0.hx C0.hb dX4_report_44 (lv_at hl 4 rfl) ?_
          refine lv_iload C0.hx C0.hb dX4_report_46 (lv_at hl 5 rfl) ?_
          refine x_Si (As := [.int y, .int z]) (rest := []) C0 (mtX4_mayFollow l g a σ y z) (xP0 _) xDj0 (va_cwS 2 C0.hts gX4_report_X4_mayFollow rfl rfl rfl (by decide +kernel) ⟨Nat.le_of_ble_eq_true rfl, Nat.le_of_ble_eq_true rfl⟩) rfl hl rfl (Nat.le_of_ble_eq_true rfl) (Nat.le_of_ble_eq_true rfl) (Nat.le_of_ble_eq_true rfl) dX4_report_48 ?_
          refine x_ifeq (tgt := 68) C0.hx C0.hb dX4_report_51 (by decide) (fun c_8 => ?_) (fun c_8 => ?_)
          ·
            refine lv_iconst (v := nI 0) C0.hx C0.hb dX4_report_68 (by decide) ?_
            exact J69 false _ _ ls ⟨⟨rfl, rfl, (by simp [c_8, c_7, c_6])⟩, (lv_sub hl [0, 1, 2, 3, 4, 5, 6] rfl)⟩
          ·
            refine lv_iload C0.hx C0.hb dX4_report_54 (lv_at hl 5 rfl) ?_
            refine lv_iload C0.hx C0.hb dX4_report_56 (lv_at hl 6 rfl) ?_
            refine x_Si (As := [.int z, .int w]) (rest := []) C0 (mtX4_mayFollow l g a σ z w) (xP0 _) xDj0 (va_cwS 2 C0.hts gX4_report_X4_mayFollow rfl rfl rfl (by decide +kernel) ⟨Nat.le_of_ble_eq_true rfl, Nat.le_of_ble_eq_true rfl⟩) rfl hl rfl (Nat.le_of_ble_eq_true rfl) (Nat.le_of_ble_eq_true rfl) (Nat.le_of_ble_eq_true rfl) dX4_report_58 ?_
            refine x_ifeq (tgt := 68) C0.hx C0.hb dX4_report_61 (by decide) (fun c_9 => ?_) (fun c_9 => ?_)
            ·
              refine lv_iconst (v := nI 0) C0.hx C0.hb dX4_report_68 (by decide) ?_
              exact J69 false _ _ ls ⟨⟨rfl, rfl, (by simp [c_9, c_8, c_7, c_6])⟩, (lv_sub hl [0, 1, 2, 3, 4, 5, 6] rfl)⟩
            ·
              refine lv_iconst (v := nI 1) C0.hx C0.hb dX4_report_64 (by decide) ?_
              refine lv_goto (tgt := 69) C0.hx C0.hb dX4_report_65 (by decide) ?_
              exact J69 true _ _ ls ⟨⟨rfl, rfl, (by simp [c_9, c_8, c_7, c_6])⟩, (lv_sub hl [0, 1, 2, 3, 4, 5, 6] rfl)⟩
  ·
    refine lv_iload_n C0.hx C0.hb dX4_report_0 rfl (lv_at hl 1 rfl) ?_
    refine lv_iconst (v := nI 4) C0.hx C0.hb dX4_report_1 (by decide) ?_
    refine x_Si (As := [.int v, .int (nI 4)]) (rest := []) C0 (mtX4_isBelow l g a σ v (nI 4)) (xP0 _) xDj0 (va_cwS 2 C0.hts gX4_report_X4_isBelow rfl rfl rfl (by decide +kernel) ⟨Nat.le_of_ble_eq_true rfl, Nat.le_of_ble_eq_true rfl⟩) rfl hl rfl (Nat.le_of_ble_eq_true rfl) (Nat.le_of_ble_eq_true rfl) (Nat.le_of_ble_eq_true rfl) dX4_report_2 ?_
    refine x_ifeq (tgt := 21) C0.hx C0.hb dX4_report_5 (by decide) (fun c_10 => ?_) (fun c_10 => ?_)
    ·
      refine lv_iconst (v := nI 0) C0.hx C0.hb dX4_report_21 (by decide) ?_
      exact J22 false _ _ ls ⟨⟨rfl, rfl, (by simp [c_10])⟩, (lv_sub hl [0, 1, 2, 3, 4, 5, 6] rfl)⟩
    ·
      refine lv_iload_n C0.hx C0.hb dX4_report_8 rfl (lv_at hl 2 rfl) ?_
      refine lv_bipush (v := nI 20) C0.hx C0.hb dX4_report_9 (by decide) ?_
      refine x_Si (As := [.int u, .int (nI 20)]) (rest := []) C0 (mtX4_isBelow l g a σ u (nI 20)) (xP0 _) xDj0 (va_cwS 2 C0.hts gX4_report_X4_isBelow rfl rfl rfl (by decide +kernel) ⟨Nat.le_of_ble_eq_true rfl, Nat.le_of_ble_eq_true rfl⟩) rfl hl rfl (Nat.le_of_ble_eq_true rfl) (Nat.le_of_ble_eq_true rfl) (Nat.le_of_ble_eq_true rfl) dX4_report_11 ?_
      refine x_ifeq (tgt := 21) C0.hx C0.hb dX4_report_14 (by decide) (fun c_11 => ?_) (fun c_11 => ?_)
      ·
        refine lv_iconst (v := nI 0) C0.hx C0.hb dX4_report_21 (by decide) ?_
        exact J22 false _ _ ls ⟨⟨rfl, rfl, (by simp [c_11, c_10])⟩, (lv_sub hl [0, 1, 2, 3, 4, 5, 6] rfl)⟩
      ·
        refine lv_iconst (v := nI 1) C0.hx C0.hb dX4_report_17 (by decide) ?_
        refine lv_goto (tgt := 22) C0.hx C0.hb dX4_report_18 (by decide) ?_
        exact J22 true _ _ ls ⟨⟨rfl, rfl, (by simp [c_11, c_10])⟩, (lv_sub hl [0, 1, 2, 3, 4, 5, 6] rfl)⟩

set_option maxHeartbeats 4000000 in
set_option maxRecDepth 100000 in
theorem mtX4_reports (l : Launch) (g : xG) (a : xAd) (σ : xS) (ok : okX σ) : xMi l yX4_reports wsX4_reports ({ frames := 0, cells := 0, slots := 0, locals := 0 }) NLX g a σ [.ref (a 0 0)] (σ 3 0 0) := by
  unfold xMi
  refine Met.ofW (cc := cX4_reports) (maxL := 1) (ret := (some .int)) (by decide) rfl ?_
  intro p e s m args below meth c s₁ B hml hv
  obtain ⟨rfl, hP, hK, hN, hj⟩ := hv
  have hr := B.returns
  have hlocks := B.notSynchronized
  have C0 : xC p s m _ c cX4_reports 1 wsX4_reports RX4 NLX g a (xA NLX a s.heap.size) := ⟨⟨B.exec, B.bytes, hml, findClass_of_methodNamed B.named, atoms_spec (ws := wsX4_reports) B.pre⟩, hK, hN, hj, fun n h => Or.inl ⟨n, h, rfl⟩, fun q h => Or.inr h⟩
  have hS : va_S (xA NLX a s.heap.size) s.heap s.heap [] := va_S.rf
  have hl := lv_entry ([.ref (a 0 0)]) (n := 1) (Nat.le_of_ble_eq_true rfl)
  rw [lg_entry_eq]
  generalize (lg_sl ([.ref (a 0 0)]) ++ List.replicate (1 - (lg_sl ([.ref (a 0 0)])).length) Slot.unset).toArray = ls at hl ⊢
  have hl : lv_has ls 1 [(0, .ref (a 0 0))] := hl
  have k_0 : Cond.fieldLink RX4 26 RX4 (TX4 2).2.1 (TX4 2).2.2.1 ∈ wsX4_reports := by decide +kernel
  have i_X4 : ∀ w ∈ wsX40, w ∈ wsX4_reports := by decide +kernel
  have q_2 : Cond.fieldLinkNest RX4 103 RX2 (TX2 0).2.1 (TX2 0).2.2.1 RX4 ∈ xNs := by decide +kernel
  have i_X2 : ∀ w ∈ wsX20, w ∈ wsX4_reports := by decide +kernel
  refine lv_aload_n C0.hx C0.hb dX4_reports_0 rfl (lv_at hl 0 rfl) ?_
  refine x_get C0 hP 0 (mX_n rfl) rfl rfl 2 (by decide) i_X4 k_0 rfl rfl dX4_reports_1 ?_
  refine x_getN C0 hP 3 (mX_n rfl) rfl rfl 0 (by decide) i_X2 q_2 rfl rfl dX4_reports_4 ?_
  exact W.iret (v := σ 3 0 0) C0.hx C0.hb hr (fun t ht hW => ⟨_, rfl, rfl, ht⟩) (fun q h => nomatch h) dX4_reports_7

set_option maxHeartbeats 4000000 in
set_option maxRecDepth 100000 in
theorem mtX4_frame (l : Launch) (hfl : l.stackTraces = false) (g : xG) (a : xAd) (σ : xS) (r q : Int32) (ok : okX σ) : xMxi l yX4_frame wsX4_frame ({ frames := 7, cells := 2, slots := 12, locals := 103 }) 2 12 NLX g a σ [.ref (a 0 0), .int r, .int q] (chOk (frC σ r q)) (σ 24 (nv r) (nv q)) σ (chEx (frC σ r q)) := by
  intro sz
  refine vx_ofW (cc := cX4_frame) (maxL := 3) (ret := (some .int)) (by decide) rfl ?_
  intro p e s m args below meth c s₁ B hml hex hv
  obtain ⟨rfl, hsz, ⟨hP, hK, hN, hj⟩, hT, hZ⟩ := hv
  subst hsz
  have hr := B.returns
  have hlocks := B.notSynchronized
  have C0 : xC p s m _ c cX4_frame 3 wsX4_frame RX4 NLX g a (xA NLX a s.heap.size) := ⟨⟨B.exec, B.bytes, hml, findClass_of_methodNamed B.named, atoms_spec (ws := wsX4_frame) B.pre⟩, hK, hN, hj, fun n h => Or.inl ⟨n, h, rfl⟩, fun q h => Or.inr h⟩
  have hS : va_S (xA NLX a s.heap.size) s.heap s.heap [] := va_S.rf
  have hl := lv_entry ([.ref (a 0 0), .int r, .int q]) (n := 3) (Nat.le_of_ble_eq_true rfl)
  rw [lg_entry_eq]
  generalize (lg_sl ([.ref (a 0 0), .int r, .int q]) ++ List.replicate (3 - (lg_sl ([.ref (a 0 0), .int r, .int q])).length) Slot.unset).toArray = ls at hl ⊢
  have hl : lv_has ls 3 [(0, .ref (a 0 0)), (1, .int r), (2, .int q)] := hl
  have k_0 : Cond.fieldLink RX4 33 RX4 (TX4 3).2.1 (TX4 3).2.2.1 ∈ wsX4_frame := by decide +kernel
  have i_X4 : ∀ w ∈ wsX40, w ∈ wsX4_frame := by decide +kernel
  have q_2 : Cond.fieldLinkNest RX4 126 RX1 (TX1 0).2.1 (TX1 0).2.2.1 RX4 ∈ xNs := by decide +kernel
  have i_X1 : ∀ w ∈ wsX10, w ∈ wsX4_frame := by decide +kernel
  refine lv_aload_n C0.hx C0.hb dX4_frame_0 rfl (lv_at hl 0 rfl) ?_
  refine lv_iload_n C0.hx C0.hb dX4_frame_1 rfl (lv_at hl 1 rfl) ?_
  refine x_VXv (As := [.int r]) (rest := []) C0 (mtX4_checkReport l hfl g a σ r ok) hP hS hT hZ (cwV 1 C0.hts gX4_frame_X4_checkReport rfl rfl rfl (by decide +kernel) ⟨Nat.le_of_ble_eq_true rfl, Nat.le_of_ble_eq_true rfl⟩) (x_recv C0 hP 0 (mX_n rfl) rfl rfl) rfl hl rfl (Nat.le_of_ble_eq_true rfl) (Nat.le_of_ble_eq_true rfl) (Nat.le_of_ble_eq_true rfl) dX4_frame_2 (fun E ce q H1 locs1 hE hP hS hq hv hcl => x_out hex hlocks hP hS hq hv hcl (Or.inl hE) (Nat.le_of_ble_eq_true rfl) (Nat.le_of_ble_eq_true rfl)) (fun H locs hk_1 hP hS => ?_)
  obtain ⟨r, hr0, rfl⟩ := crX_nat ok hk_1
  have er : nv (nI r) = r := nv_nI (by omega)
  refine lv_iload_n C0.hx C0.hb dX4_frame_5 rfl (lv_at hl 2 rfl) ?_
  refine lv_iconst (v := nI 4) C0.hx C0.hb dX4_frame_6 (by decide) ?_
  refine x_Si (As := [.int q, .int (nI 4)]) (rest := []) C0 (mtX4_isBelow l g a σ q (nI 4)) (xP0 _) xDj0 (va_cwS 2 C0.hts gX4_frame_X4_isBelow rfl rfl rfl (by decide +kernel) ⟨Nat.le_of_ble_eq_true rfl, Nat.le_of_ble_eq_true rfl⟩) rfl hl rfl (Nat.le_of_ble_eq_true rfl) (Nat.le_of_ble_eq_true rfl) (Nat.le_of_ble_eq_true rfl) dX4_frame_7 ?_
  refine x_SX0 (As := [.int (bI (ibX q (nI 4)))]) (rest := []) C0 (mtX4_checkArgument l hfl g a σ (ibX q (nI 4))) hP hS hT hZ (va_cwS 1 C0.hts gX4_frame_X4_checkArgument rfl rfl rfl (by decide +kernel) ⟨Nat.le_of_ble_eq_true rfl, Nat.le_of_ble_eq_true rfl⟩) rfl hl rfl (Nat.le_of_ble_eq_true rfl) (Nat.le_of_ble_eq_true rfl) (Nat.le_of_ble_eq_true rfl) dX4_frame_10 (fun E ce q H1 locs1 hE hP hS hq hv hcl => x_out hex hlocks hP hS hq hv hcl (Or.inr ⟨hk_1, Or.inl hE⟩) (Nat.le_of_ble_eq_true rfl) (Nat.le_of_ble_eq_true rfl)) (fun H locs hk_2 hP hS => ?_)
  obtain ⟨q, hq, rfl⟩ := ibX_nat (by decide) hk_2
  have eq : nv (nI q) = q := nv_nI (by omega)
  refine lv_aload_n C0.hx C0.hb dX4_frame_13 rfl (lv_at hl 0 rfl) ?_
  refine x_get C0 hP 0 (mX_n rfl) rfl rfl 3 (by decide) i_X4 k_0 rfl rfl dX4_frame_14 ?_
  refine x_getN C0 hP 4 (mX_n rfl) rfl rfl 0 (by decide) i_X1 q_2 rfl rfl dX4_frame_17 ?_
  refine lv_iload_n C0.hx C0.hb dX4_frame_20 rfl (lv_at hl 1 rfl) ?_
  refine x_aald C0 hP 16 r 60 24 (mX_n rfl) rfl (by omega) (by decide) dX4_frame_21 ?_
  refine lv_iload_n C0.hx C0.hb dX4_frame_22 rfl (lv_at hl 2 rfl) ?_
  refine x_iald C0 hP 24 q 4 (mX24 (by omega)) rfl (by omega) (by decide) dX4_frame_23 ?_
  refine vx_ret ?_
  refine W.widen (k := 2) (n := 12) (Nat.le_of_ble_eq_true rfl) (Nat.le_of_ble_eq_true rfl) ?_
  exact W.iret (v := σ 24 r q) C0.hx C0.hb hr (fun t ht hW => ⟨⟨_, σ, rfl, ⟨⟨⟨hk_1, hk_2, trivial⟩, (by rw [er, eq])⟩, rfl⟩, x_end ht hP⟩, hS.F ht⟩) hS.2.2 dX4_frame_24

set_option maxHeartbeats 4000000 in
set_option maxRecDepth 100000 in
theorem mtX4_matters (l : Launch) (hfl : l.stackTraces = false) (g : xG) (a : xAd) (σ : xS) (r q : Int32) (ok : okX σ) : xMxi l yX4_matters wsX4_matters ({ frames := 7, cells := 2, slots := 12, locals := 103 }) 2 12 NLX g a σ [.ref (a 0 0), .int r, .int q] (chOk (frC σ r q)) (σ 25 (nv r) (nv q)) σ (chEx (frC σ r q)) := by
  intro sz
  refine vx_ofW (cc := cX4_matters) (maxL := 3) (ret := (some .int)) (by decide) rfl ?_
  intro p e s m args below meth c s₁ B hml hex hv
  obtain ⟨rfl, hsz, ⟨hP, hK, hN, hj⟩, hT, hZ⟩ := hv
  subst hsz
  have hr := B.returns
  have hlocks := B.notSynchronized
  have C0 : xC p s m _ c cX4_matters 3 wsX4_matters RX4 NLX g a (xA NLX a s.heap.size) := ⟨⟨B.exec, B.bytes, hml, findClass_of_methodNamed B.named, atoms_spec (ws := wsX4_matters) B.pre⟩, hK, hN, hj, fun n h => Or.inl ⟨n, h, rfl⟩, fun q h => Or.inr h⟩
  have hS : va_S (xA NLX a s.heap.size) s.heap s.heap [] := va_S.rf
  have hl := lv_entry ([.ref (a 0 0), .int r, .int q]) (n := 3) (Nat.le_of_ble_eq_true rfl)
  rw [lg_entry_eq]
  generalize (lg_sl ([.ref (a 0 0), .int r, .int q]) ++ List.replicate (3 - (lg_sl ([.ref (a 0 0), .int r, .int q])).length) Slot.unset).toArray = ls at hl ⊢
  have hl : lv_has ls 3 [(0, .ref (a 0 0)), (1, .int r), (2, .int q)] := hl
  have k_0 : Cond.fieldLink RX4 33 RX4 (TX4 3).2.1 (TX4 3).2.2.1 ∈ wsX4_matters := by decide +kernel
  have i_X4 : ∀ w ∈ wsX40, w ∈ wsX4_matters := by decide +kernel
  have q_2 : Cond.fieldLinkNest RX4 130 RX1 (TX1 1).2.1 (TX1 1).2.2.1 RX4 ∈ xNs := by decide +kernel
  have i_X1 : ∀ w ∈ wsX10, w ∈ wsX4_matters := by decide +kernel
  refine lv_aload_n C0.hx C0.hb dX4_matters_0 rfl (lv_at hl 0 rfl) ?_
  refine lv_iload_n C0.hx C0.hb dX4_matters_1 rfl (lv_at hl 1 rfl) ?_
  refine x_VXv (As := [.int r]) (rest := []) C0 (mtX4_checkReport l hfl g a σ r ok) hP hS hT hZ (cwV 1 C0.hts gX4_matters_X4_checkReport rfl rfl rfl (by decide +kernel) ⟨Nat.le_of_ble_eq_true rfl, Nat.le_of_ble_eq_true rfl⟩) (x_recv C0 hP 0 (mX_n rfl) rfl rfl) rfl hl rfl (Nat.le_of_ble_eq_true rfl) (Nat.le_of_ble_eq_true rfl) (Nat.le_of_ble_eq_true rfl) dX4_matters_2 (fun E ce q H1 locs1 hE hP hS hq hv hcl => x_out hex hlocks hP hS hq hv hcl (Or.inl hE) (Nat.le_of_ble_eq_true rfl) (Nat.le_of_ble_eq_true rfl)) (fun H locs hk_1 hP hS => ?_)
  obtain ⟨r, hr0, rfl⟩ := crX_nat ok hk_1
  have er : nv (nI r) = r := nv_nI (by omega)
  refine lv_iload_n C0.hx C0.hb dX4_matters_5 rfl (lv_at hl 2 rfl) ?_
  refine lv_iconst (v := nI 4) C0.hx C0.hb dX4_matters_6 (by decide) ?_
  refine x_Si (As := [.int q, .int (nI 4)]) (rest := []) C0 (mtX4_isBelow l g a σ q (nI 4)) (xP0 _) xDj0 (va_cwS 2 C0.hts gX4_matters_X4_isBelow rfl rfl rfl (by decide +kernel) ⟨Nat.le_of_ble_eq_true rfl, Nat.le_of_ble_eq_true rfl⟩) rfl hl rfl (Nat.le_of_ble_eq_true rfl) (Nat.le_of_ble_eq_true rfl) (Nat.le_of_ble_eq_true rfl) dX4_matters_7 ?_
  refine x_SX0 (As := [.int (bI (ibX q (nI 4)))]) (rest := []) C0 (mtX4_checkArgument l hfl g a σ (ibX q (nI 4))) hP hS hT hZ (va_cwS 1 C0.hts gX4_matters_X4_checkArgument rfl rfl rfl (by decide +kernel) ⟨Nat.le_of_ble_eq_true rfl, Nat.le_of_ble_eq_true rfl⟩) rfl hl rfl (Nat.le_of_ble_eq_true rfl) (Nat.le_of_ble_eq_true rfl) (Nat.le_of_ble_eq_true rfl) dX4_matters_10 (fun E ce q H1 locs1 hE hP hS hq hv hcl => x_out hex hlocks hP hS hq hv hcl (Or.inr ⟨hk_1, Or.inl hE⟩) (Nat.le_of_ble_eq_true rfl) (Nat.le_of_ble_eq_true rfl)) (fun H locs hk_2 hP hS => ?_)
  obtain ⟨q, hq, rfl⟩ := ibX_nat (by decide) hk_2
  have eq : nv (nI q) = q := nv_nI (by omega)
  refine lv_aload_n C0.hx C0.hb dX4_matters_13 rfl (lv_at hl 0 rfl) ?_
  refine x_get C0 hP 0 (mX_n rfl) rfl rfl 3 (by decide) i_X4 k_0 rfl rfl dX4_matters_14 ?_
  refine x_getN C0 hP 4 (mX_n rfl) rfl rfl 1 (by decide) i_X1 q_2 rfl rfl dX4_matters_17 ?_
  refine lv_iload_n C0.hx C0.hb dX4_matters_20 rfl (lv_at hl 1 rfl) ?_
  refine x_aald C0 hP 17 r 60 25 (mX_n rfl) rfl (by omega) (by decide) dX4_matters_21 ?_
  refine lv_iload_n C0.hx C0.hb dX4_matters_22 rfl (lv_at hl 2 rfl) ?_
  refine x_iald C0 hP 25 q 4 (mX25 (by omega)) rfl (by omega) (by decide) dX4_matters_23 ?_
  refine vx_ret ?_
  refine W.widen (k := 2) (n := 12) (Nat.le_of_ble_eq_true rfl) (Nat.le_of_ble_eq_true rfl) ?_
  exact W.iret (v := σ 25 r q) C0.hx C0.hb hr (fun t ht hW => ⟨⟨_, σ, rfl, ⟨⟨⟨hk_1, hk_2, trivial⟩, (by rw [er, eq])⟩, rfl⟩, x_end ht hP⟩, hS.F ht⟩) hS.2.2 dX4_matters_24
end
section
set_option maxHeartbeats 4000000 in
set_option maxRecDepth 100000 in
theorem mtX4_bucket (l : Launch) (hfl : l.stackTraces = false) (g : xG) (a : xAd) (σ : xS) (r : Int32) (ok : okX σ) : xMxi l yX4_bucket wsX4_bucket ({ frames := 7, cells := 1, slots := 6, locals := 103 }) 1 6 NLX g a σ [.ref (a 0 0), .int r] (chOk (r1C σ r)) (σ 19 0 (nv r)) σ (chEx (r1C σ r)) := by
  intro sz
  refine vx_ofW (cc := cX4_bucket) (maxL := 2) (ret := (some .int)) (by decide) rfl ?_
  intro p e s m args below meth c s₁ B hml hex hv
  obtain ⟨rfl, hsz, ⟨hP, hK, hN, hj⟩, hT, hZ⟩ := hv
  subst hsz
  have hr := B.returns
  have hlocks := B.notSynchronized
  have C0 : xC p s m _ c cX4_bucket 2 wsX4_bucket RX4 NLX g a (xA NLX a s.heap.size) := ⟨⟨B.exec, B.bytes, hml, findClass_of_methodNamed B.named, atoms_spec (ws := wsX4_bucket) B.pre⟩, hK, hN, hj, fun n h => Or.inl ⟨n, h, rfl⟩, fun q h => Or.inr h⟩
  have hS : va_S (xA NLX a s.heap.size) s.heap s.heap [] := va_S.rf
  have hl := lv_entry ([.ref (a 0 0), .int r]) (n := 2) (Nat.le_of_ble_eq_true rfl)
  rw [lg_entry_eq]
  generalize (lg_sl ([.ref (a 0 0), .int r]) ++ List.replicate (2 - (lg_sl ([.ref (a 0 0), .int r])).length) Slot.unset).toArray = ls at hl ⊢
  have hl : lv_has ls 2 [(0, .ref (a 0 0)), (1, .int r)] := hl
  have k_0 : Cond.fieldLink RX4 33 RX4 (TX4 3).2.1 (TX4 3).2.2.1 ∈ wsX4_bucket := by decide +kernel
  have i_X4 : ∀ w ∈ wsX40, w ∈ wsX4_bucket := by decide +kernel
  have q_2 : Cond.fieldLinkNest RX4 133 RX1 (TX1 3).2.1 (TX1 3).2.2.1 RX4 ∈ xNs := by decide +kernel
  have i_X1 : ∀ w ∈ wsX10, w ∈ wsX4_bucket := by decide +kernel
  refine lv_aload_n C0.hx C0.hb dX4_bucket_0 rfl (lv_at hl 0 rfl) ?_
  refine lv_iload_n C0.hx C0.hb dX4_bucket_1 rfl (lv_at hl 1 rfl) ?_
  refine x_VXv (As := [.int r]) (rest := []) C0 (mtX4_checkReport l hfl g a σ r ok) hP hS hT hZ (cwV 1 C0.hts gX4_bucket_X4_checkReport rfl rfl rfl (by decide +kernel) ⟨Nat.le_of_ble_eq_true rfl, Nat.le_of_ble_eq_true rfl⟩) (x_recv C0 hP 0 (mX_n rfl) rfl rfl) rfl hl rfl (Nat.le_of_ble_eq_true rfl) (Nat.le_of_ble_eq_true rfl) (Nat.le_of_ble_eq_true rfl) dX4_bucket_2 (fun E ce q H1 locs1 hE hP hS hq hv hcl => x_out hex hlocks hP hS hq hv hcl (Or.inl hE) (Nat.le_of_ble_eq_true rfl) (Nat.le_of_ble_eq_true rfl)) (fun H locs hk_1 hP hS => ?_)
  obtain ⟨r, hr0, rfl⟩ := crX_nat ok hk_1
  have er : nv (nI r) = r := nv_nI (by omega)
  refine lv_aload_n C0.hx C0.hb dX4_bucket_5 rfl (lv_at hl 0 rfl) ?_
  refine x_get C0 hP 0 (mX_n rfl) rfl rfl 3 (by decide) i_X4 k_0 rfl rfl dX4_bucket_6 ?_
  refine x_getN C0 hP 4 (mX_n rfl) rfl rfl 3 (by decide) i_X1 q_2 rfl rfl dX4_bucket_9 ?_
  refine lv_iload_n C0.hx C0.hb dX4_bucket_12 rfl (lv_at hl 1 rfl) ?_
  refine x_iald C0 hP 19 r 60 (mX_n rfl) rfl (by omega) (by decide) dX4_bucket_13 ?_
  refine vx_ret ?_
  refine W.widen (k := 1) (n := 6) (Nat.le_of_ble_eq_true rfl) (Nat.le_of_ble_eq_true rfl) ?_
  exact W.iret (v := σ 19 0 r) C0.hx C0.hb hr (fun t ht hW => ⟨⟨_, σ, rfl, ⟨⟨⟨hk_1, trivial⟩, (by rw [er])⟩, rfl⟩, x_end ht hP⟩, hS.F ht⟩) hS.2.2 dX4_bucket_14

set_option maxHeartbeats 4000000 in
set_option maxRecDepth 100000 in
theorem mtX4_buckets (l : Launch) (g : xG) (a : xAd) (σ : xS) (ok : okX σ) : xMi l yX4_buckets wsX4_buckets ({ frames := 1, cells := 0, slots := 0, locals := 21 }) NLX g a σ [.ref (a 0 0)] (nI (buL σ (nv (σ 3 0 0)))) := by
  unfold xMi
  refine Met.ofW (cc := cX4_buckets) (maxL := 3) (ret := (some .int)) (by decide) rfl ?_
  intro p e s m args below meth c s₁ B hml hv
  obtain ⟨rfl, hP, hK, hN, hj⟩ := hv
  have hr := B.returns
  have hlocks := B.notSynchronized
  have C0 : xC p s m _ c cX4_buckets 3 wsX4_buckets RX4 NLX g a (xA NLX a s.heap.size) := ⟨⟨B.exec, B.bytes, hml, findClass_of_methodNamed B.named, atoms_spec (ws := wsX4_buckets) B.pre⟩, hK, hN, hj, fun n h => Or.inl ⟨n, h, rfl⟩, fun q h => Or.inr h⟩
  have hS : va_S (xA NLX a s.heap.size) s.heap s.heap [] := va_S.rf
  have hl := lv_entry ([.ref (a 0 0)]) (n := 3) (Nat.le_of_ble_eq_true rfl)
  rw [lg_entry_eq]
  generalize (lg_sl ([.ref (a 0 0)]) ++ List.replicate (3 - (lg_sl ([.ref (a 0 0)])).length) Slot.unset).toArray = ls at hl ⊢
  have hl : lv_has ls 3 [(0, .ref (a 0 0))] := hl
  have k_0 : Cond.fieldLink RX4 26 RX4 (TX4 2).2.1 (TX4 2).2.2.1 ∈ wsX4_buckets := by decide +kernel
  have i_X4 : ∀ w ∈ wsX40, w ∈ wsX4_buckets := by decide +kernel
  have q_2 : Cond.fieldLinkNest RX4 103 RX2 (TX2 0).2.1 (TX2 0).2.2.1 RX4 ∈ xNs := by decide +kernel
  have i_X2 : ∀ w ∈ wsX20, w ∈ wsX4_buckets := by decide +kernel
  have k_4 : Cond.fieldLink RX4 33 RX4 (TX4 3).2.1 (TX4 3).2.2.1 ∈ wsX4_buckets := by decide +kernel
  have m_5 : (RX4, 136, yX1_isName) ∈ xMs := by decide +kernel
  have k_6 : Cond.initialized yX1_isName.cls ∈ wsX4_buckets := by decide +kernel
  have k_7 : Cond.instanceMethod yX1_isName ∈ wsX4_buckets := by decide +kernel
  have k_8 : Cond.selects RX1 yX1_isName yX1_isName ∈ wsX4_buckets := by decide +kernel
  refine lv_iconst (v := nI 0) C0.hx C0.hb dX4_buckets_0 (by decide) ?_
  refine lv_istore_n (lv' := [(1, .int (nI 0)), (0, .ref (a 0 0))]) C0.hx C0.hb dX4_buckets_1 rfl hl (by decide) rfl (fun ls hl => ?_)
  refine lv_iconst (v := nI 0) C0.hx C0.hb dX4_buckets_2 (by decide) ?_
  refine lv_istore_n (lv' := [(2, .int (nI 0)), (1, .int (nI 0)), (0, .ref (a 0 0))]) C0.hx C0.hb dX4_buckets_3 rfl hl (by decide) rfl (fun ls hl => ?_)
  refine x_loopR (α := Nat) (fun k => 60 - k) (fun k ls => k ≤ nv (σ 3 0 0) ∧ lv_has ls 3 [(0, .ref (a 0 0)), (1, .int (nI (buL σ k))), (2, .int (nI k))]) ?_ 0 ⟨(by omega), (lv_sub hl [2, 1, 0] rfl)⟩
  rintro k ls ⟨h4_0, hl⟩ ih4
  have hn := ok.n.2
  have hb := buL_le (σ := σ) k
  refine lv_iload_n C0.hx C0.hb dX4_buckets_4 rfl (lv_at hl 2 rfl) ?_
  refine lv_aload_n C0.hx C0.hb dX4_buckets_5 rfl (lv_at hl 0 rfl) ?_
  refine x_get C0 hP 0 (mX_n rfl) rfl rfl 2 (by decide) i_X4 k_0 rfl rfl dX4_buckets_6 ?_
  refine x_getN C0 hP 3 (mX_n rfl) rfl rfl 0 (by decide) i_X2 q_2 rfl rfl dX4_buckets_9 ?_
  obtain ⟨e_1, b_2⟩ := (ok.n : inR (σ 3 0 0) _)
  refine x_top e_1 ?_
  refine x_icmp_ge (tgt := 35) C0.hx C0.hb (by omega) (by omega) dX4_buckets_12 (by decide) (fun c_3 => ?_) (fun c_3 => ?_)
  ·
    refine lv_iload_n C0.hx C0.hb dX4_buckets_35 rfl (lv_at hl 1 rfl) ?_
    exact W.iret (v := nI (buL σ k)) C0.hx C0.hb hr (fun t ht hW => ⟨_, rfl, (by rw [show k = nv (σ 3 0 0) by omega]), ht⟩) (fun q h => nomatch h) dX4_buckets_36
  ·
    refine lv_aload_n C0.hx C0.hb dX4_buckets_15 rfl (lv_at hl 0 rfl) ?_
    refine x_get C0 hP 0 (mX_n rfl) rfl rfl 3 (by decide) i_X4 k_4 rfl rfl dX4_buckets_16 ?_
    refine lv_iload_n C0.hx C0.hb dX4_buckets_19 rfl (lv_at hl 2 rfl) ?_
    refine x_VNi (As := [.int (nI k)]) (rest := []) C0 (mtX1_isName l g a σ k (by omega)) hP C0.2.2.2.1 (va_cnB 1 C0.hts gX4_buckets_X1_isName_n136 rfl rfl rfl (C0.2.2.1.2 _ m_5) (C0.hts _ k_6) (by decide +kernel) ⟨Nat.le_of_ble_eq_true rfl, Nat.le_of_ble_eq_true rfl⟩) (C0.hts _ k_7) (C0.hts _ k_8) (x_recv C0 hP 4 (mX_n rfl) rfl rfl) rfl hl rfl (Nat.le_of_ble_eq_true rfl) (Nat.zero_le _) (Nat.zero_le _) dX4_buckets_20 ?_
    refine x_ifeq (tgt := 29) C0.hx C0.hb dX4_buckets_23 (by decide) (fun c_4 => ?_) (fun c_4 => ?_)
    ·
      have e29 : buL σ (k + 1) = buL σ k := by rw [buL, if_neg (by simpa using c_4)]; rfl
      rw [← e29] at hl
      refine lv_iinc (v := nI (k + 1)) (lv' := [(2, .int (nI (k + 1))), (0, .ref (a 0 0)), (1, .int (nI (buL σ (k + 1))))]) C0.hx C0.hb dX4_buckets_29 hl (k := 2) rfl (nI_1 k) (by decide) rfl (fun ls hl => ?_)
      refine lv_goto (tgt := 4) C0.hx C0.hb dX4_buckets_32 (by decide) ?_
      exact ih4 ((k + 1)) ls ⟨(by omega), (lv_sub hl [1, 2, 0] rfl)⟩ (by omega)
    ·
      refine lv_iinc (v := nI (buL σ k + 1)) (lv' := [(1, .int (nI (buL σ k + 1))), (0, .ref (a 0 0)), (2, .int (nI k))]) C0.hx C0.hb dX4_buckets_26 hl (k := 1) rfl (nI_1 (buL σ k)) (by decide) rfl (fun ls hl => ?_)
      have e29 : buL σ (k + 1) = buL σ k + 1 := by rw [buL, if_pos (by simpa using c_4)]
      rw [← e29] at hl
      refine lv_iinc (v := nI (k + 1)) (lv' := [(2, .int (nI (k + 1))), (1, .int (nI (buL σ (k + 1)))), (0, .ref (a 0 0))]) C0.hx C0.hb dX4_buckets_29 hl (k := 2) rfl (nI_1 k) (by decide) rfl (fun ls hl => ?_)
      refine lv_goto (tgt := 4) C0.hx C0.hb dX4_buckets_32 (by decide) ?_
      exact ih4 ((k + 1)) ls ⟨(by omega), (lv_sub hl [2, 1, 0] rfl)⟩ (by omega)

set_option maxHeartbeats 4000000 in
set_option maxRecDepth 100000 in
theorem mtX4_size (l : Launch) (hfl : l.stackTraces = false) (g : xG) (a : xAd) (σ : xS) (r : Int32) (ok : okX σ) : xMxi l yX4_size wsX4_size ({ frames := 7, cells := 1, slots := 6, locals := 103 }) 1 6 NLX g a σ [.ref (a 0 0), .int r] (chOk (r1C σ r)) (nI (siL σ (σ 19 0 (nv r)) 4)) σ (chEx (r1C σ r)) := by
  intro sz
  refine vx_ofW (cc := cX4_size) (maxL := 4) (ret := (some .int)) (by decide) rfl ?_
  intro p e s m args below meth c s₁ B hml hex hv
  obtain ⟨rfl, hsz, ⟨hP, hK, hN, hj⟩, hT, hZ⟩ := hv
  subst hsz
  have hr := B.returns
  have hlocks := B.notSynchronized
  have C0 : xC p s m _ c cX4_size 4 wsX4_size RX4 NLX g a (xA NLX a s.heap.size) := ⟨⟨B.exec, B.bytes, hml, findClass_of_methodNamed B.named, atoms_spec (ws := wsX4_size) B.pre⟩, hK, hN, hj, fun n h => Or.inl ⟨n, h, rfl⟩, fun q h => Or.inr h⟩
  have hS : va_S (xA NLX a s.heap.size) s.heap s.heap [] := va_S.rf
  have hl := lv_entry ([.ref (a 0 0), .int r]) (n := 4) (Nat.le_of_ble_eq_true rfl)
  rw [lg_entry_eq]
  generalize (lg_sl ([.ref (a 0 0), .int r]) ++ List.replicate (4 - (lg_sl ([.ref (a 0 0), .int r])).length) Slot.unset).toArray = ls at hl ⊢
  have hl : lv_has ls 4 [(0, .ref (a 0 0)), (1, .int r)] := hl
  have k_0 : Cond.fieldLink RX4 33 RX4 (TX4 3).2.1 (TX4 3).2.2.1 ∈ wsX4_size := by decide +kernel
  have i_X4 : ∀ w ∈ wsX40, w ∈ wsX4_size := by decide +kernel
  have q_2 : Cond.fieldLinkNest RX4 133 RX1 (TX1 3).2.1 (TX1 3).2.2.1 RX4 ∈ xNs := by decide +kernel
  have i_X1 : ∀ w ∈ wsX10, w ∈ wsX4_size := by decide +kernel
  refine lv_aload_n C0.hx C0.hb dX4_size_0 rfl (lv_at hl 0 rfl) ?_
  refine lv_iload_n C0.hx C0.hb dX4_size_1 rfl (lv_at hl 1 rfl) ?_
  refine x_VXv (As := [.int r]) (rest := []) C0 (mtX4_checkReport l hfl g a σ r ok) hP hS hT hZ (cwV 1 C0.hts gX4_size_X4_checkReport rfl rfl rfl (by decide +kernel) ⟨Nat.le_of_ble_eq_true rfl, Nat.le_of_ble_eq_true rfl⟩) (x_recv C0 hP 0 (mX_n rfl) rfl rfl) rfl hl rfl (Nat.le_of_ble_eq_true rfl) (Nat.le_of_ble_eq_true rfl) (Nat.le_of_ble_eq_true rfl) dX4_size_2 (fun E ce q H1 locs1 hE hP hS hq hv hcl => x_out hex hlocks hP hS hq hv hcl (Or.inl hE) (Nat.le_of_ble_eq_true rfl) (Nat.le_of_ble_eq_true rfl)) (fun H locs hk_1 hP hS => ?_)
  obtain ⟨r, hr0, rfl⟩ := crX_nat ok hk_1
  have er : nv (nI r) = r := nv_nI (by omega)
  refine lv_iconst (v := nI 0) C0.hx C0.hb dX4_size_5 (by decide) ?_
  refine lv_istore_n (lv' := [(2, .int (nI 0)), (0, .ref (a 0 0)), (1, .int (nI r))]) C0.hx C0.hb dX4_size_6 rfl hl (by decide) rfl (fun ls hl => ?_)
  refine lv_iconst (v := nI 0) C0.hx C0.hb dX4_size_7 (by decide) ?_
  refine lv_istore_n (lv' := [(3, .int (nI 0)), (2, .int (nI 0)), (0, .ref (a 0 0)), (1, .int (nI r))]) C0.hx C0.hb dX4_size_8 rfl hl (by decide) rfl (fun ls hl => ?_)
  refine x_loopR (α := Nat) (fun k => 4 - k) (fun k ls => k ≤ 4 ∧ lv_has ls 4 [(0, .ref (a 0 0)), (1, .int (nI r)), (2, .int (nI (siL σ (σ 19 0 r) k))), (3, .int (nI k))]) ?_ 0 ⟨(by omega), (lv_sub hl [2, 3, 1, 0] rfl)⟩
  rintro k ls ⟨h9_0, hl⟩ ih9
  have hb := siL_le (nm := σ 19 0 r) ok k
  refine lv_iload_n C0.hx C0.hb dX4_size_9 rfl (lv_at hl 3 rfl) ?_
  refine lv_iconst (v := nI 4) C0.hx C0.hb dX4_size_10 (by decide) ?_
  refine x_icmp_ge (tgt := 37) C0.hx C0.hb (by omega) (by omega) dX4_size_11 (by decide) (fun c_2 => ?_) (fun c_2 => ?_)
  ·
    refine lv_iload_n C0.hx C0.hb dX4_size_37 rfl (lv_at hl 2 rfl) ?_
    refine vx_ret ?_
    refine W.widen (k := 1) (n := 6) (Nat.le_of_ble_eq_true rfl) (Nat.le_of_ble_eq_true rfl) ?_
    exact W.iret (v := nI (siL σ (σ 19 0 r) k)) C0.hx C0.hb hr (fun t ht hW => ⟨⟨_, σ, rfl, ⟨⟨⟨hk_1, trivial⟩, (by rw [er, show k = 4 by omega])⟩, rfl⟩, x_end ht hP⟩, hS.F ht⟩) hS.2.2 dX4_size_38
  ·
    refine lv_iload_n C0.hx C0.hb dX4_size_14 rfl (lv_at hl 2 rfl) ?_
    refine lv_aload_n C0.hx C0.hb dX4_size_15 rfl (lv_at hl 0 rfl) ?_
    refine lv_aload_n C0.hx C0.hb dX4_size_16 rfl (lv_at hl 0 rfl) ?_
    refine x_get C0 hP 0 (mX_n rfl) rfl rfl 3 (by decide) i_X4 k_0 rfl rfl dX4_size_17 ?_
    refine x_getN C0 hP 4 (mX_n rfl) rfl rfl 3 (by decide) i_X1 q_2 rfl rfl dX4_size_20 ?_
    refine lv_iload_n C0.hx C0.hb dX4_size_23 rfl (lv_at hl 1 rfl) ?_
    refine x_iald C0 hP 19 r 60 (mX_n rfl) rfl (by omega) (by decide) dX4_size_24 ?_
    refine lv_iload_n C0.hx C0.hb dX4_size_25 rfl (lv_at hl 3 rfl) ?_
    refine x_Vi (As := [.int (σ 19 0 r), .int (nI k)]) (rest := [.int (nI (siL σ (σ 19 0 r) k))]) C0 (mtX4_countIn l g a σ (σ 19 0 r) k (by omega) ok) hP C0.2.2.2.1 (cwV 2 C0.hts gX4_size_X4_countIn rfl rfl rfl (by decide +kernel) ⟨Nat.le_of_ble_eq_true rfl, Nat.le_of_ble_eq_true rfl⟩) (x_recv C0 hP 0 (mX_n rfl) rfl rfl) rfl hl rfl (Nat.le_of_ble_eq_true rfl) (Nat.le_of_ble_eq_true rfl) (Nat.le_of_ble_eq_true rfl) dX4_size_26 ?_
    refine lv_iadd C0.hx C0.hb dX4_size_29 ?_
    refine x_top (nI_add (siL σ (σ 19 0 r) k) (coX σ (σ 19 0 r) k)) ?_
    refine lv_istore_n (lv' := [(2, .int (nI ((siL σ (σ 19 0 r) k) + (coX σ (σ 19 0 r) k)))), (0, .ref (a 0 0)), (1, .int (nI r)), (3, .int (nI k))]) C0.hx C0.hb dX4_size_30 rfl hl (by decide) rfl (fun ls hl => ?_)
    have e31 : siL σ (σ 19 0 r) (k + 1) = (siL σ (σ 19 0 r) k) + (coX σ (σ 19 0 r) k) := rfl
    rw [← e31] at hl
    refine lv_iinc (v := nI (k + 1)) (lv' := [(3, .int (nI (k + 1))), (2, .int (nI (siL σ (σ 19 0 r) (k + 1)))), (0, .ref (a 0 0)), (1, .int (nI r))]) C0.hx C0.hb dX4_size_31 hl (k := 3) rfl (nI_1 k) (by decide) rfl (fun ls hl => ?_)
    refine lv_goto (tgt := 9) C0.hx C0.hb dX4_size_34 (by decide) ?_
    exact ih9 ((k + 1)) ls ⟨(by omega), (lv_sub hl [2, 3, 1, 0] rfl)⟩ (by omega)

set_option maxHeartbeats 4000000 in
set_option maxRecDepth 100000 in
theorem mtX4_setSessions (l : Launch) (hfl : l.stackTraces = false) (g : xG) (a : xAd) (σ : xS) (v n : Int32) (ok : okX σ) : xMxi l yX4_setSessions wsX4_setSessions ({ frames := 7, cells := 1, slots := 6, locals := 102 }) 1 6 NLX g a σ [.ref (a 0 0), .int v, .int n] (chOk (ssC v n)) (σ 5 0 (nv v)) (ssS σ v n) (chEx (ssC v n)) := by
  intro sz
  refine vx_ofW (cc := cX4_setSessions) (maxL := 4) (ret := (some .int)) (by decide) rfl ?_
  intro p e s m args below meth c s₁ B hml hex hv
  obtain ⟨rfl, hsz, ⟨hP, hK, hN, hj⟩, hT, hZ⟩ := hv
  subst hsz
  have hr := B.returns
  have hlocks := B.notSynchronized
  have C0 : xC p s m _ c cX4_setSessions 4 wsX4_setSessions RX4 NLX g a (xA NLX a s.heap.size) := ⟨⟨B.exec, B.bytes, hml, findClass_of_methodNamed B.named, atoms_spec (ws := wsX4_setSessions) B.pre⟩, hK, hN, hj, fun n h => Or.inl ⟨n, h, rfl⟩, fun q h => Or.inr h⟩
  have hS : va_S (xA NLX a s.heap.size) s.heap s.heap [] := va_S.rf
  have hl := lv_entry ([.ref (a 0 0), .int v, .int n]) (n := 4) (Nat.le_of_ble_eq_true rfl)
  rw [lg_entry_eq]
  generalize (lg_sl ([.ref (a 0 0), .int v, .int n]) ++ List.replicate (4 - (lg_sl ([.ref (a 0 0), .int v, .int n])).length) Slot.unset).toArray = ls at hl ⊢
  have hl : lv_has ls 4 [(0, .ref (a 0 0)), (1, .int v), (2, .int n)] := hl
  have k_0 : Cond.fieldLink RX4 37 RX4 (TX4 4).2.1 (TX4 4).2.2.1 ∈ wsX4_setSessions := by decide +kernel
  have i_X4 : ∀ w ∈ wsX40, w ∈ wsX4_setSessions := by decide +kernel
  have k_2 : Cond.constant RX4 142 (1000000 : Int32) ∈ wsX4_setSessions := by decide +kernel
  refine x_join (α := Bool) 23 (fun b H' locs' ls => (H' = s.heap ∧ locs' = [] ∧ b = (ibX v (nI 4) && (decide (¬ n < 0) && decide (¬ 1000000 < n)))) ∧ lv_has ls 4 [(0, .ref (a 0 0)), (1, .int v), (2, .int n)]) (fun b => [.int (bI b)]) ?_ (fun J23 => ?_)
  · rintro b _ _ ls ⟨⟨rfl, rfl, hb23⟩, hl⟩
    subst hb23
    refine x_SX0 (As := [.int (bI (ibX v (nI 4) && (decide (¬ n < 0) && decide (¬ 1000000 < n))))]) (rest := []) C0 (mtX4_checkArgument l hfl g a σ (ibX v (nI 4) && (decide (¬ n < 0) && decide (¬ 1000000 < n)))) hP hS hT hZ (va_cwS 1 C0.hts gX4_setSessions_X4_checkArgument rfl rfl rfl (by decide +kernel) ⟨Nat.le_of_ble_eq_true rfl, Nat.le_of_ble_eq_true rfl⟩) rfl hl rfl (Nat.le_of_ble_eq_true rfl) (Nat.le_of_ble_eq_true rfl) (Nat.le_of_ble_eq_true rfl) dX4_setSessions_23 (fun E ce q H1 locs1 hE hP hS hq hv hcl => x_out hex hlocks hP hS hq hv hcl (Or.inl hE) (Nat.le_of_ble_eq_true rfl) (Nat.le_of_ble_eq_true rfl)) (fun H locs hk_1 hP hS => ?_)
    have hA := hk_1
    simp only [Bool.and_eq_true] at hA
    obtain ⟨v, hv, rfl⟩ := ibX_nat (by decide) hA.1
    have ev : nv (nI v) = v := nv_nI (by omega)
    refine lv_aload_n C0.hx C0.hb dX4_setSessions_26 rfl (lv_at hl 0 rfl) ?_
    refine x_get C0 hP 0 (mX_n rfl) rfl rfl 4 (by decide) i_X4 k_0 rfl rfl dX4_setSessions_27 ?_
    refine lv_iload_n C0.hx C0.hb dX4_setSessions_30 rfl (lv_at hl 1 rfl) ?_
    refine x_iald C0 hP 5 v 4 (mX_n rfl) rfl (by omega) (by decide) dX4_setSessions_31 ?_
    refine lv_istore_n (lv' := [(3, .int (σ 5 0 v)), (0, .ref (a 0 0)), (1, .int (nI v)), (2, .int n)]) C0.hx C0.hb dX4_setSessions_32 rfl hl (by decide) rfl (fun ls hl => ?_)
    refine lv_aload_n C0.hx C0.hb dX4_setSessions_33 rfl (lv_at hl 1 rfl) ?_
    refine x_get C0 hP 0 (mX_n rfl) rfl rfl 4 (by decide) i_X4 k_0 rfl rfl dX4_setSessions_34 ?_
    refine lv_iload_n C0.hx C0.hb dX4_setSessions_37 rfl (lv_at hl 2 rfl) ?_
    refine lv_iload_n C0.hx C0.hb dX4_setSessions_38 rfl (lv_at hl 3 rfl) ?_
    refine x_iast C0 hP hS 5 v 4 (v := n) (mX_n rfl) (fun _ => rfl) (by omega) (by decide) dX4_setSessions_39 (fun H locs hP hS => ?_)
    refine lv_iload_n C0.hx C0.hb dX4_setSessions_40 rfl (lv_at hl 0 rfl) ?_
    refine vx_ret ?_
    refine W.widen (k := 1) (n := 6) (Nat.le_of_ble_eq_true rfl) (Nat.le_of_ble_eq_true rfl) ?_
    exact W.iret (v := σ 5 0 v) C0.hx C0.hb hr (fun t ht hW => ⟨⟨_, up3 σ 5 0 v n, rfl, ⟨⟨⟨hk_1, trivial⟩, (by rw [ev])⟩, (by unfold ssS; rw [ev])⟩, x_end ht hP⟩, hS.F ht⟩) hS.2.2 dX4_setSessions_41
  ·
    refine lv_iload_n C0.hx C0.hb dX4_setSessions_0 rfl (lv_at hl 1 rfl) ?_
    refine lv_iconst (v := nI 4) C0.hx C0.hb dX4_setSessions_1 (by decide) ?_
    refine x_Si (As := [.int v, .int (nI 4)]) (rest := []) C0 (mtX4_isBelow l g a σ v (nI 4)) (xP0 _) xDj0 (va_cwS 2 C0.hts gX4_setSessions_X4_isBelow rfl rfl rfl (by decide +kernel) ⟨Nat.le_of_ble_eq_true rfl, Nat.le_of_ble_eq_true rfl⟩) rfl hl rfl (Nat.le_of_ble_eq_true rfl) (Nat.le_of_ble_eq_true rfl) (Nat.le_of_ble_eq_true rfl) dX4_setSessions_2 ?_
    refine x_ifeq (tgt := 22) C0.hx C0.hb dX4_setSessions_5 (by decide) (fun c_2 => ?_) (fun c_2 => ?_)
    ·
      refine lv_iconst (v := nI 0) C0.hx C0.hb dX4_setSessions_22 (by decide) ?_
      exact J23 false _ _ ls ⟨⟨rfl, rfl, (by simp [c_2])⟩, (lv_sub hl [0, 1, 2] rfl)⟩
    ·
      refine lv_iload_n C0.hx C0.hb dX4_setSessions_8 rfl (lv_at hl 2 rfl) ?_
      refine lv_if_lt (tgt := 22) C0.hx C0.hb dX4_setSessions_9 (by decide) (fun c_3 => ?_) (fun c_3 => ?_)
      ·
        refine lv_iconst (v := nI 0) C0.hx C0.hb dX4_setSessions_22 (by decide) ?_
        exact J23 false _ _ ls ⟨⟨rfl, rfl, (by simp [c_3, c_2])⟩, (lv_sub hl [0, 1, 2] rfl)⟩
      ·
        refine lv_iload_n C0.hx C0.hb dX4_setSessions_12 rfl (lv_at hl 2 rfl) ?_
        refine lv_ldc C0.hx C0.hb C0.1.2.2.2.1 (C0.hts _ k_2) dX4_setSessions_13 ?_
        refine lv_icmp_gt (tgt := 22) C0.hx C0.hb dX4_setSessions_15 (by decide) (fun c_4 => ?_) (fun c_4 => ?_)
        ·
          refine lv_iconst (v := nI 0) C0.hx C0.hb dX4_setSessions_22 (by decide) ?_
          exact J23 false _ _ ls ⟨⟨rfl, rfl, (by simp [c_4, c_3, c_2])⟩, (lv_sub hl [0, 1, 2] rfl)⟩
        ·
          refine lv_iconst (v := nI 1) C0.hx C0.hb dX4_setSessions_18 (by decide) ?_
          refine lv_goto (tgt := 23) C0.hx C0.hb dX4_setSessions_19 (by decide) ?_
          exact J23 true _ _ ls ⟨⟨rfl, rfl, (by simp [c_4, c_3, c_2])⟩, (lv_sub hl [0, 1, 2] rfl)⟩

set_option maxHeartbeats 4000000 in
set_option maxRecDepth 100000 in
theorem mtX4_setLimit (l : Launch) (hfl : l.stackTraces = false) (g : xG) (a : xAd) (σ : xS) (n : Int32) : xMxi l yX4_setLimit wsX4_setLimit ({ frames := 7, cells := 1, slots := 6, locals := 102 }) 1 6 NLX g a σ [.ref (a 0 0), .int n] (chOk (slC n)) (σ 0 0 0) (slS σ n) (chEx (slC n)) := by
  intro sz
  refine vx_ofW (cc := cX4_setLimit) (maxL := 3) (ret := (some .int)) (by decide) rfl ?_
  intro p e s m args below meth c s₁ B hml hex hv
  obtain ⟨rfl, hsz, ⟨hP, hK, hN, hj⟩, hT, hZ⟩ := hv
  subst hsz
  have hr := B.returns
  have hlocks := B.notSynchronized
  have C0 : xC p s m _ c cX4_setLimit 3 wsX4_setLimit RX4 NLX g a (xA NLX a s.heap.size) := ⟨⟨B.exec, B.bytes, hml, findClass_of_methodNamed B.named, atoms_spec (ws := wsX4_setLimit) B.pre⟩, hK, hN, hj, fun n h => Or.inl ⟨n, h, rfl⟩, fun q h => Or.inr h⟩
  have hS : va_S (xA NLX a s.heap.size) s.heap s.heap [] := va_S.rf
  have hl := lv_entry ([.ref (a 0 0), .int n]) (n := 3) (Nat.le_of_ble_eq_true rfl)
  rw [lg_entry_eq]
  generalize (lg_sl ([.ref (a 0 0), .int n]) ++ List.replicate (3 - (lg_sl ([.ref (a 0 0), .int n])).length) Slot.unset).toArray = ls at hl ⊢
  have hl : lv_has ls 3 [(0, .ref (a 0 0)), (1, .int n)] := hl
  have k_0 : Cond.fieldLink RX4 41 RX4 (TX4 5).2.1 (TX4 5).2.2.1 ∈ wsX4_setLimit := by decide +kernel
  have i_X4 : ∀ w ∈ wsX40, w ∈ wsX4_setLimit := by decide +kernel
  refine x_join (α := Bool) 17 (fun b H' locs' ls => (H' = s.heap ∧ locs' = [] ∧ b = (decide (¬ n < nI 1) && decide (¬ nI 10000 < n))) ∧ lv_has ls 3 [(0, .ref (a 0 0)), (1, .int n)]) (fun b => [.int (bI b)]) ?_ (fun J17 => ?_)
  · rintro b _ _ ls ⟨⟨rfl, rfl, hb17⟩, hl⟩
    subst hb17
    refine x_SX0 (As := [.int (bI (decide (¬ n < nI 1) && decide (¬ nI 10000 < n)))]) (rest := []) C0 (mtX4_checkArgument l hfl g a σ (decide (¬ n < nI 1) && decide (¬ nI 10000 < n))) hP hS hT hZ (va_cwS 1 C0.hts gX4_setLimit_X4_checkArgument rfl rfl rfl (by decide +kernel) ⟨Nat.le_of_ble_eq_true rfl, Nat.le_of_ble_eq_true rfl⟩) rfl hl rfl (Nat.le_of_ble_eq_true rfl) (Nat.le_of_ble_eq_true rfl) (Nat.le_of_ble_eq_true rfl) dX4_setLimit_17 (fun E ce q H1 locs1 hE hP hS hq hv hcl => x_out hex hlocks hP hS hq hv hcl (Or.inl hE) (Nat.le_of_ble_eq_true rfl) (Nat.le_of_ble_eq_true rfl)) (fun H locs hk_1 hP hS => ?_)
    refine lv_aload_n C0.hx C0.hb dX4_setLimit_20 rfl (lv_at hl 0 rfl) ?_
    refine x_get C0 hP 0 (mX_n rfl) rfl rfl 5 (by decide) i_X4 k_0 rfl rfl dX4_setLimit_21 ?_
    refine lv_istore_n (lv' := [(2, .int (σ 0 0 0)), (0, .ref (a 0 0)), (1, .int n)]) C0.hx C0.hb dX4_setLimit_24 rfl hl (by decide) rfl (fun ls hl => ?_)
    refine lv_aload_n C0.hx C0.hb dX4_setLimit_25 rfl (lv_at hl 1 rfl) ?_
    refine lv_iload_n C0.hx C0.hb dX4_setLimit_26 rfl (lv_at hl 2 rfl) ?_
    refine x_put C0 hP hS 0 (mX_n rfl) rfl rfl tyX4 tyX4_ok nmX4 5 (by decide) i_X4 k_0 rfl rfl 0 rfl (Nat.le_of_ble_eq_true rfl) rfl dX4_setLimit_27 (fun H locs hP hS => ?_)
    refine lv_iload_n C0.hx C0.hb dX4_setLimit_30 rfl (lv_at hl 0 rfl) ?_
    refine vx_ret ?_
    refine W.widen (k := 1) (n := 6) (Nat.le_of_ble_eq_true rfl) (Nat.le_of_ble_eq_true rfl) ?_
    exact W.iret (v := σ 0 0 0) C0.hx C0.hb hr (fun t ht hW => ⟨⟨_, up3 σ 0 0 0 n, rfl, ⟨⟨⟨hk_1, trivial⟩, rfl⟩, rfl⟩, x_end ht hP⟩, hS.F ht⟩) hS.2.2 dX4_setLimit_31
  ·
    refine lv_iload_n C0.hx C0.hb dX4_setLimit_0 rfl (lv_at hl 1 rfl) ?_
    refine lv_iconst (v := nI 1) C0.hx C0.hb dX4_setLimit_1 (by decide) ?_
    refine lv_icmp_lt (tgt := 16) C0.hx C0.hb dX4_setLimit_2 (by decide) (fun c_2 => ?_) (fun c_2 => ?_)
    ·
      refine lv_iconst (v := nI 0) C0.hx C0.hb dX4_setLimit_16 (by decide) ?_
      exact J17 false _ _ ls ⟨⟨rfl, rfl, (by simp [c_2])⟩, (lv_sub hl [0, 1] rfl)⟩
    ·
      refine lv_iload_n C0.hx C0.hb dX4_setLimit_5 rfl (lv_at hl 1 rfl) ?_
      refine lv_sipush (v := nI 10000) C0.hx C0.hb dX4_setLimit_6 (by decide) ?_
      refine lv_icmp_gt (tgt := 16) C0.hx C0.hb dX4_setLimit_9 (by decide) (fun c_3 => ?_) (fun c_3 => ?_)
      ·
        refine lv_iconst (v := nI 0) C0.hx C0.hb dX4_setLimit_16 (by decide) ?_
        exact J17 false _ _ ls ⟨⟨rfl, rfl, (by simp [c_3, c_2])⟩, (lv_sub hl [0, 1] rfl)⟩
      ·
        refine lv_iconst (v := nI 1) C0.hx C0.hb dX4_setLimit_12 (by decide) ?_
        refine lv_goto (tgt := 17) C0.hx C0.hb dX4_setLimit_13 (by decide) ?_
        exact J17 true _ _ ls ⟨⟨rfl, rfl, (by simp [c_3, c_2])⟩, (lv_sub hl [0, 1] rfl)⟩

set_option maxHeartbeats 4000000 in
set_option maxRecDepth 100000 in
theorem mtX4_rate (l : Launch) (hfl : l.stackTraces = false) (g : xG) (a : xAd) (σ : xS) (r q : Int32) (ok : okX σ) : xMxi l yX4_rate wsX4_rate ({ frames := 7, cells := 2, slots := 12, locals := 103 }) 2 12 NLX g a σ [.ref (a 0 0), .int r, .int q] (chOk (frC σ r q)) (nI (rtX σ (σ 19 0 (nv r)) (nv q))) σ (chEx (frC σ r q)) := by
  intro sz
  refine vx_ofW (cc := cX4_rate) (maxL := 3) (ret := (some .int)) (by decide) rfl ?_
  intro p e s m args below meth c s₁ B hml hex hv
  obtain ⟨rfl, hsz, ⟨hP, hK, hN, hj⟩, hT, hZ⟩ := hv
  subst hsz
  have hr := B.returns
  have hlocks := B.notSynchronized
  have C0 : xC p s m _ c cX4_rate 3 wsX4_rate RX4 NLX g a (xA NLX a s.heap.size) := ⟨⟨B.exec, B.bytes, hml, findClass_of_methodNamed B.named, atoms_spec (ws := wsX4_rate) B.pre⟩, hK, hN, hj, fun n h => Or.inl ⟨n, h, rfl⟩, fun q h => Or.inr h⟩
  have hS : va_S (xA NLX a s.heap.size) s.heap s.heap [] := va_S.rf
  have hl := lv_entry ([.ref (a 0 0), .int r, .int q]) (n := 3) (Nat.le_of_ble_eq_true rfl)
  rw [lg_entry_eq]
  generalize (lg_sl ([.ref (a 0 0), .int r, .int q]) ++ List.replicate (3 - (lg_sl ([.ref (a 0 0), .int r, .int q])).length) Slot.unset).toArray = ls at hl ⊢
  have hl : lv_has ls 3 [(0, .ref (a 0 0)), (1, .int r), (2, .int q)] := hl
  have k_0 : Cond.fieldLink RX4 33 RX4 (TX4 3).2.1 (TX4 3).2.2.1 ∈ wsX4_rate := by decide +kernel
  have i_X4 : ∀ w ∈ wsX40, w ∈ wsX4_rate := by decide +kernel
  have q_2 : Cond.fieldLinkNest RX4 133 RX1 (TX1 3).2.1 (TX1 3).2.2.1 RX4 ∈ xNs := by decide +kernel
  have i_X1 : ∀ w ∈ wsX10, w ∈ wsX4_rate := by decide +kernel
  refine lv_aload_n C0.hx C0.hb dX4_rate_0 rfl (lv_at hl 0 rfl) ?_
  refine lv_iload_n C0.hx C0.hb dX4_rate_1 rfl (lv_at hl 1 rfl) ?_
  refine x_VXv (As := [.int r]) (rest := []) C0 (mtX4_checkReport l hfl g a σ r ok) hP hS hT hZ (cwV 1 C0.hts gX4_rate_X4_checkReport rfl rfl rfl (by decide +kernel) ⟨Nat.le_of_ble_eq_true rfl, Nat.le_of_ble_eq_true rfl⟩) (x_recv C0 hP 0 (mX_n rfl) rfl rfl) rfl hl rfl (Nat.le_of_ble_eq_true rfl) (Nat.le_of_ble_eq_true rfl) (Nat.le_of_ble_eq_true rfl) dX4_rate_2 (fun E ce q H1 locs1 hE hP hS hq hv hcl => x_out hex hlocks hP hS hq hv hcl (Or.inl hE) (Nat.le_of_ble_eq_true rfl) (Nat.le_of_ble_eq_true rfl)) (fun H locs hk_1 hP hS => ?_)
  obtain ⟨r, hr0, rfl⟩ := crX_nat ok hk_1
  have er : nv (nI r) = r := nv_nI (by omega)
  refine lv_iload_n C0.hx C0.hb dX4_rate_5 rfl (lv_at hl 2 rfl) ?_
  refine lv_iconst (v := nI 4) C0.hx C0.hb dX4_rate_6 (by decide) ?_
  refine x_Si (As := [.int q, .int (nI 4)]) (rest := []) C0 (mtX4_isBelow l g a σ q (nI 4)) (xP0 _) xDj0 (va_cwS 2 C0.hts gX4_rate_X4_isBelow rfl rfl rfl (by decide +kernel) ⟨Nat.le_of_ble_eq_true rfl, Nat.le_of_ble_eq_true rfl⟩) rfl hl rfl (Nat.le_of_ble_eq_true rfl) (Nat.le_of_ble_eq_true rfl) (Nat.le_of_ble_eq_true rfl) dX4_rate_7 ?_
  refine x_SX0 (As := [.int (bI (ibX q (nI 4)))]) (rest := []) C0 (mtX4_checkArgument l hfl g a σ (ibX q (nI 4))) hP hS hT hZ (va_cwS 1 C0.hts gX4_rate_X4_checkArgument rfl rfl rfl (by decide +kernel) ⟨Nat.le_of_ble_eq_true rfl, Nat.le_of_ble_eq_true rfl⟩) rfl hl rfl (Nat.le_of_ble_eq_true rfl) (Nat.le_of_ble_eq_true rfl) (Nat.le_of_ble_eq_true rfl) dX4_rate_10 (fun E ce q H1 locs1 hE hP hS hq hv hcl => x_out hex hlocks hP hS hq hv hcl (Or.inr ⟨hk_1, Or.inl hE⟩) (Nat.le_of_ble_eq_true rfl) (Nat.le_of_ble_eq_true rfl)) (fun H locs hk_2 hP hS => ?_)
  obtain ⟨q, hq, rfl⟩ := ibX_nat (by decide) hk_2
  have eq : nv (nI q) = q := nv_nI (by omega)
  refine lv_aload_n C0.hx C0.hb dX4_rate_13 rfl (lv_at hl 0 rfl) ?_
  refine lv_aload_n C0.hx C0.hb dX4_rate_14 rfl (lv_at hl 0 rfl) ?_
  refine x_get C0 hP 0 (mX_n rfl) rfl rfl 3 (by decide) i_X4 k_0 rfl rfl dX4_rate_15 ?_
  refine x_getN C0 hP 4 (mX_n rfl) rfl rfl 3 (by decide) i_X1 q_2 rfl rfl dX4_rate_18 ?_
  refine lv_iload_n C0.hx C0.hb dX4_rate_21 rfl (lv_at hl 1 rfl) ?_
  refine x_iald C0 hP 19 r 60 (mX_n rfl) rfl (by omega) (by decide) dX4_rate_22 ?_
  refine lv_iload_n C0.hx C0.hb dX4_rate_23 rfl (lv_at hl 2 rfl) ?_
  refine x_Vi (As := [.int (σ 19 0 r), .int (nI q)]) (rest := []) C0 (mtX4_rateOf l g a σ (σ 19 0 r) q (by omega) ok) hP C0.2.2.2.1 (cwV 2 C0.hts gX4_rate_X4_rateOf rfl rfl rfl (by decide +kernel) ⟨Nat.le_of_ble_eq_true rfl, Nat.le_of_ble_eq_true rfl⟩) (x_recv C0 hP 0 (mX_n rfl) rfl rfl) rfl hl rfl (Nat.le_of_ble_eq_true rfl) (Nat.le_of_ble_eq_true rfl) (Nat.le_of_ble_eq_true rfl) dX4_rate_24 ?_
  refine vx_ret ?_
  refine W.widen (k := 2) (n := 12) (Nat.le_of_ble_eq_true rfl) (Nat.le_of_ble_eq_true rfl) ?_
  exact W.iret (v := nI (rtX σ (σ 19 0 r) q)) C0.hx C0.hb hr (fun t ht hW => ⟨⟨_, σ, rfl, ⟨⟨⟨hk_1, hk_2, trivial⟩, (by rw [er, eq])⟩, rfl⟩, x_end ht hP⟩, hS.F ht⟩) hS.2.2 dX4_rate_27

set_option maxHeartbeats 4000000 in
set_option maxRecDepth 100000 in
theorem mtX4_users (l : Launch) (hfl : l.stackTraces = false) (g : xG) (a : xAd) (σ : xS) (r q : Int32) (ok : okX σ) : xMxi l yX4_users wsX4_users ({ frames := 7, cells := 2, slots := 12, locals := 103 }) 2 12 NLX g a σ [.ref (a 0 0), .int r, .int q] (chOk (frC σ r q)) (ucX σ (σ 19 0 (nv r)) (nv q)) σ (chEx (frC σ r q)) := by
  intro sz
  refine vx_ofW (cc := cX4_users) (maxL := 3) (ret := (some .int)) (by decide) rfl ?_
  intro p e s m args below meth c s₁ B hml hex hv
  obtain ⟨rfl, hsz, ⟨hP, hK, hN, hj⟩, hT, hZ⟩ := hv
  subst hsz
  have hr := B.returns
  have hlocks := B.notSynchronized
  have C0 : xC p s m _ c cX4_users 3 wsX4_users RX4 NLX g a (xA NLX a s.heap.size) := ⟨⟨B.exec, B.bytes, hml, findClass_of_methodNamed B.named, atoms_spec (ws := wsX4_users) B.pre⟩, hK, hN, hj, fun n h => Or.inl ⟨n, h, rfl⟩, fun q h => Or.inr h⟩
  have hS : va_S (xA NLX a s.heap.size) s.heap s.heap [] := va_S.rf
  have hl := lv_entry ([.ref (a 0 0), .int r, .int q]) (n := 3) (Nat.le_of_ble_eq_true rfl)
  rw [lg_entry_eq]
  generalize (lg_sl ([.ref (a 0 0), .int r, .int q]) ++ List.replicate (3 - (lg_sl ([.ref (a 0 0), .int r, .int q])).length) Slot.unset).toArray = ls at hl ⊢
  have hl : lv_has ls 3 [(0, .ref (a 0 0)), (1, .int r), (2, .int q)] := hl
  have k_0 : Cond.fieldLink RX4 33 RX4 (TX4 3).2.1 (TX4 3).2.2.1 ∈ wsX4_users := by decide +kernel
  have i_X4 : ∀ w ∈ wsX40, w ∈ wsX4_users := by decide +kernel
  have q_2 : Cond.fieldLinkNest RX4 133 RX1 (TX1 3).2.1 (TX1 3).2.2.1 RX4 ∈ xNs := by decide +kernel
  have i_X1 : ∀ w ∈ wsX10, w ∈ wsX4_users := by decide +kernel
  refine lv_aload_n C0.hx C0.hb dX4_users_0 rfl (lv_at hl 0 rfl) ?_
  refine lv_iload_n C0.hx C0.hb dX4_users_1 rfl (lv_at hl 1 rfl) ?_
  refine x_VXv (As := [.int r]) (rest := []) C0 (mtX4_checkReport l hfl g a σ r ok) hP hS hT hZ (cwV 1 C0.hts gX4_users_X4_checkReport rfl rfl rfl (by decide +kernel) ⟨Nat.le_of_ble_eq_true rfl, Nat.le_of_ble_eq_true rfl⟩) (x_recv C0 hP 0 (mX_n rfl) rfl rfl) rfl hl rfl (Nat.le_of_ble_eq_true rfl) (Nat.le_of_ble_eq_true rfl) (Nat.le_of_ble_eq_true rfl) dX4_users_2 (fun E ce q H1 locs1 hE hP hS hq hv hcl => x_out hex hlocks hP hS hq hv hcl (Or.inl hE) (Nat.le_of_ble_eq_true rfl) (Nat.le_of_ble_eq_true rfl)) (fun H locs hk_1 hP hS => ?_)
  obtain ⟨r, hr0, rfl⟩ := crX_nat ok hk_1
  have er : nv (nI r) = r := nv_nI (by omega)
  refine lv_iload_n C0.hx C0.hb dX4_users_5 rfl (lv_at hl 2 rfl) ?_
  refine lv_iconst (v := nI 4) C0.hx C0.hb dX4_users_6 (by decide) ?_
  refine x_Si (As := [.int q, .int (nI 4)]) (rest := []) C0 (mtX4_isBelow l g a σ q (nI 4)) (xP0 _) xDj0 (va_cwS 2 C0.hts gX4_users_X4_isBelow rfl rfl rfl (by decide +kernel) ⟨Nat.le_of_ble_eq_true rfl, Nat.le_of_ble_eq_true rfl⟩) rfl hl rfl (Nat.le_of_ble_eq_true rfl) (Nat.le_of_ble_eq_true rfl) (Nat.le_of_ble_eq_true rfl) dX4_users_7 ?_
  refine x_SX0 (As := [.int (bI (ibX q (nI 4)))]) (rest := []) C0 (mtX4_checkArgument l hfl g a σ (ibX q (nI 4))) hP hS hT hZ (va_cwS 1 C0.hts gX4_users_X4_checkArgument rfl rfl rfl (by decide +kernel) ⟨Nat.le_of_ble_eq_true rfl, Nat.le_of_ble_eq_true rfl⟩) rfl hl rfl (Nat.le_of_ble_eq_true rfl) (Nat.le_of_ble_eq_true rfl) (Nat.le_of_ble_eq_true rfl) dX4_users_10 (fun E ce q H1 locs1 hE hP hS hq hv hcl => x_out hex hlocks hP hS hq hv hcl (Or.inr ⟨hk_1, Or.inl hE⟩) (Nat.le_of_ble_eq_true rfl) (Nat.le_of_ble_eq_true rfl)) (fun H locs hk_2 hP hS => ?_)
  obtain ⟨q, hq, rfl⟩ := ibX_nat (by decide) hk_2
  have eq : nv (nI q) = q := nv_nI (by omega)
  refine lv_aload_n C0.hx C0.hb dX4_users_13 rfl (lv_at hl 0 rfl) ?_
  refine lv_aload_n C0.hx C0.hb dX4_users_14 rfl (lv_at hl 0 rfl) ?_
  refine x_get C0 hP 0 (mX_n rfl) rfl rfl 3 (by decide) i_X4 k_0 rfl rfl dX4_users_15 ?_
  refine x_getN C0 hP 4 (mX_n rfl) rfl rfl 3 (by decide) i_X1 q_2 rfl rfl dX4_users_18 ?_
  refine lv_iload_n C0.hx C0.hb dX4_users_21 rfl (lv_at hl 1 rfl) ?_
  refine x_iald C0 hP 19 r 60 (mX_n rfl) rfl (by omega) (by decide) dX4_users_22 ?_
  refine lv_iload_n C0.hx C0.hb dX4_users_23 rfl (lv_at hl 2 rfl) ?_
  refine x_Vi (As := [.int (σ 19 0 r), .int (nI q)]) (rest := []) C0 (mtX4_usersOf l g a σ (σ 19 0 r) q (by omega) ok) hP C0.2.2.2.1 (cwV 2 C0.hts gX4_users_X4_usersOf rfl rfl rfl (by decide +kernel) ⟨Nat.le_of_ble_eq_true rfl, Nat.le_of_ble_eq_true rfl⟩) (x_recv C0 hP 0 (mX_n rfl) rfl rfl) rfl hl rfl (Nat.le_of_ble_eq_true rfl) (Nat.le_of_ble_eq_true rfl) (Nat.le_of_ble_eq_true rfl) dX4_users_24 ?_
  refine vx_ret ?_
  refine W.widen (k := 2) (n := 12) (Nat.le_of_ble_eq_true rfl) (Nat.le_of_ble_eq_true rfl) ?_
  exact W.iret (v := ucX σ (σ 19 0 r) q) C0.hx C0.hb hr (fun t ht hW => ⟨⟨_, σ, rfl, ⟨⟨⟨hk_1, hk_2, trivial⟩, (by rw [er, eq])⟩, rfl⟩, x_end ht hP⟩, hS.F ht⟩) hS.2.2 dX4_users_27
end
section
set_option maxHeartbeats 4000000 in
set_option maxRecDepth 100000 in
theorem mtX4_gate (l : Launch) (hfl : l.stackTraces = false) (g : xG) (a : xAd) (σ : xS) (v : Int32) (ok : okX σ) : xMxi l yX4_gate wsX4_gate ({ frames := 7, cells := 1, slots := 6, locals := 102 }) 1 6 NLX g a σ [.ref (a 0 0), .int v] (chOk (v1C v)) (gaX σ (nv v)) σ (chEx (v1C v)) := by
  intro sz
  refine vx_ofW (cc := cX4_gate) (maxL := 6) (ret := (some .int)) (by decide) rfl ?_
  intro p e s m args below meth c s₁ B hml hex hv
  obtain ⟨rfl, hsz, ⟨hP, hK, hN, hj⟩, hT, hZ⟩ := hv
  subst hsz
  have hr := B.returns
  have hlocks := B.notSynchronized
  have C0 : xC p s m _ c cX4_gate 6 wsX4_gate RX4 NLX g a (xA NLX a s.heap.size) := ⟨⟨B.exec, B.bytes, hml, findClass_of_methodNamed B.named, atoms_spec (ws := wsX4_gate) B.pre⟩, hK, hN, hj, fun n h => Or.inl ⟨n, h, rfl⟩, fun q h => Or.inr h⟩
  have hS : va_S (xA NLX a s.heap.size) s.heap s.heap [] := va_S.rf
  have hl := lv_entry ([.ref (a 0 0), .int v]) (n := 6) (Nat.le_of_ble_eq_true rfl)
  rw [lg_entry_eq]
  generalize (lg_sl ([.ref (a 0 0), .int v]) ++ List.replicate (6 - (lg_sl ([.ref (a 0 0), .int v])).length) Slot.unset).toArray = ls at hl ⊢
  have hl : lv_has ls 6 [(0, .ref (a 0 0)), (1, .int v)] := hl
  have k_0 : Cond.fieldLink RX4 37 RX4 (TX4 4).2.1 (TX4 4).2.2.1 ∈ wsX4_gate := by decide +kernel
  have i_X4 : ∀ w ∈ wsX40, w ∈ wsX4_gate := by decide +kernel
  have k_2 : Cond.fieldLink RX4 26 RX4 (TX4 2).2.1 (TX4 2).2.2.1 ∈ wsX4_gate := by decide +kernel
  have q_3 : Cond.fieldLinkNest RX4 103 RX2 (TX2 0).2.1 (TX2 0).2.2.1 RX4 ∈ xNs := by decide +kernel
  have i_X2 : ∀ w ∈ wsX20, w ∈ wsX4_gate := by decide +kernel
  have k_5 : Cond.fieldLink RX4 33 RX4 (TX4 3).2.1 (TX4 3).2.2.1 ∈ wsX4_gate := by decide +kernel
  have m_6 : (RX4, 136, yX1_isName) ∈ xMs := by decide +kernel
  have k_7 : Cond.initialized yX1_isName.cls ∈ wsX4_gate := by decide +kernel
  have k_8 : Cond.instanceMethod yX1_isName ∈ wsX4_gate := by decide +kernel
  have k_9 : Cond.selects RX1 yX1_isName yX1_isName ∈ wsX4_gate := by decide +kernel
  have k_10 : Cond.fieldLink RX4 41 RX4 (TX4 5).2.1 (TX4 5).2.2.1 ∈ wsX4_gate := by decide +kernel
  refine lv_iload_n C0.hx C0.hb dX4_gate_0 rfl (lv_at hl 1 rfl) ?_
  refine lv_iconst (v := nI 4) C0.hx C0.hb dX4_gate_1 (by decide) ?_
  refine x_Si (As := [.int v, .int (nI 4)]) (rest := []) C0 (mtX4_isBelow l g a σ v (nI 4)) (xP0 _) xDj0 (va_cwS 2 C0.hts gX4_gate_X4_isBelow rfl rfl rfl (by decide +kernel) ⟨Nat.le_of_ble_eq_true rfl, Nat.le_of_ble_eq_true rfl⟩) rfl hl rfl (Nat.le_of_ble_eq_true rfl) (Nat.le_of_ble_eq_true rfl) (Nat.le_of_ble_eq_true rfl) dX4_gate_2 ?_
  refine x_SX0 (As := [.int (bI (ibX v (nI 4)))]) (rest := []) C0 (mtX4_checkArgument l hfl g a σ (ibX v (nI 4))) hP hS hT hZ (va_cwS 1 C0.hts gX4_gate_X4_checkArgument rfl rfl rfl (by decide +kernel) ⟨Nat.le_of_ble_eq_true rfl, Nat.le_of_ble_eq_true rfl⟩) rfl hl rfl (Nat.le_of_ble_eq_true rfl) (Nat.le_of_ble_eq_true rfl) (Nat.le_of_ble_eq_true rfl) dX4_gate_5 (fun E ce q H1 locs1 hE hP hS hq hv hcl => x_out hex hlocks hP hS hq hv hcl (Or.inl hE) (Nat.le_of_ble_eq_true rfl) (Nat.le_of_ble_eq_true rfl)) (fun H locs hk_1 hP hS => ?_)
  obtain ⟨v, hv, rfl⟩ := ibX_nat (by decide) hk_1
  have ev : nv (nI v) = v := nv_nI (by omega)
  refine lv_aload_n C0.hx C0.hb dX4_gate_8 rfl (lv_at hl 0 rfl) ?_
  refine x_get C0 hP 0 (mX_n rfl) rfl rfl 4 (by decide) i_X4 k_0 rfl rfl dX4_gate_9 ?_
  refine lv_iload_n C0.hx C0.hb dX4_gate_12 rfl (lv_at hl 1 rfl) ?_
  refine x_iald C0 hP 5 v 4 (mX_n rfl) rfl (by omega) (by decide) dX4_gate_13 ?_
  obtain ⟨e_2, b_3⟩ := (ok.ses (by omega) : inR (σ 5 0 v) _)
  refine x_top e_2 ?_
  refine x_join (α := Bool) 24 (fun j H' locs' ls => (H' = H ∧ locs' = locs ∧ j = decide (50 ≤ nv (σ 5 0 v))) ∧ lv_has ls 6 [(0, .ref (a 0 0)), (1, .int (nI v))]) (fun j => [.int (bI j)]) ?_ (fun J24 => ?_)
  · rintro j H locs ls ⟨⟨rfl, rfl, hj⟩, hl⟩
    refine lv_istore_n (lv' := [(2, .int (bI j)), (0, .ref (a 0 0)), (1, .int (nI v))]) C0.hx C0.hb dX4_gate_24 rfl hl (by decide) rfl (fun ls hl => ?_)
    refine x_join (α := Bool) 34 (fun b0 H' locs' ls => (H' = H ∧ locs' = locs ∧ b0 = !decide (50 ≤ nv (σ 5 0 v))) ∧ lv_has ls 6 [(0, .ref (a 0 0)), (1, .int (nI v)), (2, .int (bI j))]) (fun b0 => [.int (bI b0)]) ?_ (fun J34 => ?_)
    · rintro b0 H locs ls ⟨⟨rfl, rfl, hb0⟩, hl⟩
      refine lv_istore_n (lv' := [(3, .int (bI b0)), (0, .ref (a 0 0)), (1, .int (nI v)), (2, .int (bI j))]) C0.hx C0.hb dX4_gate_34 rfl hl (by decide) rfl (fun ls hl => ?_)
      refine lv_iconst (v := nI 0) C0.hx C0.hb dX4_gate_35 (by decide) ?_
      refine lv_istore (lv' := [(4, .int (nI 0)), (3, .int (bI b0)), (0, .ref (a 0 0)), (1, .int (nI v)), (2, .int (bI j))]) C0.hx C0.hb dX4_gate_36 hl (by decide) rfl (fun ls hl => ?_)
      refine x_loopR (α := Nat × Nat × Bool) (fun u => u.1) (fun ⟨n, k, b⟩ ls => k + n = nv (σ 3 0 0) ∧ gaL σ v n k b = gaX σ v ∧ lv_has ls 6 [(0, .ref (a 0 0)), (1, .int (nI v)), (2, .int (bI j)), (3, .int (bI b)), (4, .int (nI k))]) ?_ ((nv (σ 3 0 0), 0, b0)) ⟨(by omega), (by rw [hb0]; rfl), (lv_sub hl [2, 3, 4, 1, 0] rfl)⟩
      rintro ⟨n, k, b⟩ ls ⟨hn, hG, hl⟩ ih38
      have hn60 := ok.n.2
      refine lv_iload C0.hx C0.hb dX4_gate_38 (lv_at hl 4 rfl) ?_
      refine lv_aload_n C0.hx C0.hb dX4_gate_40 rfl (lv_at hl 0 rfl) ?_
      refine x_get C0 hP 0 (mX_n rfl) rfl rfl 2 (by decide) i_X4 k_2 rfl rfl dX4_gate_41 ?_
      refine x_getN C0 hP 3 (mX_n rfl) rfl rfl 0 (by decide) i_X2 q_3 rfl rfl dX4_gate_44 ?_
      obtain ⟨e_4, b_5⟩ := (ok.n : inR (σ 3 0 0) _)
      refine x_top e_4 ?_
      refine x_icmp_ge (tgt := 124) C0.hx C0.hb (by omega) (by omega) dX4_gate_47 (by decide) (fun c_6 => ?_) (fun c_6 => ?_)
      ·
        refine lv_iload_n C0.hx C0.hb dX4_gate_124 rfl (lv_at hl 3 rfl) ?_
        refine x_join (α := Int32) 133 (fun z H' locs' ls => (H' = H ∧ locs' = locs ∧ z = if b = true then nI 1 else nI 0) ∧ lv_has ls 6 [(0, .ref (a 0 0)), (1, .int (nI v)), (2, .int (bI j)), (3, .int (bI b)), (4, .int (nI k))]) (fun z => [.int z]) ?_ (fun J133 => ?_)
        · rintro z H locs ls ⟨⟨rfl, rfl, hz⟩, hl⟩
          refine vx_ret ?_
          refine W.widen (k := 1) (n := 6) (Nat.le_of_ble_eq_true rfl) (Nat.le_of_ble_eq_true rfl) ?_
          exact W.iret (v := z) C0.hx C0.hb hr (fun t ht hW => ⟨⟨_, σ, rfl, ⟨⟨⟨hk_1, trivial⟩, (by rw [ev, hz, ← hG, show n = 0 by omega]; rfl)⟩, rfl⟩, x_end ht hP⟩, hS.F ht⟩) hS.2.2 dX4_gate_133
        ·
          refine x_ifeq (tgt := 132) C0.hx C0.hb dX4_gate_125 (by decide) (fun c_7 => ?_) (fun c_7 => ?_)
          ·
            refine lv_iconst (v := nI 0) C0.hx C0.hb dX4_gate_132 (by decide) ?_
            exact J133 (nI 0) _ _ ls ⟨⟨rfl, rfl, (by simp [c_7])⟩, (lv_sub hl [0, 1, 2, 3, 4] rfl)⟩
          ·
            refine lv_iconst (v := nI 1) C0.hx C0.hb dX4_gate_128 (by decide) ?_
            refine lv_goto (tgt := 133) C0.hx C0.hb dX4_gate_129 (by decide) ?_
            exact J133 (nI 1) _ _ ls ⟨⟨rfl, rfl, (by simp [c_7])⟩, (lv_sub hl [0, 1, 2, 3, 4] rfl)⟩
      ·
        obtain ⟨n, rfl⟩ : ∃ z, n = z + 1 := ⟨n - 1, by omega⟩
        rw [gaL] at hG
        refine lv_aload_n C0.hx C0.hb dX4_gate_50 rfl (lv_at hl 0 rfl) ?_
        refine x_get C0 hP 0 (mX_n rfl) rfl rfl 3 (by decide) i_X4 k_5 rfl rfl dX4_gate_51 ?_
        refine lv_iload C0.hx C0.hb dX4_gate_54 (lv_at hl 4 rfl) ?_
        refine x_VNi (As := [.int (nI k)]) (rest := []) C0 (mtX1_isName l g a σ k (by omega)) hP C0.2.2.2.1 (va_cnB 1 C0.hts gX4_gate_X1_isName_n136 rfl rfl rfl (C0.2.2.1.2 _ m_6) (C0.hts _ k_7) (by decide +kernel) ⟨Nat.le_of_ble_eq_true rfl, Nat.le_of_ble_eq_true rfl⟩) (C0.hts _ k_8) (C0.hts _ k_9) (x_recv C0 hP 4 (mX_n rfl) rfl rfl) rfl hl rfl (Nat.le_of_ble_eq_true rfl) (Nat.le_of_ble_eq_true rfl) (Nat.le_of_ble_eq_true rfl) dX4_gate_56 ?_
        refine x_join (α := Bool) 118 (fun b3 H' locs' ls => (H' = H ∧ locs' = locs ∧ gaL σ v n (k + 1) b3 = gaX σ v) ∧ lv_has ls 6 [(0, .ref (a 0 0)), (1, .int (nI v)), (2, .int (bI j)), (4, .int (nI k)), (3, .int (bI b3))]) (fun b3 => []) ?_ (fun J118 => ?_)
        · rintro b3 H locs ls ⟨⟨rfl, rfl, hR⟩, hl⟩
          refine lv_iinc (v := nI (k + 1)) (lv' := [(4, .int (nI (k + 1))), (0, .ref (a 0 0)), (1, .int (nI v)), (2, .int (bI j)), (3, .int (bI b3))]) C0.hx C0.hb dX4_gate_118 hl (k := 3) rfl (nI_1 k) (by decide) rfl (fun ls hl => ?_)
          refine lv_goto (tgt := 38) C0.hx C0.hb dX4_gate_121 (by decide) ?_
          exact ih38 ((n, k + 1, b3)) ls ⟨(by omega), hR, (lv_sub hl [1, 2, 3, 4, 0] rfl)⟩ (Nat.lt_succ_self _)
        ·
          refine x_ifeq (tgt := 118) C0.hx C0.hb dX4_gate_59 (by decide) (fun c_8 => ?_) (fun c_8 => ?_)
          ·
            exact J118 b _ _ ls ⟨⟨rfl, rfl, (by rw [← hG, if_neg (by simpa using c_8)])⟩, (lv_sub hl [0, 1, 2, 4, 3] rfl)⟩
          ·
            rw [if_pos (by simpa using c_8)] at hG
            refine lv_aload_n C0.hx C0.hb dX4_gate_62 rfl (lv_at hl 0 rfl) ?_
            refine lv_iload C0.hx C0.hb dX4_gate_63 (lv_at hl 4 rfl) ?_
            refine lv_iload_n C0.hx C0.hb dX4_gate_65 rfl (lv_at hl 1 rfl) ?_
            refine x_Vi (As := [.int (nI k), .int (nI v)]) (rest := []) C0 (mtX4_rateOf l g a σ (nI k) v (by omega) ok) hP C0.2.2.2.1 (cwV 2 C0.hts gX4_gate_X4_rateOf rfl rfl rfl (by decide +kernel) ⟨Nat.le_of_ble_eq_true rfl, Nat.le_of_ble_eq_true rfl⟩) (x_recv C0 hP 0 (mX_n rfl) rfl rfl) rfl hl rfl (Nat.le_of_ble_eq_true rfl) (Nat.le_of_ble_eq_true rfl) (Nat.le_of_ble_eq_true rfl) dX4_gate_66 ?_
            have hrt := rtX_le (nm := nI k) (v := v) ok
            refine lv_istore (lv' := [(5, .int (nI (rtX σ (nI k) v))), (0, .ref (a 0 0)), (1, .int (nI v)), (2, .int (bI j)), (3, .int (bI b)), (4, .int (nI k))]) C0.hx C0.hb dX4_gate_69 hl (by decide) rfl (fun ls hl => ?_)
            refine lv_iload_n C0.hx C0.hb dX4_gate_71 rfl (lv_at hl 3 rfl) ?_
            refine x_join (α := Unit) 97 (fun _ H' locs' ls => (H' = H ∧ locs' = locs ∧ ¬ (50 ≤ nv (σ 5 0 v) ∧ ¬ nI (rtX σ (nI k) v) < σ 0 0 0 ∧ ¬ ucX σ (nI k) v < nI 2)) ∧ lv_has ls 6 [(0, .ref (a 0 0)), (1, .int (nI v)), (2, .int (bI j)), (3, .int (bI b)), (4, .int (nI k)), (5, .int (nI (rtX σ (nI k) v)))]) (fun _ => []) ?_ (fun J97 => ?_)
            · rintro _ H locs ls ⟨⟨rfl, rfl, hno⟩, hl⟩
              refine lv_iload_n C0.hx C0.hb dX4_gate_97 rfl (lv_at hl 3 rfl) ?_
              refine x_join (α := Bool) 117 (fun b2 H' locs' ls => (H' = H ∧ locs' = locs ∧ b2 = (b || decide (¬ nI (2 * rtX σ (nI k) v) < σ 0 0 0))) ∧ lv_has ls 6 [(0, .ref (a 0 0)), (1, .int (nI v)), (2, .int (bI j)), (3, .int (bI b)), (4, .int (nI k)), (5, .int (nI (rtX σ (nI k) v)))]) (fun b2 => [.int (bI b2)]) ?_ (fun J117 => ?_)
              · rintro b2 H locs ls ⟨⟨rfl, rfl, hb2⟩, hl⟩
                refine lv_istore_n (lv' := [(3, .int (bI b2)), (0, .ref (a 0 0)), (1, .int (nI v)), (2, .int (bI j)), (4, .int (nI k)), (5, .int (nI (rtX σ (nI k) v)))]) C0.hx C0.hb dX4_gate_117 rfl hl (by decide) rfl (fun ls hl => ?_)
                exact J118 b2 _ _ ls ⟨⟨rfl, rfl, (by rw [hb2, ← hG, if_neg hno])⟩, (lv_sub hl [1, 2, 3, 4, 0] rfl)⟩
              ·
                refine x_ifne (tgt := 112) C0.hx C0.hb dX4_gate_98 (by decide) (fun c_9 => ?_) (fun c_9 => ?_)
                ·
                  refine lv_iconst (v := nI 1) C0.hx C0.hb dX4_gate_112 (by decide) ?_
                  refine lv_goto (tgt := 117) C0.hx C0.hb dX4_gate_113 (by decide) ?_
                  exact J117 true _ _ ls ⟨⟨rfl, rfl, (by simp [c_9])⟩, (lv_sub hl [0, 1, 2, 3, 4, 5] rfl)⟩
                ·
                  refine lv_iconst (v := nI 2) C0.hx C0.hb dX4_gate_101 (by decide) ?_
                  refine lv_iload C0.hx C0.hb dX4_gate_102 (lv_at hl 5 rfl) ?_
                  refine lv_imul C0.hx C0.hb dX4_gate_104 ?_
                  refine x_top (pk_mul 2 (rtX σ (nI k) v)) ?_
                  refine lv_aload_n C0.hx C0.hb dX4_gate_105 rfl (lv_at hl 0 rfl) ?_
                  refine x_get C0 hP 0 (mX_n rfl) rfl rfl 5 (by decide) i_X4 k_10 rfl rfl dX4_gate_106 ?_
                  refine lv_icmp_lt (tgt := 116) C0.hx C0.hb dX4_gate_109 (by decide) (fun c_10 => ?_) (fun c_10 => ?_)
                  ·
                    refine lv_iconst (v := nI 0) C0.hx C0.hb dX4_gate_116 (by decide) ?_
                    exact J117 false _ _ ls ⟨⟨rfl, rfl, (by simp [c_10, c_9])⟩, (lv_sub hl [0, 1, 2, 3, 4, 5] rfl)⟩
                  ·
                    refine lv_iconst (v := nI 1) C0.hx C0.hb dX4_gate_112 (by decide) ?_
                    refine lv_goto (tgt := 117) C0.hx C0.hb dX4_gate_113 (by decide) ?_
                    exact J117 true _ _ ls ⟨⟨rfl, rfl, (by simp [c_10, c_9])⟩, (lv_sub hl [0, 1, 2, 3, 4, 5] rfl)⟩
            ·
              refine x_ifeq (tgt := 97) C0.hx C0.hb dX4_gate_72 (by decide) (fun c_11 => ?_) (fun c_11 => ?_)
              ·
                exact J97 () _ _ ls ⟨⟨rfl, rfl, (by intro z; first | exact z.2.1 c_11 | exact z.2.2 c_11 | (rw [hj] at c_11; simp at c_11; omega))⟩, (lv_sub hl [1, 2, 3, 4, 5, 0] rfl)⟩
              ·
                refine lv_iload C0.hx C0.hb dX4_gate_75 (lv_at hl 0 rfl) ?_
                refine lv_aload_n C0.hx C0.hb dX4_gate_77 rfl (lv_at hl 1 rfl) ?_
                refine x_get C0 hP 0 (mX_n rfl) rfl rfl 5 (by decide) i_X4 k_10 rfl rfl dX4_gate_78 ?_
                refine lv_icmp_lt (tgt := 97) C0.hx C0.hb dX4_gate_81 (by decide) (fun c_12 => ?_) (fun c_12 => ?_)
                ·
                  exact J97 () _ _ ls ⟨⟨rfl, rfl, (by intro z; first | exact z.2.1 c_12 | exact z.2.2 c_12 | (rw [hj] at c_12; simp at c_12; omega))⟩, (lv_sub hl [1, 2, 3, 4, 5, 0] rfl)⟩
                ·
                  refine lv_aload_n C0.hx C0.hb dX4_gate_84 rfl (lv_at hl 1 rfl) ?_
                  refine lv_iload C0.hx C0.hb dX4_gate_85 (lv_at hl 5 rfl) ?_
                  refine lv_iload_n C0.hx C0.hb dX4_gate_87 rfl (lv_at hl 2 rfl) ?_
                  refine x_Vi (As := [.int (nI k), .int (nI v)]) (rest := []) C0 (mtX4_usersOf l g a σ (nI k) v (by omega) ok) hP C0.2.2.2.1 (cwV 2 C0.hts gX4_gate_X4_usersOf rfl rfl rfl (by decide +kernel) ⟨Nat.le_of_ble_eq_true rfl, Nat.le_of_ble_eq_true rfl⟩) (x_recv C0 hP 0 (mX_n rfl) rfl rfl) rfl hl rfl (Nat.le_of_ble_eq_true rfl) (Nat.le_of_ble_eq_true rfl) (Nat.le_of_ble_eq_true rfl) dX4_gate_88 ?_
                  refine lv_iconst (v := nI 2) C0.hx C0.hb dX4_gate_91 (by decide) ?_
                  refine lv_icmp_lt (tgt := 97) C0.hx C0.hb dX4_gate_92 (by decide) (fun c_13 => ?_) (fun c_13 => ?_)
                  ·
                    exact J97 () _ _ ls ⟨⟨rfl, rfl, (by intro z; first | exact z.2.1 c_13 | exact z.2.2 c_13 | (rw [hj] at c_13; simp at c_13; omega))⟩, (lv_sub hl [1, 2, 3, 4, 5, 0] rfl)⟩
                  ·
                    refine lv_iconst (v := nI 2) C0.hx C0.hb dX4_gate_95 (by decide) ?_
                    refine vx_ret ?_
                    refine W.widen (k := 1) (n := 6) (Nat.le_of_ble_eq_true rfl) (Nat.le_of_ble_eq_true rfl) ?_
                    exact W.iret (v := nI 2) C0.hx C0.hb hr (fun t ht hW => ⟨⟨_, σ, rfl, ⟨⟨⟨hk_1, trivial⟩, (by rw [ev, ← hG, if_pos ⟨by rw [hj] at c_11; simpa using c_11, c_12, c_13⟩])⟩, rfl⟩, x_end ht hP⟩, hS.F ht⟩) hS.2.2 dX4_gate_96
    ·
      refine lv_iload_n C0.hx C0.hb dX4_gate_25 rfl (lv_at hl 0 rfl) ?_
      refine x_ifne (tgt := 33) C0.hx C0.hb dX4_gate_26 (by decide) (fun c_14 => ?_) (fun c_14 => ?_)
      ·
        refine lv_iconst (v := nI 0) C0.hx C0.hb dX4_gate_33 (by decide) ?_
        exact J34 false _ _ ls ⟨⟨rfl, rfl, (by rw [← hj, c_14]; rfl)⟩, (lv_sub hl [1, 2, 0] rfl)⟩
      ·
        refine lv_iconst (v := nI 1) C0.hx C0.hb dX4_gate_29 (by decide) ?_
        refine lv_goto (tgt := 34) C0.hx C0.hb dX4_gate_30 (by decide) ?_
        exact J34 true _ _ ls ⟨⟨rfl, rfl, (by rw [← hj, c_14]; rfl)⟩, (lv_sub hl [1, 2, 0] rfl)⟩
  ·
    refine lv_bipush (v := nI 50) C0.hx C0.hb dX4_gate_14 (by decide) ?_
    refine x_icmp_lt (tgt := 23) C0.hx C0.hb (by omega) (by omega) dX4_gate_16 (by decide) (fun c_15 => ?_) (fun c_15 => ?_)
    ·
      refine lv_iconst (v := nI 0) C0.hx C0.hb dX4_gate_23 (by decide) ?_
      exact J24 false _ _ ls ⟨⟨rfl, rfl, (by simp only [true_eq_decide_iff, false_eq_decide_iff]; omega)⟩, (lv_sub hl [0, 1] rfl)⟩
    ·
      refine lv_iconst (v := nI 1) C0.hx C0.hb dX4_gate_19 (by decide) ?_
      refine lv_goto (tgt := 24) C0.hx C0.hb dX4_gate_20 (by decide) ?_
      exact J24 true _ _ ls ⟨⟨rfl, rfl, (by simp only [true_eq_decide_iff, false_eq_decide_iff]; omega)⟩, (lv_sub hl [0, 1] rfl)⟩

set_option maxHeartbeats 4000000 in
set_option maxRecDepth 100000 in
theorem mtX4_worst (l : Launch) (hfl : l.stackTraces = false) (g : xG) (a : xAd) (σ : xS) (v : Int32) (ok : okX σ) : xMxi l yX4_worst wsX4_worst ({ frames := 7, cells := 1, slots := 6, locals := 102 }) 1 6 NLX g a σ [.ref (a 0 0), .int v] (chOk (v1C v)) (woX σ (nv v)) σ (chEx (v1C v)) := by
  intro sz
  refine vx_ofW (cc := cX4_worst) (maxL := 6) (ret := (some .int)) (by decide) rfl ?_
  intro p e s m args below meth c s₁ B hml hex hv
  obtain ⟨rfl, hsz, ⟨hP, hK, hN, hj⟩, hT, hZ⟩ := hv
  subst hsz
  have hr := B.returns
  have hlocks := B.notSynchronized
  have C0 : xC p s m _ c cX4_worst 6 wsX4_worst RX4 NLX g a (xA NLX a s.heap.size) := ⟨⟨B.exec, B.bytes, hml, findClass_of_methodNamed B.named, atoms_spec (ws := wsX4_worst) B.pre⟩, hK, hN, hj, fun n h => Or.inl ⟨n, h, rfl⟩, fun q h => Or.inr h⟩
  have hS : va_S (xA NLX a s.heap.size) s.heap s.heap [] := va_S.rf
  have hl := lv_entry ([.ref (a 0 0), .int v]) (n := 6) (Nat.le_of_ble_eq_true rfl)
  rw [lg_entry_eq]
  generalize (lg_sl ([.ref (a 0 0), .int v]) ++ List.replicate (6 - (lg_sl ([.ref (a 0 0), .int v])).length) Slot.unset).toArray = ls at hl ⊢
  have hl : lv_has ls 6 [(0, .ref (a 0 0)), (1, .int v)] := hl
  have k_0 : Cond.fieldLink RX4 26 RX4 (TX4 2).2.1 (TX4 2).2.2.1 ∈ wsX4_worst := by decide +kernel
  have i_X4 : ∀ w ∈ wsX40, w ∈ wsX4_worst := by decide +kernel
  have q_2 : Cond.fieldLinkNest RX4 103 RX2 (TX2 0).2.1 (TX2 0).2.2.1 RX4 ∈ xNs := by decide +kernel
  have i_X2 : ∀ w ∈ wsX20, w ∈ wsX4_worst := by decide +kernel
  have k_4 : Cond.fieldLink RX4 33 RX4 (TX4 3).2.1 (TX4 3).2.2.1 ∈ wsX4_worst := by decide +kernel
  have m_5 : (RX4, 136, yX1_isName) ∈ xMs := by decide +kernel
  have k_6 : Cond.initialized yX1_isName.cls ∈ wsX4_worst := by decide +kernel
  have k_7 : Cond.instanceMethod yX1_isName ∈ wsX4_worst := by decide +kernel
  have k_8 : Cond.selects RX1 yX1_isName yX1_isName ∈ wsX4_worst := by decide +kernel
  refine lv_iload_n C0.hx C0.hb dX4_worst_0 rfl (lv_at hl 1 rfl) ?_
  refine lv_iconst (v := nI 4) C0.hx C0.hb dX4_worst_1 (by decide) ?_
  refine x_Si (As := [.int v, .int (nI 4)]) (rest := []) C0 (mtX4_isBelow l g a σ v (nI 4)) (xP0 _) xDj0 (va_cwS 2 C0.hts gX4_worst_X4_isBelow rfl rfl rfl (by decide +kernel) ⟨Nat.le_of_ble_eq_true rfl, Nat.le_of_ble_eq_true rfl⟩) rfl hl rfl (Nat.le_of_ble_eq_true rfl) (Nat.le_of_ble_eq_true rfl) (Nat.le_of_ble_eq_true rfl) dX4_worst_2 ?_
  refine x_SX0 (As := [.int (bI (ibX v (nI 4)))]) (rest := []) C0 (mtX4_checkArgument l hfl g a σ (ibX v (nI 4))) hP hS hT hZ (va_cwS 1 C0.hts gX4_worst_X4_checkArgument rfl rfl rfl (by decide +kernel) ⟨Nat.le_of_ble_eq_true rfl, Nat.le_of_ble_eq_true rfl⟩) rfl hl rfl (Nat.le_of_ble_eq_true rfl) (Nat.le_of_ble_eq_true rfl) (Nat.le_of_ble_eq_true rfl) dX4_worst_5 (fun E ce q H1 locs1 hE hP hS hq hv hcl => x_out hex hlocks hP hS hq hv hcl (Or.inl hE) (Nat.le_of_ble_eq_true rfl) (Nat.le_of_ble_eq_true rfl)) (fun H locs hk_1 hP hS => ?_)
  obtain ⟨v, hv, rfl⟩ := ibX_nat (by decide) hk_1
  have ev : nv (nI v) = v := nv_nI (by omega)
  refine lv_iconst (v := -1) C0.hx C0.hb dX4_worst_8 (by decide) ?_
  refine lv_istore_n (lv' := [(2, .int (-1)), (0, .ref (a 0 0)), (1, .int (nI v))]) C0.hx C0.hb dX4_worst_9 rfl hl (by decide) rfl (fun ls hl => ?_)
  refine lv_iconst (v := nI 0) C0.hx C0.hb dX4_worst_10 (by decide) ?_
  refine lv_istore_n (lv' := [(3, .int (nI 0)), (2, .int (-1)), (0, .ref (a 0 0)), (1, .int (nI v))]) C0.hx C0.hb dX4_worst_11 rfl hl (by decide) rfl (fun ls hl => ?_)
  refine lv_iconst (v := nI 0) C0.hx C0.hb dX4_worst_12 (by decide) ?_
  refine lv_istore (lv' := [(4, .int (nI 0)), (3, .int (nI 0)), (2, .int (-1)), (0, .ref (a 0 0)), (1, .int (nI v))]) C0.hx C0.hb dX4_worst_13 hl (by decide) rfl (fun ls hl => ?_)
  refine x_loopR (α := Nat × Nat × Int32 × Nat) (fun u => u.1) (fun ⟨n, k, w, t⟩ ls => k + n = nv (σ 3 0 0) ∧ t ≤ 600000 ∧ woL σ v n k w t = woX σ v ∧ lv_has ls 6 [(0, .ref (a 0 0)), (1, .int (nI v)), (2, .int w), (3, .int (nI t)), (4, .int (nI k))]) ?_ ((nv (σ 3 0 0), 0, -1, 0)) ⟨(by omega), (by omega), rfl, (lv_sub hl [3, 4, 2, 1, 0] rfl)⟩
  rintro ⟨n, k, w, t⟩ ls ⟨hn, ht600, hG, hl⟩ ih15
  have hn60 := ok.n.2
  have hrt := rtX_le (nm := nI k) (v := v) ok
  refine lv_iload C0.hx C0.hb dX4_worst_15 (lv_at hl 4 rfl) ?_
  refine lv_aload_n C0.hx C0.hb dX4_worst_17 rfl (lv_at hl 0 rfl) ?_
  refine x_get C0 hP 0 (mX_n rfl) rfl rfl 2 (by decide) i_X4 k_0 rfl rfl dX4_worst_18 ?_
  refine x_getN C0 hP 3 (mX_n rfl) rfl rfl 0 (by decide) i_X2 q_2 rfl rfl dX4_worst_21 ?_
  obtain ⟨e_2, b_3⟩ := (ok.n : inR (σ 3 0 0) _)
  refine x_top e_2 ?_
  refine x_icmp_ge (tgt := 66) C0.hx C0.hb (by omega) (by omega) dX4_worst_24 (by decide) (fun c_4 => ?_) (fun c_4 => ?_)
  ·
    refine lv_iload_n C0.hx C0.hb dX4_worst_66 rfl (lv_at hl 2 rfl) ?_
    refine vx_ret ?_
    refine W.widen (k := 1) (n := 6) (Nat.le_of_ble_eq_true rfl) (Nat.le_of_ble_eq_true rfl) ?_
    exact W.iret (v := w) C0.hx C0.hb hr (fun t ht hW => ⟨⟨_, σ, rfl, ⟨⟨⟨hk_1, trivial⟩, (by rw [ev, ← hG, show n = 0 by omega]; rfl)⟩, rfl⟩, x_end ht hP⟩, hS.F ht⟩) hS.2.2 dX4_worst_67
  ·
    obtain ⟨n, rfl⟩ : ∃ z, n = z + 1 := ⟨n - 1, by omega⟩
    rw [woL] at hG
    refine lv_aload_n C0.hx C0.hb dX4_worst_27 rfl (lv_at hl 0 rfl) ?_
    refine x_get C0 hP 0 (mX_n rfl) rfl rfl 3 (by decide) i_X4 k_4 rfl rfl dX4_worst_28 ?_
    refine lv_iload C0.hx C0.hb dX4_worst_31 (lv_at hl 4 rfl) ?_
    refine x_VNi (As := [.int (nI k)]) (rest := []) C0 (mtX1_isName l g a σ k (by omega)) hP C0.2.2.2.1 (va_cnB 1 C0.hts gX4_worst_X1_isName_n136 rfl rfl rfl (C0.2.2.1.2 _ m_5) (C0.hts _ k_6) (by decide +kernel) ⟨Nat.le_of_ble_eq_true rfl, Nat.le_of_ble_eq_true rfl⟩) (C0.hts _ k_7) (C0.hts _ k_8) (x_recv C0 hP 4 (mX_n rfl) rfl rfl) rfl hl rfl (Nat.le_of_ble_eq_true rfl) (Nat.le_of_ble_eq_true rfl) (Nat.le_of_ble_eq_true rfl) dX4_worst_33 ?_
    refine x_join (α := Int32 × Nat) 60 (fun ⟨w2, t2⟩ H' locs' ls => (H' = H ∧ locs' = locs ∧ t2 ≤ 600000 ∧ woL σ v n (k + 1) w2 t2 = woX σ v) ∧ lv_has ls 6 [(0, .ref (a 0 0)), (1, .int (nI v)), (4, .int (nI k)), (2, .int w2), (3, .int (nI t2))]) (fun ⟨w2, t2⟩ => []) ?_ (fun J60 => ?_)
    · rintro ⟨w2, t2⟩ H locs ls ⟨⟨rfl, rfl, ht2, hR⟩, hl⟩
      refine lv_iinc (v := nI (k + 1)) (lv' := [(4, .int (nI (k + 1))), (0, .ref (a 0 0)), (1, .int (nI v)), (2, .int w2), (3, .int (nI t2))]) C0.hx C0.hb dX4_worst_60 hl (k := 2) rfl (nI_1 k) (by decide) rfl (fun ls hl => ?_)
      refine lv_goto (tgt := 15) C0.hx C0.hb dX4_worst_63 (by decide) ?_
      exact ih15 ((n, k + 1, w2, t2)) ls ⟨(by omega), ht2, hR, (lv_sub hl [1, 2, 3, 4, 0] rfl)⟩ (Nat.lt_succ_self _)
    ·
      refine x_ifeq (tgt := 60) C0.hx C0.hb dX4_worst_36 (by decide) (fun c_5 => ?_) (fun c_5 => ?_)
      ·
        exact J60 (w, t) _ _ ls ⟨⟨rfl, rfl, (by omega), (by rw [← hG, if_neg (by rintro ⟨z1, z2⟩; first | omega | exact absurd z1 (by simpa using c_5))])⟩, (lv_sub hl [0, 1, 4, 2, 3] rfl)⟩
      ·
        refine lv_aload_n C0.hx C0.hb dX4_worst_39 rfl (lv_at hl 0 rfl) ?_
        refine lv_iload C0.hx C0.hb dX4_worst_40 (lv_at hl 4 rfl) ?_
        refine lv_iload_n C0.hx C0.hb dX4_worst_42 rfl (lv_at hl 1 rfl) ?_
        refine x_Vi (As := [.int (nI k), .int (nI v)]) (rest := []) C0 (mtX4_rateOf l g a σ (nI k) v (by omega) ok) hP C0.2.2.2.1 (cwV 2 C0.hts gX4_worst_X4_rateOf rfl rfl rfl (by decide +kernel) ⟨Nat.le_of_ble_eq_true rfl, Nat.le_of_ble_eq_true rfl⟩) (x_recv C0 hP 0 (mX_n rfl) rfl rfl) rfl hl rfl (Nat.le_of_ble_eq_true rfl) (Nat.le_of_ble_eq_true rfl) (Nat.le_of_ble_eq_true rfl) dX4_worst_43 ?_
        refine lv_istore (lv' := [(5, .int (nI (rtX σ (nI k) v))), (0, .ref (a 0 0)), (1, .int (nI v)), (2, .int w), (3, .int (nI t)), (4, .int (nI k))]) C0.hx C0.hb dX4_worst_46 hl (by decide) rfl (fun ls hl => ?_)
        refine lv_iload C0.hx C0.hb dX4_worst_48 (lv_at hl 0 rfl) ?_
        refine lv_iload_n C0.hx C0.hb dX4_worst_50 rfl (lv_at hl 4 rfl) ?_
        refine x_icmp_le (tgt := 60) C0.hx C0.hb (by omega) (by omega) dX4_worst_51 (by decide) (fun c_6 => ?_) (fun c_6 => ?_)
        ·
          exact J60 (w, t) _ _ ls ⟨⟨rfl, rfl, (by omega), (by rw [← hG, if_neg (by rintro ⟨z1, z2⟩; first | omega | exact absurd z1 (by simpa using c_6))])⟩, (lv_sub hl [1, 2, 5, 3, 4] rfl)⟩
        ·
          refine lv_iload C0.hx C0.hb dX4_worst_54 (lv_at hl 5 rfl) ?_
          refine lv_istore_n (lv' := [(2, .int (nI k)), (5, .int (nI (rtX σ (nI k) v))), (0, .ref (a 0 0)), (1, .int (nI v)), (3, .int (nI t)), (4, .int (nI k))]) C0.hx C0.hb dX4_worst_56 rfl hl (by decide) rfl (fun ls hl => ?_)
          refine lv_iload C0.hx C0.hb dX4_worst_57 (lv_at hl 1 rfl) ?_
          refine lv_istore_n (lv' := [(3, .int (nI (rtX σ (nI k) v))), (2, .int (nI k)), (5, .int (nI (rtX σ (nI k) v))), (0, .ref (a 0 0)), (1, .int (nI v)), (4, .int (nI k))]) C0.hx C0.hb dX4_worst_59 rfl hl (by decide) rfl (fun ls hl => ?_)
          exact J60 ((nI k, rtX σ (nI k) v)) _ _ ls ⟨⟨rfl, rfl, (by omega), (by rw [← hG, if_pos ⟨by simpa using c_5, c_6⟩])⟩, (lv_sub hl [3, 4, 5, 1, 0] rfl)⟩

set_option maxHeartbeats 4000000 in
set_option maxRecDepth 100000 in
theorem mtX4_fix (l : Launch) (hfl : l.stackTraces = false) (g : xG) (a : xAd) (σ : xS) (r v : Int32) (ok : okX σ) : xMxi l yX4_fix wsX4_fix ({ frames := 7, cells := 2, slots := 12, locals := 103 }) 2 12 NLX g a σ [.ref (a 0 0), .int r, .int v] (chOk (fxC σ r v)) (σ 15 0 (nv r)) (fxS σ r v) (chEx (fxC σ r v)) := by
  intro sz
  refine vx_ofW (cc := cX4_fix) (maxL := 4) (ret := (some .int)) (by decide) rfl ?_
  intro p e s m args below meth c s₁ B hml hex hv
  obtain ⟨rfl, hsz, ⟨hP, hK, hN, hj⟩, hT, hZ⟩ := hv
  subst hsz
  have hr := B.returns
  have hlocks := B.notSynchronized
  have C0 : xC p s m _ c cX4_fix 4 wsX4_fix RX4 NLX g a (xA NLX a s.heap.size) := ⟨⟨B.exec, B.bytes, hml, findClass_of_methodNamed B.named, atoms_spec (ws := wsX4_fix) B.pre⟩, hK, hN, hj, fun n h => Or.inl ⟨n, h, rfl⟩, fun q h => Or.inr h⟩
  have hS : va_S (xA NLX a s.heap.size) s.heap s.heap [] := va_S.rf
  have hl := lv_entry ([.ref (a 0 0), .int r, .int v]) (n := 4) (Nat.le_of_ble_eq_true rfl)
  rw [lg_entry_eq]
  generalize (lg_sl ([.ref (a 0 0), .int r, .int v]) ++ List.replicate (4 - (lg_sl ([.ref (a 0 0), .int r, .int v])).length) Slot.unset).toArray = ls at hl ⊢
  have hl : lv_has ls 4 [(0, .ref (a 0 0)), (1, .int r), (2, .int v)] := hl
  have k_0 : Cond.fieldLink RX4 26 RX4 (TX4 2).2.1 (TX4 2).2.2.1 ∈ wsX4_fix := by decide +kernel
  have i_X4 : ∀ w ∈ wsX40, w ∈ wsX4_fix := by decide +kernel
  have q_2 : Cond.fieldLinkNest RX4 149 RX2 (TX2 4).2.1 (TX2 4).2.2.1 RX4 ∈ xNs := by decide +kernel
  have i_X2 : ∀ w ∈ wsX20, w ∈ wsX4_fix := by decide +kernel
  refine lv_aload_n C0.hx C0.hb dX4_fix_0 rfl (lv_at hl 0 rfl) ?_
  refine lv_iload_n C0.hx C0.hb dX4_fix_1 rfl (lv_at hl 1 rfl) ?_
  refine x_VXv (As := [.int r]) (rest := []) C0 (mtX4_checkReport l hfl g a σ r ok) hP hS hT hZ (cwV 1 C0.hts gX4_fix_X4_checkReport rfl rfl rfl (by decide +kernel) ⟨Nat.le_of_ble_eq_true rfl, Nat.le_of_ble_eq_true rfl⟩) (x_recv C0 hP 0 (mX_n rfl) rfl rfl) rfl hl rfl (Nat.le_of_ble_eq_true rfl) (Nat.le_of_ble_eq_true rfl) (Nat.le_of_ble_eq_true rfl) dX4_fix_2 (fun E ce q H1 locs1 hE hP hS hq hv hcl => x_out hex hlocks hP hS hq hv hcl (Or.inl hE) (Nat.le_of_ble_eq_true rfl) (Nat.le_of_ble_eq_true rfl)) (fun H locs hk_1 hP hS => ?_)
  obtain ⟨r, hr0, rfl⟩ := crX_nat ok hk_1
  have er : nv (nI r) = r := nv_nI (by omega)
  refine x_join (α := Bool) 23 (fun b H' locs' ls => (H' = H ∧ locs' = locs ∧ b = (decide (¬ v < nI 1) && ibX v (nI 4))) ∧ lv_has ls 4 [(0, .ref (a 0 0)), (1, .int (nI r)), (2, .int v)]) (fun b => [.int (bI b)]) ?_ (fun J23 => ?_)
  · rintro b H locs ls ⟨⟨rfl, rfl, hb23⟩, hl⟩
    subst hb23
    refine x_SX0 (As := [.int (bI (decide (¬ v < nI 1) && ibX v (nI 4)))]) (rest := []) C0 (mtX4_checkArgument l hfl g a σ (decide (¬ v < nI 1) && ibX v (nI 4))) hP hS hT hZ (va_cwS 1 C0.hts gX4_fix_X4_checkArgument rfl rfl rfl (by decide +kernel) ⟨Nat.le_of_ble_eq_true rfl, Nat.le_of_ble_eq_true rfl⟩) rfl hl rfl (Nat.le_of_ble_eq_true rfl) (Nat.le_of_ble_eq_true rfl) (Nat.le_of_ble_eq_true rfl) dX4_fix_23 (fun E ce q H1 locs1 hE hP hS hq hv hcl => x_out hex hlocks hP hS hq hv hcl (Or.inr ⟨hk_1, Or.inl hE⟩) (Nat.le_of_ble_eq_true rfl) (Nat.le_of_ble_eq_true rfl)) (fun H locs hk_2 hP hS => ?_)
    refine lv_aload_n C0.hx C0.hb dX4_fix_26 rfl (lv_at hl 0 rfl) ?_
    refine x_get C0 hP 0 (mX_n rfl) rfl rfl 2 (by decide) i_X4 k_0 rfl rfl dX4_fix_27 ?_
    refine x_getN C0 hP 3 (mX_n rfl) rfl rfl 4 (by decide) i_X2 q_2 rfl rfl dX4_fix_30 ?_
    refine lv_iload_n C0.hx C0.hb dX4_fix_33 rfl (lv_at hl 1 rfl) ?_
    refine x_iald C0 hP 15 r 60 (mX_n rfl) rfl (by omega) (by decide) dX4_fix_34 ?_
    refine lv_istore_n (lv' := [(3, .int (σ 15 0 r)), (0, .ref (a 0 0)), (1, .int (nI r)), (2, .int v)]) C0.hx C0.hb dX4_fix_35 rfl hl (by decide) rfl (fun ls hl => ?_)
    refine lv_aload_n C0.hx C0.hb dX4_fix_36 rfl (lv_at hl 1 rfl) ?_
    refine x_get C0 hP 0 (mX_n rfl) rfl rfl 2 (by decide) i_X4 k_0 rfl rfl dX4_fix_37 ?_
    refine x_getN C0 hP 3 (mX_n rfl) rfl rfl 4 (by decide) i_X2 q_2 rfl rfl dX4_fix_40 ?_
    refine lv_iload_n C0.hx C0.hb dX4_fix_43 rfl (lv_at hl 2 rfl) ?_
    refine lv_iload_n C0.hx C0.hb dX4_fix_44 rfl (lv_at hl 3 rfl) ?_
    refine x_iast C0 hP hS 15 r 60 (v := v) (mX_n rfl) (fun _ => rfl) (by omega) (by decide) dX4_fix_45 (fun H locs hP hS => ?_)
    refine lv_iload_n C0.hx C0.hb dX4_fix_46 rfl (lv_at hl 0 rfl) ?_
    refine vx_ret ?_
    refine W.widen (k := 2) (n := 12) (Nat.le_of_ble_eq_true rfl) (Nat.le_of_ble_eq_true rfl) ?_
    exact W.iret (v := σ 15 0 r) C0.hx C0.hb hr (fun t ht hW => ⟨⟨_, up3 σ 15 0 r v, rfl, ⟨⟨⟨hk_1, hk_2, trivial⟩, (by rw [er])⟩, (by unfold fxS; rw [er])⟩, x_end ht hP⟩, hS.F ht⟩) hS.2.2 dX4_fix_47
  ·
    refine lv_iload_n C0.hx C0.hb dX4_fix_5 rfl (lv_at hl 2 rfl) ?_
    refine lv_iconst (v := nI 1) C0.hx C0.hb dX4_fix_6 (by decide) ?_
    refine lv_icmp_lt (tgt := 22) C0.hx C0.hb dX4_fix_7 (by decide) (fun c_3 => ?_) (fun c_3 => ?_)
    ·
      refine lv_iconst (v := nI 0) C0.hx C0.hb dX4_fix_22 (by decide) ?_
      exact J23 false _ _ ls ⟨⟨rfl, rfl, (by simp [c_3])⟩, (lv_sub hl [0, 1, 2] rfl)⟩
    ·
      refine lv_iload_n C0.hx C0.hb dX4_fix_10 rfl (lv_at hl 2 rfl) ?_
      refine lv_iconst (v := nI 4) C0.hx C0.hb dX4_fix_11 (by decide) ?_
      refine x_Si (As := [.int v, .int (nI 4)]) (rest := []) C0 (mtX4_isBelow l g a σ v (nI 4)) (xP0 _) xDj0 (va_cwS 2 C0.hts gX4_fix_X4_isBelow rfl rfl rfl (by decide +kernel) ⟨Nat.le_of_ble_eq_true rfl, Nat.le_of_ble_eq_true rfl⟩) rfl hl rfl (Nat.le_of_ble_eq_true rfl) (Nat.le_of_ble_eq_true rfl) (Nat.le_of_ble_eq_true rfl) dX4_fix_12 ?_
      refine x_ifeq (tgt := 22) C0.hx C0.hb dX4_fix_15 (by decide) (fun c_4 => ?_) (fun c_4 => ?_)
      ·
        refine lv_iconst (v := nI 0) C0.hx C0.hb dX4_fix_22 (by decide) ?_
        exact J23 false _ _ ls ⟨⟨rfl, rfl, (by simp [c_4, c_3])⟩, (lv_sub hl [0, 1, 2] rfl)⟩
      ·
        refine lv_iconst (v := nI 1) C0.hx C0.hb dX4_fix_18 (by decide) ?_
        refine lv_goto (tgt := 23) C0.hx C0.hb dX4_fix_19 (by decide) ?_
        exact J23 true _ _ ls ⟨⟨rfl, rfl, (by simp [c_4, c_3])⟩, (lv_sub hl [0, 1, 2] rfl)⟩

set_option maxHeartbeats 4000000 in
set_option maxRecDepth 100000 in
theorem mtX4_holds (l : Launch) (hfl : l.stackTraces = false) (g : xG) (a : xAd) (σ : xS) (r : Int32) (ok : okX σ) : xMxi l yX4_holds wsX4_holds ({ frames := 7, cells := 2, slots := 12, locals := 103 }) 2 12 NLX g a σ [.ref (a 0 0), .int r] (chOk (hoC σ r)) (bI (hoX σ (nv r))) σ (chEx (hoC σ r)) := by
  intro sz
  refine vx_ofW (cc := cX4_holds) (maxL := 6) (ret := (some .boolean)) (by decide) rfl ?_
  intro p e s m args below meth c s₁ B hml hex hv
  obtain ⟨rfl, hsz, ⟨hP, hK, hN, hj⟩, hT, hZ⟩ := hv
  subst hsz
  have hr := B.returns
  have hlocks := B.notSynchronized
  have C0 : xC p s m _ c cX4_holds 6 wsX4_holds RX4 NLX g a (xA NLX a s.heap.size) := ⟨⟨B.exec, B.bytes, hml, findClass_of_methodNamed B.named, atoms_spec (ws := wsX4_holds) B.pre⟩, hK, hN, hj, fun n h => Or.inl ⟨n, h, rfl⟩, fun q h => Or.inr h⟩
  have hS : va_S (xA NLX a s.heap.size) s.heap s.heap [] := va_S.rf
  have hl := lv_entry ([.ref (a 0 0), .int r]) (n := 6) (Nat.le_of_ble_eq_true rfl)
  rw [lg_entry_eq]
  generalize (lg_sl ([.ref (a 0 0), .int r]) ++ List.replicate (6 - (lg_sl ([.ref (a 0 0), .int r])).length) Slot.unset).toArray = ls at hl ⊢
  have hl : lv_has ls 6 [(0, .ref (a 0 0)), (1, .int r)] := hl
  have k_0 : Cond.fieldLink RX4 26 RX4 (TX4 2).2.1 (TX4 2).2.2.1 ∈ wsX4_holds := by decide +kernel
  have i_X4 : ∀ w ∈ wsX40, w ∈ wsX4_holds := by decide +kernel
  have q_2 : Cond.fieldLinkNest RX4 149 RX2 (TX2 4).2.1 (TX2 4).2.2.1 RX4 ∈ xNs := by decide +kernel
  have i_X2 : ∀ w ∈ wsX20, w ∈ wsX4_holds := by decide +kernel
  have k_4 : Cond.fieldLink RX4 33 RX4 (TX4 3).2.1 (TX4 3).2.2.1 ∈ wsX4_holds := by decide +kernel
  have q_5 : Cond.fieldLinkNest RX4 133 RX1 (TX1 3).2.1 (TX1 3).2.2.1 RX4 ∈ xNs := by decide +kernel
  have i_X1 : ∀ w ∈ wsX10, w ∈ wsX4_holds := by decide +kernel
  have k_7 : Cond.fieldLink RX4 37 RX4 (TX4 4).2.1 (TX4 4).2.2.1 ∈ wsX4_holds := by decide +kernel
  have k_8 : Cond.classLink RX4 57 eIS ∈ wsX4_holds := by decide +kernel
  have k_9 : Cond.initialized eIS ∈ wsX4_holds := by decide +kernel
  have t_eIS : ∀ w ∈ (vx_atS RX4 61 eIS xNm).filter goodWord, w ∈ wsX4_holds := fun w h => List.mem_cons_of_mem _ (List.mem_append_left _ (List.mem_append_right _ h))
  refine lv_aload_n C0.hx C0.hb dX4_holds_0 rfl (lv_at hl 0 rfl) ?_
  refine lv_iload_n C0.hx C0.hb dX4_holds_1 rfl (lv_at hl 1 rfl) ?_
  refine x_VXv (As := [.int r]) (rest := []) C0 (mtX4_checkReport l hfl g a σ r ok) hP hS hT hZ (cwV 1 C0.hts gX4_holds_X4_checkReport rfl rfl rfl (by decide +kernel) ⟨Nat.le_of_ble_eq_true rfl, Nat.le_of_ble_eq_true rfl⟩) (x_recv C0 hP 0 (mX_n rfl) rfl rfl) rfl hl rfl (Nat.le_of_ble_eq_true rfl) (Nat.le_of_ble_eq_true rfl) (Nat.le_of_ble_eq_true rfl) dX4_holds_2 (fun E ce q H1 locs1 hE hP hS hq hv hcl => x_out hex hlocks hP hS hq hv hcl (Or.inl hE) (Nat.le_of_ble_eq_true rfl) (Nat.le_of_ble_eq_true rfl)) (fun H locs hk_1 hP hS => ?_)
  obtain ⟨r, hr0, rfl⟩ := crX_nat ok hk_1
  have er : nv (nI r) = r := nv_nI (by omega)
  refine lv_aload_n C0.hx C0.hb dX4_holds_5 rfl (lv_at hl 0 rfl) ?_
  refine x_get C0 hP 0 (mX_n rfl) rfl rfl 2 (by decide) i_X4 k_0 rfl rfl dX4_holds_6 ?_
  refine x_getN C0 hP 3 (mX_n rfl) rfl rfl 4 (by decide) i_X2 q_2 rfl rfl dX4_holds_9 ?_
  refine lv_iload_n C0.hx C0.hb dX4_holds_12 rfl (lv_at hl 1 rfl) ?_
  refine x_iald C0 hP 15 r 60 (mX_n rfl) rfl (by omega) (by decide) dX4_holds_13 ?_
  refine lv_istore_n (lv' := [(2, .int (σ 15 0 r)), (0, .ref (a 0 0)), (1, .int (nI r))]) C0.hx C0.hb dX4_holds_14 rfl hl (by decide) rfl (fun ls hl => ?_)
  refine lv_iload_n C0.hx C0.hb dX4_holds_15 rfl (lv_at hl 0 rfl) ?_
  refine lv_iconst (v := -1) C0.hx C0.hb dX4_holds_16 (by decide) ?_
  refine lv_icmp_ne (tgt := 30) C0.hx C0.hb dX4_holds_17 (by decide) (fun c_2 => ?_) (fun c_2 => ?_)
  ·
    obtain ⟨ef, bf⟩ := (ok.fix (r := r) (by omega)).resolve_left c_2
    have hfx := c_2
    have hgr := grX_le (nm := σ 19 0 r) ok (nv (σ 15 0 r))
    refine lv_aload_n C0.hx C0.hb dX4_holds_30 rfl (lv_at hl 1 rfl) ?_
    refine x_get C0 hP 0 (mX_n rfl) rfl rfl 3 (by decide) i_X4 k_4 rfl rfl dX4_holds_31 ?_
    refine x_getN C0 hP 4 (mX_n rfl) rfl rfl 3 (by decide) i_X1 q_5 rfl rfl dX4_holds_34 ?_
    refine lv_iload_n C0.hx C0.hb dX4_holds_37 rfl (lv_at hl 2 rfl) ?_
    refine x_iald C0 hP 19 r 60 (mX_n rfl) rfl (by omega) (by decide) dX4_holds_38 ?_
    refine lv_istore_n (lv' := [(3, .int (σ 19 0 r)), (2, .int (σ 15 0 r)), (0, .ref (a 0 0)), (1, .int (nI r))]) C0.hx C0.hb dX4_holds_39 rfl hl (by decide) rfl (fun ls hl => ?_)
    refine lv_aload_n C0.hx C0.hb dX4_holds_40 rfl (lv_at hl 2 rfl) ?_
    refine lv_iload_n C0.hx C0.hb dX4_holds_41 rfl (lv_at hl 0 rfl) ?_
    refine lv_iload_n C0.hx C0.hb dX4_holds_42 rfl (lv_at hl 1 rfl) ?_
    refine x_top ef ?_
    refine x_Vi (As := [.int (σ 19 0 r), .int (nI (nv (σ 15 0 r)))]) (rest := []) C0 (mtX4_greatestRateBefore l g a σ (σ 19 0 r) (nv (σ 15 0 r)) (by omega) ok) hP C0.2.2.2.1 (cwV 2 C0.hts gX4_holds_X4_greatestRateBefore rfl rfl rfl (by decide +kernel) ⟨Nat.le_of_ble_eq_true rfl, Nat.le_of_ble_eq_true rfl⟩) (x_recv C0 hP 0 (mX_n rfl) rfl rfl) rfl hl rfl (Nat.le_of_ble_eq_true rfl) (Nat.le_of_ble_eq_true rfl) (Nat.le_of_ble_eq_true rfl) dX4_holds_43 ?_
    refine lv_istore (lv' := [(4, .int (nI (grX σ (σ 19 0 r) (nv (σ 15 0 r))))), (3, .int (σ 19 0 r)), (2, .int (σ 15 0 r)), (0, .ref (a 0 0)), (1, .int (nI r))]) C0.hx C0.hb dX4_holds_46 hl (by decide) rfl (fun ls hl => ?_)
    refine lv_iload_n C0.hx C0.hb dX4_holds_48 rfl (lv_at hl 2 rfl) ?_
    refine x_top ef ?_
    refine lv_istore (lv' := [(5, .int (nI (nv (σ 15 0 r)))), (4, .int (nI (grX σ (σ 19 0 r) (nv (σ 15 0 r))))), (3, .int (σ 19 0 r)), (2, .int (σ 15 0 r)), (0, .ref (a 0 0)), (1, .int (nI r))]) C0.hx C0.hb dX4_holds_49 hl (by decide) rfl (fun ls hl => ?_)
    refine x_loopR (α := Nat × Nat) (fun u => u.1) (fun ⟨n, k⟩ ls => k + n = 4 ∧ hoL σ (σ 19 0 r) (grX σ (σ 19 0 r) (nv (σ 15 0 r))) n k = hoX σ r ∧ lv_has ls 6 [(0, .ref (a 0 0)), (1, .int (nI r)), (2, .int (σ 15 0 r)), (3, .int (σ 19 0 r)), (4, .int (nI (grX σ (σ 19 0 r) (nv (σ 15 0 r))))), (5, .int (nI k))]) ?_ ((4 - nv (σ 15 0 r), nv (σ 15 0 r))) ⟨(by omega), rfl, (lv_sub hl [4, 5, 3, 2, 1, 0] rfl)⟩
    rintro ⟨n, k⟩ ls ⟨hn, hG, hl⟩ ih51
    have hrt := rtX_le (nm := σ 19 0 r) (v := k) ok
    refine lv_iload C0.hx C0.hb dX4_holds_51 (lv_at hl 5 rfl) ?_
    refine lv_iconst (v := nI 4) C0.hx C0.hb dX4_holds_53 (by decide) ?_
    refine x_icmp_ge (tgt := 89) C0.hx C0.hb (by omega) (by omega) dX4_holds_54 (by decide) (fun c_3 => ?_) (fun c_3 => ?_)
    ·
      refine lv_iconst (v := nI 1) C0.hx C0.hb dX4_holds_89 (by decide) ?_
      refine vx_ret ?_
      refine W.widen (k := 2) (n := 12) (Nat.le_of_ble_eq_true rfl) (Nat.le_of_ble_eq_true rfl) ?_
      exact W.zret (v := nI 1) C0.hx C0.hb hr rfl (fun t ht hW => ⟨⟨_, σ, rfl, ⟨⟨⟨hk_1, by rw [er]; simp [hfx], trivial⟩, (by rw [er, ← hG, show n = 0 by omega]; rfl)⟩, rfl⟩, x_end ht hP⟩, hS.F ht⟩) hS.2.2 dX4_holds_90
    ·
      obtain ⟨n, rfl⟩ : ∃ z, n = z + 1 := ⟨n - 1, by omega⟩
      rw [hoL] at hG
      refine lv_aload_n C0.hx C0.hb dX4_holds_57 rfl (lv_at hl 0 rfl) ?_
      refine x_get C0 hP 0 (mX_n rfl) rfl rfl 4 (by decide) i_X4 k_7 rfl rfl dX4_holds_58 ?_
      refine lv_iload C0.hx C0.hb dX4_holds_61 (lv_at hl 5 rfl) ?_
      refine x_iald C0 hP 5 k 4 (mX_n rfl) rfl (by omega) (by decide) dX4_holds_63 ?_
      obtain ⟨e_4, b_5⟩ := (ok.ses (by omega) : inR (σ 5 0 k) _)
      refine x_top e_4 ?_
      refine x_join (α := Unit) 83 (fun _ H' locs' ls => (H' = H ∧ locs' = locs ∧ ¬ (¬ nv (σ 5 0 k) = 0 ∧ ¬ 2 * rtX σ (σ 19 0 r) k ≤ grX σ (σ 19 0 r) (nv (σ 15 0 r)))) ∧ lv_has ls 6 [(0, .ref (a 0 0)), (1, .int (nI r)), (2, .int (σ 15 0 r)), (3, .int (σ 19 0 r)), (4, .int (nI (grX σ (σ 19 0 r) (nv (σ 15 0 r))))), (5, .int (nI k))]) (fun _ => []) ?_ (fun J83 => ?_)
      · rintro _ H locs ls ⟨⟨rfl, rfl, hno⟩, hl⟩
        refine lv_iinc (v := nI (k + 1)) (lv' := [(5, .int (nI (k + 1))), (0, .ref (a 0 0)), (1, .int (nI r)), (2, .int (σ 15 0 r)), (3, .int (σ 19 0 r)), (4, .int (nI (grX σ (σ 19 0 r) (nv (σ 15 0 r)))))]) C0.hx C0.hb dX4_holds_83 hl (k := 5) rfl (nI_1 k) (by decide) rfl (fun ls hl => ?_)
        refine lv_goto (tgt := 51) C0.hx C0.hb dX4_holds_86 (by decide) ?_
        exact ih51 ((n, k + 1)) ls ⟨(by omega), (by rw [← hG, if_neg hno]), (lv_sub hl [1, 2, 3, 4, 5, 0] rfl)⟩ (Nat.lt_succ_self _)
      ·
        refine x_ifle (tgt := 83) C0.hx C0.hb (by omega) dX4_holds_64 (by decide) (fun c_6 => ?_) (fun c_6 => ?_)
        ·
          exact J83 () _ _ ls ⟨⟨rfl, rfl, (by omega)⟩, (lv_sub hl [0, 1, 2, 3, 4, 5] rfl)⟩
        ·
          refine lv_iconst (v := nI 2) C0.hx C0.hb dX4_holds_67 (by decide) ?_
          refine lv_aload_n C0.hx C0.hb dX4_holds_68 rfl (lv_at hl 0 rfl) ?_
          refine lv_iload_n C0.hx C0.hb dX4_holds_69 rfl (lv_at hl 3 rfl) ?_
          refine lv_iload C0.hx C0.hb dX4_holds_70 (lv_at hl 5 rfl) ?_
          refine x_Vi (As := [.int (σ 19 0 r), .int (nI k)]) (rest := [.int (nI 2)]) C0 (mtX4_rateOf l g a σ (σ 19 0 r) k (by omega) ok) hP C0.2.2.2.1 (cwV 2 C0.hts gX4_holds_X4_rateOf rfl rfl rfl (by decide +kernel) ⟨Nat.le_of_ble_eq_true rfl, Nat.le_of_ble_eq_true rfl⟩) (x_recv C0 hP 0 (mX_n rfl) rfl rfl) rfl hl rfl (Nat.le_of_ble_eq_true rfl) (Nat.le_of_ble_eq_true rfl) (Nat.le_of_ble_eq_true rfl) dX4_holds_72 ?_
          refine lv_imul C0.hx C0.hb dX4_holds_75 ?_
          refine x_top (pk_mul 2 (rtX σ (σ 19 0 r) k)) ?_
          refine lv_iload C0.hx C0.hb dX4_holds_76 (lv_at hl 4 rfl) ?_
          refine x_icmp_le (tgt := 83) C0.hx C0.hb (by omega) (by omega) dX4_holds_78 (by decide) (fun c_7 => ?_) (fun c_7 => ?_)
          ·
            exact J83 () _ _ ls ⟨⟨rfl, rfl, (by omega)⟩, (lv_sub hl [0, 1, 2, 3, 4, 5] rfl)⟩
          ·
            refine lv_iconst (v := nI 0) C0.hx C0.hb dX4_holds_81 (by decide) ?_
            refine vx_ret ?_
            refine W.widen (k := 2) (n := 12) (Nat.le_of_ble_eq_true rfl) (Nat.le_of_ble_eq_true rfl) ?_
            exact W.zret (v := nI 0) C0.hx C0.hb hr rfl (fun t ht hW => ⟨⟨_, σ, rfl, ⟨⟨⟨hk_1, by rw [er]; simp [hfx], trivial⟩, (by rw [er, ← hG, if_pos ⟨by omega, by omega⟩]; rfl)⟩, rfl⟩, x_end ht hP⟩, hS.F ht⟩) hS.2.2 dX4_holds_82
  ·
    exact x_throw C0 hfl hex hlocks hP hS hT hZ hl (cls := eIS) (is := 152) (ic := 61) (text := "the report has no fix") (by decide +kernel) k_8 k_9 (by decide +kernel) t_eIS (tw_eIS).1 (tw_eIS).2 dX4_holds_20 dX4_holds_23 dX4_holds_24 dX4_holds_26 dX4_holds_29 (Nat.le_of_ble_eq_true rfl) (Nat.le_of_ble_eq_true rfl) (Nat.le_of_ble_eq_true rfl) (Nat.le_of_ble_eq_true rfl) (Or.inr ⟨hk_1, Or.inl ⟨by rw [er]; simp [c_2], rfl⟩⟩) (Nat.le_of_ble_eq_true rfl) (Nat.le_of_ble_eq_true rfl)
end
section
theorem va_AOA.moved {ty : FieldType} {s U : State} (h : s.vm.Alike U.vm) (hz : va_AOA ty s) : va_AOA ty U :=
  (show (Cond.arrayOver (.array ty)).before #[] U = (Cond.arrayOver (.array ty)).before #[] (s.setVm U.vm) from rfl).trans ((Cond.arrayOver_setVmC (args := #[]) h (.array ty)).trans hz)
/-- a world by its list -/
def xQ (g : xG) (A : Nat → Prop) (Wd : va_W) (H : Heap) : Prop := va_P g.1 vwCl Wd H ∧ va_D A Wd
def xRows (g : xG) (n k : Nat) (r : Nat → Nat) : va_W := (List.range n).map (fun i => (r i, xIa g k (fun _ => 0)))
theorem va_P_mem {D : va_G} {cl : List vw_C} {ws : va_W} {H : Heap} : va_P D cl ws H ↔ ∀ q ∈ ws, va_at D cl q H := by
  constructor
  · intro h q hq
    obtain ⟨k, hk⟩ := List.getElem?_of_mem hq
    exact h k q hk
  · intro h k q hk
    exact h q (List.mem_of_getElem? hk)
theorem va_D_nd {A : Nat → Prop} {ws : va_W} : va_D A ws ↔ (ws.map Prod.fst).Nodup ∧ ∀ q ∈ ws, A q.1 := by
  constructor
  · rintro ⟨h1, h2⟩
    refine ⟨?_, fun q hq => ?_⟩
    · unfold List.Nodup
      rw [List.pairwise_iff_getElem]
      intro i j hi hj hij e
      rw [List.length_map] at hi hj
      rw [List.getElem_map, List.getElem_map] at e
      have := h1 i j _ _ (List.getElem?_eq_getElem hi) (List.getElem?_eq_getElem hj) e
      omega
    · obtain ⟨k, hk⟩ := List.getElem?_of_mem hq
      exact h2 k q hk
  · rintro ⟨h1, h2⟩
    refine ⟨fun i j p q hi hj e => ?_, fun k q hk => h2 q (List.mem_of_getElem? hk)⟩
    unfold List.Nodup at h1
    rw [List.pairwise_iff_getElem] at h1
    obtain ⟨hi1, hi2⟩ := List.getElem?_eq_some_iff.mp hi
    obtain ⟨hj1, hj2⟩ := List.getElem?_eq_some_iff.mp hj
    rcases Nat.lt_trichotomy i j with h | h | h
    · exact absurd (by rw [List.getElem_map, List.getElem_map, hi2, hj2]; exact e) (h1 i j (by rw [List.length_map]; exact hi1) (by rw [List.length_map]; exact hj1) h)
    · exact h
    · exact absurd (by rw [List.getElem_map, List.getElem_map, hi2, hj2]; exact e.symm) (h1 j i (by rw [List.length_map]; exact hj1) (by rw [List.length_map]; exact hi1) h)
theorem arrV_congr {c : ClassId} {N : Nat} {f f' : Nat → Value} (h : ∀ j, j < N → f j = f' j) : arrV c N f = arrV c N f' := by
  have e : (Array.ofFn (n := N) fun j => f j.val) = Array.ofFn (n := N) fun j => f' j.val := by
    congr 1
    funext j
    exact h j.val j.isLt
  show ({ cls := c, slots := Array.ofFn (n := N) fun j => f j.val, vm := .none } : Cell) = _
  rw [e]
  rfl
theorem xDj_nd {NL : xNL} {a : xAd} : xDj NL a ↔ (NL.map (fun n => a n.1 n.2)).Nodup := by
  constructor
  · intro h
    unfold List.Nodup
    rw [List.pairwise_iff_getElem]
    intro i j hi hj hij e
    rw [List.length_map] at hi hj
    rw [List.getElem_map, List.getElem_map] at e
    have := h i j _ _ (List.getElem?_eq_getElem hi) (List.getElem?_eq_getElem hj) e
    omega
  · intro h1 i j p q hi hj e
    unfold List.Nodup at h1
    rw [List.pairwise_iff_getElem] at h1
    obtain ⟨hi1, hi2⟩ := List.getElem?_eq_some_iff.mp hi
    obtain ⟨hj1, hj2⟩ := List.getElem?_eq_some_iff.mp hj
    rcases Nat.lt_trichotomy i j with h | h | h
    · exact absurd (by rw [List.getElem_map, List.getElem_map, hi2, hj2]; exact e) (h1 i j (by rw [List.length_map]; exact hi1) (by rw [List.length_map]; exact hj1) h)
    · exact h
    · exact absurd (by rw [List.getElem_map, List.getElem_map, hi2, hj2]; exact e.symm) (h1 j i (by rw [List.length_map]; exact hj1) (by rw [List.length_map]; exact hi1) h)
theorem xDj.perm {NL NL' : xNL} {a : xAd} (h : xDj NL a) (hp : NL.isPerm NL' = true) : xDj NL' a := by
  rw [xDj_nd] at h ⊢
  exact ((List.isPerm_iff.mp hp).map _).nodup_iff.mp h
theorem xw_perm {NL NL' : xNL} {f : Nat → (Nat → Int32) → va_E} {a : xAd} {σ : xS} {cl : List vw_C} {D : va_G} {H : Heap} (h : va_P D cl (xwf f NL a σ) H) (hp : NL.isPerm NL' = true) : va_P D cl (xwf f NL' a σ) H :=
  xwf_sub h (fun _ hn => (List.isPerm_iff.mp hp).mem_iff.mpr hn)
theorem xQ_dj {g : xG} {A : Nat → Prop} {NL : xNL} {a : xAd} {σ : xS} {H : Heap} (h : xQ g A (xw NL g a σ) H) : xDj NL a := fun i j p q hi hj e => h.2.1 i j _ _ (xwf_at hi) (xwf_at hj) e
section XINIT
variable {p : Program} {l : Launch} {e : Env} {R : Room} {s : State} {m : MethodId} {args : Array Value} {below : List Frame} {meth : Method} {c : Code} {H : Heap} {locs : List Loc} {cells slots : Nat} {Q : State → Prop}
variable {cc : ByteArray} {pc nL : Nat} {ls : Array Slot} {rest : List Value} {Ts : List Cond} {own : String} {g : xG} {a : xAd} {A : Nat → Prop} {σ : xS} {Wd : va_W}
theorem x_newi (C0 : xC p s m args c cc nL Ts own [] g a A) (hQ : xQ g A Wd H) (hS : va_S A s.heap H locs) (hw : Cond.arrayClass .int ∈ Ts) (n : Nat) (hn : n ≤ 1000) (hcells : cells + 1 ≤ R.cells) (hslots : slots + n ≤ R.slots) (hdg : decode cc pc = .ok (.newarray .int, 2))
    (kk : ∀ (q : Nat) (H1 : Heap), xQ g A (Wd ++ [(q, xIa g n (fun _ => 0))]) H1 → va_S A s.heap H1 locs → W p l e R s m args below meth c H1 locs (cells + 1) (slots + n) Q (F0 m (pc + 2) ls (.ref q :: rest))) : W p l e R s m args below meth c H locs cells slots Q (F0 m pc ls (.int (nI n) :: rest)) := by
  refine va_newa (atype := .int) (ty := .int) C0.hx C0.hb (C0.hts _ hw) rfl C0.hK hQ.1 hQ.2 hS C0.2.2.2.2.2 (a0 := (n, .inl (fun _ => 0))) (fun cA => rfl) (fun h => (x_vpin (j := n) (n := n + 1) (by omega) (by omega)) (Or.inl h)) (nI_clamp (by omega)) (by simp only [componentBytes]; omega) hcells hslots hdg (fun q cA H1 hK1 hP1 hD1 hS1 => ?_)
  have e1 : s.vm.findClass ("[" ++ FieldType.int.toString) = some cA := (hK1.2 3 (cA, .int) rfl).2
  have e2 : s.vm.findClass ("[" ++ FieldType.int.toString) = some g.2.1 := (C0.hK.2 0 (g.2.1, .int) rfl).2
  have e3 : cA = g.2.1 := Option.some.inj (e1.symm.trans e2)
  subst e3
  exact kk q H1 ⟨hP1, hD1⟩ hS1
theorem x_newz (C0 : xC p s m args c cc nL Ts own [] g a A) (hQ : xQ g A Wd H) (hS : va_S A s.heap H locs) (hw : Cond.arrayClass .boolean ∈ Ts) (n : Nat) (hn : n ≤ 1000) (hcells : cells + 1 ≤ R.cells) (hslots : slots + n ≤ R.slots) (hdg : decode cc pc = .ok (.newarray .boolean, 2))
    (kk : ∀ (q : Nat) (H1 : Heap), xQ g A (Wd ++ [(q, xZa g n (fun _ => 0))]) H1 → va_S A s.heap H1 locs → W p l e R s m args below meth c H1 locs (cells + 1) (slots + n) Q (F0 m (pc + 2) ls (.ref q :: rest))) : W p l e R s m args below meth c H locs cells slots Q (F0 m pc ls (.int (nI n) :: rest)) := by
  refine va_newa (atype := .boolean) (ty := .boolean) C0.hx C0.hb (C0.hts _ hw) rfl C0.hK hQ.1 hQ.2 hS C0.2.2.2.2.2 (a0 := (n, .inl (fun _ => 0))) (fun cA => rfl) (fun h => (x_vpin (j := n) (n := n + 1) (by omega) (by omega)) (Or.inl h)) (nI_clamp (by omega)) (by simp only [componentBytes]; omega) hcells hslots hdg (fun q cA H1 hK1 hP1 hD1 hS1 => ?_)
  have e1 : s.vm.findClass ("[" ++ FieldType.boolean.toString) = some cA := (hK1.2 3 (cA, .boolean) rfl).2
  have e2 : s.vm.findClass ("[" ++ FieldType.boolean.toString) = some g.2.2.1 := (C0.hK.2 1 (g.2.2.1, .boolean) rfl).2
  have e3 : cA = g.2.2.1 := Option.some.inj (e1.symm.trans e2)
  subst e3
  exact kk q H1 ⟨hP1, hD1⟩ hS1
theorem x_mna (C0 : xC p s m args c cc nL Ts own [] g a A) (hO : va_AOA .int s) (hQ : xQ g A Wd H) (hS : va_S A s.heap H locs) {index : Nat} (hcl : Cond.classLink own index "[[I" ∈ Ts) (hw : Cond.arrayClass .int ∈ Ts) (n k : Nat) (hn : n ≤ 1000) (hk : k ≤ 1000) (hcells : cells + (1 + n) ≤ R.cells) (hslots : slots + (n + n * k) ≤ R.slots) (hdg : decode cc pc = .ok (.multianewarray index 2, 4))
    (kk : ∀ (q : Nat) (r : Nat → Nat) (H1 : Heap), xQ g A ((Wd ++ [(q, xRa g n r)]) ++ xRows g n k r) H1 → va_S A s.heap H1 locs → W p l e R s m args below meth c H1 locs (cells + 1 + n) (slots + n + n * k) Q (F0 m (pc + 4) ls (.ref q :: rest))) : W p l e R s m args below meth c H locs cells slots Q (F0 m pc ls (.int (nI k) :: .int (nI n) :: rest)) := by
  have e2 : s.vm.findClass (FieldType.array .int).toString = some g.2.1 := (C0.hK.2 0 (g.2.1, .int) rfl).2
  have hP0 : va_P g.1 vwCl (Wd ++ va_pl [] (fun _ => xIa g k (fun _ => 0))) H := by
    show va_P g.1 vwCl (Wd ++ []) H
    rw [List.append_nil]; exact hQ.1
  have hD0 : va_D A (Wd ++ va_pl [] (fun _ => xIa g k (fun _ => 0))) := by
    show va_D A (Wd ++ [])
    rw [List.append_nil]; exact hQ.2
  refine va_mna (ty := .int) (z := (k, .inl (fun _ => 0))) C0.hx C0.hb C0.1.2.2.2.1 (C0.hts _ hcl) hO (C0.hts _ hw) e2 C0.hK hP0 hD0 hS C0.2.2.2.2.2 (fun h => (x_vpin (j := n) (n := n + 1) (by omega) (by omega)) (Or.inl h)) (fun h => (x_vpin (j := k) (n := k + 1) (by omega) (by omega)) (Or.inl h)) (nI_clamp (by omega)) (nI_clamp (by omega)) (by omega) (by simp only [componentBytes]; omega) (by omega) rfl rfl hcells hslots (fun cA => (arrV_new _ _ _)) hdg (fun q r cA H1 hr1 hr2 hK1 hP1 hD1 hS1 => ?_)
  have e1 : s.vm.findClass ("[" ++ (FieldType.array .int).toString) = some cA := (hK1.2 3 (cA, .array .int) rfl).2
  have e4 : s.vm.findClass ("[" ++ (FieldType.array .int).toString) = some g.2.2.2.1 := (C0.hK.2 2 (g.2.2.2.1, .array .int) rfl).2
  have e3 : cA = g.2.2.2.1 := Option.some.inj (e1.symm.trans e4)
  subst e3
  have hL : va_pl ([] ++ (List.range n).map r) (vr_up (fun _ => xIa g k (fun _ => 0)) ((List.range n).map r) (.inl (g.2.1, (k, .inl (fun _ => 0))))) = xRows g n k r := by
    unfold va_pl xRows
    rw [List.nil_append, List.map_map]
    apply List.map_congr_left
    intro i hi
    show (r i, vr_up _ _ _ (r i)) = _
    rw [vr_up_in (List.mem_map.mpr ⟨i, hi, rfl⟩)]
    rfl
  rw [hL] at hP1 hD1
  refine kk q r H1 ⟨?_, ?_⟩ hS1
  · rw [va_P_mem] at hP1 ⊢
    intro x hx
    rcases List.mem_append.mp hx with h | h
    · rcases List.mem_append.mp h with h | h
      · exact hP1 x (List.mem_append_left _ (List.mem_append_left _ h))
      · rw [List.mem_singleton] at h
        subst h
        have h9 := hP1 _ (List.mem_append_left _ (List.mem_append_right _ (List.mem_singleton.mpr rfl)))
        show H1[q]? = some (vp_cell _ _)
        have h9 : H1[q]? = some (vp_cell g.2.2.2.1 (n, .inr (.inr (.inr (.inr (fun i => if i < n then some (r i) else none)))))) := h9
        rw [h9]
        congr 1
        rw [vp_cell_q, vp_cell_q]
        exact arrV_congr (fun i hi => by simp [hi])
    · exact hP1 x (List.mem_append_right _ h)
  · rw [va_D_nd] at hD1 ⊢
    refine ⟨?_, fun x hx => ?_⟩
    · have := hD1.1
      rw [List.map_append, List.map_append] at this ⊢
      exact this
    · rcases List.mem_append.mp hx with h | h
      · rcases List.mem_append.mp h with h | h
        · exact hD1.2 x (List.mem_append_left _ (List.mem_append_left _ h))
        · rw [List.mem_singleton] at h
          subst h
          exact hD1.2 (q, .inl (g.2.2.2.1, (n, .inr (.inr (.inr (.inr (fun i => if i < n then some (r i) else none))))))) (List.mem_append_left _ (List.mem_append_right _ (List.mem_singleton.mpr rfl)))
      · exact hD1.2 x (List.mem_append_right _ h)
/-- a final field of the object that is being made -/
theorem x_putR (C0 : xC p s m args c cc nL Ts own [] g a A) (hin2 : meth.name = "<init>") {b ci N : Nat} {T : u_T} {fs : List Value} {Td : va_W} (hQ : xQ g A ((b, .inr (ci, fs)) :: Td) H) (hS : va_S A s.heap H locs) (hc : vwCl[ci]? = some (own, T, N)) (ty0 : Nat → FieldType) (hty : ∀ k, k < N → parseFieldDescriptor (T k).2.2.1 = some (ty0 k)) (hnm : ∀ a, a < N → ∀ b, b < N → a ≠ b → (T a).2.1 ≠ (T b).2.1) (k : Nat) (hk : k < N) (hin : ∀ w ∈ u_ws own T N, w ∈ Ts) {index : Nat} (hlink : Cond.fieldLink own index own (T k).2.1 (T k).2.2.1 ∈ Ts) (hdecl : (T k).1 = own) (hfin : (T k).2.2.2 = true) {q : Nat} {ty : FieldType} (hd : parseFieldDescriptor (T k).2.2.1 = some ty) (hn : narrow ty (.ref q) = .ref q) (hfit : fits ty (.ref q) = true) (hl : k < fs.length) (hdg : decode cc pc = .ok (.putfield index, 3))
    (kk : ∀ (H1 : Heap) (locs1 : List Loc), xQ g A ((b, .inr (ci, fs.set k (.ref q))) :: Td) H1 → va_S A s.heap H1 locs1 → W p l e R s m args below meth c H1 locs1 cells slots Q (F0 m (pc + 3) ls rest)) : W p l e R s m args below meth c H locs cells slots Q (F0 m pc ls (.ref q :: .ref b :: rest)) :=
  va_putF C0.hx C0.hb C0.hts hin ty0 hty hnm C0.1.2.2.2.1 C0.hK hQ.1 hQ.2 hS 0 rfl hc k hk (C0.hts _ hlink) (fun x h => by rw [hdecl] at h; exact h) hfin hin2 hdecl hd hn hfit hl hdg (fun H1 locs1 q1 q2 q3 => kk H1 locs1 ⟨q1, q2⟩ q3)
theorem x_putI (C0 : xC p s m args c cc nL Ts own [] g a A) {b ci N : Nat} {T : u_T} {fs : List Value} {Td : va_W} (hQ : xQ g A ((b, .inr (ci, fs)) :: Td) H) (hS : va_S A s.heap H locs) (hc : vwCl[ci]? = some (own, T, N)) (ty0 : Nat → FieldType) (hty : ∀ k, k < N → parseFieldDescriptor (T k).2.2.1 = some (ty0 k)) (hnm : ∀ a, a < N → ∀ b, b < N → a ≠ b → (T a).2.1 ≠ (T b).2.1) (k : Nat) (hk : k < N) (hin : ∀ w ∈ u_ws own T N, w ∈ Ts) {index : Nat} (hlink : Cond.fieldLink own index own (T k).2.1 (T k).2.2.1 ∈ Ts) (hdecl : (T k).1 = own) (hfin : (T k).2.2.2 = false) {v : Int32} (hd : parseFieldDescriptor (T k).2.2.1 = some .int) (hl : k < fs.length) (hdg : decode cc pc = .ok (.putfield index, 3))
    (kk : ∀ (H1 : Heap) (locs1 : List Loc), xQ g A ((b, .inr (ci, fs.set k (.int v))) :: Td) H1 → va_S A s.heap H1 locs1 → W p l e R s m args below meth c H1 locs1 cells slots Q (F0 m (pc + 3) ls rest)) : W p l e R s m args below meth c H locs cells slots Q (F0 m pc ls (.int v :: .ref b :: rest)) :=
  va_put C0.hx C0.hb C0.hts hin ty0 hty hnm C0.1.2.2.2.1 C0.hK hQ.1 hQ.2 hS 0 rfl hc k hk (C0.hts _ hlink) (fun x h => by rw [hdecl] at h; exact h) hfin hd rfl rfl hl hdg (fun H1 locs1 q1 q2 q3 => kk H1 locs1 ⟨q1, q2⟩ q3)
theorem x_getI (C0 : xC p s m args c cc nL Ts own [] g a A) {b ci N : Nat} {T : u_T} {fs : List Value} {Td : va_W} (hQ : xQ g A ((b, .inr (ci, fs)) :: Td) H) (hc : vwCl[ci]? = some (own, T, N)) (k : Nat) (hk : k < N) (hin : ∀ w ∈ u_ws own T N, w ∈ Ts) {index : Nat} (hlink : Cond.fieldLink own index own (T k).2.1 (T k).2.2.1 ∈ Ts) (hdecl : (T k).1 = own) {v : Value} (hv : fs[k]? = some v) (hdg : decode cc pc = .ok (.getfield index, 3))
    (kk : W p l e R s m args below meth c H locs cells slots Q (F0 m (pc + 3) ls (v :: rest))) : W p l e R s m args below meth c H locs cells slots Q (F0 m pc ls (.ref b :: rest)) :=
  va_get C0.hx C0.hb C0.hts hin C0.1.2.2.2.1 C0.hK hQ.1 0 rfl hc k hk (C0.hts _ hlink) (fun x h => by rw [hdecl] at h; exact h) hv hdg kk
/-- a place of an int array of a world by its list -/
theorem x_iastQ (C0 : xC p s m args c cc nL Ts own [] g a A) (hQ : xQ g A Wd H) (hS : va_S A s.heap H locs) (q0 : Nat) {b n : Nat} {r : Nat → Int32} (he : Wd[q0]? = some (b, xIa g n r)) {j : Nat} (hj : j < n) (hn : n < 2 ^ 31) {v : Int32} (hdg : decode cc pc = .ok (.iastore, 1))
    (kk : ∀ (H1 : Heap) (locs1 : List Loc), xQ g A (Wd.set q0 (b, xIa g n (upd r j v))) H1 → va_S A s.heap H1 locs1 → W p l e R s m args below meth c H1 locs1 cells slots Q (F0 m (pc + 1) ls rest)) : W p l e R s m args below meth c H locs cells slots Q (F0 m pc ls (.int v :: .int (nI j) :: .ref b :: rest)) := by
  refine va_iast C0.hx C0.hb C0.hK hQ.1 hQ.2 hS q0 0 he rfl (x_vpin hj hn) hdg (fun H1 locs1 q1 q2 q3 => ?_)
  rw [nI_clamp (Nat.lt_trans hj hn)] at q1 q2
  exact kk H1 locs1 ⟨q1, q2⟩ q3
end XINIT
/-- 0, 1, .. up to t, then zeros -/
def idR (t : Nat) : Nat → Int32 := fun j => if j < t then nI j else 0
theorem idR_up (t : Nat) : upd (idR t) t (nI t) = idR (t + 1) := by
  funext j
  unfold upd idR
  by_cases h : j = t
  · subst h; simp
  · by_cases h2 : j < t
    · simp [h, h2, Nat.lt_succ_of_lt h2]
    · simp [h, h2, show ¬ j < t + 1 by omega]
theorem idR_0 : idR 0 = fun _ => 0 := rfl
/-- a constructor that takes nothing -/
def xIn (l : Launch) (y : MethodName) (ws : List Cond) (rm : Room) (g : xG) (b ci : Nat) (fs0 : List Value) (S : Type) (Wd : S → va_W) (mc ms : Nat) : Prop :=
  ∀ sz : Nat, Met l y ws rm (va_Pc [.ref b] (fun U => U.heap.size = sz ∧ va_P g.1 vwCl [(b, .inr (ci, fs0))] U.heap ∧ va_K g.1 vwCl (xT g) U ∧ xN U ∧ va_AOA .int U)) (va_Qv (fun _ : S => True) (fun u t => xQ g (fun q => q = b ∨ sz ≤ q) (Wd u) t.heap) (fun q => q = b ∨ sz ≤ q)) mc ms (fun q => q = b ∨ sz ≤ q)
theorem xFBn {As : List Value} {g : xG} {sz b ci : Nat} {fs0 : List Value} : FrameBlind (va_Pc As (fun U => U.heap.size = sz ∧ va_P g.1 vwCl [(b, .inr (ci, fs0))] U.heap ∧ va_K g.1 vwCl (xT g) U ∧ xN U ∧ va_AOA .int U)) := fun v U g' mk q => by
  obtain ⟨q0, q9, q1, q2, q3, q4⟩ := q
  exact ⟨q0, q9, q1, va_K.moved (u := U) (U := U.calling g' mk v) (Vm.Alike.refl U.vm) q2, xN.same (s := U) (U := U.calling g' mk v) rfl q3, va_AOA.moved (s := U) (U := U.calling g' mk v) (Vm.Alike.refl U.vm) q4⟩
abbrev SX0 : Type := Nat × Nat × (Nat → Nat) × Nat × (Nat → Nat) × Nat × (Nat → Nat)
def wdX0 (g : xG) (b : Nat) (u : SX0) : va_W := (b, .inr (0, [.ref u.1, .ref u.2.1, .ref u.2.2.2.1, .ref u.2.2.2.2.2.1])) :: (((((((([] : va_W) ++ [(u.1, xIa g 4 (fun _ => 0))]) ++ [(u.2.1, xRa g 4 u.2.2.1)]) ++ xRows g 4 30 u.2.2.1) ++ [(u.2.2.2.1, xRa g 4 u.2.2.2.2.1)]) ++ xRows g 4 30 u.2.2.2.2.1) ++ [(u.2.2.2.2.2.1, xRa g 4 u.2.2.2.2.2.2)]) ++ xRows g 4 30 u.2.2.2.2.2.2)
set_option maxHeartbeats 4000000 in
set_option maxRecDepth 100000 in
theorem mtX0_init (l : Launch) (g : xG) (b : Nat) : xIn l yX0_init wsX0_init ({ frames := 1, cells := 16, slots := 376, locals := 12 }) g b 0 [.null, .null, .null, .null] SX0 (wdX0 g b) 16 376 := by
  intro sz
  refine Met.ofW (cc := cX0_init) (maxL := 1) (ret := none) (by decide) rfl ?_
  intro p e s m args below meth c s₁ B hml hv
  obtain ⟨rfl, hsz, hP, hK, hN, hO⟩ := hv
  have hr := B.returns
  have hlocks := B.notSynchronized
  subst hsz
  have hin2 : meth.name = "<init>" := (name_of_methodNamed B.named B.method).1
  generalize hAe : (fun q : Nat => q = b ∨ s.heap.size ≤ q) = A
  have hAb : A b := by rw [← hAe]; exact Or.inl rfl
  have hAf : ∀ q : Nat, s.heap.size ≤ q → A q := fun q h => by rw [← hAe]; exact Or.inr h
  have C0 : xC p s m _ c cX0_init 1 wsX0_init RX0 [] g (fun _ _ => 0) A := ⟨⟨B.exec, B.bytes, hml, findClass_of_methodNamed B.named, atoms_spec (ws := wsX0_init) B.pre⟩, hK, hN, (fun i j p q h => nomatch h), (fun n h => nomatch h), hAf⟩
  have hS : va_S A s.heap s.heap [] := va_S.rf
  have hQ : xQ g A ((b, .inr (0, [.null, .null, .null, .null])) :: ([] : va_W)) s.heap := ⟨hP, va_D_nd.mpr ⟨by simp, fun q hq => by rw [List.mem_singleton] at hq; rw [hq]; exact hAb⟩⟩
  have hl := lv_entry ([.ref b]) (n := 1) (Nat.le_of_ble_eq_true rfl)
  rw [lg_entry_eq]
  generalize (lg_sl ([.ref b]) ++ List.replicate (1 - (lg_sl ([.ref b])).length) Slot.unset).toArray = ls at hl ⊢
  have hl : lv_has ls 1 [(0, .ref b)] := hl
  have i_own : ∀ w ∈ u_ws RX0 TX0 4, w ∈ wsX0_init := by decide +kernel
  have hRc : 16 ≤ ({ frames := 1, cells := 16, slots := 376, locals := 12 } : Room).cells := Nat.le_refl _
  have hRs : 376 ≤ ({ frames := 1, cells := 16, slots := 376, locals := 12 } : Room).slots := Nat.le_refl _
  refine lv_aload_n C0.hx C0.hb dX0_init_0 rfl (lv_at hl 0 rfl) ?_
  refine W.objInit C0.hx C0.hb C0.1.2.2.2.1 (C0.hts (.methodLink RX0 3 objectInit) (by decide +kernel)) (C0.hts (.instanceMethod objectInit) (by decide +kernel)) (C0.hts (.code objectInit ⟨#[0xb1]⟩ 1 none) (List.mem_cons_of_mem _ ((List.mem_of_getElem? (i := 2) rfl)))) rfl (by rw [hml]; exact hl.1) rfl dX0_init_1 (Nat.le_of_ble_eq_true rfl) (Nat.le_of_ble_eq_true rfl) ?_
  refine W.eq (g2 := F0 m 4 ls []) rfl ?_
  refine lv_aload_n C0.hx C0.hb dX0_init_4 rfl (lv_at hl 0 rfl) ?_
  refine lv_iconst (v := nI 4) C0.hx C0.hb dX0_init_5 (by decide) ?_
  refine x_newi C0 hQ hS (by decide +kernel) 4 (by decide) (Nat.le_trans (Nat.le_of_ble_eq_true rfl) hRc) (Nat.le_trans (Nat.le_of_ble_eq_true rfl) hRs) dX0_init_6 (fun q6 H hQ hS => ?_)
  have hQ : xQ g A ((b, .inr (0, [.null, .null, .null, .null])) :: (([] : va_W) ++ [(q6, xIa g 4 (fun _ => 0))])) H := hQ
  refine x_putR C0 hin2 hQ hS rfl tyX0 tyX0_ok nmX0 0 (by decide) i_own (by decide +kernel) rfl rfl (ty := .array .int) rfl rfl rfl (Nat.le_of_ble_eq_true rfl) dX0_init_8 (fun H locs hQ hS => ?_)
  have hQ : xQ g A ((b, .inr (0, [.ref q6, .null, .null, .null])) :: (([] : va_W) ++ [(q6, xIa g 4 (fun _ => 0))])) H := hQ
  refine lv_aload_n C0.hx C0.hb dX0_init_11 rfl (lv_at hl 0 rfl) ?_
  refine lv_iconst (v := nI 4) C0.hx C0.hb dX0_init_12 (by decide) ?_
  refine lv_bipush (v := nI 30) C0.hx C0.hb dX0_init_13 (by decide) ?_
  refine x_mna C0 hO hQ hS (by decide +kernel) (by decide +kernel) 4 30 (by decide) (by decide) (Nat.le_trans (Nat.le_of_ble_eq_true rfl) hRc) (Nat.le_trans (Nat.le_of_ble_eq_true rfl) hRs) dX0_init_15 (fun q15 r15 H hQ hS => ?_)
  have hQ : xQ g A ((b, .inr (0, [.ref q6, .null, .null, .null])) :: (((([] : va_W) ++ [(q6, xIa g 4 (fun _ => 0))]) ++ [(q15, xRa g 4 r15)]) ++ xRows g 4 30 r15)) H := hQ
  refine x_putR C0 hin2 hQ hS rfl tyX0 tyX0_ok nmX0 1 (by decide) i_own (by decide +kernel) rfl rfl (ty := .array (.array .int)) rfl rfl rfl (Nat.le_of_ble_eq_true rfl) dX0_init_19 (fun H locs hQ hS => ?_)
  have hQ : xQ g A ((b, .inr (0, [.ref q6, .ref q15, .null, .null])) :: (((([] : va_W) ++ [(q6, xIa g 4 (fun _ => 0))]) ++ [(q15, xRa g 4 r15)]) ++ xRows g 4 30 r15)) H := hQ
  refine lv_aload_n C0.hx C0.hb dX0_init_22 rfl (lv_at hl 0 rfl) ?_
  refine lv_iconst (v := nI 4) C0.hx C0.hb dX0_init_23 (by decide) ?_
  refine lv_bipush (v := nI 30) C0.hx C0.hb dX0_init_24 (by decide) ?_
  refine x_mna C0 hO hQ hS (by decide +kernel) (by decide +kernel) 4 30 (by decide) (by decide) (Nat.le_trans (Nat.le_of_ble_eq_true rfl) hRc) (Nat.le_trans (Nat.le_of_ble_eq_true rfl) hRs) dX0_init_26 (fun q26 r26 H hQ hS => ?_)
  have hQ : xQ g A ((b, .inr (0, [.ref q6, .ref q15, .null, .null])) :: (((((([] : va_W) ++ [(q6, xIa g 4 (fun _ => 0))]) ++ [(q15, xRa g 4 r15)]) ++ xRows g 4 30 r15) ++ [(q26, xRa g 4 r26)]) ++ xRows g 4 30 r26)) H := hQ
  refine x_putR C0 hin2 hQ hS rfl tyX0 tyX0_ok nmX0 2 (by decide) i_own (by decide +kernel) rfl rfl (ty := .array (.array .int)) rfl rfl rfl (Nat.le_of_ble_eq_true rfl) dX0_init_30 (fun H locs hQ hS => ?_)
  have hQ : xQ g A ((b, .inr (0, [.ref q6, .ref q15, .ref q26, .null])) :: (((((([] : va_W) ++ [(q6, xIa g 4 (fun _ => 0))]) ++ [(q15, xRa g 4 r15)]) ++ xRows g 4 30 r15) ++ [(q26, xRa g 4 r26)]) ++ xRows g 4 30 r26)) H := hQ
  refine lv_aload_n C0.hx C0.hb dX0_init_33 rfl (lv_at hl 0 rfl) ?_
  refine lv_iconst (v := nI 4) C0.hx C0.hb dX0_init_34 (by decide) ?_
  refine lv_bipush (v := nI 30) C0.hx C0.hb dX0_init_35 (by decide) ?_
  refine x_mna C0 hO hQ hS (by decide +kernel) (by decide +kernel) 4 30 (by decide) (by decide) (Nat.le_trans (Nat.le_of_ble_eq_true rfl) hRc) (Nat.le_trans (Nat.le_of_ble_eq_true rfl) hRs) dX0_init_37 (fun q37 r37 H hQ hS => ?_)
  have hQ : xQ g A ((b, .inr (0, [.ref q6, .ref q15, .ref q26, .null])) :: (((((((([] : va_W) ++ [(q6, xIa g 4 (fun _ => 0))]) ++ [(q15, xRa g 4 r15)]) ++ xRows g 4 30 r15) ++ [(q26, xRa g 4 r26)]) ++ xRows g 4 30 r26) ++ [(q37, xRa g 4 r37)]) ++ xRows g 4 30 r37)) H := hQ
  refine x_putR C0 hin2 hQ hS rfl tyX0 tyX0_ok nmX0 3 (by decide) i_own (by decide +kernel) rfl rfl (ty := .array (.array .int)) rfl rfl rfl (Nat.le_of_ble_eq_true rfl) dX0_init_41 (fun H locs hQ hS => ?_)
  have hQ : xQ g A ((b, .inr (0, [.ref q6, .ref q15, .ref q26, .ref q37])) :: (((((((([] : va_W) ++ [(q6, xIa g 4 (fun _ => 0))]) ++ [(q15, xRa g 4 r15)]) ++ xRows g 4 30 r15) ++ [(q26, xRa g 4 r26)]) ++ xRows g 4 30 r26) ++ [(q37, xRa g 4 r37)]) ++ xRows g 4 30 r37)) H := hQ
  exact W.vret C0.hx C0.hb hr (fun t ht hW => ⟨⟨⟨q6, q15, r15, q26, r26, q37, r37⟩, rfl, trivial, by show xQ g A _ t.heap; rw [ht]; exact hQ⟩, hS.F ht⟩) hS.2.2 dX0_init_44
abbrev SX1 : Type := Nat × (Nat → Nat) × Nat × (Nat → Nat) × Nat × Nat
def wdX1 (g : xG) (b : Nat) (u : SX1) : va_W := (b, .inr (1, [.ref u.1, .ref u.2.2.1, .ref u.2.2.2.2.1, .ref u.2.2.2.2.2])) :: ((((((([] : va_W) ++ [(u.1, xRa g 60 u.2.1)]) ++ xRows g 60 4 u.2.1) ++ [(u.2.2.1, xRa g 60 u.2.2.2.1)]) ++ xRows g 60 4 u.2.2.2.1) ++ [(u.2.2.2.2.1, xIa g 60 (fun _ => 0))]) ++ [(u.2.2.2.2.2, xIa g 60 (fun _ => 0))])
set_option maxHeartbeats 4000000 in
set_option maxRecDepth 100000 in
theorem mtX1_init (l : Launch) (g : xG) (b : Nat) : xIn l yX1_init wsX1_init ({ frames := 1, cells := 124, slots := 720, locals := 12 }) g b 1 [.null, .null, .null, .null] SX1 (wdX1 g b) 124 720 := by
  intro sz
  refine Met.ofW (cc := cX1_init) (maxL := 1) (ret := none) (by decide) rfl ?_
  intro p e s m args below meth c s₁ B hml hv
  obtain ⟨rfl, hsz, hP, hK, hN, hO⟩ := hv
  have hr := B.returns
  have hlocks := B.notSynchronized
  subst hsz
  have hin2 : meth.name = "<init>" := (name_of_methodNamed B.named B.method).1
  generalize hAe : (fun q : Nat => q = b ∨ s.heap.size ≤ q) = A
  have hAb : A b := by rw [← hAe]; exact Or.inl rfl
  have hAf : ∀ q : Nat, s.heap.size ≤ q → A q := fun q h => by rw [← hAe]; exact Or.inr h
  have C0 : xC p s m _ c cX1_init 1 wsX1_init RX1 [] g (fun _ _ => 0) A := ⟨⟨B.exec, B.bytes, hml, findClass_of_methodNamed B.named, atoms_spec (ws := wsX1_init) B.pre⟩, hK, hN, (fun i j p q h => nomatch h), (fun n h => nomatch h), hAf⟩
  have hS : va_S A s.heap s.heap [] := va_S.rf
  have hQ : xQ g A ((b, .inr (1, [.null, .null, .null, .null])) :: ([] : va_W)) s.heap := ⟨hP, va_D_nd.mpr ⟨by simp, fun q hq => by rw [List.mem_singleton] at hq; rw [hq]; exact hAb⟩⟩
  have hl := lv_entry ([.ref b]) (n := 1) (Nat.le_of_ble_eq_true rfl)
  rw [lg_entry_eq]
  generalize (lg_sl ([.ref b]) ++ List.replicate (1 - (lg_sl ([.ref b])).length) Slot.unset).toArray = ls at hl ⊢
  have hl : lv_has ls 1 [(0, .ref b)] := hl
  have i_own : ∀ w ∈ u_ws RX1 TX1 4, w ∈ wsX1_init := by decide +kernel
  have hRc : 124 ≤ ({ frames := 1, cells := 124, slots := 720, locals := 12 } : Room).cells := Nat.le_refl _
  have hRs : 720 ≤ ({ frames := 1, cells := 124, slots := 720, locals := 12 } : Room).slots := Nat.le_refl _
  refine lv_aload_n C0.hx C0.hb dX1_init_0 rfl (lv_at hl 0 rfl) ?_
  refine W.objInit C0.hx C0.hb C0.1.2.2.2.1 (C0.hts (.methodLink RX1 3 objectInit) (by decide +kernel)) (C0.hts (.instanceMethod objectInit) (by decide +kernel)) (C0.hts (.code objectInit ⟨#[0xb1]⟩ 1 none) (List.mem_cons_of_mem _ ((List.mem_of_getElem? (i := 2) rfl)))) rfl (by rw [hml]; exact hl.1) rfl dX1_init_1 (Nat.le_of_ble_eq_true rfl) (Nat.le_of_ble_eq_true rfl) ?_
  refine W.eq (g2 := F0 m 4 ls []) rfl ?_
  refine lv_aload_n C0.hx C0.hb dX1_init_4 rfl (lv_at hl 0 rfl) ?_
  refine lv_bipush (v := nI 60) C0.hx C0.hb dX1_init_5 (by decide) ?_
  refine lv_iconst (v := nI 4) C0.hx C0.hb dX1_init_7 (by decide) ?_
  refine x_mna C0 hO hQ hS (by decide +kernel) (by decide +kernel) 60 4 (by decide) (by decide) (Nat.le_trans (Nat.le_of_ble_eq_true rfl) hRc) (Nat.le_trans (Nat.le_of_ble_eq_true rfl) hRs) dX1_init_8 (fun q8 r8 H hQ hS => ?_)
  have hQ : xQ g A ((b, .inr (1, [.null, .null, .null, .null])) :: ((([] : va_W) ++ [(q8, xRa g 60 r8)]) ++ xRows g 60 4 r8)) H := hQ
  refine x_putR C0 hin2 hQ hS rfl tyX1 tyX1_ok nmX1 0 (by decide) i_own (by decide +kernel) rfl rfl (ty := .array (.array .int)) rfl rfl rfl (Nat.le_of_ble_eq_true rfl) dX1_init_12 (fun H locs hQ hS => ?_)
  have hQ : xQ g A ((b, .inr (1, [.ref q8, .null, .null, .null])) :: ((([] : va_W) ++ [(q8, xRa g 60 r8)]) ++ xRows g 60 4 r8)) H := hQ
  refine lv_aload_n C0.hx C0.hb dX1_init_15 rfl (lv_at hl 0 rfl) ?_
  refine lv_bipush (v := nI 60) C0.hx C0.hb dX1_init_16 (by decide) ?_
  refine lv_iconst (v := nI 4) C0.hx C0.hb dX1_init_18 (by decide) ?_
  refine x_mna C0 hO hQ hS (by decide +kernel) (by decide +kernel) 60 4 (by decide) (by decide) (Nat.le_trans (Nat.le_of_ble_eq_true rfl) hRc) (Nat.le_trans (Nat.le_of_ble_eq_true rfl) hRs) dX1_init_19 (fun q19 r19 H hQ hS => ?_)
  have hQ : xQ g A ((b, .inr (1, [.ref q8, .null, .null, .null])) :: ((((([] : va_W) ++ [(q8, xRa g 60 r8)]) ++ xRows g 60 4 r8) ++ [(q19, xRa g 60 r19)]) ++ xRows g 60 4 r19)) H := hQ
  refine x_putR C0 hin2 hQ hS rfl tyX1 tyX1_ok nmX1 1 (by decide) i_own (by decide +kernel) rfl rfl (ty := .array (.array .int)) rfl rfl rfl (Nat.le_of_ble_eq_true rfl) dX1_init_23 (fun H locs hQ hS => ?_)
  have hQ : xQ g A ((b, .inr (1, [.ref q8, .ref q19, .null, .null])) :: ((((([] : va_W) ++ [(q8, xRa g 60 r8)]) ++ xRows g 60 4 r8) ++ [(q19, xRa g 60 r19)]) ++ xRows g 60 4 r19)) H := hQ
  refine lv_aload_n C0.hx C0.hb dX1_init_26 rfl (lv_at hl 0 rfl) ?_
  refine lv_bipush (v := nI 60) C0.hx C0.hb dX1_init_27 (by decide) ?_
  refine x_newi C0 hQ hS (by decide +kernel) 60 (by decide) (Nat.le_trans (Nat.le_of_ble_eq_true rfl) hRc) (Nat.le_trans (Nat.le_of_ble_eq_true rfl) hRs) dX1_init_29 (fun q29 H hQ hS => ?_)
  have hQ : xQ g A ((b, .inr (1, [.ref q8, .ref q19, .null, .null])) :: (((((([] : va_W) ++ [(q8, xRa g 60 r8)]) ++ xRows g 60 4 r8) ++ [(q19, xRa g 60 r19)]) ++ xRows g 60 4 r19) ++ [(q29, xIa g 60 (fun _ => 0))])) H := hQ
  refine x_putR C0 hin2 hQ hS rfl tyX1 tyX1_ok nmX1 2 (by decide) i_own (by decide +kernel) rfl rfl (ty := .array .int) rfl rfl rfl (Nat.le_of_ble_eq_true rfl) dX1_init_31 (fun H locs hQ hS => ?_)
  have hQ : xQ g A ((b, .inr (1, [.ref q8, .ref q19, .ref q29, .null])) :: (((((([] : va_W) ++ [(q8, xRa g 60 r8)]) ++ xRows g 60 4 r8) ++ [(q19, xRa g 60 r19)]) ++ xRows g 60 4 r19) ++ [(q29, xIa g 60 (fun _ => 0))])) H := hQ
  refine lv_aload_n C0.hx C0.hb dX1_init_34 rfl (lv_at hl 0 rfl) ?_
  refine lv_bipush (v := nI 60) C0.hx C0.hb dX1_init_35 (by decide) ?_
  refine x_newi C0 hQ hS (by decide +kernel) 60 (by decide) (Nat.le_trans (Nat.le_of_ble_eq_true rfl) hRc) (Nat.le_trans (Nat.le_of_ble_eq_true rfl) hRs) dX1_init_37 (fun q37 H hQ hS => ?_)
  have hQ : xQ g A ((b, .inr (1, [.ref q8, .ref q19, .ref q29, .null])) :: ((((((([] : va_W) ++ [(q8, xRa g 60 r8)]) ++ xRows g 60 4 r8) ++ [(q19, xRa g 60 r19)]) ++ xRows g 60 4 r19) ++ [(q29, xIa g 60 (fun _ => 0))]) ++ [(q37, xIa g 60 (fun _ => 0))])) H := hQ
  refine x_putR C0 hin2 hQ hS rfl tyX1 tyX1_ok nmX1 3 (by decide) i_own (by decide +kernel) rfl rfl (ty := .array .int) rfl rfl rfl (Nat.le_of_ble_eq_true rfl) dX1_init_39 (fun H locs hQ hS => ?_)
  have hQ : xQ g A ((b, .inr (1, [.ref q8, .ref q19, .ref q29, .ref q37])) :: ((((((([] : va_W) ++ [(q8, xRa g 60 r8)]) ++ xRows g 60 4 r8) ++ [(q19, xRa g 60 r19)]) ++ xRows g 60 4 r19) ++ [(q29, xIa g 60 (fun _ => 0))]) ++ [(q37, xIa g 60 (fun _ => 0))])) H := hQ
  exact W.vret C0.hx C0.hb hr (fun t ht hW => ⟨⟨⟨q8, r8, q19, r19, q29, q37⟩, rfl, trivial, by show xQ g A _ t.heap; rw [ht]; exact hQ⟩, hS.F ht⟩) hS.2.2 dX1_init_42
abbrev SX2 : Type := Nat × Nat × Nat × (Nat → Nat) × Nat
def wdX2 (g : xG) (b : Nat) (u : SX2) : va_W := (b, .inr (2, [.int (nI 0), .ref u.1, .ref u.2.1, .ref u.2.2.1, .ref u.2.2.2.2])) :: (((((([] : va_W) ++ [(u.1, xIa g 60 (fun _ => 0))]) ++ [(u.2.1, xIa g 60 (fun _ => 0))]) ++ [(u.2.2.1, xRa g 60 u.2.2.2.1)]) ++ xRows g 60 4 u.2.2.2.1) ++ [(u.2.2.2.2, xIa g 60 (fun _ => 0))])
set_option maxHeartbeats 4000000 in
set_option maxRecDepth 100000 in
theorem mtX2_init (l : Launch) (g : xG) (b : Nat) : xIn l yX2_init wsX2_init ({ frames := 1, cells := 64, slots := 480, locals := 12 }) g b 2 [.int 0, .null, .null, .null, .null] SX2 (wdX2 g b) 64 480 := by
  intro sz
  refine Met.ofW (cc := cX2_init) (maxL := 1) (ret := none) (by decide) rfl ?_
  intro p e s m args below meth c s₁ B hml hv
  obtain ⟨rfl, hsz, hP, hK, hN, hO⟩ := hv
  have hr := B.returns
  have hlocks := B.notSynchronized
  subst hsz
  have hin2 : meth.name = "<init>" := (name_of_methodNamed B.named B.method).1
  generalize hAe : (fun q : Nat => q = b ∨ s.heap.size ≤ q) = A
  have hAb : A b := by rw [← hAe]; exact Or.inl rfl
  have hAf : ∀ q : Nat, s.heap.size ≤ q → A q := fun q h => by rw [← hAe]; exact Or.inr h
  have C0 : xC p s m _ c cX2_init 1 wsX2_init RX2 [] g (fun _ _ => 0) A := ⟨⟨B.exec, B.bytes, hml, findClass_of_methodNamed B.named, atoms_spec (ws := wsX2_init) B.pre⟩, hK, hN, (fun i j p q h => nomatch h), (fun n h => nomatch h), hAf⟩
  have hS : va_S A s.heap s.heap [] := va_S.rf
  have hQ : xQ g A ((b, .inr (2, [.int 0, .null, .null, .null, .null])) :: ([] : va_W)) s.heap := ⟨hP, va_D_nd.mpr ⟨by simp, fun q hq => by rw [List.mem_singleton] at hq; rw [hq]; exact hAb⟩⟩
  have hl := lv_entry ([.ref b]) (n := 1) (Nat.le_of_ble_eq_true rfl)
  rw [lg_entry_eq]
  generalize (lg_sl ([.ref b]) ++ List.replicate (1 - (lg_sl ([.ref b])).length) Slot.unset).toArray = ls at hl ⊢
  have hl : lv_has ls 1 [(0, .ref b)] := hl
  have i_own : ∀ w ∈ u_ws RX2 TX2 5, w ∈ wsX2_init := by decide +kernel
  have hRc : 64 ≤ ({ frames := 1, cells := 64, slots := 480, locals := 12 } : Room).cells := Nat.le_refl _
  have hRs : 480 ≤ ({ frames := 1, cells := 64, slots := 480, locals := 12 } : Room).slots := Nat.le_refl _
  refine lv_aload_n C0.hx C0.hb dX2_init_0 rfl (lv_at hl 0 rfl) ?_
  refine W.objInit C0.hx C0.hb C0.1.2.2.2.1 (C0.hts (.methodLink RX2 3 objectInit) (by decide +kernel)) (C0.hts (.instanceMethod objectInit) (by decide +kernel)) (C0.hts (.code objectInit ⟨#[0xb1]⟩ 1 none) (List.mem_cons_of_mem _ ((List.mem_of_getElem? (i := 2) rfl)))) rfl (by rw [hml]; exact hl.1) rfl dX2_init_1 (Nat.le_of_ble_eq_true rfl) (Nat.le_of_ble_eq_true rfl) ?_
  refine W.eq (g2 := F0 m 4 ls []) rfl ?_
  refine lv_aload_n C0.hx C0.hb dX2_init_4 rfl (lv_at hl 0 rfl) ?_
  refine lv_iconst (v := nI 0) C0.hx C0.hb dX2_init_5 (by decide) ?_
  refine x_putI C0 hQ hS rfl tyX2 tyX2_ok nmX2 0 (by decide) i_own (by decide +kernel) rfl rfl rfl (Nat.le_of_ble_eq_true rfl) dX2_init_6 (fun H locs hQ hS => ?_)
  have hQ : xQ g A ((b, .inr (2, [.int (nI 0), .null, .null, .null, .null])) :: ([] : va_W)) H := hQ
  refine lv_aload_n C0.hx C0.hb dX2_init_9 rfl (lv_at hl 0 rfl) ?_
  refine lv_bipush (v := nI 60) C0.hx C0.hb dX2_init_10 (by decide) ?_
  refine x_newi C0 hQ hS (by decide +kernel) 60 (by decide) (Nat.le_trans (Nat.le_of_ble_eq_true rfl) hRc) (Nat.le_trans (Nat.le_of_ble_eq_true rfl) hRs) dX2_init_12 (fun q12 H hQ hS => ?_)
  have hQ : xQ g A ((b, .inr (2, [.int (nI 0), .null, .null, .null, .null])) :: (([] : va_W) ++ [(q12, xIa g 60 (fun _ => 0))])) H := hQ
  refine x_putR C0 hin2 hQ hS rfl tyX2 tyX2_ok nmX2 1 (by decide) i_own (by decide +kernel) rfl rfl (ty := .array .int) rfl rfl rfl (Nat.le_of_ble_eq_true rfl) dX2_init_14 (fun H locs hQ hS => ?_)
  have hQ : xQ g A ((b, .inr (2, [.int (nI 0), .ref q12, .null, .null, .null])) :: (([] : va_W) ++ [(q12, xIa g 60 (fun _ => 0))])) H := hQ
  refine lv_aload_n C0.hx C0.hb dX2_init_17 rfl (lv_at hl 0 rfl) ?_
  refine lv_bipush (v := nI 60) C0.hx C0.hb dX2_init_18 (by decide) ?_
  refine x_newi C0 hQ hS (by decide +kernel) 60 (by decide) (Nat.le_trans (Nat.le_of_ble_eq_true rfl) hRc) (Nat.le_trans (Nat.le_of_ble_eq_true rfl) hRs) dX2_init_20 (fun q20 H hQ hS => ?_)
  have hQ : xQ g A ((b, .inr (2, [.int (nI 0), .ref q12, .null, .null, .null])) :: ((([] : va_W) ++ [(q12, xIa g 60 (fun _ => 0))]) ++ [(q20, xIa g 60 (fun _ => 0))])) H := hQ
  refine x_putR C0 hin2 hQ hS rfl tyX2 tyX2_ok nmX2 2 (by decide) i_own (by decide +kernel) rfl rfl (ty := .array .int) rfl rfl rfl (Nat.le_of_ble_eq_true rfl) dX2_init_22 (fun H locs hQ hS => ?_)
  have hQ : xQ g A ((b, .inr (2, [.int (nI 0), .ref q12, .ref q20, .null, .null])) :: ((([] : va_W) ++ [(q12, xIa g 60 (fun _ => 0))]) ++ [(q20, xIa g 60 (fun _ => 0))])) H := hQ
  refine lv_aload_n C0.hx C0.hb dX2_init_25 rfl (lv_at hl 0 rfl) ?_
  refine lv_bipush (v := nI 60) C0.hx C0.hb dX2_init_26 (by decide) ?_
  refine lv_iconst (v := nI 4) C0.hx C0.hb dX2_init_28 (by decide) ?_
  refine x_mna C0 hO hQ hS (by decide +kernel) (by decide +kernel) 60 4 (by decide) (by decide) (Nat.le_trans (Nat.le_of_ble_eq_true rfl) hRc) (Nat.le_trans (Nat.le_of_ble_eq_true rfl) hRs) dX2_init_29 (fun q29 r29 H hQ hS => ?_)
  have hQ : xQ g A ((b, .inr (2, [.int (nI 0), .ref q12, .ref q20, .null, .null])) :: ((((([] : va_W) ++ [(q12, xIa g 60 (fun _ => 0))]) ++ [(q20, xIa g 60 (fun _ => 0))]) ++ [(q29, xRa g 60 r29)]) ++ xRows g 60 4 r29)) H := hQ
  refine x_putR C0 hin2 hQ hS rfl tyX2 tyX2_ok nmX2 3 (by decide) i_own (by decide +kernel) rfl rfl (ty := .array (.array .int)) rfl rfl rfl (Nat.le_of_ble_eq_true rfl) dX2_init_33 (fun H locs hQ hS => ?_)
  have hQ : xQ g A ((b, .inr (2, [.int (nI 0), .ref q12, .ref q20, .ref q29, .null])) :: ((((([] : va_W) ++ [(q12, xIa g 60 (fun _ => 0))]) ++ [(q20, xIa g 60 (fun _ => 0))]) ++ [(q29, xRa g 60 r29)]) ++ xRows g 60 4 r29)) H := hQ
  refine lv_aload_n C0.hx C0.hb dX2_init_36 rfl (lv_at hl 0 rfl) ?_
  refine lv_bipush (v := nI 60) C0.hx C0.hb dX2_init_37 (by decide) ?_
  refine x_newi C0 hQ hS (by decide +kernel) 60 (by decide) (Nat.le_trans (Nat.le_of_ble_eq_true rfl) hRc) (Nat.le_trans (Nat.le_of_ble_eq_true rfl) hRs) dX2_init_39 (fun q39 H hQ hS => ?_)
  have hQ : xQ g A ((b, .inr (2, [.int (nI 0), .ref q12, .ref q20, .ref q29, .null])) :: (((((([] : va_W) ++ [(q12, xIa g 60 (fun _ => 0))]) ++ [(q20, xIa g 60 (fun _ => 0))]) ++ [(q29, xRa g 60 r29)]) ++ xRows g 60 4 r29) ++ [(q39, xIa g 60 (fun _ => 0))])) H := hQ
  refine x_putR C0 hin2 hQ hS rfl tyX2 tyX2_ok nmX2 4 (by decide) i_own (by decide +kernel) rfl rfl (ty := .array .int) rfl rfl rfl (Nat.le_of_ble_eq_true rfl) dX2_init_41 (fun H locs hQ hS => ?_)
  have hQ : xQ g A ((b, .inr (2, [.int (nI 0), .ref q12, .ref q20, .ref q29, .ref q39])) :: (((((([] : va_W) ++ [(q12, xIa g 60 (fun _ => 0))]) ++ [(q20, xIa g 60 (fun _ => 0))]) ++ [(q29, xRa g 60 r29)]) ++ xRows g 60 4 r29) ++ [(q39, xIa g 60 (fun _ => 0))])) H := hQ
  exact W.vret C0.hx C0.hb hr (fun t ht hW => ⟨⟨⟨q12, q20, q29, r29, q39⟩, rfl, trivial, by show xQ g A _ t.heap; rw [ht]; exact hQ⟩, hS.F ht⟩) hS.2.2 dX2_init_44
abbrev SX3 : Type := Nat × Nat
def wdX3 (g : xG) (b : Nat) (u : SX3) : va_W := (b, .inr (3, [.ref u.1, .ref u.2, .int (nI 2)])) :: [(u.1, xZa g 30 (fun _ => 0)), (u.2, xIa g 30 (idR 30))]
set_option maxHeartbeats 4000000 in
set_option maxRecDepth 100000 in
theorem mtX3_init (l : Launch) (g : xG) (b : Nat) : xIn l yX3_init wsX3_init ({ frames := 1, cells := 2, slots := 60, locals := 12 }) g b 3 [.null, .null, .int 0] SX3 (wdX3 g b) 2 60 := by
  intro sz
  refine Met.ofW (cc := cX3_init) (maxL := 2) (ret := none) (by decide) rfl ?_
  intro p e s m args below meth c s₁ B hml hv
  obtain ⟨rfl, hsz, hP, hK, hN, hO⟩ := hv
  have hr := B.returns
  have hlocks := B.notSynchronized
  subst hsz
  have hin2 : meth.name = "<init>" := (name_of_methodNamed B.named B.method).1
  generalize hAe : (fun q : Nat => q = b ∨ s.heap.size ≤ q) = A
  have hAb : A b := by rw [← hAe]; exact Or.inl rfl
  have hAf : ∀ q : Nat, s.heap.size ≤ q → A q := fun q h => by rw [← hAe]; exact Or.inr h
  have C0 : xC p s m _ c cX3_init 2 wsX3_init RX3 [] g (fun _ _ => 0) A := ⟨⟨B.exec, B.bytes, hml, findClass_of_methodNamed B.named, atoms_spec (ws := wsX3_init) B.pre⟩, hK, hN, (fun i j p q h => nomatch h), (fun n h => nomatch h), hAf⟩
  have hS : va_S A s.heap s.heap [] := va_S.rf
  have hQ : xQ g A ((b, .inr (3, [.null, .null, .int 0])) :: ([] : va_W)) s.heap := ⟨hP, va_D_nd.mpr ⟨by simp, fun q hq => by rw [List.mem_singleton] at hq; rw [hq]; exact hAb⟩⟩
  have hl := lv_entry ([.ref b]) (n := 2) (Nat.le_of_ble_eq_true rfl)
  rw [lg_entry_eq]
  generalize (lg_sl ([.ref b]) ++ List.replicate (2 - (lg_sl ([.ref b])).length) Slot.unset).toArray = ls at hl ⊢
  have hl : lv_has ls 2 [(0, .ref b)] := hl
  have i_own : ∀ w ∈ u_ws RX3 TX3 3, w ∈ wsX3_init := by decide +kernel
  have hRc : 2 ≤ ({ frames := 1, cells := 2, slots := 60, locals := 12 } : Room).cells := Nat.le_refl _
  have hRs : 60 ≤ ({ frames := 1, cells := 2, slots := 60, locals := 12 } : Room).slots := Nat.le_refl _
  refine lv_aload_n C0.hx C0.hb dX3_init_0 rfl (lv_at hl 0 rfl) ?_
  refine W.objInit C0.hx C0.hb C0.1.2.2.2.1 (C0.hts (.methodLink RX3 3 objectInit) (by decide +kernel)) (C0.hts (.instanceMethod objectInit) (by decide +kernel)) (C0.hts (.code objectInit ⟨#[0xb1]⟩ 1 none) (List.mem_cons_of_mem _ ((List.mem_of_getElem? (i := 2) rfl)))) rfl (by rw [hml]; exact hl.1) rfl dX3_init_1 (Nat.le_of_ble_eq_true rfl) (Nat.le_of_ble_eq_true rfl) ?_
  refine W.eq (g2 := F0 m 4 ls []) rfl ?_
  refine lv_aload_n C0.hx C0.hb dX3_init_4 rfl (lv_at hl 0 rfl) ?_
  refine lv_bipush (v := nI 30) C0.hx C0.hb dX3_init_5 (by decide) ?_
  refine x_newz C0 hQ hS (by decide +kernel) 30 (by decide) (Nat.le_trans (Nat.le_of_ble_eq_true rfl) hRc) (Nat.le_trans (Nat.le_of_ble_eq_true rfl) hRs) dX3_init_7 (fun q7 H hQ hS => ?_)
  have hQ : xQ g A ((b, .inr (3, [.null, .null, .int 0])) :: [(q7, xZa g 30 (fun _ => 0))]) H := hQ
  refine x_putR C0 hin2 hQ hS rfl tyX3 tyX3_ok nmX3 0 (by decide) i_own (by decide +kernel) rfl rfl (ty := .array .boolean) rfl rfl rfl (Nat.le_of_ble_eq_true rfl) dX3_init_9 (fun H locs hQ hS => ?_)
  have hQ : xQ g A ((b, .inr (3, [.ref q7, .null, .int 0])) :: [(q7, xZa g 30 (fun _ => 0))]) H := hQ
  refine lv_aload_n C0.hx C0.hb dX3_init_12 rfl (lv_at hl 0 rfl) ?_
  refine lv_bipush (v := nI 30) C0.hx C0.hb dX3_init_13 (by decide) ?_
  refine x_newi C0 hQ hS (by decide +kernel) 30 (by decide) (Nat.le_trans (Nat.le_of_ble_eq_true rfl) hRc) (Nat.le_trans (Nat.le_of_ble_eq_true rfl) hRs) dX3_init_15 (fun q15 H hQ hS => ?_)
  have hQ : xQ g A ((b, .inr (3, [.ref q7, .null, .int 0])) :: [(q7, xZa g 30 (fun _ => 0)), (q15, xIa g 30 (fun _ => 0))]) H := hQ
  refine x_putR C0 hin2 hQ hS rfl tyX3 tyX3_ok nmX3 1 (by decide) i_own (by decide +kernel) rfl rfl (ty := .array .int) rfl rfl rfl (Nat.le_of_ble_eq_true rfl) dX3_init_17 (fun H locs hQ hS => ?_)
  have hQ : xQ g A ((b, .inr (3, [.ref q7, .ref q15, .int 0])) :: [(q7, xZa g 30 (fun _ => 0)), (q15, xIa g 30 (fun _ => 0))]) H := hQ
  refine lv_aload_n C0.hx C0.hb dX3_init_20 rfl (lv_at hl 0 rfl) ?_
  refine lv_iconst (v := nI 2) C0.hx C0.hb dX3_init_21 (by decide) ?_
  refine x_putI C0 hQ hS rfl tyX3 tyX3_ok nmX3 2 (by decide) i_own (by decide +kernel) rfl rfl rfl (Nat.le_of_ble_eq_true rfl) dX3_init_22 (fun H locs hQ hS => ?_)
  have hQ : xQ g A ((b, .inr (3, [.ref q7, .ref q15, .int (nI 2)])) :: [(q7, xZa g 30 (fun _ => 0)), (q15, xIa g 30 (fun _ => 0))]) H := hQ
  refine lv_iconst (v := nI 0) C0.hx C0.hb dX3_init_25 (by decide) ?_
  refine lv_istore_n (lv' := [(1, .int (nI 0)), (0, .ref b)]) C0.hx C0.hb dX3_init_26 rfl hl (by decide) rfl (fun ls hl => ?_)
  have hQ : xQ g A ((b, .inr (3, [.ref q7, .ref q15, .int (nI 2)])) :: [(q7, xZa g 30 (fun _ => 0)), (q15, xIa g 30 (idR 0))]) H := hQ
  refine x_loopW (α := Nat) (fun t => 30 - t) (fun t H locs ls => xQ g A ((b, .inr (3, [.ref q7, .ref q15, .int (nI 2)])) :: [(q7, xZa g 30 (fun _ => 0)), (q15, xIa g 30 (idR t))]) H ∧ va_S A s.heap H locs ∧ t ≤ 30 ∧ lv_has ls 2 [(1, .int (nI t)), (0, .ref b)]) ?_ 0 ⟨hQ, hS, (by omega), hl⟩
  rintro t H locs ls ⟨hQ, hS, ht, hl⟩ ih
  refine lv_iload_n C0.hx C0.hb dX3_init_27 rfl (lv_at hl 0 rfl) ?_
  refine lv_bipush (v := nI 30) C0.hx C0.hb dX3_init_28 (by decide) ?_
  refine x_icmp_ge (tgt := 46) C0.hx C0.hb (by omega) (by omega) dX3_init_30 (by decide) (fun ct => ?_) (fun ct => ?_)
  · have e : t = 30 := by omega
    subst e
    exact W.vret C0.hx C0.hb hr (fun t ht hW => ⟨⟨⟨q7, q15⟩, rfl, trivial, by show xQ g A _ t.heap; rw [ht]; exact hQ⟩, hS.F ht⟩) hS.2.2 dX3_init_46
  · refine lv_aload_n C0.hx C0.hb dX3_init_33 rfl (lv_at hl 1 rfl) ?_
    refine x_getI C0 hQ rfl 1 (by decide) i_own (by decide +kernel) rfl rfl dX3_init_34 ?_
    refine lv_iload_n C0.hx C0.hb dX3_init_37 rfl (lv_at hl 0 rfl) ?_
    refine lv_iload_n C0.hx C0.hb dX3_init_38 rfl (lv_at hl 0 rfl) ?_
    refine x_iastQ C0 hQ hS 2 (r := idR t) rfl (by omega) (by omega) dX3_init_39 (fun H locs hQ hS => ?_)
    rw [idR_up] at hQ
    refine lv_iinc (v := nI (t + 1)) (lv' := [(1, .int (nI (t + 1))), (0, .ref b)]) C0.hx C0.hb dX3_init_40 hl (k := 0) rfl (nI_1 t) (by decide) rfl (fun ls hl => ?_)
    refine lv_goto (tgt := 27) C0.hx C0.hb dX3_init_43 (by decide) ?_
    exact ih (t + 1) H locs ls ⟨hQ, hS, by omega, hl⟩ (by omega)
end
section
theorem va_D.left {A : Nat → Prop} {w1 w2 : va_W} (h : va_D A (w1 ++ w2)) : va_D A w1 := by
  rw [va_D_nd, List.map_append] at h
  rw [va_D_nd]
  exact ⟨(List.sublist_append_left _ _).nodup h.1, fun q hq => h.2 q (List.mem_append_left _ hq)⟩
theorem xQ_join {g : xG} {A : Nat → Prop} {W1 W2 : va_W} {q : Nat} {en : va_E} {H H1 : Heap} {sz : Nat} (h : xQ g A (W1 ++ [(q, en)]) H) (hB : xQ g (fun x => x = q ∨ H.size ≤ x) W2 H1) (hk : ∀ z : Nat, z < H.size → ¬ (z = q ∨ H.size ≤ z) → H1[z]? = H[z]?) (hAf : ∀ z : Nat, sz ≤ z → A z) (hle : sz ≤ H.size) : xQ g A (W1 ++ W2) H1 := by
  have hq : A q := (va_D_nd.mp h.2).2 (q, en) (List.mem_append_right _ (List.mem_singleton.mpr rfl))
  have hne : ∀ x ∈ W1, x.1 ≠ q ∧ x.1 < H.size := fun x hx => by
    refine ⟨fun e => ?_, ((va_P_mem.mp h.1) x (List.mem_append_left _ hx)).lt⟩
    have := (va_D_nd.mp h.2).1
    rw [List.map_append, List.nodup_append] at this
    first
      | exact this.2.2 x.1 (List.mem_map.mpr ⟨x, hx, rfl⟩) q (List.mem_singleton.mpr rfl) e
      | exact this.2.2 (List.mem_map.mpr ⟨x, hx, rfl⟩) (by rw [e]; exact List.mem_singleton.mpr rfl)
  refine ⟨(va_P_mem.mpr (fun x hx => ((va_P_mem.mp h.1) x (List.mem_append_left _ hx)).kept (hk _ (hne x hx).2 (fun z => by
    rcases z with z | z
    · exact (hne x hx).1 z
    · exact absurd (hne x hx).2 (Nat.not_lt.mpr z))))).app hB.1, ?_⟩
  refine (va_D.left h.2).app (hB.2.weaken (fun k x hk2 hx => ?_)) (fun i j x y hi hj e => ?_)
  · rcases hx with hx | hx
    · rw [hx]; exact hq
    · exact hAf _ (Nat.le_trans hle hx)
  · have h1 := hne x (List.mem_of_getElem? hi)
    rcases hB.2.2 j y hj with h2 | h2
    · exact h1.1 (e.trans h2)
    · rw [e] at h1
      exact absurd h1.2 (Nat.not_lt.mpr h2)
section XNEW
variable {p : Program} {l : Launch} {e : Env} {R : Room} {s : State} {m : MethodId} {args : Array Value} {below : List Frame} {meth : Method} {c : Code} {H : Heap} {locs : List Loc} {cells slots : Nat} {Q : State → Prop}
variable {cc : ByteArray} {pc nL : Nat} {ls : Array Slot} {rest : List Value} {Ts : List Cond} {own : String} {g : xG} {a : xAd} {A : Nat → Prop} {σ : xS} {Wd : va_W}
theorem x_new (C0 : xC p s m args c cc nL Ts own [] g a A) (hQ : xQ g A Wd H) (hS : va_S A s.heap H locs) {C : String} {T : u_T} {N ci index : Nat} (hin : ∀ w ∈ u_ws C T N, w ∈ Ts) (ty : Nat → FieldType) (hty : ∀ k, k < N → parseFieldDescriptor (T k).2.2.1 = some (ty k)) (hcl : Cond.classLink own index C ∈ Ts) (hinst : Cond.instantiable C N ∈ Ts) (hini : Cond.initialized C ∈ Ts) (hc : vwCl[ci]? = some (C, T, N)) {fs : List Value} (hfs : ∀ j, j < N → defaultValue (ty j) = vp_V fs j) (hcells : cells + 1 ≤ R.cells) (hslots : slots + N ≤ R.slots) (hdg : decode cc pc = .ok (.new index, 3))
    (kk : ∀ (q : Nat) (H1 : Heap), xQ g A (Wd ++ [(q, .inr (ci, fs))]) H1 → va_S A s.heap H1 locs → W p l e R s m args below meth c H1 locs (cells + 1) (slots + N) Q (F0 m (pc + 3) ls (.ref q :: rest))) : W p l e R s m args below meth c H locs cells slots Q (F0 m pc ls rest) :=
  va_new C0.hx C0.hb C0.hts hin ty hty C0.1.2.2.2.1 (C0.hts _ hcl) (C0.hts _ hinst) (C0.hts _ hini) C0.hK hQ.1 hQ.2 hS C0.2.2.2.2.2 hc hfs hcells hslots hdg (fun q H1 q1 q2 q3 => kk q H1 ⟨q1, q2⟩ q3)
end XNEW
theorem va_N1 {s : State} (h : xN s) {q : String × Nat × MethodName} (hq : q ∈ xMs) : va_Nw (.methodLinkNest q.1 q.2.1 q.2.2 RX4) s := h.2 q hq

abbrev SX4 : Type := Nat × SX0 × Nat × SX3 × Nat × SX2 × Nat × SX1 × Nat
def wdX4 (g : xG) (b : Nat) (u : SX4) : va_W := (b, .inr (4, [.ref u.1, .ref u.2.2.1, .ref u.2.2.2.2.1, .ref u.2.2.2.2.2.2.1, .ref u.2.2.2.2.2.2.2.2, .int (nI 100)])) :: (((((([] : va_W) ++ wdX0 g u.1 u.2.1) ++ wdX3 g u.2.2.1 u.2.2.2.1) ++ wdX2 g u.2.2.2.2.1 u.2.2.2.2.2.1) ++ wdX1 g u.2.2.2.2.2.2.1 u.2.2.2.2.2.2.2.1) ++ [(u.2.2.2.2.2.2.2.2, xIa g 4 (fun _ => 0))])
set_option maxHeartbeats 4000000 in
set_option maxRecDepth 100000 in
theorem mtX4_init (l : Launch) (g : xG) (b : Nat) : xIn l yX4_init wsX4_init ({ frames := 2, cells := 211, slots := 1656, locals := 40 }) g b 4 [.null, .null, .null, .null, .null, .int 0] SX4 (wdX4 g b) 211 1656 := by
  intro sz
  refine Met.ofW (cc := cX4_init) (maxL := 1) (ret := none) (by decide) rfl ?_
  intro p e s m args below meth c s₁ B hml hv
  obtain ⟨rfl, hsz, hP, hK, hN, hO⟩ := hv
  have hr := B.returns
  have hlocks := B.notSynchronized
  subst hsz
  have hin2 : meth.name = "<init>" := (name_of_methodNamed B.named B.method).1
  generalize hAe : (fun q : Nat => q = b ∨ s.heap.size ≤ q) = A
  have hAb : A b := by rw [← hAe]; exact Or.inl rfl
  have hAf : ∀ q : Nat, s.heap.size ≤ q → A q := fun q h => by rw [← hAe]; exact Or.inr h
  have C0 : xC p s m _ c cX4_init 1 wsX4_init RX4 [] g (fun _ _ => 0) A := ⟨⟨B.exec, B.bytes, hml, findClass_of_methodNamed B.named, atoms_spec (ws := wsX4_init) B.pre⟩, hK, hN, (fun i j p q h => nomatch h), (fun n h => nomatch h), hAf⟩
  have hS : va_S A s.heap s.heap [] := va_S.rf
  have hQ : xQ g A ((b, .inr (4, [.null, .null, .null, .null, .null, .int 0])) :: ([] : va_W)) s.heap := ⟨hP, va_D_nd.mpr ⟨by simp, fun q hq => by rw [List.mem_singleton] at hq; rw [hq]; exact hAb⟩⟩
  have hl := lv_entry ([.ref b]) (n := 1) (Nat.le_of_ble_eq_true rfl)
  rw [lg_entry_eq]
  generalize (lg_sl ([.ref b]) ++ List.replicate (1 - (lg_sl ([.ref b])).length) Slot.unset).toArray = ls at hl ⊢
  have hl : lv_has ls 1 [(0, .ref b)] := hl
  have i_own : ∀ w ∈ u_ws RX4 TX4 6, w ∈ wsX4_init := by decide +kernel
  have hRc : 211 ≤ ({ frames := 2, cells := 211, slots := 1656, locals := 40 } : Room).cells := Nat.le_refl _
  have hRs : 1656 ≤ ({ frames := 2, cells := 211, slots := 1656, locals := 40 } : Room).slots := Nat.le_refl _
  refine lv_aload_n C0.hx C0.hb dX4_init_0 rfl (lv_at hl 0 rfl) ?_
  refine W.objInit C0.hx C0.hb C0.1.2.2.2.1 (C0.hts (.methodLink RX4 1 objectInit) (by decide +kernel)) (C0.hts (.instanceMethod objectInit) (by decide +kernel)) (C0.hts (.code objectInit ⟨#[0xb1]⟩ 1 none) (by decide +kernel)) rfl (by rw [hml]; exact hl.1) rfl dX4_init_1 (Nat.le_of_ble_eq_true rfl) (Nat.le_of_ble_eq_true rfl) ?_
  refine W.eq (g2 := F0 m 4 ls []) rfl ?_
  refine lv_aload_n C0.hx C0.hb dX4_init_4 rfl (lv_at hl 0 rfl) ?_
  refine x_new C0 hQ hS (by decide +kernel) tyX0 tyX0_ok (by decide +kernel) (by decide +kernel) (by decide +kernel) (ci := 0) (N := 4) rfl (fs := [.null, .null, .null, .null]) (by decide) (Nat.le_trans (Nat.le_of_ble_eq_true rfl) hRc) (Nat.le_trans (Nat.le_of_ble_eq_true rfl) hRs) dX4_init_5 (fun q5 H hQ hS => ?_)
  refine lv_dup C0.hx C0.hb dX4_init_8 rfl ?_
  have hPc : va_P g.1 vwCl [(q5, .inr (0, [.null, .null, .null, .null]))] H := va_P_mem.mpr (fun x hx => va_P_mem.mp hQ.1 x (List.mem_append_right _ hx))
  have hAq : A q5 := (va_D_nd.mp hQ.2).2 (q5, .inr (0, [.null, .null, .null, .null])) (List.mem_append_right _ (List.mem_singleton.mpr rfl))
  have hsz := hS.1
  refine va_callv (va_runIN (g := F0 m 9 ls [.ref q5, .ref q5, .ref b]) (As := []) (rest := [.ref q5, .ref b]) C0.1 (mtX0_init l g q5 H.size) ⟨va_cnB 0 C0.hts gX4_init_X0_init_n9 rfl rfl rfl (va_N1 C0.2.2.1 (q := (RX4, 9, yX0_init)) (by decide +kernel)) (C0.hts (.initialized RX0) (by decide +kernel)) (by decide +kernel) ⟨Nat.le_of_ble_eq_true rfl, Nat.le_of_ble_eq_true rfl⟩, rfl, C0.hts (.instanceMethod yX0_init) (by decide +kernel)⟩ ⟨xFBn, fun U hU hW => ⟨rfl, by rw [hU], by rw [hU]; exact hPc, va_K.moved hW.alike C0.hK, xN.warm hW C0.2.2.1, va_AOA.moved hW.alike hO⟩⟩ rfl rfl hl.1 rfl (lv_room (Nat.le_of_ble_eq_true rfl)) dX4_init_9 ⟨Nat.le_trans (Nat.le_of_ble_eq_true rfl) hRc, Nat.le_trans (Nat.le_of_ble_eq_true rfl) hRs⟩) hS (fun z _ h => h.elim (fun h => h ▸ hAq) (fun h => C0.2.2.2.2.2 z (Nat.le_trans hsz h))) (fun z h => h.elim (fun h => h ▸ hAq) (fun h => C0.2.2.2.2.2 z (Nat.le_trans hsz h))) (fun u5 t H1 locs1 ht hvm _ hB hz hk hS => ?_)
  rw [ht] at hB
  have hQ := xQ_join hQ hB hk C0.2.2.2.2.2 hsz
  clear hB ht hvm t hz hk hPc hAq hsz
  have hQ : xQ g A ((b, .inr (4, [.null, .null, .null, .null, .null, .int 0])) :: (([] : va_W) ++ wdX0 g q5 u5)) H1 := hQ
  refine x_putR C0 hin2 hQ hS rfl tyX4 tyX4_ok nmX4 0 (by decide) i_own (by decide +kernel) rfl rfl (ty := tyX4 0) rfl rfl rfl (Nat.le_of_ble_eq_true rfl) dX4_init_12 (fun H locs hQ hS => ?_)
  have hQ : xQ g A ((b, .inr (4, [.ref q5, .null, .null, .null, .null, .int 0])) :: (([] : va_W) ++ wdX0 g q5 u5)) H := hQ
  refine lv_aload_n C0.hx C0.hb dX4_init_15 rfl (lv_at hl 0 rfl) ?_
  refine x_new C0 hQ hS (by decide +kernel) tyX3 tyX3_ok (by decide +kernel) (by decide +kernel) (by decide +kernel) (ci := 3) (N := 3) rfl (fs := [.null, .null, .int 0]) (by decide) (Nat.le_trans (Nat.le_of_ble_eq_true rfl) hRc) (Nat.le_trans (Nat.le_of_ble_eq_true rfl) hRs) dX4_init_16 (fun q16 H hQ hS => ?_)
  refine lv_dup C0.hx C0.hb dX4_init_19 rfl ?_
  have hPc : va_P g.1 vwCl [(q16, .inr (3, [.null, .null, .int 0]))] H := va_P_mem.mpr (fun x hx => va_P_mem.mp hQ.1 x (List.mem_append_right _ hx))
  have hAq : A q16 := (va_D_nd.mp hQ.2).2 (q16, .inr (3, [.null, .null, .int 0])) (List.mem_append_right _ (List.mem_singleton.mpr rfl))
  have hsz := hS.1
  refine va_callv (va_runIN (g := F0 m 20 ls [.ref q16, .ref q16, .ref b]) (As := []) (rest := [.ref q16, .ref b]) C0.1 (mtX3_init l g q16 H.size) ⟨va_cnB 0 C0.hts gX4_init_X3_init_n18 rfl rfl rfl (va_N1 C0.2.2.1 (q := (RX4, 18, yX3_init)) (by decide +kernel)) (C0.hts (.initialized RX3) (by decide +kernel)) (by decide +kernel) ⟨Nat.le_of_ble_eq_true rfl, Nat.le_of_ble_eq_true rfl⟩, rfl, C0.hts (.instanceMethod yX3_init) (by decide +kernel)⟩ ⟨xFBn, fun U hU hW => ⟨rfl, by rw [hU], by rw [hU]; exact hPc, va_K.moved hW.alike C0.hK, xN.warm hW C0.2.2.1, va_AOA.moved hW.alike hO⟩⟩ rfl rfl hl.1 rfl (lv_room (Nat.le_of_ble_eq_true rfl)) dX4_init_20 ⟨Nat.le_trans (Nat.le_of_ble_eq_true rfl) hRc, Nat.le_trans (Nat.le_of_ble_eq_true rfl) hRs⟩) hS (fun z _ h => h.elim (fun h => h ▸ hAq) (fun h => C0.2.2.2.2.2 z (Nat.le_trans hsz h))) (fun z h => h.elim (fun h => h ▸ hAq) (fun h => C0.2.2.2.2.2 z (Nat.le_trans hsz h))) (fun u16 t H1 locs1 ht hvm _ hB hz hk hS => ?_)
  rw [ht] at hB
  have hQ := xQ_join hQ hB hk C0.2.2.2.2.2 hsz
  clear hB ht hvm t hz hk hPc hAq hsz
  have hQ : xQ g A ((b, .inr (4, [.ref q5, .null, .null, .null, .null, .int 0])) :: ((([] : va_W) ++ wdX0 g q5 u5) ++ wdX3 g q16 u16)) H1 := hQ
  refine x_putR C0 hin2 hQ hS rfl tyX4 tyX4_ok nmX4 1 (by decide) i_own (by decide +kernel) rfl rfl (ty := tyX4 1) rfl rfl rfl (Nat.le_of_ble_eq_true rfl) dX4_init_23 (fun H locs hQ hS => ?_)
  have hQ : xQ g A ((b, .inr (4, [.ref q5, .ref q16, .null, .null, .null, .int 0])) :: ((([] : va_W) ++ wdX0 g q5 u5) ++ wdX3 g q16 u16)) H := hQ
  refine lv_aload_n C0.hx C0.hb dX4_init_26 rfl (lv_at hl 0 rfl) ?_
  refine x_new C0 hQ hS (by decide +kernel) tyX2 tyX2_ok (by decide +kernel) (by decide +kernel) (by decide +kernel) (ci := 2) (N := 5) rfl (fs := [.int 0, .null, .null, .null, .null]) (by decide) (Nat.le_trans (Nat.le_of_ble_eq_true rfl) hRc) (Nat.le_trans (Nat.le_of_ble_eq_true rfl) hRs) dX4_init_27 (fun q27 H hQ hS => ?_)
  refine lv_dup C0.hx C0.hb dX4_init_30 rfl ?_
  have hPc : va_P g.1 vwCl [(q27, .inr (2, [.int 0, .null, .null, .null, .null]))] H := va_P_mem.mpr (fun x hx => va_P_mem.mp hQ.1 x (List.mem_append_right _ hx))
  have hAq : A q27 := (va_D_nd.mp hQ.2).2 (q27, .inr (2, [.int 0, .null, .null, .null, .null])) (List.mem_append_right _ (List.mem_singleton.mpr rfl))
  have hsz := hS.1
  refine va_callv (va_runIN (g := F0 m 31 ls [.ref q27, .ref q27, .ref b]) (As := []) (rest := [.ref q27, .ref b]) C0.1 (mtX2_init l g q27 H.size) ⟨va_cnB 0 C0.hts gX4_init_X2_init_n25 rfl rfl rfl (va_N1 C0.2.2.1 (q := (RX4, 25, yX2_init)) (by decide +kernel)) (C0.hts (.initialized RX2) (by decide +kernel)) (by decide +kernel) ⟨Nat.le_of_ble_eq_true rfl, Nat.le_of_ble_eq_true rfl⟩, rfl, C0.hts (.instanceMethod yX2_init) (by decide +kernel)⟩ ⟨xFBn, fun U hU hW => ⟨rfl, by rw [hU], by rw [hU]; exact hPc, va_K.moved hW.alike C0.hK, xN.warm hW C0.2.2.1, va_AOA.moved hW.alike hO⟩⟩ rfl rfl hl.1 rfl (lv_room (Nat.le_of_ble_eq_true rfl)) dX4_init_31 ⟨Nat.le_trans (Nat.le_of_ble_eq_true rfl) hRc, Nat.le_trans (Nat.le_of_ble_eq_true rfl) hRs⟩) hS (fun z _ h => h.elim (fun h => h ▸ hAq) (fun h => C0.2.2.2.2.2 z (Nat.le_trans hsz h))) (fun z h => h.elim (fun h => h ▸ hAq) (fun h => C0.2.2.2.2.2 z (Nat.le_trans hsz h))) (fun u27 t H1 locs1 ht hvm _ hB hz hk hS => ?_)
  rw [ht] at hB
  have hQ := xQ_join hQ hB hk C0.2.2.2.2.2 hsz
  clear hB ht hvm t hz hk hPc hAq hsz
  have hQ : xQ g A ((b, .inr (4, [.ref q5, .ref q16, .null, .null, .null, .int 0])) :: (((([] : va_W) ++ wdX0 g q5 u5) ++ wdX3 g q16 u16) ++ wdX2 g q27 u27)) H1 := hQ
  refine x_putR C0 hin2 hQ hS rfl tyX4 tyX4_ok nmX4 2 (by decide) i_own (by decide +kernel) rfl rfl (ty := tyX4 2) rfl rfl rfl (Nat.le_of_ble_eq_true rfl) dX4_init_34 (fun H locs hQ hS => ?_)
  have hQ : xQ g A ((b, .inr (4, [.ref q5, .ref q16, .ref q27, .null, .null, .int 0])) :: (((([] : va_W) ++ wdX0 g q5 u5) ++ wdX3 g q16 u16) ++ wdX2 g q27 u27)) H := hQ
  refine lv_aload_n C0.hx C0.hb dX4_init_37 rfl (lv_at hl 0 rfl) ?_
  refine x_new C0 hQ hS (by decide +kernel) tyX1 tyX1_ok (by decide +kernel) (by decide +kernel) (by decide +kernel) (ci := 1) (N := 4) rfl (fs := [.null, .null, .null, .null]) (by decide) (Nat.le_trans (Nat.le_of_ble_eq_true rfl) hRc) (Nat.le_trans (Nat.le_of_ble_eq_true rfl) hRs) dX4_init_38 (fun q38 H hQ hS => ?_)
  refine lv_dup C0.hx C0.hb dX4_init_41 rfl ?_
  have hPc : va_P g.1 vwCl [(q38, .inr (1, [.null, .null, .null, .null]))] H := va_P_mem.mpr (fun x hx => va_P_mem.mp hQ.1 x (List.mem_append_right _ hx))
  have hAq : A q38 := (va_D_nd.mp hQ.2).2 (q38, .inr (1, [.null, .null, .null, .null])) (List.mem_append_right _ (List.mem_singleton.mpr rfl))
  have hsz := hS.1
  refine va_callv (va_runIN (g := F0 m 42 ls [.ref q38, .ref q38, .ref b]) (As := []) (rest := [.ref q38, .ref b]) C0.1 (mtX1_init l g q38 H.size) ⟨va_cnB 0 C0.hts gX4_init_X1_init_n32 rfl rfl rfl (va_N1 C0.2.2.1 (q := (RX4, 32, yX1_init)) (by decide +kernel)) (C0.hts (.initialized RX1) (by decide +kernel)) (by decide +kernel) ⟨Nat.le_of_ble_eq_true rfl, Nat.le_of_ble_eq_true rfl⟩, rfl, C0.hts (.instanceMethod yX1_init) (by decide +kernel)⟩ ⟨xFBn, fun U hU hW => ⟨rfl, by rw [hU], by rw [hU]; exact hPc, va_K.moved hW.alike C0.hK, xN.warm hW C0.2.2.1, va_AOA.moved hW.alike hO⟩⟩ rfl rfl hl.1 rfl (lv_room (Nat.le_of_ble_eq_true rfl)) dX4_init_42 ⟨Nat.le_trans (Nat.le_of_ble_eq_true rfl) hRc, Nat.le_trans (Nat.le_of_ble_eq_true rfl) hRs⟩) hS (fun z _ h => h.elim (fun h => h ▸ hAq) (fun h => C0.2.2.2.2.2 z (Nat.le_trans hsz h))) (fun z h => h.elim (fun h => h ▸ hAq) (fun h => C0.2.2.2.2.2 z (Nat.le_trans hsz h))) (fun u38 t H1 locs1 ht hvm _ hB hz hk hS => ?_)
  rw [ht] at hB
  have hQ := xQ_join hQ hB hk C0.2.2.2.2.2 hsz
  clear hB ht hvm t hz hk hPc hAq hsz
  have hQ : xQ g A ((b, .inr (4, [.ref q5, .ref q16, .ref q27, .null, .null, .int 0])) :: ((((([] : va_W) ++ wdX0 g q5 u5) ++ wdX3 g q16 u16) ++ wdX2 g q27 u27) ++ wdX1 g q38 u38)) H1 := hQ
  refine x_putR C0 hin2 hQ hS rfl tyX4 tyX4_ok nmX4 3 (by decide) i_own (by decide +kernel) rfl rfl (ty := tyX4 3) rfl rfl rfl (Nat.le_of_ble_eq_true rfl) dX4_init_45 (fun H locs hQ hS => ?_)
  have hQ : xQ g A ((b, .inr (4, [.ref q5, .ref q16, .ref q27, .ref q38, .null, .int 0])) :: ((((([] : va_W) ++ wdX0 g q5 u5) ++ wdX3 g q16 u16) ++ wdX2 g q27 u27) ++ wdX1 g q38 u38)) H := hQ
  refine lv_aload_n C0.hx C0.hb dX4_init_48 rfl (lv_at hl 0 rfl) ?_
  refine lv_iconst (v := nI 4) C0.hx C0.hb dX4_init_49 (by decide) ?_
  refine x_newi C0 hQ hS (by decide +kernel) 4 (by decide) (Nat.le_trans (Nat.le_of_ble_eq_true rfl) hRc) (Nat.le_trans (Nat.le_of_ble_eq_true rfl) hRs) dX4_init_50 (fun q50 H hQ hS => ?_)
  have hQ : xQ g A ((b, .inr (4, [.ref q5, .ref q16, .ref q27, .ref q38, .null, .int 0])) :: (((((([] : va_W) ++ wdX0 g q5 u5) ++ wdX3 g q16 u16) ++ wdX2 g q27 u27) ++ wdX1 g q38 u38) ++ [(q50, xIa g 4 (fun _ => 0))])) H := hQ
  refine x_putR C0 hin2 hQ hS rfl tyX4 tyX4_ok nmX4 4 (by decide) i_own (by decide +kernel) rfl rfl (ty := .array .int) rfl rfl rfl (Nat.le_of_ble_eq_true rfl) dX4_init_52 (fun H locs hQ hS => ?_)
  have hQ : xQ g A ((b, .inr (4, [.ref q5, .ref q16, .ref q27, .ref q38, .ref q50, .int 0])) :: (((((([] : va_W) ++ wdX0 g q5 u5) ++ wdX3 g q16 u16) ++ wdX2 g q27 u27) ++ wdX1 g q38 u38) ++ [(q50, xIa g 4 (fun _ => 0))])) H := hQ
  refine lv_aload_n C0.hx C0.hb dX4_init_55 rfl (lv_at hl 0 rfl) ?_
  refine lv_bipush (v := nI 100) C0.hx C0.hb dX4_init_56 (by decide) ?_
  refine x_putI C0 hQ hS rfl tyX4 tyX4_ok nmX4 5 (by decide) i_own (by decide +kernel) rfl rfl rfl (Nat.le_of_ble_eq_true rfl) dX4_init_58 (fun H locs hQ hS => ?_)
  have hQ : xQ g A ((b, .inr (4, [.ref q5, .ref q16, .ref q27, .ref q38, .ref q50, .int (nI 100)])) :: (((((([] : va_W) ++ wdX0 g q5 u5) ++ wdX3 g q16 u16) ++ wdX2 g q27 u27) ++ wdX1 g q38 u38) ++ [(q50, xIa g 4 (fun _ => 0))])) H := hQ
  exact W.vret C0.hx C0.hb hr (fun t ht hW => ⟨⟨⟨q5, u5, q16, u16, q27, u27, q38, u38, q50⟩, rfl, trivial, by show xQ g A _ t.heap; rw [ht]; exact hQ⟩, hS.F ht⟩) hS.2.2 dX4_init_61
end
section
theorem dL_cell_0 : decode cL_cell 0 = .ok (.iload_n 1, 1) := by decide +kernel
theorem dL_cell_1 : decode cL_cell 1 = .ok (.aload_n 0, 1) := by decide +kernel
theorem dL_cell_2 : decode cL_cell 2 = .ok (.arraylength, 1) := by decide +kernel
theorem dL_cell_3 : decode cL_cell 3 = .ok (.if_icmp .ge 9, 3) := by decide +kernel
theorem dL_cell_6 : decode cL_cell 6 = .ok (.aload_n 0, 1) := by decide +kernel
theorem dL_cell_7 : decode cL_cell 7 = .ok (.iload_n 1, 1) := by decide +kernel
theorem dL_cell_8 : decode cL_cell 8 = .ok (.iaload, 1) := by decide +kernel
theorem dL_cell_9 : decode cL_cell 9 = .ok (.goto 13, 3) := by decide +kernel
theorem dL_cell_12 : decode cL_cell 12 = .ok (.ldc 7, 2) := by decide +kernel
theorem dL_cell_14 : decode cL_cell 14 = .ok (.iload_n 1, 1) := by decide +kernel
theorem dL_cell_15 : decode cL_cell 15 = .ok (.bipush 33, 2) := by decide +kernel
theorem dL_cell_17 : decode cL_cell 17 = .ok (.iadd, 1) := by decide +kernel
theorem dL_cell_18 : decode cL_cell 18 = .ok (.imul, 1) := by decide +kernel
theorem dL_cell_19 : decode cL_cell 19 = .ok (.ldc 8, 2) := by decide +kernel
theorem dL_cell_21 : decode cL_cell 21 = .ok (.iadd, 1) := by decide +kernel
theorem dL_cell_22 : decode cL_cell 22 = .ok (.ireturn, 1) := by decide +kernel
theorem dL_low_0 : decode cL_low 0 = .ok (.iload_n 0, 1) := by decide +kernel
theorem dL_low_1 : decode cL_low 1 = .ok (.ldc 9, 2) := by decide +kernel
theorem dL_low_3 : decode cL_low 3 = .ok (.iand, 1) := by decide +kernel
theorem dL_low_4 : decode cL_low 4 = .ok (.iload_n 1, 1) := by decide +kernel
theorem dL_low_5 : decode cL_low 5 = .ok (.irem, 1) := by decide +kernel
theorem dL_low_6 : decode cL_low 6 = .ok (.ireturn, 1) := by decide +kernel
theorem dL_calls_0 : decode cL_calls 0 = .ok (.iload_n 1, 1) := by decide +kernel
theorem dL_calls_1 : decode cL_calls 1 = .ok (.ifCond .ne 16, 3) := by decide +kernel
theorem dL_calls_4 : decode cL_calls 4 = .ok (.aload_n 0, 1) := by decide +kernel
theorem dL_calls_5 : decode cL_calls 5 = .ok (.iload_n 2, 1) := by decide +kernel
theorem dL_calls_6 : decode cL_calls 6 = .ok (.iload_n 3, 1) := by decide +kernel
theorem dL_calls_7 : decode cL_calls 7 = .ok (.iload 4, 2) := by decide +kernel
theorem dL_calls_9 : decode cL_calls 9 = .ok (.iload 5, 2) := by decide +kernel
theorem dL_calls_11 : decode cL_calls 11 = .ok (.invokevirtual 10, 3) := by decide +kernel
theorem dL_calls_14 : decode cL_calls 14 = .ok (.goto 30, 3) := by decide +kernel
theorem dL_calls_17 : decode cL_calls 17 = .ok (.iload_n 1, 1) := by decide +kernel
theorem dL_calls_18 : decode cL_calls 18 = .ok (.iconst 1, 1) := by decide +kernel
theorem dL_calls_19 : decode cL_calls 19 = .ok (.if_icmp .ne 12, 3) := by decide +kernel
theorem dL_calls_22 : decode cL_calls 22 = .ok (.aload_n 0, 1) := by decide +kernel
theorem dL_calls_23 : decode cL_calls 23 = .ok (.iload_n 2, 1) := by decide +kernel
theorem dL_calls_24 : decode cL_calls 24 = .ok (.iload_n 3, 1) := by decide +kernel
theorem dL_calls_25 : decode cL_calls 25 = .ok (.invokevirtual 16, 3) := by decide +kernel
theorem dL_calls_28 : decode cL_calls 28 = .ok (.goto 16, 3) := by decide +kernel
theorem dL_calls_31 : decode cL_calls 31 = .ok (.aload_n 0, 1) := by decide +kernel
theorem dL_calls_32 : decode cL_calls 32 = .ok (.iload_n 2, 1) := by decide +kernel
theorem dL_calls_33 : decode cL_calls 33 = .ok (.invokevirtual 20, 3) := by decide +kernel
theorem dL_calls_36 : decode cL_calls 36 = .ok (.ifCond .eq 7, 3) := by decide +kernel
theorem dL_calls_39 : decode cL_calls 39 = .ok (.iconst 1, 1) := by decide +kernel
theorem dL_calls_40 : decode cL_calls 40 = .ok (.goto 4, 3) := by decide +kernel
theorem dL_calls_43 : decode cL_calls 43 = .ok (.iconst 0, 1) := by decide +kernel
theorem dL_calls_44 : decode cL_calls 44 = .ok (.ireturn, 1) := by decide +kernel
theorem dL_calls_45 : decode cL_calls 45 = .ok (.astore 6, 2) := by decide +kernel
theorem dL_calls_47 : decode cL_calls 47 = .ok (.bipush (-3), 2) := by decide +kernel
theorem dL_calls_49 : decode cL_calls 49 = .ok (.ireturn, 1) := by decide +kernel
theorem dL_frame_0 : decode cL_frame 0 = .ok (.aload 7, 2) := by decide +kernel
theorem dL_frame_2 : decode cL_frame 2 = .ok (.iconst 4, 1) := by decide +kernel
theorem dL_frame_3 : decode cL_frame 3 = .ok (.iload_n 0, 1) := by decide +kernel
theorem dL_frame_4 : decode cL_frame 4 = .ok (.imul, 1) := by decide +kernel
theorem dL_frame_5 : decode cL_frame 5 = .ok (.iload_n 1, 1) := by decide +kernel
theorem dL_frame_6 : decode cL_frame 6 = .ok (.iadd, 1) := by decide +kernel
theorem dL_frame_7 : decode cL_frame 7 = .ok (.iaload, 1) := by decide +kernel
theorem dL_frame_8 : decode cL_frame 8 = .ok (.istore 8, 2) := by decide +kernel
theorem dL_frame_10 : decode cL_frame 10 = .ok (.bipush 6, 2) := by decide +kernel
theorem dL_frame_12 : decode cL_frame 12 = .ok (.aload 6, 2) := by decide +kernel
theorem dL_frame_14 : decode cL_frame 14 = .ok (.iload_n 0, 1) := by decide +kernel
theorem dL_frame_15 : decode cL_frame 15 = .ok (.iaload, 1) := by decide +kernel
theorem dL_frame_16 : decode cL_frame 16 = .ok (.imul, 1) := by decide +kernel
theorem dL_frame_17 : decode cL_frame 17 = .ok (.istore 9, 2) := by decide +kernel
theorem dL_frame_19 : decode cL_frame 19 = .ok (.iload 9, 2) := by decide +kernel
theorem dL_frame_21 : decode cL_frame 21 = .ok (.bipush 6, 2) := by decide +kernel
theorem dL_frame_23 : decode cL_frame 23 = .ok (.aload 6, 2) := by decide +kernel
theorem dL_frame_25 : decode cL_frame 25 = .ok (.iload_n 0, 1) := by decide +kernel
theorem dL_frame_26 : decode cL_frame 26 = .ok (.iaload, 1) := by decide +kernel
theorem dL_frame_27 : decode cL_frame 27 = .ok (.imul, 1) := by decide +kernel
theorem dL_frame_28 : decode cL_frame 28 = .ok (.aload_n 2, 1) := by decide +kernel
theorem dL_frame_29 : decode cL_frame 29 = .ok (.aload 6, 2) := by decide +kernel
theorem dL_frame_31 : decode cL_frame 31 = .ok (.iload_n 0, 1) := by decide +kernel
theorem dL_frame_32 : decode cL_frame 32 = .ok (.iaload, 1) := by decide +kernel
theorem dL_frame_33 : decode cL_frame 33 = .ok (.iaload, 1) := by decide +kernel
theorem dL_frame_34 : decode cL_frame 34 = .ok (.iadd, 1) := by decide +kernel
theorem dL_frame_35 : decode cL_frame 35 = .ok (.if_icmp .ge 34, 3) := by decide +kernel
theorem dL_frame_38 : decode cL_frame 38 = .ok (.iload 8, 2) := by decide +kernel
theorem dL_frame_40 : decode cL_frame 40 = .ok (.aload_n 3, 1) := by decide +kernel
theorem dL_frame_41 : decode cL_frame 41 = .ok (.iload 9, 2) := by decide +kernel
theorem dL_frame_43 : decode cL_frame 43 = .ok (.iaload, 1) := by decide +kernel
theorem dL_frame_44 : decode cL_frame 44 = .ok (.if_icmp .lt 19, 3) := by decide +kernel
theorem dL_frame_47 : decode cL_frame 47 = .ok (.iload 8, 2) := by decide +kernel
theorem dL_frame_49 : decode cL_frame 49 = .ok (.aload 4, 2) := by decide +kernel
theorem dL_frame_51 : decode cL_frame 51 = .ok (.iload 9, 2) := by decide +kernel
theorem dL_frame_53 : decode cL_frame 53 = .ok (.iaload, 1) := by decide +kernel
theorem dL_frame_54 : decode cL_frame 54 = .ok (.if_icmp .gt 9, 3) := by decide +kernel
theorem dL_frame_57 : decode cL_frame 57 = .ok (.aload 5, 2) := by decide +kernel
theorem dL_frame_59 : decode cL_frame 59 = .ok (.iload 9, 2) := by decide +kernel
theorem dL_frame_61 : decode cL_frame 61 = .ok (.iaload, 1) := by decide +kernel
theorem dL_frame_62 : decode cL_frame 62 = .ok (.ireturn, 1) := by decide +kernel
theorem dL_frame_63 : decode cL_frame 63 = .ok (.iinc 9 1, 3) := by decide +kernel
theorem dL_frame_66 : decode cL_frame 66 = .ok (.goto (-47), 3) := by decide +kernel
theorem dL_frame_69 : decode cL_frame 69 = .ok (.iconst (-1), 1) := by decide +kernel
theorem dL_frame_70 : decode cL_frame 70 = .ok (.ireturn, 1) := by decide +kernel
theorem dL_ends_0 : decode cL_ends 0 = .ok (.iload_n 0, 1) := by decide +kernel
theorem dL_ends_1 : decode cL_ends 1 = .ok (.istore_n 2, 1) := by decide +kernel
theorem dL_ends_2 : decode cL_ends 2 = .ok (.iconst 0, 1) := by decide +kernel
theorem dL_ends_3 : decode cL_ends 3 = .ok (.istore_n 3, 1) := by decide +kernel
theorem dL_ends_4 : decode cL_ends 4 = .ok (.iload_n 3, 1) := by decide +kernel
theorem dL_ends_5 : decode cL_ends 5 = .ok (.bipush 6, 2) := by decide +kernel
theorem dL_ends_7 : decode cL_ends 7 = .ok (.if_icmp .ge 16, 3) := by decide +kernel
theorem dL_ends_10 : decode cL_ends 10 = .ok (.aload_n 1, 1) := by decide +kernel
theorem dL_ends_11 : decode cL_ends 11 = .ok (.bipush 14, 2) := by decide +kernel
theorem dL_ends_13 : decode cL_ends 13 = .ok (.iload_n 2, 1) := by decide +kernel
theorem dL_ends_14 : decode cL_ends 14 = .ok (.iadd, 1) := by decide +kernel
theorem dL_ends_15 : decode cL_ends 15 = .ok (.iaload, 1) := by decide +kernel
theorem dL_ends_16 : decode cL_ends 16 = .ok (.istore_n 2, 1) := by decide +kernel
theorem dL_ends_17 : decode cL_ends 17 = .ok (.iinc 3 1, 3) := by decide +kernel
theorem dL_ends_20 : decode cL_ends 20 = .ok (.goto (-16), 3) := by decide +kernel
theorem dL_ends_23 : decode cL_ends 23 = .ok (.iload_n 2, 1) := by decide +kernel
theorem dL_ends_24 : decode cL_ends 24 = .ok (.ireturn, 1) := by decide +kernel
theorem dL_number_0 : decode cL_number 0 = .ok (.iconst 0, 1) := by decide +kernel
theorem dL_number_1 : decode cL_number 1 = .ok (.istore 8, 2) := by decide +kernel
theorem dL_number_3 : decode cL_number 3 = .ok (.iconst 0, 1) := by decide +kernel
theorem dL_number_4 : decode cL_number 4 = .ok (.istore 9, 2) := by decide +kernel
theorem dL_number_6 : decode cL_number 6 = .ok (.iconst 3, 1) := by decide +kernel
theorem dL_number_7 : decode cL_number 7 = .ok (.istore 10, 2) := by decide +kernel
theorem dL_number_9 : decode cL_number 9 = .ok (.iload 10, 2) := by decide +kernel
theorem dL_number_11 : decode cL_number 11 = .ok (.ifCond .lt 52, 3) := by decide +kernel
theorem dL_number_14 : decode cL_number 14 = .ok (.iload_n 0, 1) := by decide +kernel
theorem dL_number_15 : decode cL_number 15 = .ok (.iload 10, 2) := by decide +kernel
theorem dL_number_17 : decode cL_number 17 = .ok (.aload_n 2, 1) := by decide +kernel
theorem dL_number_18 : decode cL_number 18 = .ok (.aload_n 3, 1) := by decide +kernel
theorem dL_number_19 : decode cL_number 19 = .ok (.aload 4, 2) := by decide +kernel
theorem dL_number_21 : decode cL_number 21 = .ok (.aload 5, 2) := by decide +kernel
theorem dL_number_23 : decode cL_number 23 = .ok (.aload 6, 2) := by decide +kernel
theorem dL_number_25 : decode cL_number 25 = .ok (.aload 7, 2) := by decide +kernel
theorem dL_number_27 : decode cL_number 27 = .ok (.invokestatic 26, 3) := by decide +kernel
theorem dL_number_30 : decode cL_number 30 = .ok (.istore 11, 2) := by decide +kernel
theorem dL_number_32 : decode cL_number 32 = .ok (.iload 9, 2) := by decide +kernel
theorem dL_number_34 : decode cL_number 34 = .ok (.iload 11, 2) := by decide +kernel
theorem dL_number_36 : decode cL_number 36 = .ok (.ifCond .lt 17, 3) := by decide +kernel
theorem dL_number_39 : decode cL_number 39 = .ok (.aload_n 2, 1) := by decide +kernel
theorem dL_number_40 : decode cL_number 40 = .ok (.bipush 8, 2) := by decide +kernel
theorem dL_number_42 : decode cL_number 42 = .ok (.iload 11, 2) := by decide +kernel
theorem dL_number_44 : decode cL_number 44 = .ok (.iadd, 1) := by decide +kernel
theorem dL_number_45 : decode cL_number 45 = .ok (.iaload, 1) := by decide +kernel
theorem dL_number_46 : decode cL_number 46 = .ok (.ifCond .ne 7, 3) := by decide +kernel
theorem dL_number_49 : decode cL_number 49 = .ok (.iconst 1, 1) := by decide +kernel
theorem dL_number_50 : decode cL_number 50 = .ok (.goto 4, 3) := by decide +kernel
theorem dL_number_53 : decode cL_number 53 = .ok (.iconst 0, 1) := by decide +kernel
theorem dL_number_54 : decode cL_number 54 = .ok (.iadd, 1) := by decide +kernel
theorem dL_number_55 : decode cL_number 55 = .ok (.istore 9, 2) := by decide +kernel
theorem dL_number_57 : decode cL_number 57 = .ok (.iinc 10 (-1), 3) := by decide +kernel
theorem dL_number_60 : decode cL_number 60 = .ok (.goto (-51), 3) := by decide +kernel
theorem dL_number_63 : decode cL_number 63 = .ok (.iload 9, 2) := by decide +kernel
theorem dL_number_65 : decode cL_number 65 = .ok (.aload_n 1, 1) := by decide +kernel
theorem dL_number_66 : decode cL_number 66 = .ok (.iconst 1, 1) := by decide +kernel
theorem dL_number_67 : decode cL_number 67 = .ok (.iaload, 1) := by decide +kernel
theorem dL_number_68 : decode cL_number 68 = .ok (.if_icmp .le 12, 3) := by decide +kernel
theorem dL_number_71 : decode cL_number 71 = .ok (.iload 9, 2) := by decide +kernel
theorem dL_number_73 : decode cL_number 73 = .ok (.aload_n 1, 1) := by decide +kernel
theorem dL_number_74 : decode cL_number 74 = .ok (.iconst 1, 1) := by decide +kernel
theorem dL_number_75 : decode cL_number 75 = .ok (.iaload, 1) := by decide +kernel
theorem dL_number_76 : decode cL_number 76 = .ok (.isub, 1) := by decide +kernel
theorem dL_number_77 : decode cL_number 77 = .ok (.goto 4, 3) := by decide +kernel
theorem dL_number_80 : decode cL_number 80 = .ok (.iconst 0, 1) := by decide +kernel
theorem dL_number_81 : decode cL_number 81 = .ok (.istore 10, 2) := by decide +kernel
theorem dL_number_83 : decode cL_number 83 = .ok (.iconst 3, 1) := by decide +kernel
theorem dL_number_84 : decode cL_number 84 = .ok (.istore 11, 2) := by decide +kernel
theorem dL_number_86 : decode cL_number 86 = .ok (.iload 11, 2) := by decide +kernel
theorem dL_number_88 : decode cL_number 88 = .ok (.ifCond .lt 70, 3) := by decide +kernel
theorem dL_number_91 : decode cL_number 91 = .ok (.iload_n 0, 1) := by decide +kernel
theorem dL_number_92 : decode cL_number 92 = .ok (.iload 11, 2) := by decide +kernel
theorem dL_number_94 : decode cL_number 94 = .ok (.aload_n 2, 1) := by decide +kernel
theorem dL_number_95 : decode cL_number 95 = .ok (.aload_n 3, 1) := by decide +kernel
theorem dL_number_96 : decode cL_number 96 = .ok (.aload 4, 2) := by decide +kernel
theorem dL_number_98 : decode cL_number 98 = .ok (.aload 5, 2) := by decide +kernel
theorem dL_number_100 : decode cL_number 100 = .ok (.aload 6, 2) := by decide +kernel
theorem dL_number_102 : decode cL_number 102 = .ok (.aload 7, 2) := by decide +kernel
theorem dL_number_104 : decode cL_number 104 = .ok (.invokestatic 26, 3) := by decide +kernel
theorem dL_number_107 : decode cL_number 107 = .ok (.istore 12, 2) := by decide +kernel
theorem dL_number_109 : decode cL_number 109 = .ok (.iload 12, 2) := by decide +kernel
theorem dL_number_111 : decode cL_number 111 = .ok (.ifCond .lt 41, 3) := by decide +kernel
theorem dL_number_114 : decode cL_number 114 = .ok (.aload_n 2, 1) := by decide +kernel
theorem dL_number_115 : decode cL_number 115 = .ok (.bipush 8, 2) := by decide +kernel
theorem dL_number_117 : decode cL_number 117 = .ok (.iload 12, 2) := by decide +kernel
theorem dL_number_119 : decode cL_number 119 = .ok (.iadd, 1) := by decide +kernel
theorem dL_number_120 : decode cL_number 120 = .ok (.iaload, 1) := by decide +kernel
theorem dL_number_121 : decode cL_number 121 = .ok (.ifCond .ne 31, 3) := by decide +kernel
theorem dL_number_124 : decode cL_number 124 = .ok (.iload 10, 2) := by decide +kernel
theorem dL_number_126 : decode cL_number 126 = .ok (.ifCond .le 7, 3) := by decide +kernel
theorem dL_number_129 : decode cL_number 129 = .ok (.iconst 0, 1) := by decide +kernel
theorem dL_number_130 : decode cL_number 130 = .ok (.goto 17, 3) := by decide +kernel
theorem dL_number_133 : decode cL_number 133 = .ok (.bipush 7, 2) := by decide +kernel
theorem dL_number_135 : decode cL_number 135 = .ok (.iload 8, 2) := by decide +kernel
theorem dL_number_137 : decode cL_number 137 = .ok (.imul, 1) := by decide +kernel
theorem dL_number_138 : decode cL_number 138 = .ok (.iconst 1, 1) := by decide +kernel
theorem dL_number_139 : decode cL_number 139 = .ok (.iadd, 1) := by decide +kernel
theorem dL_number_140 : decode cL_number 140 = .ok (.iload 12, 2) := by decide +kernel
theorem dL_number_142 : decode cL_number 142 = .ok (.aload_n 2, 1) := by decide +kernel
theorem dL_number_143 : decode cL_number 143 = .ok (.invokestatic 32, 3) := by decide +kernel
theorem dL_number_146 : decode cL_number 146 = .ok (.iadd, 1) := by decide +kernel
theorem dL_number_147 : decode cL_number 147 = .ok (.istore 8, 2) := by decide +kernel
theorem dL_number_149 : decode cL_number 149 = .ok (.iinc 10 (-1), 3) := by decide +kernel
theorem dL_number_152 : decode cL_number 152 = .ok (.iinc 11 (-1), 3) := by decide +kernel
theorem dL_number_155 : decode cL_number 155 = .ok (.goto (-69), 3) := by decide +kernel
theorem dL_number_158 : decode cL_number 158 = .ok (.iload 9, 2) := by decide +kernel
theorem dL_number_160 : decode cL_number 160 = .ok (.ifCond .le 8, 3) := by decide +kernel
theorem dL_number_163 : decode cL_number 163 = .ok (.iload 8, 2) := by decide +kernel
theorem dL_number_165 : decode cL_number 165 = .ok (.goto 18, 3) := by decide +kernel
theorem dL_number_168 : decode cL_number 168 = .ok (.iconst (-1), 1) := by decide +kernel
theorem dL_number_169 : decode cL_number 169 = .ok (.iconst 4, 1) := by decide +kernel
theorem dL_number_170 : decode cL_number 170 = .ok (.aload 7, 2) := by decide +kernel
theorem dL_number_172 : decode cL_number 172 = .ok (.iconst 4, 1) := by decide +kernel
theorem dL_number_173 : decode cL_number 173 = .ok (.iload_n 0, 1) := by decide +kernel
theorem dL_number_174 : decode cL_number 174 = .ok (.imul, 1) := by decide +kernel
theorem dL_number_175 : decode cL_number 175 = .ok (.iaload, 1) := by decide +kernel
theorem dL_number_176 : decode cL_number 176 = .ok (.imul, 1) := by decide +kernel
theorem dL_number_177 : decode cL_number 177 = .ok (.isub, 1) := by decide +kernel
theorem dL_number_178 : decode cL_number 178 = .ok (.aload 6, 2) := by decide +kernel
theorem dL_number_180 : decode cL_number 180 = .ok (.iload_n 0, 1) := by decide +kernel
theorem dL_number_181 : decode cL_number 181 = .ok (.iaload, 1) := by decide +kernel
theorem dL_number_182 : decode cL_number 182 = .ok (.isub, 1) := by decide +kernel
theorem dL_number_183 : decode cL_number 183 = .ok (.ireturn, 1) := by decide +kernel
theorem dL_names_0 : decode cL_names 0 = .ok (.iconst 0, 1) := by decide +kernel
theorem dL_names_1 : decode cL_names 1 = .ok (.istore 8, 2) := by decide +kernel
theorem dL_names_3 : decode cL_names 3 = .ok (.iload 8, 2) := by decide +kernel
theorem dL_names_5 : decode cL_names 5 = .ok (.aload_n 0, 1) := by decide +kernel
theorem dL_names_6 : decode cL_names 6 = .ok (.iconst 0, 1) := by decide +kernel
theorem dL_names_7 : decode cL_names 7 = .ok (.iaload, 1) := by decide +kernel
theorem dL_names_8 : decode cL_names 8 = .ok (.if_icmp .ge 61, 3) := by decide +kernel
theorem dL_names_11 : decode cL_names 11 = .ok (.aload 7, 2) := by decide +kernel
theorem dL_names_13 : decode cL_names 13 = .ok (.iload 8, 2) := by decide +kernel
theorem dL_names_15 : decode cL_names 15 = .ok (.iload 8, 2) := by decide +kernel
theorem dL_names_17 : decode cL_names 17 = .ok (.aload_n 0, 1) := by decide +kernel
theorem dL_names_18 : decode cL_names 18 = .ok (.aload_n 1, 1) := by decide +kernel
theorem dL_names_19 : decode cL_names 19 = .ok (.aload_n 2, 1) := by decide +kernel
theorem dL_names_20 : decode cL_names 20 = .ok (.aload_n 3, 1) := by decide +kernel
theorem dL_names_21 : decode cL_names 21 = .ok (.aload 4, 2) := by decide +kernel
theorem dL_names_23 : decode cL_names 23 = .ok (.aload 5, 2) := by decide +kernel
theorem dL_names_25 : decode cL_names 25 = .ok (.aload 6, 2) := by decide +kernel
theorem dL_names_27 : decode cL_names 27 = .ok (.invokestatic 36, 3) := by decide +kernel
theorem dL_names_30 : decode cL_names 30 = .ok (.iastore, 1) := by decide +kernel
theorem dL_names_31 : decode cL_names 31 = .ok (.iconst 0, 1) := by decide +kernel
theorem dL_names_32 : decode cL_names 32 = .ok (.istore 9, 2) := by decide +kernel
theorem dL_names_34 : decode cL_names 34 = .ok (.aload 7, 2) := by decide +kernel
theorem dL_names_36 : decode cL_names 36 = .ok (.iload 9, 2) := by decide +kernel
theorem dL_names_38 : decode cL_names 38 = .ok (.iaload, 1) := by decide +kernel
theorem dL_names_39 : decode cL_names 39 = .ok (.aload 7, 2) := by decide +kernel
theorem dL_names_41 : decode cL_names 41 = .ok (.iload 8, 2) := by decide +kernel
theorem dL_names_43 : decode cL_names 43 = .ok (.iaload, 1) := by decide +kernel
theorem dL_names_44 : decode cL_names 44 = .ok (.if_icmp .eq 9, 3) := by decide +kernel
theorem dL_names_47 : decode cL_names 47 = .ok (.iinc 9 1, 3) := by decide +kernel
theorem dL_names_50 : decode cL_names 50 = .ok (.goto (-16), 3) := by decide +kernel
theorem dL_names_53 : decode cL_names 53 = .ok (.aload 7, 2) := by decide +kernel
theorem dL_names_55 : decode cL_names 55 = .ok (.bipush 12, 2) := by decide +kernel
theorem dL_names_57 : decode cL_names 57 = .ok (.iload 8, 2) := by decide +kernel
theorem dL_names_59 : decode cL_names 59 = .ok (.iadd, 1) := by decide +kernel
theorem dL_names_60 : decode cL_names 60 = .ok (.iload 9, 2) := by decide +kernel
theorem dL_names_62 : decode cL_names 62 = .ok (.iastore, 1) := by decide +kernel
theorem dL_names_63 : decode cL_names 63 = .ok (.iinc 8 1, 3) := by decide +kernel
theorem dL_names_66 : decode cL_names 66 = .ok (.goto (-63), 3) := by decide +kernel
theorem dL_names_69 : decode cL_names 69 = .ok (.return_, 1) := by decide +kernel
theorem dL_rate_0 : decode cL_rate 0 = .ok (.iconst 0, 1) := by decide +kernel
theorem dL_rate_1 : decode cL_rate 1 = .ok (.istore 6, 2) := by decide +kernel
theorem dL_rate_3 : decode cL_rate 3 = .ok (.iload_n 0, 1) := by decide +kernel
theorem dL_rate_4 : decode cL_rate 4 = .ok (.istore 7, 2) := by decide +kernel
theorem dL_rate_6 : decode cL_rate 6 = .ok (.iload 7, 2) := by decide +kernel
theorem dL_rate_8 : decode cL_rate 8 = .ok (.aload_n 2, 1) := by decide +kernel
theorem dL_rate_9 : decode cL_rate 9 = .ok (.iconst 0, 1) := by decide +kernel
theorem dL_rate_10 : decode cL_rate 10 = .ok (.iaload, 1) := by decide +kernel
theorem dL_rate_11 : decode cL_rate 11 = .ok (.if_icmp .ge 40, 3) := by decide +kernel
theorem dL_rate_14 : decode cL_rate 14 = .ok (.iload 6, 2) := by decide +kernel
theorem dL_rate_16 : decode cL_rate 16 = .ok (.aload 5, 2) := by decide +kernel
theorem dL_rate_18 : decode cL_rate 18 = .ok (.bipush 12, 2) := by decide +kernel
theorem dL_rate_20 : decode cL_rate 20 = .ok (.iload 7, 2) := by decide +kernel
theorem dL_rate_22 : decode cL_rate 22 = .ok (.iadd, 1) := by decide +kernel
theorem dL_rate_23 : decode cL_rate 23 = .ok (.iaload, 1) := by decide +kernel
theorem dL_rate_24 : decode cL_rate 24 = .ok (.iload_n 0, 1) := by decide +kernel
theorem dL_rate_25 : decode cL_rate 25 = .ok (.if_icmp .ne 16, 3) := by decide +kernel
theorem dL_rate_28 : decode cL_rate 28 = .ok (.aload 4, 2) := by decide +kernel
theorem dL_rate_30 : decode cL_rate 30 = .ok (.iload 7, 2) := by decide +kernel
theorem dL_rate_32 : decode cL_rate 32 = .ok (.iaload, 1) := by decide +kernel
theorem dL_rate_33 : decode cL_rate 33 = .ok (.iload_n 1, 1) := by decide +kernel
theorem dL_rate_34 : decode cL_rate 34 = .ok (.if_icmp .ne 7, 3) := by decide +kernel
theorem dL_rate_37 : decode cL_rate 37 = .ok (.iconst 1, 1) := by decide +kernel
theorem dL_rate_38 : decode cL_rate 38 = .ok (.goto 4, 3) := by decide +kernel
theorem dL_rate_41 : decode cL_rate 41 = .ok (.iconst 0, 1) := by decide +kernel
theorem dL_rate_42 : decode cL_rate 42 = .ok (.iadd, 1) := by decide +kernel
theorem dL_rate_43 : decode cL_rate 43 = .ok (.istore 6, 2) := by decide +kernel
theorem dL_rate_45 : decode cL_rate 45 = .ok (.iinc 7 1, 3) := by decide +kernel
theorem dL_rate_48 : decode cL_rate 48 = .ok (.goto (-42), 3) := by decide +kernel
theorem dL_rate_51 : decode cL_rate 51 = .ok (.aload_n 3, 1) := by decide +kernel
theorem dL_rate_52 : decode cL_rate 52 = .ok (.iconst 4, 1) := by decide +kernel
theorem dL_rate_53 : decode cL_rate 53 = .ok (.iload_n 1, 1) := by decide +kernel
theorem dL_rate_54 : decode cL_rate 54 = .ok (.iadd, 1) := by decide +kernel
theorem dL_rate_55 : decode cL_rate 55 = .ok (.iaload, 1) := by decide +kernel
theorem dL_rate_56 : decode cL_rate 56 = .ok (.ifCond .le 18, 3) := by decide +kernel
theorem dL_rate_59 : decode cL_rate 59 = .ok (.iload 6, 2) := by decide +kernel
theorem dL_rate_61 : decode cL_rate 61 = .ok (.sipush 10000, 3) := by decide +kernel
theorem dL_rate_64 : decode cL_rate 64 = .ok (.imul, 1) := by decide +kernel
theorem dL_rate_65 : decode cL_rate 65 = .ok (.aload_n 3, 1) := by decide +kernel
theorem dL_rate_66 : decode cL_rate 66 = .ok (.iconst 4, 1) := by decide +kernel
theorem dL_rate_67 : decode cL_rate 67 = .ok (.iload_n 1, 1) := by decide +kernel
theorem dL_rate_68 : decode cL_rate 68 = .ok (.iadd, 1) := by decide +kernel
theorem dL_rate_69 : decode cL_rate 69 = .ok (.iaload, 1) := by decide +kernel
theorem dL_rate_70 : decode cL_rate 70 = .ok (.idiv, 1) := by decide +kernel
theorem dL_rate_71 : decode cL_rate 71 = .ok (.goto 4, 3) := by decide +kernel
theorem dL_rate_74 : decode cL_rate 74 = .ok (.iconst 0, 1) := by decide +kernel
theorem dL_rate_75 : decode cL_rate 75 = .ok (.ireturn, 1) := by decide +kernel
theorem dL_users_0 : decode cL_users 0 = .ok (.iconst 0, 1) := by decide +kernel
theorem dL_users_1 : decode cL_users 1 = .ok (.istore 6, 2) := by decide +kernel
theorem dL_users_3 : decode cL_users 3 = .ok (.iconst 0, 1) := by decide +kernel
theorem dL_users_4 : decode cL_users 4 = .ok (.istore 7, 2) := by decide +kernel
theorem dL_users_6 : decode cL_users 6 = .ok (.iconst 0, 1) := by decide +kernel
theorem dL_users_7 : decode cL_users 7 = .ok (.istore 8, 2) := by decide +kernel
theorem dL_users_9 : decode cL_users 9 = .ok (.iload 8, 2) := by decide +kernel
theorem dL_users_11 : decode cL_users 11 = .ok (.aload_n 2, 1) := by decide +kernel
theorem dL_users_12 : decode cL_users 12 = .ok (.iconst 0, 1) := by decide +kernel
theorem dL_users_13 : decode cL_users 13 = .ok (.iaload, 1) := by decide +kernel
theorem dL_users_14 : decode cL_users 14 = .ok (.if_icmp .ge 45, 3) := by decide +kernel
theorem dL_users_17 : decode cL_users 17 = .ok (.iload 6, 2) := by decide +kernel
theorem dL_users_19 : decode cL_users 19 = .ok (.aload 5, 2) := by decide +kernel
theorem dL_users_21 : decode cL_users 21 = .ok (.bipush 12, 2) := by decide +kernel
theorem dL_users_23 : decode cL_users 23 = .ok (.iload 8, 2) := by decide +kernel
theorem dL_users_25 : decode cL_users 25 = .ok (.iadd, 1) := by decide +kernel
theorem dL_users_26 : decode cL_users 26 = .ok (.iaload, 1) := by decide +kernel
theorem dL_users_27 : decode cL_users 27 = .ok (.iload_n 0, 1) := by decide +kernel
theorem dL_users_28 : decode cL_users 28 = .ok (.if_icmp .ne 21, 3) := by decide +kernel
theorem dL_users_31 : decode cL_users 31 = .ok (.aload_n 3, 1) := by decide +kernel
theorem dL_users_32 : decode cL_users 32 = .ok (.iload 8, 2) := by decide +kernel
theorem dL_users_34 : decode cL_users 34 = .ok (.iaload, 1) := by decide +kernel
theorem dL_users_35 : decode cL_users 35 = .ok (.iload_n 1, 1) := by decide +kernel
theorem dL_users_36 : decode cL_users 36 = .ok (.if_icmp .ne 13, 3) := by decide +kernel
theorem dL_users_39 : decode cL_users 39 = .ok (.iconst 1, 1) := by decide +kernel
theorem dL_users_40 : decode cL_users 40 = .ok (.aload 4, 2) := by decide +kernel
theorem dL_users_42 : decode cL_users 42 = .ok (.iload 8, 2) := by decide +kernel
theorem dL_users_44 : decode cL_users 44 = .ok (.iaload, 1) := by decide +kernel
theorem dL_users_45 : decode cL_users 45 = .ok (.ishl, 1) := by decide +kernel
theorem dL_users_46 : decode cL_users 46 = .ok (.goto 4, 3) := by decide +kernel
theorem dL_users_49 : decode cL_users 49 = .ok (.iconst 0, 1) := by decide +kernel
theorem dL_users_50 : decode cL_users 50 = .ok (.ior, 1) := by decide +kernel
theorem dL_users_51 : decode cL_users 51 = .ok (.istore 6, 2) := by decide +kernel
theorem dL_users_53 : decode cL_users 53 = .ok (.iinc 8 1, 3) := by decide +kernel
theorem dL_users_56 : decode cL_users 56 = .ok (.goto (-47), 3) := by decide +kernel
theorem dL_users_59 : decode cL_users 59 = .ok (.iconst 0, 1) := by decide +kernel
theorem dL_users_60 : decode cL_users 60 = .ok (.istore 8, 2) := by decide +kernel
theorem dL_users_62 : decode cL_users 62 = .ok (.iload 8, 2) := by decide +kernel
theorem dL_users_64 : decode cL_users 64 = .ok (.bipush 20, 2) := by decide +kernel
theorem dL_users_66 : decode cL_users 66 = .ok (.if_icmp .ge 21, 3) := by decide +kernel
theorem dL_users_69 : decode cL_users 69 = .ok (.iload 7, 2) := by decide +kernel
theorem dL_users_71 : decode cL_users 71 = .ok (.iload 6, 2) := by decide +kernel
theorem dL_users_73 : decode cL_users 73 = .ok (.iload 8, 2) := by decide +kernel
theorem dL_users_75 : decode cL_users 75 = .ok (.ishr, 1) := by decide +kernel
theorem dL_users_76 : decode cL_users 76 = .ok (.iconst 1, 1) := by decide +kernel
theorem dL_users_77 : decode cL_users 77 = .ok (.iand, 1) := by decide +kernel
theorem dL_users_78 : decode cL_users 78 = .ok (.iadd, 1) := by decide +kernel
theorem dL_users_79 : decode cL_users 79 = .ok (.istore 7, 2) := by decide +kernel
theorem dL_users_81 : decode cL_users 81 = .ok (.iinc 8 1, 3) := by decide +kernel
theorem dL_users_84 : decode cL_users 84 = .ok (.goto (-22), 3) := by decide +kernel
theorem dL_users_87 : decode cL_users 87 = .ok (.iload 7, 2) := by decide +kernel
theorem dL_users_89 : decode cL_users 89 = .ok (.ireturn, 1) := by decide +kernel
theorem dL_version_0 : decode cL_version 0 = .ok (.aload_n 3, 1) := by decide +kernel
theorem dL_version_1 : decode cL_version 1 = .ok (.iconst 4, 1) := by decide +kernel
theorem dL_version_2 : decode cL_version 2 = .ok (.iload_n 1, 1) := by decide +kernel
theorem dL_version_3 : decode cL_version 3 = .ok (.iadd, 1) := by decide +kernel
theorem dL_version_4 : decode cL_version 4 = .ok (.iaload, 1) := by decide +kernel
theorem dL_version_5 : decode cL_version 5 = .ok (.bipush 50, 2) := by decide +kernel
theorem dL_version_7 : decode cL_version 7 = .ok (.if_icmp .ge 7, 3) := by decide +kernel
theorem dL_version_10 : decode cL_version 10 = .ok (.iconst 1, 1) := by decide +kernel
theorem dL_version_11 : decode cL_version 11 = .ok (.goto 4, 3) := by decide +kernel
theorem dL_version_14 : decode cL_version 14 = .ok (.iconst 0, 1) := by decide +kernel
theorem dL_version_15 : decode cL_version 15 = .ok (.istore 7, 2) := by decide +kernel
theorem dL_version_17 : decode cL_version 17 = .ok (.iconst (-1), 1) := by decide +kernel
theorem dL_version_18 : decode cL_version 18 = .ok (.istore 8, 2) := by decide +kernel
theorem dL_version_20 : decode cL_version 20 = .ok (.iconst 0, 1) := by decide +kernel
theorem dL_version_21 : decode cL_version 21 = .ok (.istore 9, 2) := by decide +kernel
theorem dL_version_23 : decode cL_version 23 = .ok (.iconst 0, 1) := by decide +kernel
theorem dL_version_24 : decode cL_version 24 = .ok (.istore 10, 2) := by decide +kernel
theorem dL_version_26 : decode cL_version 26 = .ok (.iload 10, 2) := by decide +kernel
theorem dL_version_28 : decode cL_version 28 = .ok (.aload_n 2, 1) := by decide +kernel
theorem dL_version_29 : decode cL_version 29 = .ok (.iconst 0, 1) := by decide +kernel
theorem dL_version_30 : decode cL_version 30 = .ok (.iaload, 1) := by decide +kernel
theorem dL_version_31 : decode cL_version 31 = .ok (.if_icmp .ge 152, 3) := by decide +kernel
theorem dL_version_34 : decode cL_version 34 = .ok (.aload 6, 2) := by decide +kernel
theorem dL_version_36 : decode cL_version 36 = .ok (.bipush 12, 2) := by decide +kernel
theorem dL_version_38 : decode cL_version 38 = .ok (.iload 10, 2) := by decide +kernel
theorem dL_version_40 : decode cL_version 40 = .ok (.iadd, 1) := by decide +kernel
theorem dL_version_41 : decode cL_version 41 = .ok (.iaload, 1) := by decide +kernel
theorem dL_version_42 : decode cL_version 42 = .ok (.iload 10, 2) := by decide +kernel
theorem dL_version_44 : decode cL_version 44 = .ok (.if_icmp .ne 18, 3) := by decide +kernel
theorem dL_version_47 : decode cL_version 47 = .ok (.iload 10, 2) := by decide +kernel
theorem dL_version_49 : decode cL_version 49 = .ok (.iload_n 1, 1) := by decide +kernel
theorem dL_version_50 : decode cL_version 50 = .ok (.aload_n 2, 1) := by decide +kernel
theorem dL_version_51 : decode cL_version 51 = .ok (.aload_n 3, 1) := by decide +kernel
theorem dL_version_52 : decode cL_version 52 = .ok (.aload 4, 2) := by decide +kernel
theorem dL_version_54 : decode cL_version 54 = .ok (.aload 6, 2) := by decide +kernel
theorem dL_version_56 : decode cL_version 56 = .ok (.invokestatic 40, 3) := by decide +kernel
theorem dL_version_59 : decode cL_version 59 = .ok (.goto 4, 3) := by decide +kernel
theorem dL_version_62 : decode cL_version 62 = .ok (.iconst 0, 1) := by decide +kernel
theorem dL_version_63 : decode cL_version 63 = .ok (.istore 11, 2) := by decide +kernel
theorem dL_version_65 : decode cL_version 65 = .ok (.iload 7, 2) := by decide +kernel
theorem dL_version_67 : decode cL_version 67 = .ok (.ifCond .ne 18, 3) := by decide +kernel
theorem dL_version_70 : decode cL_version 70 = .ok (.iload 11, 2) := by decide +kernel
theorem dL_version_72 : decode cL_version 72 = .ok (.iload 11, 2) := by decide +kernel
theorem dL_version_74 : decode cL_version 74 = .ok (.iadd, 1) := by decide +kernel
theorem dL_version_75 : decode cL_version 75 = .ok (.aload_n 2, 1) := by decide +kernel
theorem dL_version_76 : decode cL_version 76 = .ok (.iconst 2, 1) := by decide +kernel
theorem dL_version_77 : decode cL_version 77 = .ok (.iaload, 1) := by decide +kernel
theorem dL_version_78 : decode cL_version 78 = .ok (.if_icmp .lt 7, 3) := by decide +kernel
theorem dL_version_81 : decode cL_version 81 = .ok (.iconst 1, 1) := by decide +kernel
theorem dL_version_82 : decode cL_version 82 = .ok (.goto 5, 3) := by decide +kernel
theorem dL_version_85 : decode cL_version 85 = .ok (.iload 7, 2) := by decide +kernel
theorem dL_version_87 : decode cL_version 87 = .ok (.istore 7, 2) := by decide +kernel
theorem dL_version_89 : decode cL_version 89 = .ok (.aload 6, 2) := by decide +kernel
theorem dL_version_91 : decode cL_version 91 = .ok (.bipush 12, 2) := by decide +kernel
theorem dL_version_93 : decode cL_version 93 = .ok (.iload 10, 2) := by decide +kernel
theorem dL_version_95 : decode cL_version 95 = .ok (.iadd, 1) := by decide +kernel
theorem dL_version_96 : decode cL_version 96 = .ok (.iaload, 1) := by decide +kernel
theorem dL_version_97 : decode cL_version 97 = .ok (.iload 10, 2) := by decide +kernel
theorem dL_version_99 : decode cL_version 99 = .ok (.if_icmp .ne 42, 3) := by decide +kernel
theorem dL_version_102 : decode cL_version 102 = .ok (.iload 11, 2) := by decide +kernel
theorem dL_version_104 : decode cL_version 104 = .ok (.aload_n 2, 1) := by decide +kernel
theorem dL_version_105 : decode cL_version 105 = .ok (.iconst 2, 1) := by decide +kernel
theorem dL_version_106 : decode cL_version 106 = .ok (.iaload, 1) := by decide +kernel
theorem dL_version_107 : decode cL_version 107 = .ok (.if_icmp .lt 34, 3) := by decide +kernel
theorem dL_version_110 : decode cL_version 110 = .ok (.aload_n 3, 1) := by decide +kernel
theorem dL_version_111 : decode cL_version 111 = .ok (.iconst 4, 1) := by decide +kernel
theorem dL_version_112 : decode cL_version 112 = .ok (.iload_n 1, 1) := by decide +kernel
theorem dL_version_113 : decode cL_version 113 = .ok (.iadd, 1) := by decide +kernel
theorem dL_version_114 : decode cL_version 114 = .ok (.iaload, 1) := by decide +kernel
theorem dL_version_115 : decode cL_version 115 = .ok (.bipush 49, 2) := by decide +kernel
theorem dL_version_117 : decode cL_version 117 = .ok (.if_icmp .le 24, 3) := by decide +kernel
theorem dL_version_120 : decode cL_version 120 = .ok (.iload 10, 2) := by decide +kernel
theorem dL_version_122 : decode cL_version 122 = .ok (.iload_n 1, 1) := by decide +kernel
theorem dL_version_123 : decode cL_version 123 = .ok (.aload_n 2, 1) := by decide +kernel
theorem dL_version_124 : decode cL_version 124 = .ok (.aload 4, 2) := by decide +kernel
theorem dL_version_126 : decode cL_version 126 = .ok (.aload 5, 2) := by decide +kernel
theorem dL_version_128 : decode cL_version 128 = .ok (.aload 6, 2) := by decide +kernel
theorem dL_version_130 : decode cL_version 130 = .ok (.invokestatic 44, 3) := by decide +kernel
theorem dL_version_133 : decode cL_version 133 = .ok (.iconst 1, 1) := by decide +kernel
theorem dL_version_134 : decode cL_version 134 = .ok (.if_icmp .le 7, 3) := by decide +kernel
theorem dL_version_137 : decode cL_version 137 = .ok (.iconst 2, 1) := by decide +kernel
theorem dL_version_138 : decode cL_version 138 = .ok (.goto 5, 3) := by decide +kernel
theorem dL_version_141 : decode cL_version 141 = .ok (.iload 7, 2) := by decide +kernel
theorem dL_version_143 : decode cL_version 143 = .ok (.istore 7, 2) := by decide +kernel
theorem dL_version_145 : decode cL_version 145 = .ok (.iload 11, 2) := by decide +kernel
theorem dL_version_147 : decode cL_version 147 = .ok (.iload 9, 2) := by decide +kernel
theorem dL_version_149 : decode cL_version 149 = .ok (.if_icmp .le 8, 3) := by decide +kernel
theorem dL_version_152 : decode cL_version 152 = .ok (.iload 10, 2) := by decide +kernel
theorem dL_version_154 : decode cL_version 154 = .ok (.goto 5, 3) := by decide +kernel
theorem dL_version_157 : decode cL_version 157 = .ok (.iload 8, 2) := by decide +kernel
theorem dL_version_159 : decode cL_version 159 = .ok (.istore 8, 2) := by decide +kernel
theorem dL_version_161 : decode cL_version 161 = .ok (.iload 11, 2) := by decide +kernel
theorem dL_version_163 : decode cL_version 163 = .ok (.iload 9, 2) := by decide +kernel
theorem dL_version_165 : decode cL_version 165 = .ok (.if_icmp .le 8, 3) := by decide +kernel
theorem dL_version_168 : decode cL_version 168 = .ok (.iload 11, 2) := by decide +kernel
theorem dL_version_170 : decode cL_version 170 = .ok (.goto 5, 3) := by decide +kernel
theorem dL_version_173 : decode cL_version 173 = .ok (.iload 9, 2) := by decide +kernel
theorem dL_version_175 : decode cL_version 175 = .ok (.istore 9, 2) := by decide +kernel
theorem dL_version_177 : decode cL_version 177 = .ok (.iinc 10 1, 3) := by decide +kernel
theorem dL_version_180 : decode cL_version 180 = .ok (.goto (-154), 3) := by decide +kernel
theorem dL_version_183 : decode cL_version 183 = .ok (.aload_n 0, 1) := by decide +kernel
theorem dL_version_184 : decode cL_version 184 = .ok (.iload_n 1, 1) := by decide +kernel
theorem dL_version_185 : decode cL_version 185 = .ok (.invokevirtual 47, 3) := by decide +kernel
theorem dL_version_188 : decode cL_version 188 = .ok (.iload 7, 2) := by decide +kernel
theorem dL_version_190 : decode cL_version 190 = .ok (.if_icmp .ne 17, 3) := by decide +kernel
theorem dL_version_193 : decode cL_version 193 = .ok (.aload_n 0, 1) := by decide +kernel
theorem dL_version_194 : decode cL_version 194 = .ok (.iload_n 1, 1) := by decide +kernel
theorem dL_version_195 : decode cL_version 195 = .ok (.invokevirtual 51, 3) := by decide +kernel
theorem dL_version_198 : decode cL_version 198 = .ok (.iload 8, 2) := by decide +kernel
theorem dL_version_200 : decode cL_version 200 = .ok (.if_icmp .ne 7, 3) := by decide +kernel
theorem dL_version_203 : decode cL_version 203 = .ok (.iconst 1, 1) := by decide +kernel
theorem dL_version_204 : decode cL_version 204 = .ok (.goto 4, 3) := by decide +kernel
theorem dL_version_207 : decode cL_version 207 = .ok (.iconst 0, 1) := by decide +kernel
theorem dL_version_208 : decode cL_version 208 = .ok (.ireturn, 1) := by decide +kernel
theorem dL_holds_0 : decode cL_holds 0 = .ok (.aload 4, 2) := by decide +kernel
theorem dL_holds_2 : decode cL_holds 2 = .ok (.iload_n 0, 1) := by decide +kernel
theorem dL_holds_3 : decode cL_holds 3 = .ok (.iaload, 1) := by decide +kernel
theorem dL_holds_4 : decode cL_holds 4 = .ok (.ifCond .ge 6, 3) := by decide +kernel
theorem dL_holds_7 : decode cL_holds 7 = .ok (.bipush (-3), 2) := by decide +kernel
theorem dL_holds_9 : decode cL_holds 9 = .ok (.ireturn, 1) := by decide +kernel
theorem dL_holds_10 : decode cL_holds 10 = .ok (.iconst 0, 1) := by decide +kernel
theorem dL_holds_11 : decode cL_holds 11 = .ok (.istore 6, 2) := by decide +kernel
theorem dL_holds_13 : decode cL_holds 13 = .ok (.iconst 0, 1) := by decide +kernel
theorem dL_holds_14 : decode cL_holds 14 = .ok (.istore 7, 2) := by decide +kernel
theorem dL_holds_16 : decode cL_holds 16 = .ok (.iload 7, 2) := by decide +kernel
theorem dL_holds_18 : decode cL_holds 18 = .ok (.aload 4, 2) := by decide +kernel
theorem dL_holds_20 : decode cL_holds 20 = .ok (.iload_n 0, 1) := by decide +kernel
theorem dL_holds_21 : decode cL_holds 21 = .ok (.iaload, 1) := by decide +kernel
theorem dL_holds_22 : decode cL_holds 22 = .ok (.if_icmp .ge 44, 3) := by decide +kernel
theorem dL_holds_25 : decode cL_holds 25 = .ok (.aload 5, 2) := by decide +kernel
theorem dL_holds_27 : decode cL_holds 27 = .ok (.bipush 12, 2) := by decide +kernel
theorem dL_holds_29 : decode cL_holds 29 = .ok (.iload_n 0, 1) := by decide +kernel
theorem dL_holds_30 : decode cL_holds 30 = .ok (.iadd, 1) := by decide +kernel
theorem dL_holds_31 : decode cL_holds 31 = .ok (.iaload, 1) := by decide +kernel
theorem dL_holds_32 : decode cL_holds 32 = .ok (.iload 7, 2) := by decide +kernel
theorem dL_holds_34 : decode cL_holds 34 = .ok (.aload_n 1, 1) := by decide +kernel
theorem dL_holds_35 : decode cL_holds 35 = .ok (.aload_n 2, 1) := by decide +kernel
theorem dL_holds_36 : decode cL_holds 36 = .ok (.aload_n 3, 1) := by decide +kernel
theorem dL_holds_37 : decode cL_holds 37 = .ok (.aload 5, 2) := by decide +kernel
theorem dL_holds_39 : decode cL_holds 39 = .ok (.invokestatic 40, 3) := by decide +kernel
theorem dL_holds_42 : decode cL_holds 42 = .ok (.istore 8, 2) := by decide +kernel
theorem dL_holds_44 : decode cL_holds 44 = .ok (.iload 8, 2) := by decide +kernel
theorem dL_holds_46 : decode cL_holds 46 = .ok (.iload 6, 2) := by decide +kernel
theorem dL_holds_48 : decode cL_holds 48 = .ok (.if_icmp .le 8, 3) := by decide +kernel
theorem dL_holds_51 : decode cL_holds 51 = .ok (.iload 8, 2) := by decide +kernel
theorem dL_holds_53 : decode cL_holds 53 = .ok (.goto 5, 3) := by decide +kernel
theorem dL_holds_56 : decode cL_holds 56 = .ok (.iload 6, 2) := by decide +kernel
theorem dL_holds_58 : decode cL_holds 58 = .ok (.istore 6, 2) := by decide +kernel
theorem dL_holds_60 : decode cL_holds 60 = .ok (.iinc 7 1, 3) := by decide +kernel
theorem dL_holds_63 : decode cL_holds 63 = .ok (.goto (-47), 3) := by decide +kernel
theorem dL_holds_66 : decode cL_holds 66 = .ok (.aload 4, 2) := by decide +kernel
theorem dL_holds_68 : decode cL_holds 68 = .ok (.iload_n 0, 1) := by decide +kernel
theorem dL_holds_69 : decode cL_holds 69 = .ok (.iaload, 1) := by decide +kernel
theorem dL_holds_70 : decode cL_holds 70 = .ok (.istore 7, 2) := by decide +kernel
theorem dL_holds_72 : decode cL_holds 72 = .ok (.iload 7, 2) := by decide +kernel
theorem dL_holds_74 : decode cL_holds 74 = .ok (.iconst 4, 1) := by decide +kernel
theorem dL_holds_75 : decode cL_holds 75 = .ok (.if_icmp .ge 44, 3) := by decide +kernel
theorem dL_holds_78 : decode cL_holds 78 = .ok (.aload_n 2, 1) := by decide +kernel
theorem dL_holds_79 : decode cL_holds 79 = .ok (.iconst 4, 1) := by decide +kernel
theorem dL_holds_80 : decode cL_holds 80 = .ok (.iload 7, 2) := by decide +kernel
theorem dL_holds_82 : decode cL_holds 82 = .ok (.iadd, 1) := by decide +kernel
theorem dL_holds_83 : decode cL_holds 83 = .ok (.iaload, 1) := by decide +kernel
theorem dL_holds_84 : decode cL_holds 84 = .ok (.ifCond .le 29, 3) := by decide +kernel
theorem dL_holds_87 : decode cL_holds 87 = .ok (.aload 5, 2) := by decide +kernel
theorem dL_holds_89 : decode cL_holds 89 = .ok (.bipush 12, 2) := by decide +kernel
theorem dL_holds_91 : decode cL_holds 91 = .ok (.iload_n 0, 1) := by decide +kernel
theorem dL_holds_92 : decode cL_holds 92 = .ok (.iadd, 1) := by decide +kernel
theorem dL_holds_93 : decode cL_holds 93 = .ok (.iaload, 1) := by decide +kernel
theorem dL_holds_94 : decode cL_holds 94 = .ok (.iload 7, 2) := by decide +kernel
theorem dL_holds_96 : decode cL_holds 96 = .ok (.aload_n 1, 1) := by decide +kernel
theorem dL_holds_97 : decode cL_holds 97 = .ok (.aload_n 2, 1) := by decide +kernel
theorem dL_holds_98 : decode cL_holds 98 = .ok (.aload_n 3, 1) := by decide +kernel
theorem dL_holds_99 : decode cL_holds 99 = .ok (.aload 5, 2) := by decide +kernel
theorem dL_holds_101 : decode cL_holds 101 = .ok (.invokestatic 40, 3) := by decide +kernel
theorem dL_holds_104 : decode cL_holds 104 = .ok (.iconst 2, 1) := by decide +kernel
theorem dL_holds_105 : decode cL_holds 105 = .ok (.imul, 1) := by decide +kernel
theorem dL_holds_106 : decode cL_holds 106 = .ok (.iload 6, 2) := by decide +kernel
theorem dL_holds_108 : decode cL_holds 108 = .ok (.if_icmp .le 5, 3) := by decide +kernel
theorem dL_holds_111 : decode cL_holds 111 = .ok (.iconst 0, 1) := by decide +kernel
theorem dL_holds_112 : decode cL_holds 112 = .ok (.ireturn, 1) := by decide +kernel
theorem dL_holds_113 : decode cL_holds 113 = .ok (.iinc 7 1, 3) := by decide +kernel
theorem dL_holds_116 : decode cL_holds 116 = .ok (.goto (-44), 3) := by decide +kernel
theorem dL_holds_119 : decode cL_holds 119 = .ok (.iconst 1, 1) := by decide +kernel
theorem dL_holds_120 : decode cL_holds 120 = .ok (.ireturn, 1) := by decide +kernel
theorem dL_isSo_0 : decode cL_isSo 0 = .ok (.aload_n 1, 1) := by decide +kernel
theorem dL_isSo_1 : decode cL_isSo 1 = .ok (.aload_n 2, 1) := by decide +kernel
theorem dL_isSo_2 : decode cL_isSo 2 = .ok (.aload_n 3, 1) := by decide +kernel
theorem dL_isSo_3 : decode cL_isSo 3 = .ok (.aload 4, 2) := by decide +kernel
theorem dL_isSo_5 : decode cL_isSo 5 = .ok (.aload 5, 2) := by decide +kernel
theorem dL_isSo_7 : decode cL_isSo 7 = .ok (.aload 6, 2) := by decide +kernel
theorem dL_isSo_9 : decode cL_isSo 9 = .ok (.aload 8, 2) := by decide +kernel
theorem dL_isSo_11 : decode cL_isSo 11 = .ok (.aload 10, 2) := by decide +kernel
theorem dL_isSo_13 : decode cL_isSo 13 = .ok (.invokestatic 54, 3) := by decide +kernel
theorem dL_isSo_16 : decode cL_isSo 16 = .ok (.iconst 0, 1) := by decide +kernel
theorem dL_isSo_17 : decode cL_isSo 17 = .ok (.istore 11, 2) := by decide +kernel
theorem dL_isSo_19 : decode cL_isSo 19 = .ok (.aload_n 0, 1) := by decide +kernel
theorem dL_isSo_20 : decode cL_isSo 20 = .ok (.invokevirtual 58, 3) := by decide +kernel
theorem dL_isSo_23 : decode cL_isSo 23 = .ok (.aload_n 1, 1) := by decide +kernel
theorem dL_isSo_24 : decode cL_isSo 24 = .ok (.iconst 0, 1) := by decide +kernel
theorem dL_isSo_25 : decode cL_isSo 25 = .ok (.iaload, 1) := by decide +kernel
theorem dL_isSo_26 : decode cL_isSo 26 = .ok (.if_icmp .ne 7, 3) := by decide +kernel
theorem dL_isSo_29 : decode cL_isSo 29 = .ok (.iconst 1, 1) := by decide +kernel
theorem dL_isSo_30 : decode cL_isSo 30 = .ok (.goto 4, 3) := by decide +kernel
theorem dL_isSo_33 : decode cL_isSo 33 = .ok (.iconst 0, 1) := by decide +kernel
theorem dL_isSo_34 : decode cL_isSo 34 = .ok (.istore 12, 2) := by decide +kernel
theorem dL_isSo_36 : decode cL_isSo 36 = .ok (.iconst 0, 1) := by decide +kernel
theorem dL_isSo_37 : decode cL_isSo 37 = .ok (.istore 13, 2) := by decide +kernel
theorem dL_isSo_39 : decode cL_isSo 39 = .ok (.iload 13, 2) := by decide +kernel
theorem dL_isSo_41 : decode cL_isSo 41 = .ok (.aload_n 1, 1) := by decide +kernel
theorem dL_isSo_42 : decode cL_isSo 42 = .ok (.iconst 0, 1) := by decide +kernel
theorem dL_isSo_43 : decode cL_isSo 43 = .ok (.iaload, 1) := by decide +kernel
theorem dL_isSo_44 : decode cL_isSo 44 = .ok (.if_icmp .ge 345, 3) := by decide +kernel
theorem dL_isSo_47 : decode cL_isSo 47 = .ok (.iload 12, 2) := by decide +kernel
theorem dL_isSo_49 : decode cL_isSo 49 = .ok (.ifCond .eq 340, 3) := by decide +kernel
theorem dL_isSo_52 : decode cL_isSo 52 = .ok (.iconst 0, 1) := by decide +kernel
theorem dL_isSo_53 : decode cL_isSo 53 = .ok (.istore 14, 2) := by decide +kernel
theorem dL_isSo_55 : decode cL_isSo 55 = .ok (.aload 10, 2) := by decide +kernel
theorem dL_isSo_57 : decode cL_isSo 57 = .ok (.iload 13, 2) := by decide +kernel
theorem dL_isSo_59 : decode cL_isSo 59 = .ok (.iaload, 1) := by decide +kernel
theorem dL_isSo_60 : decode cL_isSo 60 = .ok (.istore 15, 2) := by decide +kernel
theorem dL_isSo_62 : decode cL_isSo 62 = .ok (.iconst 0, 1) := by decide +kernel
theorem dL_isSo_63 : decode cL_isSo 63 = .ok (.istore 16, 2) := by decide +kernel
theorem dL_isSo_65 : decode cL_isSo 65 = .ok (.iload 16, 2) := by decide +kernel
theorem dL_isSo_67 : decode cL_isSo 67 = .ok (.aload_n 1, 1) := by decide +kernel
theorem dL_isSo_68 : decode cL_isSo 68 = .ok (.iconst 0, 1) := by decide +kernel
theorem dL_isSo_69 : decode cL_isSo 69 = .ok (.iaload, 1) := by decide +kernel
theorem dL_isSo_70 : decode cL_isSo 70 = .ok (.if_icmp .ge 38, 3) := by decide +kernel
theorem dL_isSo_73 : decode cL_isSo 73 = .ok (.iload 14, 2) := by decide +kernel
theorem dL_isSo_75 : decode cL_isSo 75 = .ok (.aload 10, 2) := by decide +kernel
theorem dL_isSo_77 : decode cL_isSo 77 = .ok (.bipush 12, 2) := by decide +kernel
theorem dL_isSo_79 : decode cL_isSo 79 = .ok (.iload 16, 2) := by decide +kernel
theorem dL_isSo_81 : decode cL_isSo 81 = .ok (.iadd, 1) := by decide +kernel
theorem dL_isSo_82 : decode cL_isSo 82 = .ok (.iaload, 1) := by decide +kernel
theorem dL_isSo_83 : decode cL_isSo 83 = .ok (.aload 10, 2) := by decide +kernel
theorem dL_isSo_85 : decode cL_isSo 85 = .ok (.bipush 12, 2) := by decide +kernel
theorem dL_isSo_87 : decode cL_isSo 87 = .ok (.iload 13, 2) := by decide +kernel
theorem dL_isSo_89 : decode cL_isSo 89 = .ok (.iadd, 1) := by decide +kernel
theorem dL_isSo_90 : decode cL_isSo 90 = .ok (.iaload, 1) := by decide +kernel
theorem dL_isSo_91 : decode cL_isSo 91 = .ok (.if_icmp .ne 7, 3) := by decide +kernel
theorem dL_isSo_94 : decode cL_isSo 94 = .ok (.iconst 1, 1) := by decide +kernel
theorem dL_isSo_95 : decode cL_isSo 95 = .ok (.goto 4, 3) := by decide +kernel
theorem dL_isSo_98 : decode cL_isSo 98 = .ok (.iconst 0, 1) := by decide +kernel
theorem dL_isSo_99 : decode cL_isSo 99 = .ok (.iadd, 1) := by decide +kernel
theorem dL_isSo_100 : decode cL_isSo 100 = .ok (.istore 14, 2) := by decide +kernel
theorem dL_isSo_102 : decode cL_isSo 102 = .ok (.iinc 16 1, 3) := by decide +kernel
theorem dL_isSo_105 : decode cL_isSo 105 = .ok (.goto (-40), 3) := by decide +kernel
theorem dL_isSo_108 : decode cL_isSo 108 = .ok (.iconst 0, 1) := by decide +kernel
theorem dL_isSo_109 : decode cL_isSo 109 = .ok (.istore 16, 2) := by decide +kernel
theorem dL_isSo_111 : decode cL_isSo 111 = .ok (.iload 16, 2) := by decide +kernel
theorem dL_isSo_113 : decode cL_isSo 113 = .ok (.iconst 4, 1) := by decide +kernel
theorem dL_isSo_114 : decode cL_isSo 114 = .ok (.if_icmp .ge 92, 3) := by decide +kernel
theorem dL_isSo_117 : decode cL_isSo 117 = .ok (.iload 12, 2) := by decide +kernel
theorem dL_isSo_119 : decode cL_isSo 119 = .ok (.ifCond .eq 87, 3) := by decide +kernel
theorem dL_isSo_122 : decode cL_isSo 122 = .ok (.aload_n 0, 1) := by decide +kernel
theorem dL_isSo_123 : decode cL_isSo 123 = .ok (.iload 13, 2) := by decide +kernel
theorem dL_isSo_125 : decode cL_isSo 125 = .ok (.iload 16, 2) := by decide +kernel
theorem dL_isSo_127 : decode cL_isSo 127 = .ok (.invokevirtual 62, 3) := by decide +kernel
theorem dL_isSo_130 : decode cL_isSo 130 = .ok (.iload 13, 2) := by decide +kernel
theorem dL_isSo_132 : decode cL_isSo 132 = .ok (.iload 16, 2) := by decide +kernel
theorem dL_isSo_134 : decode cL_isSo 134 = .ok (.aload_n 2, 1) := by decide +kernel
theorem dL_isSo_135 : decode cL_isSo 135 = .ok (.aload_n 3, 1) := by decide +kernel
theorem dL_isSo_136 : decode cL_isSo 136 = .ok (.aload 4, 2) := by decide +kernel
theorem dL_isSo_138 : decode cL_isSo 138 = .ok (.aload 5, 2) := by decide +kernel
theorem dL_isSo_140 : decode cL_isSo 140 = .ok (.aload 6, 2) := by decide +kernel
theorem dL_isSo_142 : decode cL_isSo 142 = .ok (.aload 8, 2) := by decide +kernel
theorem dL_isSo_144 : decode cL_isSo 144 = .ok (.invokestatic 26, 3) := by decide +kernel
theorem dL_isSo_147 : decode cL_isSo 147 = .ok (.if_icmp .ne 34, 3) := by decide +kernel
theorem dL_isSo_150 : decode cL_isSo 150 = .ok (.aload_n 0, 1) := by decide +kernel
theorem dL_isSo_151 : decode cL_isSo 151 = .ok (.iload 13, 2) := by decide +kernel
theorem dL_isSo_153 : decode cL_isSo 153 = .ok (.iload 16, 2) := by decide +kernel
theorem dL_isSo_155 : decode cL_isSo 155 = .ok (.invokevirtual 64, 3) := by decide +kernel
theorem dL_isSo_158 : decode cL_isSo 158 = .ok (.iload 15, 2) := by decide +kernel
theorem dL_isSo_160 : decode cL_isSo 160 = .ok (.ifCond .le 13, 3) := by decide +kernel
theorem dL_isSo_163 : decode cL_isSo 163 = .ok (.iload 15, 2) := by decide +kernel
theorem dL_isSo_165 : decode cL_isSo 165 = .ok (.bipush 7, 2) := by decide +kernel
theorem dL_isSo_167 : decode cL_isSo 167 = .ok (.irem, 1) := by decide +kernel
theorem dL_isSo_168 : decode cL_isSo 168 = .ok (.iconst 1, 1) := by decide +kernel
theorem dL_isSo_169 : decode cL_isSo 169 = .ok (.isub, 1) := by decide +kernel
theorem dL_isSo_170 : decode cL_isSo 170 = .ok (.goto 4, 3) := by decide +kernel
theorem dL_isSo_173 : decode cL_isSo 173 = .ok (.iconst (-1), 1) := by decide +kernel
theorem dL_isSo_174 : decode cL_isSo 174 = .ok (.if_icmp .ne 7, 3) := by decide +kernel
theorem dL_isSo_177 : decode cL_isSo 177 = .ok (.iconst 1, 1) := by decide +kernel
theorem dL_isSo_178 : decode cL_isSo 178 = .ok (.goto 4, 3) := by decide +kernel
theorem dL_isSo_181 : decode cL_isSo 181 = .ok (.iconst 0, 1) := by decide +kernel
theorem dL_isSo_182 : decode cL_isSo 182 = .ok (.istore 12, 2) := by decide +kernel
theorem dL_isSo_184 : decode cL_isSo 184 = .ok (.iload 15, 2) := by decide +kernel
theorem dL_isSo_186 : decode cL_isSo 186 = .ok (.ifCond .le 11, 3) := by decide +kernel
theorem dL_isSo_189 : decode cL_isSo 189 = .ok (.iload 15, 2) := by decide +kernel
theorem dL_isSo_191 : decode cL_isSo 191 = .ok (.bipush 7, 2) := by decide +kernel
theorem dL_isSo_193 : decode cL_isSo 193 = .ok (.idiv, 1) := by decide +kernel
theorem dL_isSo_194 : decode cL_isSo 194 = .ok (.goto 4, 3) := by decide +kernel
theorem dL_isSo_197 : decode cL_isSo 197 = .ok (.iconst 0, 1) := by decide +kernel
theorem dL_isSo_198 : decode cL_isSo 198 = .ok (.istore 15, 2) := by decide +kernel
theorem dL_isSo_200 : decode cL_isSo 200 = .ok (.iinc 16 1, 3) := by decide +kernel
theorem dL_isSo_203 : decode cL_isSo 203 = .ok (.goto (-92), 3) := by decide +kernel
theorem dL_isSo_206 : decode cL_isSo 206 = .ok (.iload 11, 2) := by decide +kernel
theorem dL_isSo_208 : decode cL_isSo 208 = .ok (.aload 10, 2) := by decide +kernel
theorem dL_isSo_210 : decode cL_isSo 210 = .ok (.bipush 12, 2) := by decide +kernel
theorem dL_isSo_212 : decode cL_isSo 212 = .ok (.iload 13, 2) := by decide +kernel
theorem dL_isSo_214 : decode cL_isSo 214 = .ok (.iadd, 1) := by decide +kernel
theorem dL_isSo_215 : decode cL_isSo 215 = .ok (.iaload, 1) := by decide +kernel
theorem dL_isSo_216 : decode cL_isSo 216 = .ok (.iload 13, 2) := by decide +kernel
theorem dL_isSo_218 : decode cL_isSo 218 = .ok (.if_icmp .ne 7, 3) := by decide +kernel
theorem dL_isSo_221 : decode cL_isSo 221 = .ok (.iconst 1, 1) := by decide +kernel
theorem dL_isSo_222 : decode cL_isSo 222 = .ok (.goto 4, 3) := by decide +kernel
theorem dL_isSo_225 : decode cL_isSo 225 = .ok (.iconst 0, 1) := by decide +kernel
theorem dL_isSo_226 : decode cL_isSo 226 = .ok (.iadd, 1) := by decide +kernel
theorem dL_isSo_227 : decode cL_isSo 227 = .ok (.istore 11, 2) := by decide +kernel
theorem dL_isSo_229 : decode cL_isSo 229 = .ok (.iload 12, 2) := by decide +kernel
theorem dL_isSo_231 : decode cL_isSo 231 = .ok (.ifCond .eq 61, 3) := by decide +kernel
theorem dL_isSo_234 : decode cL_isSo 234 = .ok (.aload_n 0, 1) := by decide +kernel
theorem dL_isSo_235 : decode cL_isSo 235 = .ok (.iload 13, 2) := by decide +kernel
theorem dL_isSo_237 : decode cL_isSo 237 = .ok (.invokevirtual 67, 3) := by decide +kernel
theorem dL_isSo_240 : decode cL_isSo 240 = .ok (.aload 10, 2) := by decide +kernel
theorem dL_isSo_242 : decode cL_isSo 242 = .ok (.bipush 12, 2) := by decide +kernel
theorem dL_isSo_244 : decode cL_isSo 244 = .ok (.iload 13, 2) := by decide +kernel
theorem dL_isSo_246 : decode cL_isSo 246 = .ok (.iadd, 1) := by decide +kernel
theorem dL_isSo_247 : decode cL_isSo 247 = .ok (.iaload, 1) := by decide +kernel
theorem dL_isSo_248 : decode cL_isSo 248 = .ok (.if_icmp .ne 44, 3) := by decide +kernel
theorem dL_isSo_251 : decode cL_isSo 251 = .ok (.aload_n 0, 1) := by decide +kernel
theorem dL_isSo_252 : decode cL_isSo 252 = .ok (.iload 13, 2) := by decide +kernel
theorem dL_isSo_254 : decode cL_isSo 254 = .ok (.invokevirtual 70, 3) := by decide +kernel
theorem dL_isSo_257 : decode cL_isSo 257 = .ok (.iload 14, 2) := by decide +kernel
theorem dL_isSo_259 : decode cL_isSo 259 = .ok (.if_icmp .ne 33, 3) := by decide +kernel
theorem dL_isSo_262 : decode cL_isSo 262 = .ok (.aload_n 0, 1) := by decide +kernel
theorem dL_isSo_263 : decode cL_isSo 263 = .ok (.iconst 2, 1) := by decide +kernel
theorem dL_isSo_264 : decode cL_isSo 264 = .ok (.iload 13, 2) := by decide +kernel
theorem dL_isSo_266 : decode cL_isSo 266 = .ok (.iconst 0, 1) := by decide +kernel
theorem dL_isSo_267 : decode cL_isSo 267 = .ok (.iconst 0, 1) := by decide +kernel
theorem dL_isSo_268 : decode cL_isSo 268 = .ok (.iconst 0, 1) := by decide +kernel
theorem dL_isSo_269 : decode cL_isSo 269 = .ok (.invokestatic 73, 3) := by decide +kernel
theorem dL_isSo_272 : decode cL_isSo 272 = .ok (.iload 13, 2) := by decide +kernel
theorem dL_isSo_274 : decode cL_isSo 274 = .ok (.aload_n 1, 1) := by decide +kernel
theorem dL_isSo_275 : decode cL_isSo 275 = .ok (.aload_n 2, 1) := by decide +kernel
theorem dL_isSo_276 : decode cL_isSo 276 = .ok (.aload 6, 2) := by decide +kernel
theorem dL_isSo_278 : decode cL_isSo 278 = .ok (.aload 9, 2) := by decide +kernel
theorem dL_isSo_280 : decode cL_isSo 280 = .ok (.aload 10, 2) := by decide +kernel
theorem dL_isSo_282 : decode cL_isSo 282 = .ok (.invokestatic 77, 3) := by decide +kernel
theorem dL_isSo_285 : decode cL_isSo 285 = .ok (.if_icmp .ne 7, 3) := by decide +kernel
theorem dL_isSo_288 : decode cL_isSo 288 = .ok (.iconst 1, 1) := by decide +kernel
theorem dL_isSo_289 : decode cL_isSo 289 = .ok (.goto 4, 3) := by decide +kernel
theorem dL_isSo_292 : decode cL_isSo 292 = .ok (.iconst 0, 1) := by decide +kernel
theorem dL_isSo_293 : decode cL_isSo 293 = .ok (.istore 12, 2) := by decide +kernel
theorem dL_isSo_295 : decode cL_isSo 295 = .ok (.iconst 0, 1) := by decide +kernel
theorem dL_isSo_296 : decode cL_isSo 296 = .ok (.istore 16, 2) := by decide +kernel
theorem dL_isSo_298 : decode cL_isSo 298 = .ok (.iload 16, 2) := by decide +kernel
theorem dL_isSo_300 : decode cL_isSo 300 = .ok (.iconst 4, 1) := by decide +kernel
theorem dL_isSo_301 : decode cL_isSo 301 = .ok (.if_icmp .ge 82, 3) := by decide +kernel
theorem dL_isSo_304 : decode cL_isSo 304 = .ok (.iload 12, 2) := by decide +kernel
theorem dL_isSo_306 : decode cL_isSo 306 = .ok (.ifCond .eq 77, 3) := by decide +kernel
theorem dL_isSo_309 : decode cL_isSo 309 = .ok (.aload_n 0, 1) := by decide +kernel
theorem dL_isSo_310 : decode cL_isSo 310 = .ok (.iload 13, 2) := by decide +kernel
theorem dL_isSo_312 : decode cL_isSo 312 = .ok (.iload 16, 2) := by decide +kernel
theorem dL_isSo_314 : decode cL_isSo 314 = .ok (.invokevirtual 80, 3) := by decide +kernel
theorem dL_isSo_317 : decode cL_isSo 317 = .ok (.aload 10, 2) := by decide +kernel
end
section
theorem dL_isSo_319 : decode cL_isSo 319 = .ok (.bipush 12, 2) := by decide +kernel
theorem dL_isSo_321 : decode cL_isSo 321 = .ok (.iload 13, 2) := by decide +kernel
theorem dL_isSo_323 : decode cL_isSo 323 = .ok (.iadd, 1) := by decide +kernel
theorem dL_isSo_324 : decode cL_isSo 324 = .ok (.iaload, 1) := by decide +kernel
theorem dL_isSo_325 : decode cL_isSo 325 = .ok (.iload 16, 2) := by decide +kernel
theorem dL_isSo_327 : decode cL_isSo 327 = .ok (.aload_n 1, 1) := by decide +kernel
theorem dL_isSo_328 : decode cL_isSo 328 = .ok (.aload_n 2, 1) := by decide +kernel
theorem dL_isSo_329 : decode cL_isSo 329 = .ok (.aload 6, 2) := by decide +kernel
theorem dL_isSo_331 : decode cL_isSo 331 = .ok (.aload 10, 2) := by decide +kernel
theorem dL_isSo_333 : decode cL_isSo 333 = .ok (.invokestatic 40, 3) := by decide +kernel
theorem dL_isSo_336 : decode cL_isSo 336 = .ok (.if_icmp .ne 38, 3) := by decide +kernel
theorem dL_isSo_339 : decode cL_isSo 339 = .ok (.aload_n 0, 1) := by decide +kernel
theorem dL_isSo_340 : decode cL_isSo 340 = .ok (.iload 13, 2) := by decide +kernel
theorem dL_isSo_342 : decode cL_isSo 342 = .ok (.iload 16, 2) := by decide +kernel
theorem dL_isSo_344 : decode cL_isSo 344 = .ok (.invokevirtual 82, 3) := by decide +kernel
theorem dL_isSo_347 : decode cL_isSo 347 = .ok (.aload 10, 2) := by decide +kernel
theorem dL_isSo_349 : decode cL_isSo 349 = .ok (.bipush 12, 2) := by decide +kernel
theorem dL_isSo_351 : decode cL_isSo 351 = .ok (.iload 13, 2) := by decide +kernel
theorem dL_isSo_353 : decode cL_isSo 353 = .ok (.iadd, 1) := by decide +kernel
theorem dL_isSo_354 : decode cL_isSo 354 = .ok (.iaload, 1) := by decide +kernel
theorem dL_isSo_355 : decode cL_isSo 355 = .ok (.iload 16, 2) := by decide +kernel
theorem dL_isSo_357 : decode cL_isSo 357 = .ok (.aload_n 1, 1) := by decide +kernel
theorem dL_isSo_358 : decode cL_isSo 358 = .ok (.aload 6, 2) := by decide +kernel
theorem dL_isSo_360 : decode cL_isSo 360 = .ok (.aload 7, 2) := by decide +kernel
theorem dL_isSo_362 : decode cL_isSo 362 = .ok (.aload 10, 2) := by decide +kernel
theorem dL_isSo_364 : decode cL_isSo 364 = .ok (.invokestatic 44, 3) := by decide +kernel
theorem dL_isSo_367 : decode cL_isSo 367 = .ok (.if_icmp .ne 7, 3) := by decide +kernel
theorem dL_isSo_370 : decode cL_isSo 370 = .ok (.iconst 1, 1) := by decide +kernel
theorem dL_isSo_371 : decode cL_isSo 371 = .ok (.goto 4, 3) := by decide +kernel
theorem dL_isSo_374 : decode cL_isSo 374 = .ok (.iconst 0, 1) := by decide +kernel
theorem dL_isSo_375 : decode cL_isSo 375 = .ok (.istore 12, 2) := by decide +kernel
theorem dL_isSo_377 : decode cL_isSo 377 = .ok (.iinc 16 1, 3) := by decide +kernel
theorem dL_isSo_380 : decode cL_isSo 380 = .ok (.goto (-82), 3) := by decide +kernel
theorem dL_isSo_383 : decode cL_isSo 383 = .ok (.iinc 13 1, 3) := by decide +kernel
theorem dL_isSo_386 : decode cL_isSo 386 = .ok (.goto (-347), 3) := by decide +kernel
theorem dL_isSo_389 : decode cL_isSo 389 = .ok (.iconst 0, 1) := by decide +kernel
theorem dL_isSo_390 : decode cL_isSo 390 = .ok (.istore 13, 2) := by decide +kernel
theorem dL_isSo_392 : decode cL_isSo 392 = .ok (.iload 13, 2) := by decide +kernel
theorem dL_isSo_394 : decode cL_isSo 394 = .ok (.iconst 4, 1) := by decide +kernel
theorem dL_isSo_395 : decode cL_isSo 395 = .ok (.if_icmp .ge 30, 3) := by decide +kernel
theorem dL_isSo_398 : decode cL_isSo 398 = .ok (.iload 12, 2) := by decide +kernel
theorem dL_isSo_400 : decode cL_isSo 400 = .ok (.ifCond .eq 25, 3) := by decide +kernel
theorem dL_isSo_403 : decode cL_isSo 403 = .ok (.aload_n 0, 1) := by decide +kernel
theorem dL_isSo_404 : decode cL_isSo 404 = .ok (.iload 13, 2) := by decide +kernel
theorem dL_isSo_406 : decode cL_isSo 406 = .ok (.aload_n 1, 1) := by decide +kernel
theorem dL_isSo_407 : decode cL_isSo 407 = .ok (.aload_n 2, 1) := by decide +kernel
theorem dL_isSo_408 : decode cL_isSo 408 = .ok (.aload 6, 2) := by decide +kernel
theorem dL_isSo_410 : decode cL_isSo 410 = .ok (.aload 7, 2) := by decide +kernel
theorem dL_isSo_412 : decode cL_isSo 412 = .ok (.aload 10, 2) := by decide +kernel
theorem dL_isSo_414 : decode cL_isSo 414 = .ok (.invokestatic 84, 3) := by decide +kernel
theorem dL_isSo_417 : decode cL_isSo 417 = .ok (.istore 12, 2) := by decide +kernel
theorem dL_isSo_419 : decode cL_isSo 419 = .ok (.iinc 13 1, 3) := by decide +kernel
theorem dL_isSo_422 : decode cL_isSo 422 = .ok (.goto (-30), 3) := by decide +kernel
theorem dL_isSo_425 : decode cL_isSo 425 = .ok (.iload 12, 2) := by decide +kernel
theorem dL_isSo_427 : decode cL_isSo 427 = .ok (.ifCond .eq 16, 3) := by decide +kernel
theorem dL_isSo_430 : decode cL_isSo 430 = .ok (.aload_n 0, 1) := by decide +kernel
theorem dL_isSo_431 : decode cL_isSo 431 = .ok (.invokevirtual 88, 3) := by decide +kernel
theorem dL_isSo_434 : decode cL_isSo 434 = .ok (.iload 11, 2) := by decide +kernel
theorem dL_isSo_436 : decode cL_isSo 436 = .ok (.if_icmp .ne 7, 3) := by decide +kernel
theorem dL_isSo_439 : decode cL_isSo 439 = .ok (.iconst 1, 1) := by decide +kernel
theorem dL_isSo_440 : decode cL_isSo 440 = .ok (.goto 4, 3) := by decide +kernel
theorem dL_isSo_443 : decode cL_isSo 443 = .ok (.iconst 0, 1) := by decide +kernel
theorem dL_isSo_444 : decode cL_isSo 444 = .ok (.ireturn, 1) := by decide +kernel
theorem dL_ranges_0 : decode cL_ranges 0 = .ok (.iload_n 1, 1) := by decide +kernel
theorem dL_ranges_1 : decode cL_ranges 1 = .ok (.iconst 4, 1) := by decide +kernel
theorem dL_ranges_2 : decode cL_ranges 2 = .ok (.invokestatic 91, 3) := by decide +kernel
theorem dL_ranges_5 : decode cL_ranges 5 = .ok (.istore 6, 2) := by decide +kernel
theorem dL_ranges_7 : decode cL_ranges 7 = .ok (.iload_n 1, 1) := by decide +kernel
theorem dL_ranges_8 : decode cL_ranges 8 = .ok (.iconst 2, 1) := by decide +kernel
theorem dL_ranges_9 : decode cL_ranges 9 = .ok (.ishr, 1) := by decide +kernel
theorem dL_ranges_10 : decode cL_ranges 10 = .ok (.bipush 12, 2) := by decide +kernel
theorem dL_ranges_12 : decode cL_ranges 12 = .ok (.invokestatic 91, 3) := by decide +kernel
theorem dL_ranges_15 : decode cL_ranges 15 = .ok (.bipush 10, 2) := by decide +kernel
theorem dL_ranges_17 : decode cL_ranges 17 = .ok (.imul, 1) := by decide +kernel
theorem dL_ranges_18 : decode cL_ranges 18 = .ok (.istore 7, 2) := by decide +kernel
theorem dL_ranges_20 : decode cL_ranges 20 = .ok (.iload 7, 2) := by decide +kernel
theorem dL_ranges_22 : decode cL_ranges 22 = .ok (.iload_n 1, 1) := by decide +kernel
theorem dL_ranges_23 : decode cL_ranges 23 = .ok (.bipush 6, 2) := by decide +kernel
theorem dL_ranges_25 : decode cL_ranges 25 = .ok (.ishr, 1) := by decide +kernel
theorem dL_ranges_26 : decode cL_ranges 26 = .ok (.iload_n 1, 1) := by decide +kernel
theorem dL_ranges_27 : decode cL_ranges 27 = .ok (.bipush 13, 2) := by decide +kernel
theorem dL_ranges_29 : decode cL_ranges 29 = .ok (.ishr, 1) := by decide +kernel
theorem dL_ranges_30 : decode cL_ranges 30 = .ok (.iconst 3, 1) := by decide +kernel
theorem dL_ranges_31 : decode cL_ranges 31 = .ok (.invokestatic 91, 3) := by decide +kernel
theorem dL_ranges_34 : decode cL_ranges 34 = .ok (.ifCond .ne 8, 3) := by decide +kernel
theorem dL_ranges_37 : decode cL_ranges 37 = .ok (.bipush 40, 2) := by decide +kernel
theorem dL_ranges_39 : decode cL_ranges 39 = .ok (.goto 5, 3) := by decide +kernel
theorem dL_ranges_42 : decode cL_ranges 42 = .ok (.bipush 10, 2) := by decide +kernel
theorem dL_ranges_44 : decode cL_ranges 44 = .ok (.invokestatic 91, 3) := by decide +kernel
theorem dL_ranges_47 : decode cL_ranges 47 = .ok (.iadd, 1) := by decide +kernel
theorem dL_ranges_48 : decode cL_ranges 48 = .ok (.istore 8, 2) := by decide +kernel
theorem dL_ranges_50 : decode cL_ranges 50 = .ok (.iload_n 1, 1) := by decide +kernel
theorem dL_ranges_51 : decode cL_ranges 51 = .ok (.bipush 9, 2) := by decide +kernel
theorem dL_ranges_53 : decode cL_ranges 53 = .ok (.ishr, 1) := by decide +kernel
theorem dL_ranges_54 : decode cL_ranges 54 = .ok (.bipush 6, 2) := by decide +kernel
theorem dL_ranges_56 : decode cL_ranges 56 = .ok (.invokestatic 91, 3) := by decide +kernel
theorem dL_ranges_59 : decode cL_ranges 59 = .ok (.istore 9, 2) := by decide +kernel
theorem dL_ranges_61 : decode cL_ranges 61 = .ok (.iconst 1, 1) := by decide +kernel
theorem dL_ranges_62 : decode cL_ranges 62 = .ok (.istore 10, 2) := by decide +kernel
theorem dL_ranges_64 : decode cL_ranges 64 = .ok (.bipush 6, 2) := by decide +kernel
theorem dL_ranges_66 : decode cL_ranges 66 = .ok (.iload 6, 2) := by decide +kernel
theorem dL_ranges_68 : decode cL_ranges 68 = .ok (.imul, 1) := by decide +kernel
theorem dL_ranges_69 : decode cL_ranges 69 = .ok (.istore 11, 2) := by decide +kernel
theorem dL_ranges_71 : decode cL_ranges 71 = .ok (.iload 11, 2) := by decide +kernel
theorem dL_ranges_73 : decode cL_ranges 73 = .ok (.bipush 6, 2) := by decide +kernel
theorem dL_ranges_75 : decode cL_ranges 75 = .ok (.iload 6, 2) := by decide +kernel
theorem dL_ranges_77 : decode cL_ranges 77 = .ok (.imul, 1) := by decide +kernel
theorem dL_ranges_78 : decode cL_ranges 78 = .ok (.aload_n 2, 1) := by decide +kernel
theorem dL_ranges_79 : decode cL_ranges 79 = .ok (.iload 6, 2) := by decide +kernel
theorem dL_ranges_81 : decode cL_ranges 81 = .ok (.iaload, 1) := by decide +kernel
theorem dL_ranges_82 : decode cL_ranges 82 = .ok (.iadd, 1) := by decide +kernel
theorem dL_ranges_83 : decode cL_ranges 83 = .ok (.if_icmp .ge 40, 3) := by decide +kernel
theorem dL_ranges_86 : decode cL_ranges 86 = .ok (.iload 10, 2) := by decide +kernel
theorem dL_ranges_88 : decode cL_ranges 88 = .ok (.ifCond .eq 26, 3) := by decide +kernel
theorem dL_ranges_91 : decode cL_ranges 91 = .ok (.iload 8, 2) := by decide +kernel
theorem dL_ranges_93 : decode cL_ranges 93 = .ok (.aload_n 3, 1) := by decide +kernel
theorem dL_ranges_94 : decode cL_ranges 94 = .ok (.iload 11, 2) := by decide +kernel
theorem dL_ranges_96 : decode cL_ranges 96 = .ok (.iaload, 1) := by decide +kernel
theorem dL_ranges_97 : decode cL_ranges 97 = .ok (.if_icmp .lt 13, 3) := by decide +kernel
theorem dL_ranges_100 : decode cL_ranges 100 = .ok (.iload 7, 2) := by decide +kernel
theorem dL_ranges_102 : decode cL_ranges 102 = .ok (.aload 4, 2) := by decide +kernel
theorem dL_ranges_104 : decode cL_ranges 104 = .ok (.iload 11, 2) := by decide +kernel
theorem dL_ranges_106 : decode cL_ranges 106 = .ok (.iaload, 1) := by decide +kernel
theorem dL_ranges_107 : decode cL_ranges 107 = .ok (.if_icmp .le 7, 3) := by decide +kernel
theorem dL_ranges_110 : decode cL_ranges 110 = .ok (.iconst 1, 1) := by decide +kernel
theorem dL_ranges_111 : decode cL_ranges 111 = .ok (.goto 4, 3) := by decide +kernel
theorem dL_ranges_114 : decode cL_ranges 114 = .ok (.iconst 0, 1) := by decide +kernel
theorem dL_ranges_115 : decode cL_ranges 115 = .ok (.istore 10, 2) := by decide +kernel
theorem dL_ranges_117 : decode cL_ranges 117 = .ok (.iinc 11 1, 3) := by decide +kernel
theorem dL_ranges_120 : decode cL_ranges 120 = .ok (.goto (-49), 3) := by decide +kernel
theorem dL_ranges_123 : decode cL_ranges 123 = .ok (.iload 10, 2) := by decide +kernel
theorem dL_ranges_125 : decode cL_ranges 125 = .ok (.ifCond .eq 14, 3) := by decide +kernel
theorem dL_ranges_128 : decode cL_ranges 128 = .ok (.aload_n 2, 1) := by decide +kernel
theorem dL_ranges_129 : decode cL_ranges 129 = .ok (.iload 6, 2) := by decide +kernel
theorem dL_ranges_131 : decode cL_ranges 131 = .ok (.iaload, 1) := by decide +kernel
theorem dL_ranges_132 : decode cL_ranges 132 = .ok (.bipush 6, 2) := by decide +kernel
theorem dL_ranges_134 : decode cL_ranges 134 = .ok (.if_icmp .ne 5, 3) := by decide +kernel
theorem dL_ranges_137 : decode cL_ranges 137 = .ok (.iconst 1, 1) := by decide +kernel
theorem dL_ranges_138 : decode cL_ranges 138 = .ok (.ireturn, 1) := by decide +kernel
theorem dL_ranges_139 : decode cL_ranges 139 = .ok (.iload 10, 2) := by decide +kernel
theorem dL_ranges_141 : decode cL_ranges 141 = .ok (.ifCond .eq 43, 3) := by decide +kernel
theorem dL_ranges_144 : decode cL_ranges 144 = .ok (.bipush 6, 2) := by decide +kernel
theorem dL_ranges_146 : decode cL_ranges 146 = .ok (.iload 6, 2) := by decide +kernel
theorem dL_ranges_148 : decode cL_ranges 148 = .ok (.imul, 1) := by decide +kernel
theorem dL_ranges_149 : decode cL_ranges 149 = .ok (.aload_n 2, 1) := by decide +kernel
theorem dL_ranges_150 : decode cL_ranges 150 = .ok (.iload 6, 2) := by decide +kernel
theorem dL_ranges_152 : decode cL_ranges 152 = .ok (.iaload, 1) := by decide +kernel
theorem dL_ranges_153 : decode cL_ranges 153 = .ok (.iadd, 1) := by decide +kernel
theorem dL_ranges_154 : decode cL_ranges 154 = .ok (.istore 11, 2) := by decide +kernel
theorem dL_ranges_156 : decode cL_ranges 156 = .ok (.aload_n 3, 1) := by decide +kernel
theorem dL_ranges_157 : decode cL_ranges 157 = .ok (.iload 11, 2) := by decide +kernel
theorem dL_ranges_159 : decode cL_ranges 159 = .ok (.iload 7, 2) := by decide +kernel
theorem dL_ranges_161 : decode cL_ranges 161 = .ok (.iastore, 1) := by decide +kernel
theorem dL_ranges_162 : decode cL_ranges 162 = .ok (.aload 4, 2) := by decide +kernel
theorem dL_ranges_164 : decode cL_ranges 164 = .ok (.iload 11, 2) := by decide +kernel
theorem dL_ranges_166 : decode cL_ranges 166 = .ok (.iload 8, 2) := by decide +kernel
theorem dL_ranges_168 : decode cL_ranges 168 = .ok (.iastore, 1) := by decide +kernel
theorem dL_ranges_169 : decode cL_ranges 169 = .ok (.aload 5, 2) := by decide +kernel
theorem dL_ranges_171 : decode cL_ranges 171 = .ok (.iload 11, 2) := by decide +kernel
theorem dL_ranges_173 : decode cL_ranges 173 = .ok (.iload 9, 2) := by decide +kernel
theorem dL_ranges_175 : decode cL_ranges 175 = .ok (.iastore, 1) := by decide +kernel
theorem dL_ranges_176 : decode cL_ranges 176 = .ok (.aload_n 2, 1) := by decide +kernel
theorem dL_ranges_177 : decode cL_ranges 177 = .ok (.iload 6, 2) := by decide +kernel
theorem dL_ranges_179 : decode cL_ranges 179 = .ok (.dup2, 1) := by decide +kernel
theorem dL_ranges_180 : decode cL_ranges 180 = .ok (.iaload, 1) := by decide +kernel
theorem dL_ranges_181 : decode cL_ranges 181 = .ok (.iconst 1, 1) := by decide +kernel
theorem dL_ranges_182 : decode cL_ranges 182 = .ok (.iadd, 1) := by decide +kernel
theorem dL_ranges_183 : decode cL_ranges 183 = .ok (.iastore, 1) := by decide +kernel
theorem dL_ranges_184 : decode cL_ranges 184 = .ok (.aload_n 0, 1) := by decide +kernel
theorem dL_ranges_185 : decode cL_ranges 185 = .ok (.iconst 0, 1) := by decide +kernel
theorem dL_ranges_186 : decode cL_ranges 186 = .ok (.iload 6, 2) := by decide +kernel
theorem dL_ranges_188 : decode cL_ranges 188 = .ok (.iload 7, 2) := by decide +kernel
theorem dL_ranges_190 : decode cL_ranges 190 = .ok (.iload 8, 2) := by decide +kernel
theorem dL_ranges_192 : decode cL_ranges 192 = .ok (.iload 9, 2) := by decide +kernel
theorem dL_ranges_194 : decode cL_ranges 194 = .ok (.invokestatic 73, 3) := by decide +kernel
theorem dL_ranges_197 : decode cL_ranges 197 = .ok (.iload 10, 2) := by decide +kernel
theorem dL_ranges_199 : decode cL_ranges 199 = .ok (.ifCond .eq 10, 3) := by decide +kernel
theorem dL_ranges_202 : decode cL_ranges 202 = .ok (.aload_n 2, 1) := by decide +kernel
theorem dL_ranges_203 : decode cL_ranges 203 = .ok (.iload 6, 2) := by decide +kernel
theorem dL_ranges_205 : decode cL_ranges 205 = .ok (.iaload, 1) := by decide +kernel
theorem dL_ranges_206 : decode cL_ranges 206 = .ok (.goto 5, 3) := by decide +kernel
theorem dL_ranges_209 : decode cL_ranges 209 = .ok (.bipush (-3), 2) := by decide +kernel
theorem dL_ranges_211 : decode cL_ranges 211 = .ok (.if_icmp .ne 7, 3) := by decide +kernel
theorem dL_ranges_214 : decode cL_ranges 214 = .ok (.iconst 1, 1) := by decide +kernel
theorem dL_ranges_215 : decode cL_ranges 215 = .ok (.goto 4, 3) := by decide +kernel
theorem dL_ranges_218 : decode cL_ranges 218 = .ok (.iconst 0, 1) := by decide +kernel
theorem dL_ranges_219 : decode cL_ranges 219 = .ok (.ireturn, 1) := by decide +kernel
theorem dL_rules_0 : decode cL_rules 0 = .ok (.iload_n 1, 1) := by decide +kernel
theorem dL_rules_1 : decode cL_rules 1 = .ok (.iconst 4, 1) := by decide +kernel
theorem dL_rules_2 : decode cL_rules 2 = .ok (.invokestatic 91, 3) := by decide +kernel
theorem dL_rules_5 : decode cL_rules 5 = .ok (.istore 4, 2) := by decide +kernel
theorem dL_rules_7 : decode cL_rules 7 = .ok (.iload_n 1, 1) := by decide +kernel
theorem dL_rules_8 : decode cL_rules 8 = .ok (.iconst 2, 1) := by decide +kernel
theorem dL_rules_9 : decode cL_rules 9 = .ok (.ishr, 1) := by decide +kernel
theorem dL_rules_10 : decode cL_rules 10 = .ok (.bipush 6, 2) := by decide +kernel
theorem dL_rules_12 : decode cL_rules 12 = .ok (.invokestatic 91, 3) := by decide +kernel
theorem dL_rules_15 : decode cL_rules 15 = .ok (.istore 5, 2) := by decide +kernel
theorem dL_rules_17 : decode cL_rules 17 = .ok (.iload 4, 2) := by decide +kernel
theorem dL_rules_19 : decode cL_rules 19 = .ok (.ifCond .ne 76, 3) := by decide +kernel
theorem dL_rules_22 : decode cL_rules 22 = .ok (.aload_n 3, 1) := by decide +kernel
theorem dL_rules_23 : decode cL_rules 23 = .ok (.bipush 8, 2) := by decide +kernel
theorem dL_rules_25 : decode cL_rules 25 = .ok (.iload 5, 2) := by decide +kernel
theorem dL_rules_27 : decode cL_rules 27 = .ok (.iadd, 1) := by decide +kernel
theorem dL_rules_28 : decode cL_rules 28 = .ok (.iaload, 1) := by decide +kernel
theorem dL_rules_29 : decode cL_rules 29 = .ok (.iconst 1, 1) := by decide +kernel
theorem dL_rules_30 : decode cL_rules 30 = .ok (.if_icmp .ne 7, 3) := by decide +kernel
theorem dL_rules_33 : decode cL_rules 33 = .ok (.iconst 1, 1) := by decide +kernel
theorem dL_rules_34 : decode cL_rules 34 = .ok (.goto 4, 3) := by decide +kernel
theorem dL_rules_37 : decode cL_rules 37 = .ok (.iconst 0, 1) := by decide +kernel
theorem dL_rules_38 : decode cL_rules 38 = .ok (.istore 6, 2) := by decide +kernel
theorem dL_rules_40 : decode cL_rules 40 = .ok (.aload_n 3, 1) := by decide +kernel
theorem dL_rules_41 : decode cL_rules 41 = .ok (.bipush 8, 2) := by decide +kernel
theorem dL_rules_43 : decode cL_rules 43 = .ok (.iload 5, 2) := by decide +kernel
theorem dL_rules_45 : decode cL_rules 45 = .ok (.iadd, 1) := by decide +kernel
theorem dL_rules_46 : decode cL_rules 46 = .ok (.iload_n 1, 1) := by decide +kernel
theorem dL_rules_47 : decode cL_rules 47 = .ok (.iconst 5, 1) := by decide +kernel
theorem dL_rules_48 : decode cL_rules 48 = .ok (.ishr, 1) := by decide +kernel
theorem dL_rules_49 : decode cL_rules 49 = .ok (.iconst 3, 1) := by decide +kernel
theorem dL_rules_50 : decode cL_rules 50 = .ok (.invokestatic 91, 3) := by decide +kernel
theorem dL_rules_53 : decode cL_rules 53 = .ok (.ifCond .ne 7, 3) := by decide +kernel
theorem dL_rules_56 : decode cL_rules 56 = .ok (.iconst 1, 1) := by decide +kernel
theorem dL_rules_57 : decode cL_rules 57 = .ok (.goto 4, 3) := by decide +kernel
theorem dL_rules_60 : decode cL_rules 60 = .ok (.iconst 0, 1) := by decide +kernel
theorem dL_rules_61 : decode cL_rules 61 = .ok (.iastore, 1) := by decide +kernel
theorem dL_rules_62 : decode cL_rules 62 = .ok (.aload_n 0, 1) := by decide +kernel
theorem dL_rules_63 : decode cL_rules 63 = .ok (.iload 5, 2) := by decide +kernel
theorem dL_rules_65 : decode cL_rules 65 = .ok (.aload_n 3, 1) := by decide +kernel
theorem dL_rules_66 : decode cL_rules 66 = .ok (.bipush 8, 2) := by decide +kernel
theorem dL_rules_68 : decode cL_rules 68 = .ok (.iload 5, 2) := by decide +kernel
theorem dL_rules_70 : decode cL_rules 70 = .ok (.iadd, 1) := by decide +kernel
theorem dL_rules_71 : decode cL_rules 71 = .ok (.iaload, 1) := by decide +kernel
theorem dL_rules_72 : decode cL_rules 72 = .ok (.iconst 1, 1) := by decide +kernel
theorem dL_rules_73 : decode cL_rules 73 = .ok (.if_icmp .ne 7, 3) := by decide +kernel
theorem dL_rules_76 : decode cL_rules 76 = .ok (.iconst 1, 1) := by decide +kernel
theorem dL_rules_77 : decode cL_rules 77 = .ok (.goto 4, 3) := by decide +kernel
theorem dL_rules_80 : decode cL_rules 80 = .ok (.iconst 0, 1) := by decide +kernel
theorem dL_rules_81 : decode cL_rules 81 = .ok (.invokevirtual 94, 3) := by decide +kernel
theorem dL_rules_84 : decode cL_rules 84 = .ok (.iload 6, 2) := by decide +kernel
theorem dL_rules_86 : decode cL_rules 86 = .ok (.if_icmp .ne 7, 3) := by decide +kernel
theorem dL_rules_89 : decode cL_rules 89 = .ok (.iconst 1, 1) := by decide +kernel
theorem dL_rules_90 : decode cL_rules 90 = .ok (.goto 4, 3) := by decide +kernel
theorem dL_rules_93 : decode cL_rules 93 = .ok (.iconst 0, 1) := by decide +kernel
theorem dL_rules_94 : decode cL_rules 94 = .ok (.ireturn, 1) := by decide +kernel
theorem dL_rules_95 : decode cL_rules 95 = .ok (.iload 4, 2) := by decide +kernel
theorem dL_rules_97 : decode cL_rules 97 = .ok (.iconst 1, 1) := by decide +kernel
theorem dL_rules_98 : decode cL_rules 98 = .ok (.if_icmp .ne 149, 3) := by decide +kernel
theorem dL_rules_101 : decode cL_rules 101 = .ok (.iload_n 1, 1) := by decide +kernel
theorem dL_rules_102 : decode cL_rules 102 = .ok (.iconst 5, 1) := by decide +kernel
theorem dL_rules_103 : decode cL_rules 103 = .ok (.ishr, 1) := by decide +kernel
theorem dL_rules_104 : decode cL_rules 104 = .ok (.bipush 6, 2) := by decide +kernel
theorem dL_rules_106 : decode cL_rules 106 = .ok (.invokestatic 91, 3) := by decide +kernel
theorem dL_rules_109 : decode cL_rules 109 = .ok (.istore 6, 2) := by decide +kernel
theorem dL_rules_111 : decode cL_rules 111 = .ok (.iload 6, 2) := by decide +kernel
theorem dL_rules_113 : decode cL_rules 113 = .ok (.istore 7, 2) := by decide +kernel
theorem dL_rules_115 : decode cL_rules 115 = .ok (.iload 6, 2) := by decide +kernel
theorem dL_rules_117 : decode cL_rules 117 = .ok (.iload 5, 2) := by decide +kernel
theorem dL_rules_119 : decode cL_rules 119 = .ok (.if_icmp .eq 14, 3) := by decide +kernel
theorem dL_rules_122 : decode cL_rules 122 = .ok (.iload 7, 2) := by decide +kernel
theorem dL_rules_124 : decode cL_rules 124 = .ok (.iload 5, 2) := by decide +kernel
theorem dL_rules_126 : decode cL_rules 126 = .ok (.if_icmp .ne 7, 3) := by decide +kernel
theorem dL_rules_129 : decode cL_rules 129 = .ok (.iconst 1, 1) := by decide +kernel
theorem dL_rules_130 : decode cL_rules 130 = .ok (.goto 4, 3) := by decide +kernel
theorem dL_rules_133 : decode cL_rules 133 = .ok (.iconst 0, 1) := by decide +kernel
theorem dL_rules_134 : decode cL_rules 134 = .ok (.istore 8, 2) := by decide +kernel
theorem dL_rules_136 : decode cL_rules 136 = .ok (.iconst 0, 1) := by decide +kernel
theorem dL_rules_137 : decode cL_rules 137 = .ok (.istore 9, 2) := by decide +kernel
theorem dL_rules_139 : decode cL_rules 139 = .ok (.iload 9, 2) := by decide +kernel
theorem dL_rules_141 : decode cL_rules 141 = .ok (.bipush 6, 2) := by decide +kernel
theorem dL_rules_143 : decode cL_rules 143 = .ok (.if_icmp .ge 44, 3) := by decide +kernel
theorem dL_rules_146 : decode cL_rules 146 = .ok (.aload_n 3, 1) := by decide +kernel
theorem dL_rules_147 : decode cL_rules 147 = .ok (.bipush 14, 2) := by decide +kernel
theorem dL_rules_149 : decode cL_rules 149 = .ok (.iload 7, 2) := by decide +kernel
theorem dL_rules_151 : decode cL_rules 151 = .ok (.iadd, 1) := by decide +kernel
theorem dL_rules_152 : decode cL_rules 152 = .ok (.iaload, 1) := by decide +kernel
theorem dL_rules_153 : decode cL_rules 153 = .ok (.istore 7, 2) := by decide +kernel
theorem dL_rules_155 : decode cL_rules 155 = .ok (.iload 8, 2) := by decide +kernel
theorem dL_rules_157 : decode cL_rules 157 = .ok (.ifCond .ne 17, 3) := by decide +kernel
theorem dL_rules_160 : decode cL_rules 160 = .ok (.iload 6, 2) := by decide +kernel
theorem dL_rules_162 : decode cL_rules 162 = .ok (.iload 5, 2) := by decide +kernel
theorem dL_rules_164 : decode cL_rules 164 = .ok (.if_icmp .eq 14, 3) := by decide +kernel
theorem dL_rules_167 : decode cL_rules 167 = .ok (.iload 7, 2) := by decide +kernel
theorem dL_rules_169 : decode cL_rules 169 = .ok (.iload 5, 2) := by decide +kernel
theorem dL_rules_171 : decode cL_rules 171 = .ok (.if_icmp .ne 7, 3) := by decide +kernel
theorem dL_rules_174 : decode cL_rules 174 = .ok (.iconst 1, 1) := by decide +kernel
theorem dL_rules_175 : decode cL_rules 175 = .ok (.goto 4, 3) := by decide +kernel
theorem dL_rules_178 : decode cL_rules 178 = .ok (.iconst 0, 1) := by decide +kernel
theorem dL_rules_179 : decode cL_rules 179 = .ok (.istore 8, 2) := by decide +kernel
theorem dL_rules_181 : decode cL_rules 181 = .ok (.iinc 9 1, 3) := by decide +kernel
theorem dL_rules_184 : decode cL_rules 184 = .ok (.goto (-45), 3) := by decide +kernel
theorem dL_rules_187 : decode cL_rules 187 = .ok (.aload_n 3, 1) := by decide +kernel
theorem dL_rules_188 : decode cL_rules 188 = .ok (.bipush 14, 2) := by decide +kernel
theorem dL_rules_190 : decode cL_rules 190 = .ok (.iload 5, 2) := by decide +kernel
theorem dL_rules_192 : decode cL_rules 192 = .ok (.iadd, 1) := by decide +kernel
theorem dL_rules_193 : decode cL_rules 193 = .ok (.iaload, 1) := by decide +kernel
theorem dL_rules_194 : decode cL_rules 194 = .ok (.istore 9, 2) := by decide +kernel
theorem dL_rules_196 : decode cL_rules 196 = .ok (.aload_n 3, 1) := by decide +kernel
theorem dL_rules_197 : decode cL_rules 197 = .ok (.bipush 14, 2) := by decide +kernel
theorem dL_rules_199 : decode cL_rules 199 = .ok (.iload 5, 2) := by decide +kernel
theorem dL_rules_201 : decode cL_rules 201 = .ok (.iadd, 1) := by decide +kernel
theorem dL_rules_202 : decode cL_rules 202 = .ok (.iload 8, 2) := by decide +kernel
theorem dL_rules_204 : decode cL_rules 204 = .ok (.ifCond .eq 8, 3) := by decide +kernel
theorem dL_rules_207 : decode cL_rules 207 = .ok (.iload 9, 2) := by decide +kernel
theorem dL_rules_209 : decode cL_rules 209 = .ok (.goto 5, 3) := by decide +kernel
theorem dL_rules_212 : decode cL_rules 212 = .ok (.iload 6, 2) := by decide +kernel
theorem dL_rules_214 : decode cL_rules 214 = .ok (.iastore, 1) := by decide +kernel
theorem dL_rules_215 : decode cL_rules 215 = .ok (.aload_n 0, 1) := by decide +kernel
theorem dL_rules_216 : decode cL_rules 216 = .ok (.iconst 1, 1) := by decide +kernel
theorem dL_rules_217 : decode cL_rules 217 = .ok (.iload 5, 2) := by decide +kernel
theorem dL_rules_219 : decode cL_rules 219 = .ok (.iload 6, 2) := by decide +kernel
theorem dL_rules_221 : decode cL_rules 221 = .ok (.iconst 0, 1) := by decide +kernel
theorem dL_rules_222 : decode cL_rules 222 = .ok (.iconst 0, 1) := by decide +kernel
theorem dL_rules_223 : decode cL_rules 223 = .ok (.invokestatic 73, 3) := by decide +kernel
theorem dL_rules_226 : decode cL_rules 226 = .ok (.iload 8, 2) := by decide +kernel
theorem dL_rules_228 : decode cL_rules 228 = .ok (.ifCond .eq 8, 3) := by decide +kernel
theorem dL_rules_231 : decode cL_rules 231 = .ok (.bipush (-3), 2) := by decide +kernel
theorem dL_rules_233 : decode cL_rules 233 = .ok (.goto 5, 3) := by decide +kernel
theorem dL_rules_236 : decode cL_rules 236 = .ok (.iload 9, 2) := by decide +kernel
theorem dL_rules_238 : decode cL_rules 238 = .ok (.if_icmp .ne 7, 3) := by decide +kernel
theorem dL_rules_241 : decode cL_rules 241 = .ok (.iconst 1, 1) := by decide +kernel
theorem dL_rules_242 : decode cL_rules 242 = .ok (.goto 4, 3) := by decide +kernel
theorem dL_rules_245 : decode cL_rules 245 = .ok (.iconst 0, 1) := by decide +kernel
theorem dL_rules_246 : decode cL_rules 246 = .ok (.ireturn, 1) := by decide +kernel
theorem dL_rules_247 : decode cL_rules 247 = .ok (.iload 4, 2) := by decide +kernel
theorem dL_rules_249 : decode cL_rules 249 = .ok (.iconst 2, 1) := by decide +kernel
theorem dL_rules_250 : decode cL_rules 250 = .ok (.if_icmp .ne 38, 3) := by decide +kernel
theorem dL_rules_253 : decode cL_rules 253 = .ok (.aload_n 2, 1) := by decide +kernel
theorem dL_rules_254 : decode cL_rules 254 = .ok (.iconst 1, 1) := by decide +kernel
theorem dL_rules_255 : decode cL_rules 255 = .ok (.iaload, 1) := by decide +kernel
theorem dL_rules_256 : decode cL_rules 256 = .ok (.istore 6, 2) := by decide +kernel
theorem dL_rules_258 : decode cL_rules 258 = .ok (.aload_n 2, 1) := by decide +kernel
theorem dL_rules_259 : decode cL_rules 259 = .ok (.iconst 1, 1) := by decide +kernel
theorem dL_rules_260 : decode cL_rules 260 = .ok (.iconst 1, 1) := by decide +kernel
theorem dL_rules_261 : decode cL_rules 261 = .ok (.iload_n 1, 1) := by decide +kernel
theorem dL_rules_262 : decode cL_rules 262 = .ok (.iconst 5, 1) := by decide +kernel
theorem dL_rules_263 : decode cL_rules 263 = .ok (.ishr, 1) := by decide +kernel
theorem dL_rules_264 : decode cL_rules 264 = .ok (.iconst 4, 1) := by decide +kernel
theorem dL_rules_265 : decode cL_rules 265 = .ok (.invokestatic 91, 3) := by decide +kernel
theorem dL_rules_268 : decode cL_rules 268 = .ok (.iadd, 1) := by decide +kernel
theorem dL_rules_269 : decode cL_rules 269 = .ok (.iastore, 1) := by decide +kernel
theorem dL_rules_270 : decode cL_rules 270 = .ok (.aload_n 0, 1) := by decide +kernel
theorem dL_rules_271 : decode cL_rules 271 = .ok (.aload_n 2, 1) := by decide +kernel
theorem dL_rules_272 : decode cL_rules 272 = .ok (.iconst 1, 1) := by decide +kernel
theorem dL_rules_273 : decode cL_rules 273 = .ok (.iaload, 1) := by decide +kernel
theorem dL_rules_274 : decode cL_rules 274 = .ok (.invokevirtual 98, 3) := by decide +kernel
theorem dL_rules_277 : decode cL_rules 277 = .ok (.iload 6, 2) := by decide +kernel
theorem dL_rules_279 : decode cL_rules 279 = .ok (.if_icmp .ne 7, 3) := by decide +kernel
theorem dL_rules_282 : decode cL_rules 282 = .ok (.iconst 1, 1) := by decide +kernel
theorem dL_rules_283 : decode cL_rules 283 = .ok (.goto 4, 3) := by decide +kernel
theorem dL_rules_286 : decode cL_rules 286 = .ok (.iconst 0, 1) := by decide +kernel
theorem dL_rules_287 : decode cL_rules 287 = .ok (.ireturn, 1) := by decide +kernel
theorem dL_rules_288 : decode cL_rules 288 = .ok (.aload_n 2, 1) := by decide +kernel
theorem dL_rules_289 : decode cL_rules 289 = .ok (.iconst 2, 1) := by decide +kernel
theorem dL_rules_290 : decode cL_rules 290 = .ok (.iaload, 1) := by decide +kernel
theorem dL_rules_291 : decode cL_rules 291 = .ok (.istore 6, 2) := by decide +kernel
theorem dL_rules_293 : decode cL_rules 293 = .ok (.aload_n 2, 1) := by decide +kernel
theorem dL_rules_294 : decode cL_rules 294 = .ok (.iconst 2, 1) := by decide +kernel
theorem dL_rules_295 : decode cL_rules 295 = .ok (.iconst 1, 1) := by decide +kernel
theorem dL_rules_296 : decode cL_rules 296 = .ok (.iload_n 1, 1) := by decide +kernel
theorem dL_rules_297 : decode cL_rules 297 = .ok (.iconst 5, 1) := by decide +kernel
theorem dL_rules_298 : decode cL_rules 298 = .ok (.ishr, 1) := by decide +kernel
theorem dL_rules_299 : decode cL_rules 299 = .ok (.sipush 900, 3) := by decide +kernel
theorem dL_rules_302 : decode cL_rules 302 = .ok (.invokestatic 91, 3) := by decide +kernel
theorem dL_rules_305 : decode cL_rules 305 = .ok (.iadd, 1) := by decide +kernel
theorem dL_rules_306 : decode cL_rules 306 = .ok (.iastore, 1) := by decide +kernel
theorem dL_rules_307 : decode cL_rules 307 = .ok (.aload_n 0, 1) := by decide +kernel
theorem dL_rules_308 : decode cL_rules 308 = .ok (.aload_n 2, 1) := by decide +kernel
theorem dL_rules_309 : decode cL_rules 309 = .ok (.iconst 2, 1) := by decide +kernel
theorem dL_rules_310 : decode cL_rules 310 = .ok (.iaload, 1) := by decide +kernel
theorem dL_rules_311 : decode cL_rules 311 = .ok (.invokevirtual 101, 3) := by decide +kernel
theorem dL_rules_314 : decode cL_rules 314 = .ok (.iload 6, 2) := by decide +kernel
theorem dL_rules_316 : decode cL_rules 316 = .ok (.if_icmp .ne 7, 3) := by decide +kernel
theorem dL_rules_319 : decode cL_rules 319 = .ok (.iconst 1, 1) := by decide +kernel
theorem dL_rules_320 : decode cL_rules 320 = .ok (.goto 4, 3) := by decide +kernel
theorem dL_rules_323 : decode cL_rules 323 = .ok (.iconst 0, 1) := by decide +kernel
theorem dL_rules_324 : decode cL_rules 324 = .ok (.ireturn, 1) := by decide +kernel
theorem dL_report_0 : decode cL_report 0 = .ok (.aload_n 2, 1) := by decide +kernel
theorem dL_report_1 : decode cL_report 1 = .ok (.iconst 0, 1) := by decide +kernel
theorem dL_report_2 : decode cL_report 2 = .ok (.iaload, 1) := by decide +kernel
theorem dL_report_3 : decode cL_report 3 = .ok (.istore 7, 2) := by decide +kernel
theorem dL_report_5 : decode cL_report 5 = .ok (.iconst 1, 1) := by decide +kernel
theorem dL_report_6 : decode cL_report 6 = .ok (.iload_n 1, 1) := by decide +kernel
theorem dL_report_7 : decode cL_report 7 = .ok (.iconst 4, 1) := by decide +kernel
theorem dL_report_8 : decode cL_report 8 = .ok (.invokestatic 91, 3) := by decide +kernel
theorem dL_report_11 : decode cL_report 11 = .ok (.iadd, 1) := by decide +kernel
theorem dL_report_12 : decode cL_report 12 = .ok (.istore 8, 2) := by decide +kernel
theorem dL_report_14 : decode cL_report 14 = .ok (.aload_n 3, 1) := by decide +kernel
theorem dL_report_15 : decode cL_report 15 = .ok (.iload 7, 2) := by decide +kernel
theorem dL_report_17 : decode cL_report 17 = .ok (.iload_n 1, 1) := by decide +kernel
theorem dL_report_18 : decode cL_report 18 = .ok (.iconst 2, 1) := by decide +kernel
theorem dL_report_19 : decode cL_report 19 = .ok (.ishr, 1) := by decide +kernel
theorem dL_report_20 : decode cL_report 20 = .ok (.iconst 4, 1) := by decide +kernel
theorem dL_report_21 : decode cL_report 21 = .ok (.invokestatic 91, 3) := by decide +kernel
theorem dL_report_24 : decode cL_report 24 = .ok (.iastore, 1) := by decide +kernel
theorem dL_report_25 : decode cL_report 25 = .ok (.aload 4, 2) := by decide +kernel
theorem dL_report_27 : decode cL_report 27 = .ok (.iload 7, 2) := by decide +kernel
theorem dL_report_29 : decode cL_report 29 = .ok (.iload_n 1, 1) := by decide +kernel
theorem dL_report_30 : decode cL_report 30 = .ok (.iconst 4, 1) := by decide +kernel
theorem dL_report_31 : decode cL_report 31 = .ok (.ishr, 1) := by decide +kernel
theorem dL_report_32 : decode cL_report 32 = .ok (.bipush 20, 2) := by decide +kernel
theorem dL_report_34 : decode cL_report 34 = .ok (.invokestatic 91, 3) := by decide +kernel
theorem dL_report_37 : decode cL_report 37 = .ok (.iastore, 1) := by decide +kernel
theorem dL_report_38 : decode cL_report 38 = .ok (.iconst 0, 1) := by decide +kernel
theorem dL_report_39 : decode cL_report 39 = .ok (.istore 9, 2) := by decide +kernel
theorem dL_report_41 : decode cL_report 41 = .ok (.iload 9, 2) := by decide +kernel
theorem dL_report_43 : decode cL_report 43 = .ok (.iconst 4, 1) := by decide +kernel
theorem dL_report_44 : decode cL_report 44 = .ok (.if_icmp .ge 59, 3) := by decide +kernel
theorem dL_report_47 : decode cL_report 47 = .ok (.aload 5, 2) := by decide +kernel
theorem dL_report_49 : decode cL_report 49 = .ok (.iconst 4, 1) := by decide +kernel
theorem dL_report_50 : decode cL_report 50 = .ok (.iload 7, 2) := by decide +kernel
theorem dL_report_52 : decode cL_report 52 = .ok (.imul, 1) := by decide +kernel
theorem dL_report_53 : decode cL_report 53 = .ok (.iload 9, 2) := by decide +kernel
theorem dL_report_55 : decode cL_report 55 = .ok (.iadd, 1) := by decide +kernel
theorem dL_report_56 : decode cL_report 56 = .ok (.iload 9, 2) := by decide +kernel
theorem dL_report_58 : decode cL_report 58 = .ok (.iload 8, 2) := by decide +kernel
theorem dL_report_60 : decode cL_report 60 = .ok (.if_icmp .ge 35, 3) := by decide +kernel
theorem dL_report_63 : decode cL_report 63 = .ok (.iload_n 1, 1) := by decide +kernel
theorem dL_report_64 : decode cL_report 64 = .ok (.iconst 5, 1) := by decide +kernel
theorem dL_report_65 : decode cL_report 65 = .ok (.iload 9, 2) := by decide +kernel
theorem dL_report_67 : decode cL_report 67 = .ok (.iadd, 1) := by decide +kernel
theorem dL_report_68 : decode cL_report 68 = .ok (.ishr, 1) := by decide +kernel
theorem dL_report_69 : decode cL_report 69 = .ok (.iload_n 1, 1) := by decide +kernel
theorem dL_report_70 : decode cL_report 70 = .ok (.bipush 14, 2) := by decide +kernel
theorem dL_report_72 : decode cL_report 72 = .ok (.ishr, 1) := by decide +kernel
theorem dL_report_73 : decode cL_report 73 = .ok (.iconst 5, 1) := by decide +kernel
theorem dL_report_74 : decode cL_report 74 = .ok (.invokestatic 91, 3) := by decide +kernel
theorem dL_report_77 : decode cL_report 77 = .ok (.ifCond .ne 9, 3) := by decide +kernel
theorem dL_report_80 : decode cL_report 80 = .ok (.sipush 10000, 3) := by decide +kernel
theorem dL_report_83 : decode cL_report 83 = .ok (.goto 6, 3) := by decide +kernel
theorem dL_report_86 : decode cL_report 86 = .ok (.sipush 130, 3) := by decide +kernel
theorem dL_report_89 : decode cL_report 89 = .ok (.invokestatic 91, 3) := by decide +kernel
theorem dL_report_92 : decode cL_report 92 = .ok (.goto 4, 3) := by decide +kernel
theorem dL_report_95 : decode cL_report 95 = .ok (.iconst (-1), 1) := by decide +kernel
theorem dL_report_96 : decode cL_report 96 = .ok (.iastore, 1) := by decide +kernel
theorem dL_report_97 : decode cL_report 97 = .ok (.iinc 9 1, 3) := by decide +kernel
theorem dL_report_100 : decode cL_report 100 = .ok (.goto (-59), 3) := by decide +kernel
theorem dL_report_103 : decode cL_report 103 = .ok (.aload 6, 2) := by decide +kernel
theorem dL_report_105 : decode cL_report 105 = .ok (.iload 7, 2) := by decide +kernel
theorem dL_report_107 : decode cL_report 107 = .ok (.iconst (-1), 1) := by decide +kernel
theorem dL_report_108 : decode cL_report 108 = .ok (.iastore, 1) := by decide +kernel
theorem dL_report_109 : decode cL_report 109 = .ok (.aload_n 2, 1) := by decide +kernel
theorem dL_report_110 : decode cL_report 110 = .ok (.iconst 0, 1) := by decide +kernel
theorem dL_report_111 : decode cL_report 111 = .ok (.dup2, 1) := by decide +kernel
theorem dL_report_112 : decode cL_report 112 = .ok (.iaload, 1) := by decide +kernel
theorem dL_report_113 : decode cL_report 113 = .ok (.iconst 1, 1) := by decide +kernel
theorem dL_report_114 : decode cL_report 114 = .ok (.iadd, 1) := by decide +kernel
theorem dL_report_115 : decode cL_report 115 = .ok (.iastore, 1) := by decide +kernel
theorem dL_report_116 : decode cL_report 116 = .ok (.aload_n 0, 1) := by decide +kernel
theorem dL_report_117 : decode cL_report 117 = .ok (.aload_n 3, 1) := by decide +kernel
theorem dL_report_118 : decode cL_report 118 = .ok (.iload 7, 2) := by decide +kernel
theorem dL_report_120 : decode cL_report 120 = .ok (.iaload, 1) := by decide +kernel
theorem dL_report_121 : decode cL_report 121 = .ok (.aload 4, 2) := by decide +kernel
theorem dL_report_123 : decode cL_report 123 = .ok (.iload 7, 2) := by decide +kernel
theorem dL_report_125 : decode cL_report 125 = .ok (.iaload, 1) := by decide +kernel
theorem dL_report_126 : decode cL_report 126 = .ok (.aload 5, 2) := by decide +kernel
theorem dL_report_128 : decode cL_report 128 = .ok (.iconst 4, 1) := by decide +kernel
theorem dL_report_129 : decode cL_report 129 = .ok (.iload 7, 2) := by decide +kernel
theorem dL_report_131 : decode cL_report 131 = .ok (.imul, 1) := by decide +kernel
theorem dL_report_132 : decode cL_report 132 = .ok (.iaload, 1) := by decide +kernel
theorem dL_report_133 : decode cL_report 133 = .ok (.aload 5, 2) := by decide +kernel
theorem dL_report_135 : decode cL_report 135 = .ok (.iconst 4, 1) := by decide +kernel
theorem dL_report_136 : decode cL_report 136 = .ok (.iload 7, 2) := by decide +kernel
theorem dL_report_138 : decode cL_report 138 = .ok (.imul, 1) := by decide +kernel
theorem dL_report_139 : decode cL_report 139 = .ok (.iconst 1, 1) := by decide +kernel
theorem dL_report_140 : decode cL_report 140 = .ok (.iadd, 1) := by decide +kernel
theorem dL_report_141 : decode cL_report 141 = .ok (.iaload, 1) := by decide +kernel
theorem dL_report_142 : decode cL_report 142 = .ok (.aload 5, 2) := by decide +kernel
theorem dL_report_144 : decode cL_report 144 = .ok (.iconst 4, 1) := by decide +kernel
theorem dL_report_145 : decode cL_report 145 = .ok (.iload 7, 2) := by decide +kernel
theorem dL_report_147 : decode cL_report 147 = .ok (.imul, 1) := by decide +kernel
theorem dL_report_148 : decode cL_report 148 = .ok (.iconst 2, 1) := by decide +kernel
theorem dL_report_149 : decode cL_report 149 = .ok (.iadd, 1) := by decide +kernel
theorem dL_report_150 : decode cL_report 150 = .ok (.iaload, 1) := by decide +kernel
theorem dL_report_151 : decode cL_report 151 = .ok (.aload 5, 2) := by decide +kernel
theorem dL_report_153 : decode cL_report 153 = .ok (.iconst 4, 1) := by decide +kernel
theorem dL_report_154 : decode cL_report 154 = .ok (.iload 7, 2) := by decide +kernel
theorem dL_report_156 : decode cL_report 156 = .ok (.imul, 1) := by decide +kernel
theorem dL_report_157 : decode cL_report 157 = .ok (.iconst 3, 1) := by decide +kernel
theorem dL_report_158 : decode cL_report 158 = .ok (.iadd, 1) := by decide +kernel
theorem dL_report_159 : decode cL_report 159 = .ok (.iaload, 1) := by decide +kernel
theorem dL_report_160 : decode cL_report 160 = .ok (.invokevirtual 104, 3) := by decide +kernel
theorem dL_report_163 : decode cL_report 163 = .ok (.iload 7, 2) := by decide +kernel
theorem dL_report_165 : decode cL_report 165 = .ok (.if_icmp .ne 7, 3) := by decide +kernel
theorem dL_report_168 : decode cL_report 168 = .ok (.iconst 1, 1) := by decide +kernel
theorem dL_report_169 : decode cL_report 169 = .ok (.goto 4, 3) := by decide +kernel
theorem dL_report_172 : decode cL_report 172 = .ok (.iconst 0, 1) := by decide +kernel
theorem dL_report_173 : decode cL_report 173 = .ok (.ireturn, 1) := by decide +kernel
theorem dL_law_0 : decode cL_law 0 = .ok (.new 11, 3) := by decide +kernel
theorem dL_law_3 : decode cL_law 3 = .ok (.dup, 1) := by decide +kernel
theorem dL_law_4 : decode cL_law 4 = .ok (.invokespecial 108, 3) := by decide +kernel
theorem dL_law_7 : decode cL_law 7 = .ok (.astore_n 1, 1) := by decide +kernel
theorem dL_law_8 : decode cL_law 8 = .ok (.iconst 3, 1) := by decide +kernel
theorem dL_law_9 : decode cL_law 9 = .ok (.newarray .int, 2) := by decide +kernel
theorem dL_law_11 : decode cL_law 11 = .ok (.astore_n 2, 1) := by decide +kernel
theorem dL_law_12 : decode cL_law 12 = .ok (.bipush 20, 2) := by decide +kernel
theorem dL_law_14 : decode cL_law 14 = .ok (.newarray .int, 2) := by decide +kernel
theorem dL_law_16 : decode cL_law 16 = .ok (.astore_n 3, 1) := by decide +kernel
theorem dL_law_17 : decode cL_law 17 = .ok (.bipush 24, 2) := by decide +kernel
theorem dL_law_19 : decode cL_law 19 = .ok (.newarray .int, 2) := by decide +kernel
theorem dL_law_21 : decode cL_law 21 = .ok (.astore 4, 2) := by decide +kernel
theorem dL_law_23 : decode cL_law 23 = .ok (.bipush 24, 2) := by decide +kernel
theorem dL_law_25 : decode cL_law 25 = .ok (.newarray .int, 2) := by decide +kernel
theorem dL_law_27 : decode cL_law 27 = .ok (.astore 5, 2) := by decide +kernel
theorem dL_law_29 : decode cL_law 29 = .ok (.bipush 24, 2) := by decide +kernel
theorem dL_law_31 : decode cL_law 31 = .ok (.newarray .int, 2) := by decide +kernel
theorem dL_law_33 : decode cL_law 33 = .ok (.astore 6, 2) := by decide +kernel
theorem dL_law_35 : decode cL_law 35 = .ok (.bipush 12, 2) := by decide +kernel
theorem dL_law_37 : decode cL_law 37 = .ok (.newarray .int, 2) := by decide +kernel
theorem dL_law_39 : decode cL_law 39 = .ok (.astore 7, 2) := by decide +kernel
theorem dL_law_41 : decode cL_law 41 = .ok (.bipush 12, 2) := by decide +kernel
theorem dL_law_43 : decode cL_law 43 = .ok (.newarray .int, 2) := by decide +kernel
theorem dL_law_45 : decode cL_law 45 = .ok (.astore 8, 2) := by decide +kernel
theorem dL_law_47 : decode cL_law 47 = .ok (.bipush 48, 2) := by decide +kernel
theorem dL_law_49 : decode cL_law 49 = .ok (.newarray .int, 2) := by decide +kernel
theorem dL_law_51 : decode cL_law 51 = .ok (.astore 9, 2) := by decide +kernel
theorem dL_law_53 : decode cL_law 53 = .ok (.bipush 12, 2) := by decide +kernel
theorem dL_law_55 : decode cL_law 55 = .ok (.newarray .int, 2) := by decide +kernel
theorem dL_law_57 : decode cL_law 57 = .ok (.astore 10, 2) := by decide +kernel
theorem dL_law_59 : decode cL_law 59 = .ok (.bipush 24, 2) := by decide +kernel
theorem dL_law_61 : decode cL_law 61 = .ok (.newarray .int, 2) := by decide +kernel
theorem dL_law_63 : decode cL_law 63 = .ok (.astore 11, 2) := by decide +kernel
theorem dL_law_65 : decode cL_law 65 = .ok (.aload_n 2, 1) := by decide +kernel
theorem dL_law_66 : decode cL_law 66 = .ok (.iconst 1, 1) := by decide +kernel
theorem dL_law_67 : decode cL_law 67 = .ok (.iconst 2, 1) := by decide +kernel
theorem dL_law_68 : decode cL_law 68 = .ok (.iastore, 1) := by decide +kernel
theorem dL_law_69 : decode cL_law 69 = .ok (.aload_n 2, 1) := by decide +kernel
theorem dL_law_70 : decode cL_law 70 = .ok (.iconst 2, 1) := by decide +kernel
theorem dL_law_71 : decode cL_law 71 = .ok (.bipush 100, 2) := by decide +kernel
theorem dL_law_73 : decode cL_law 73 = .ok (.iastore, 1) := by decide +kernel
theorem dL_law_74 : decode cL_law 74 = .ok (.iconst 0, 1) := by decide +kernel
theorem dL_law_75 : decode cL_law 75 = .ok (.istore 12, 2) := by decide +kernel
theorem dL_law_77 : decode cL_law 77 = .ok (.iload 12, 2) := by decide +kernel
theorem dL_law_79 : decode cL_law 79 = .ok (.bipush 6, 2) := by decide +kernel
theorem dL_law_81 : decode cL_law 81 = .ok (.if_icmp .ge 18, 3) := by decide +kernel
theorem dL_law_84 : decode cL_law 84 = .ok (.aload_n 3, 1) := by decide +kernel
theorem dL_law_85 : decode cL_law 85 = .ok (.bipush 14, 2) := by decide +kernel
theorem dL_law_87 : decode cL_law 87 = .ok (.iload 12, 2) := by decide +kernel
theorem dL_law_89 : decode cL_law 89 = .ok (.iadd, 1) := by decide +kernel
theorem dL_law_90 : decode cL_law 90 = .ok (.iload 12, 2) := by decide +kernel
theorem dL_law_92 : decode cL_law 92 = .ok (.iastore, 1) := by decide +kernel
theorem dL_law_93 : decode cL_law 93 = .ok (.iinc 12 1, 3) := by decide +kernel
theorem dL_law_96 : decode cL_law 96 = .ok (.goto (-19), 3) := by decide +kernel
theorem dL_law_99 : decode cL_law 99 = .ok (.iconst 0, 1) := by decide +kernel
theorem dL_law_100 : decode cL_law 100 = .ok (.istore 12, 2) := by decide +kernel
theorem dL_law_102 : decode cL_law 102 = .ok (.iload 12, 2) := by decide +kernel
theorem dL_law_104 : decode cL_law 104 = .ok (.bipush 70, 2) := by decide +kernel
theorem dL_law_106 : decode cL_law 106 = .ok (.if_icmp .ge 296, 3) := by decide +kernel
theorem dL_law_109 : decode cL_law 109 = .ok (.aload_n 0, 1) := by decide +kernel
theorem dL_law_110 : decode cL_law 110 = .ok (.iload 12, 2) := by decide +kernel
theorem dL_law_112 : decode cL_law 112 = .ok (.invokestatic 109, 3) := by decide +kernel
theorem dL_law_115 : decode cL_law 115 = .ok (.istore 13, 2) := by decide +kernel
theorem dL_law_117 : decode cL_law 117 = .ok (.iload 13, 2) := by decide +kernel
theorem dL_law_119 : decode cL_law 119 = .ok (.bipush 14, 2) := by decide +kernel
theorem dL_law_121 : decode cL_law 121 = .ok (.invokestatic 91, 3) := by decide +kernel
theorem dL_law_124 : decode cL_law 124 = .ok (.istore 14, 2) := by decide +kernel
theorem dL_law_126 : decode cL_law 126 = .ok (.iconst 1, 1) := by decide +kernel
theorem dL_law_127 : decode cL_law 127 = .ok (.istore 15, 2) := by decide +kernel
theorem dL_law_129 : decode cL_law 129 = .ok (.iload 14, 2) := by decide +kernel
theorem dL_law_131 : decode cL_law 131 = .ok (.iconst 4, 1) := by decide +kernel
theorem dL_law_132 : decode cL_law 132 = .ok (.if_icmp .ge 33, 3) := by decide +kernel
theorem dL_law_135 : decode cL_law 135 = .ok (.aload_n 2, 1) := by decide +kernel
theorem dL_law_136 : decode cL_law 136 = .ok (.iconst 0, 1) := by decide +kernel
theorem dL_law_137 : decode cL_law 137 = .ok (.iaload, 1) := by decide +kernel
theorem dL_law_138 : decode cL_law 138 = .ok (.bipush 12, 2) := by decide +kernel
theorem dL_law_140 : decode cL_law 140 = .ok (.if_icmp .ge 25, 3) := by decide +kernel
theorem dL_law_143 : decode cL_law 143 = .ok (.aload_n 1, 1) := by decide +kernel
theorem dL_law_144 : decode cL_law 144 = .ok (.iload 13, 2) := by decide +kernel
theorem dL_law_146 : decode cL_law 146 = .ok (.iconst 4, 1) := by decide +kernel
theorem dL_law_147 : decode cL_law 147 = .ok (.ishr, 1) := by decide +kernel
theorem dL_law_148 : decode cL_law 148 = .ok (.aload_n 2, 1) := by decide +kernel
theorem dL_law_149 : decode cL_law 149 = .ok (.aload 7, 2) := by decide +kernel
theorem dL_law_151 : decode cL_law 151 = .ok (.aload 8, 2) := by decide +kernel
theorem dL_law_153 : decode cL_law 153 = .ok (.aload 9, 2) := by decide +kernel
theorem dL_law_155 : decode cL_law 155 = .ok (.aload 10, 2) := by decide +kernel
theorem dL_law_157 : decode cL_law 157 = .ok (.invokestatic 113, 3) := by decide +kernel
theorem dL_law_160 : decode cL_law 160 = .ok (.istore 15, 2) := by decide +kernel
theorem dL_law_162 : decode cL_law 162 = .ok (.goto 202, 3) := by decide +kernel
theorem dL_law_165 : decode cL_law 165 = .ok (.iload 14, 2) := by decide +kernel
theorem dL_law_167 : decode cL_law 167 = .ok (.bipush 7, 2) := by decide +kernel
theorem dL_law_169 : decode cL_law 169 = .ok (.if_icmp .ge 23, 3) := by decide +kernel
theorem dL_law_172 : decode cL_law 172 = .ok (.aload_n 1, 1) := by decide +kernel
theorem dL_law_173 : decode cL_law 173 = .ok (.iload 13, 2) := by decide +kernel
theorem dL_law_175 : decode cL_law 175 = .ok (.iconst 4, 1) := by decide +kernel
theorem dL_law_176 : decode cL_law 176 = .ok (.ishr, 1) := by decide +kernel
theorem dL_law_177 : decode cL_law 177 = .ok (.aload_n 3, 1) := by decide +kernel
theorem dL_law_178 : decode cL_law 178 = .ok (.aload 4, 2) := by decide +kernel
theorem dL_law_180 : decode cL_law 180 = .ok (.aload 5, 2) := by decide +kernel
theorem dL_law_182 : decode cL_law 182 = .ok (.aload 6, 2) := by decide +kernel
theorem dL_law_184 : decode cL_law 184 = .ok (.invokestatic 115, 3) := by decide +kernel
theorem dL_law_187 : decode cL_law 187 = .ok (.istore 15, 2) := by decide +kernel
theorem dL_law_189 : decode cL_law 189 = .ok (.goto 175, 3) := by decide +kernel
theorem dL_law_192 : decode cL_law 192 = .ok (.iload 14, 2) := by decide +kernel
theorem dL_law_194 : decode cL_law 194 = .ok (.bipush 10, 2) := by decide +kernel
theorem dL_law_196 : decode cL_law 196 = .ok (.if_icmp .ge 18, 3) := by decide +kernel
theorem dL_law_199 : decode cL_law 199 = .ok (.aload_n 1, 1) := by decide +kernel
theorem dL_law_200 : decode cL_law 200 = .ok (.iload 13, 2) := by decide +kernel
theorem dL_law_202 : decode cL_law 202 = .ok (.iconst 4, 1) := by decide +kernel
theorem dL_law_203 : decode cL_law 203 = .ok (.ishr, 1) := by decide +kernel
theorem dL_law_204 : decode cL_law 204 = .ok (.aload_n 2, 1) := by decide +kernel
theorem dL_law_205 : decode cL_law 205 = .ok (.aload_n 3, 1) := by decide +kernel
theorem dL_law_206 : decode cL_law 206 = .ok (.invokestatic 119, 3) := by decide +kernel
theorem dL_law_209 : decode cL_law 209 = .ok (.istore 15, 2) := by decide +kernel
theorem dL_law_211 : decode cL_law 211 = .ok (.goto 153, 3) := by decide +kernel
theorem dL_law_214 : decode cL_law 214 = .ok (.iload 14, 2) := by decide +kernel
theorem dL_law_216 : decode cL_law 216 = .ok (.bipush 12, 2) := by decide +kernel
theorem dL_law_218 : decode cL_law 218 = .ok (.if_icmp .lt 9, 3) := by decide +kernel
theorem dL_law_221 : decode cL_law 221 = .ok (.aload_n 2, 1) := by decide +kernel
theorem dL_law_222 : decode cL_law 222 = .ok (.iconst 0, 1) := by decide +kernel
theorem dL_law_223 : decode cL_law 223 = .ok (.iaload, 1) := by decide +kernel
theorem dL_law_224 : decode cL_law 224 = .ok (.ifCond .ne 82, 3) := by decide +kernel
theorem dL_law_227 : decode cL_law 227 = .ok (.iload 13, 2) := by decide +kernel
theorem dL_law_229 : decode cL_law 229 = .ok (.iconst 4, 1) := by decide +kernel
theorem dL_law_230 : decode cL_law 230 = .ok (.ishr, 1) := by decide +kernel
theorem dL_law_231 : decode cL_law 231 = .ok (.iconst 4, 1) := by decide +kernel
theorem dL_law_232 : decode cL_law 232 = .ok (.invokestatic 91, 3) := by decide +kernel
theorem dL_law_235 : decode cL_law 235 = .ok (.istore 16, 2) := by decide +kernel
theorem dL_law_237 : decode cL_law 237 = .ok (.aload_n 3, 1) := by decide +kernel
theorem dL_law_238 : decode cL_law 238 = .ok (.iconst 4, 1) := by decide +kernel
theorem dL_law_239 : decode cL_law 239 = .ok (.iload 16, 2) := by decide +kernel
theorem dL_law_241 : decode cL_law 241 = .ok (.iadd, 1) := by decide +kernel
theorem dL_law_242 : decode cL_law 242 = .ok (.iaload, 1) := by decide +kernel
theorem dL_law_243 : decode cL_law 243 = .ok (.istore 17, 2) := by decide +kernel
theorem dL_law_245 : decode cL_law 245 = .ok (.aload_n 3, 1) := by decide +kernel
theorem dL_law_246 : decode cL_law 246 = .ok (.iconst 4, 1) := by decide +kernel
theorem dL_law_247 : decode cL_law 247 = .ok (.iload 16, 2) := by decide +kernel
theorem dL_law_249 : decode cL_law 249 = .ok (.iadd, 1) := by decide +kernel
theorem dL_law_250 : decode cL_law 250 = .ok (.iload 13, 2) := by decide +kernel
theorem dL_law_252 : decode cL_law 252 = .ok (.bipush 6, 2) := by decide +kernel
theorem dL_law_254 : decode cL_law 254 = .ok (.ishr, 1) := by decide +kernel
theorem dL_law_255 : decode cL_law 255 = .ok (.iload 13, 2) := by decide +kernel
theorem dL_law_257 : decode cL_law 257 = .ok (.bipush 13, 2) := by decide +kernel
theorem dL_law_259 : decode cL_law 259 = .ok (.ishr, 1) := by decide +kernel
theorem dL_law_260 : decode cL_law 260 = .ok (.iconst 4, 1) := by decide +kernel
theorem dL_law_261 : decode cL_law 261 = .ok (.invokestatic 91, 3) := by decide +kernel
theorem dL_law_264 : decode cL_law 264 = .ok (.ifCond .ne 8, 3) := by decide +kernel
theorem dL_law_267 : decode cL_law 267 = .ok (.ldc 123, 2) := by decide +kernel
theorem dL_law_269 : decode cL_law 269 = .ok (.goto 6, 3) := by decide +kernel
theorem dL_law_272 : decode cL_law 272 = .ok (.sipush 200, 3) := by decide +kernel
theorem dL_law_275 : decode cL_law 275 = .ok (.invokestatic 91, 3) := by decide +kernel
theorem dL_law_278 : decode cL_law 278 = .ok (.iastore, 1) := by decide +kernel
theorem dL_law_279 : decode cL_law 279 = .ok (.aload_n 1, 1) := by decide +kernel
theorem dL_law_280 : decode cL_law 280 = .ok (.iload 16, 2) := by decide +kernel
theorem dL_law_282 : decode cL_law 282 = .ok (.aload_n 3, 1) := by decide +kernel
theorem dL_law_283 : decode cL_law 283 = .ok (.iconst 4, 1) := by decide +kernel
theorem dL_law_284 : decode cL_law 284 = .ok (.iload 16, 2) := by decide +kernel
theorem dL_law_286 : decode cL_law 286 = .ok (.iadd, 1) := by decide +kernel
theorem dL_law_287 : decode cL_law 287 = .ok (.iaload, 1) := by decide +kernel
theorem dL_law_288 : decode cL_law 288 = .ok (.invokevirtual 124, 3) := by decide +kernel
theorem dL_law_291 : decode cL_law 291 = .ok (.iload 17, 2) := by decide +kernel
theorem dL_law_293 : decode cL_law 293 = .ok (.if_icmp .ne 7, 3) := by decide +kernel
theorem dL_law_296 : decode cL_law 296 = .ok (.iconst 1, 1) := by decide +kernel
theorem dL_law_297 : decode cL_law 297 = .ok (.goto 4, 3) := by decide +kernel
theorem dL_law_300 : decode cL_law 300 = .ok (.iconst 0, 1) := by decide +kernel
theorem dL_law_301 : decode cL_law 301 = .ok (.istore 15, 2) := by decide +kernel
theorem dL_law_303 : decode cL_law 303 = .ok (.goto 61, 3) := by decide +kernel
theorem dL_law_306 : decode cL_law 306 = .ok (.iload 13, 2) := by decide +kernel
theorem dL_law_308 : decode cL_law 308 = .ok (.iconst 4, 1) := by decide +kernel
theorem dL_law_309 : decode cL_law 309 = .ok (.ishr, 1) := by decide +kernel
theorem dL_law_310 : decode cL_law 310 = .ok (.aload_n 2, 1) := by decide +kernel
theorem dL_law_311 : decode cL_law 311 = .ok (.iconst 0, 1) := by decide +kernel
theorem dL_law_312 : decode cL_law 312 = .ok (.iaload, 1) := by decide +kernel
theorem dL_law_313 : decode cL_law 313 = .ok (.invokestatic 91, 3) := by decide +kernel
theorem dL_law_316 : decode cL_law 316 = .ok (.istore 16, 2) := by decide +kernel
theorem dL_law_318 : decode cL_law 318 = .ok (.aload 10, 2) := by decide +kernel
theorem dL_law_320 : decode cL_law 320 = .ok (.iload 16, 2) := by decide +kernel
theorem dL_law_322 : decode cL_law 322 = .ok (.iaload, 1) := by decide +kernel
theorem dL_law_323 : decode cL_law 323 = .ok (.istore 17, 2) := by decide +kernel
theorem dL_law_325 : decode cL_law 325 = .ok (.aload 10, 2) := by decide +kernel
theorem dL_law_327 : decode cL_law 327 = .ok (.iload 16, 2) := by decide +kernel
theorem dL_law_329 : decode cL_law 329 = .ok (.iconst 1, 1) := by decide +kernel
theorem dL_law_330 : decode cL_law 330 = .ok (.iload 13, 2) := by decide +kernel
theorem dL_law_332 : decode cL_law 332 = .ok (.bipush 9, 2) := by decide +kernel
theorem dL_law_334 : decode cL_law 334 = .ok (.ishr, 1) := by decide +kernel
theorem dL_law_335 : decode cL_law 335 = .ok (.iconst 3, 1) := by decide +kernel
theorem dL_law_336 : decode cL_law 336 = .ok (.invokestatic 91, 3) := by decide +kernel
theorem dL_law_339 : decode cL_law 339 = .ok (.iadd, 1) := by decide +kernel
theorem dL_law_340 : decode cL_law 340 = .ok (.iastore, 1) := by decide +kernel
theorem dL_law_341 : decode cL_law 341 = .ok (.aload_n 1, 1) := by decide +kernel
theorem dL_law_342 : decode cL_law 342 = .ok (.iload 16, 2) := by decide +kernel
theorem dL_law_344 : decode cL_law 344 = .ok (.aload 10, 2) := by decide +kernel
theorem dL_law_346 : decode cL_law 346 = .ok (.iload 16, 2) := by decide +kernel
theorem dL_law_348 : decode cL_law 348 = .ok (.iaload, 1) := by decide +kernel
theorem dL_law_349 : decode cL_law 349 = .ok (.invokevirtual 127, 3) := by decide +kernel
theorem dL_law_352 : decode cL_law 352 = .ok (.iload 17, 2) := by decide +kernel
theorem dL_law_354 : decode cL_law 354 = .ok (.if_icmp .ne 7, 3) := by decide +kernel
theorem dL_law_357 : decode cL_law 357 = .ok (.iconst 1, 1) := by decide +kernel
theorem dL_law_358 : decode cL_law 358 = .ok (.goto 4, 3) := by decide +kernel
theorem dL_law_361 : decode cL_law 361 = .ok (.iconst 0, 1) := by decide +kernel
theorem dL_law_362 : decode cL_law 362 = .ok (.istore 15, 2) := by decide +kernel
theorem dL_law_364 : decode cL_law 364 = .ok (.iload 15, 2) := by decide +kernel
theorem dL_law_366 : decode cL_law 366 = .ok (.ifCond .eq 28, 3) := by decide +kernel
theorem dL_law_369 : decode cL_law 369 = .ok (.aload_n 1, 1) := by decide +kernel
theorem dL_law_370 : decode cL_law 370 = .ok (.aload_n 2, 1) := by decide +kernel
theorem dL_law_371 : decode cL_law 371 = .ok (.aload_n 3, 1) := by decide +kernel
theorem dL_law_372 : decode cL_law 372 = .ok (.aload 4, 2) := by decide +kernel
theorem dL_law_374 : decode cL_law 374 = .ok (.aload 5, 2) := by decide +kernel
theorem dL_law_376 : decode cL_law 376 = .ok (.aload 6, 2) := by decide +kernel
theorem dL_law_378 : decode cL_law 378 = .ok (.aload 7, 2) := by decide +kernel
theorem dL_law_380 : decode cL_law 380 = .ok (.aload 8, 2) := by decide +kernel
theorem dL_law_382 : decode cL_law 382 = .ok (.aload 9, 2) := by decide +kernel
theorem dL_law_384 : decode cL_law 384 = .ok (.aload 10, 2) := by decide +kernel
theorem dL_law_386 : decode cL_law 386 = .ok (.aload 11, 2) := by decide +kernel
theorem dL_law_388 : decode cL_law 388 = .ok (.invokestatic 130, 3) := by decide +kernel
theorem dL_law_391 : decode cL_law 391 = .ok (.ifCond .ne 5, 3) := by decide +kernel
theorem dL_law_394 : decode cL_law 394 = .ok (.iconst 0, 1) := by decide +kernel
theorem dL_law_395 : decode cL_law 395 = .ok (.ireturn, 1) := by decide +kernel
theorem dL_law_396 : decode cL_law 396 = .ok (.iinc 12 1, 3) := by decide +kernel
theorem dL_law_399 : decode cL_law 399 = .ok (.goto (-297), 3) := by decide +kernel
theorem dL_law_402 : decode cL_law 402 = .ok (.iconst 1, 1) := by decide +kernel
theorem dL_law_403 : decode cL_law 403 = .ok (.ireturn, 1) := by decide +kernel
end
section
set_option maxRecDepth 20000 in
theorem ggL_calls_X4_addRange : GoodIn wsL_calls wsX4_addRange := goodIn_ca (goodIn_ca (goodIn_r _ [6, 7, 8, 9, 10, 11, 12, 13, 14, 5, 15, 16, 17, 18, 19, 20, 21, 22, 23, 24, 25, 26, 27, 28, 29, 30, 31, 32, 33, 34, 35, 36, 37, 38, 39, 40, 41, 42, 43, 44, 45, 46, 47, 48, 49, 50, 51, 52, 53, 54, 55, 56, 57, 58, 59, 60, 61, 62, 63, 64, 65, 66, 67, 68, 69, 108, 109, 110, 111, 112, 113, 114, 115, 116, 117, 118, 119, 120, 121, 122, 123, 124, 125, 126, 127, 128, 129] (by decide +kernel) (by decide +kernel)) (goodIn_sub (fun _ h => List.mem_cons_of_mem _ (List.mem_append_left _ (List.mem_append_left _ (List.mem_append_right _ h)))) (by decide +kernel))) (goodIn_sub (fun _ h => List.mem_cons_of_mem _ (List.mem_append_left _ (List.mem_append_right _ h))) (by decide +kernel))
set_option maxRecDepth 20000 in
theorem gL_calls_X4_addRange : GoodIn wsL_calls (wsV RL 10 RX4 yX4_addRange wsX4_addRange) := goodIn_app (goodIn_of _ (by decide +kernel)) ggL_calls_X4_addRange
set_option maxRecDepth 20000 in
theorem ggL_calls_X4_standFor : GoodIn wsL_calls wsX4_standFor := goodIn_ca (goodIn_ca (goodIn_r _ [73, 7, 8, 12, 10, 11, 13, 14, 5, 15, 16, 17, 18, 19, 20, 74, 62, 75, 76, 65, 47, 36, 48, 49, 50, 51, 52, 53, 54, 55, 56, 57, 58, 59, 43, 60, 61, 63, 64, 66, 67, 68, 69, 108, 109, 110, 111, 112, 113, 127, 128, 129, 118, 119, 120, 121, 122, 123, 124, 125, 126] (by decide +kernel) (by decide +kernel)) (goodIn_sub (fun _ h => List.mem_cons_of_mem _ (List.mem_append_left _ (List.mem_append_left _ (List.mem_append_right _ h)))) (by decide +kernel))) (goodIn_sub (fun _ h => List.mem_cons_of_mem _ (List.mem_append_left _ (List.mem_append_right _ h))) (by decide +kernel))
set_option maxRecDepth 20000 in
theorem gL_calls_X4_standFor : GoodIn wsL_calls (wsV RL 16 RX4 yX4_standFor wsX4_standFor) := goodIn_app (goodIn_of _ (by decide +kernel)) ggL_calls_X4_standFor
set_option maxRecDepth 20000 in
theorem ggL_calls_X4_holds : GoodIn wsL_calls wsX4_holds := goodIn_ca (goodIn_ca (goodIn_r _ [80, 7, 8, 11, 10, 81, 82, 83, 84, 5, 85, 86, 87, 13, 14, 15, 88, 89, 90, 91, 92, 93, 94, 95, 96, 97, 98, 99, 100, 101, 102, 103, 104, 105, 106, 107, 108, 109, 110, 111, 112, 113, 118, 119, 120, 121, 122, 123, 124, 125, 126] (by decide +kernel) (by decide +kernel)) (goodIn_sub (fun _ h => List.mem_cons_of_mem _ (List.mem_append_left _ (List.mem_append_left _ (List.mem_append_right _ h)))) (by decide +kernel))) (goodIn_sub (fun _ h => List.mem_cons_of_mem _ (List.mem_append_right _ h)) (by decide +kernel))
set_option maxRecDepth 20000 in
theorem gL_calls_X4_holds : GoodIn wsL_calls (wsV RL 20 RX4 yX4_holds wsX4_holds) := goodIn_app (goodIn_of _ (by decide +kernel)) ggL_calls_X4_holds
set_option maxRecDepth 20000 in
theorem ggL_number_L_frame : GoodIn wsL_number wsL_frame := goodIn_r _ [4] (by decide +kernel) (by decide +kernel)
set_option maxRecDepth 20000 in
theorem gL_number_L_frame : GoodIn wsL_number (va_wsS RL 26 yL_frame wsL_frame) := goodIn_app (goodIn_of _ (by decide +kernel)) ggL_number_L_frame
set_option maxRecDepth 20000 in
theorem ggL_number_L_ends : GoodIn wsL_number wsL_ends := goodIn_r _ [7] (by decide +kernel) (by decide +kernel)
set_option maxRecDepth 20000 in
theorem gL_number_L_ends : GoodIn wsL_number (va_wsS RL 32 yL_ends wsL_ends) := goodIn_app (goodIn_of _ (by decide +kernel)) ggL_number_L_ends
set_option maxRecDepth 20000 in
theorem ggL_names_L_number : GoodIn wsL_names wsL_number := goodIn_r _ [4, 5, 6, 3, 7, 8, 9, 10] (by decide +kernel) (by decide +kernel)
set_option maxRecDepth 20000 in
theorem gL_names_L_number : GoodIn wsL_names (va_wsS RL 36 yL_number wsL_number) := goodIn_app (goodIn_of _ (by decide +kernel)) ggL_names_L_number
set_option maxRecDepth 20000 in
theorem ggL_version_L_rate : GoodIn wsL_version wsL_rate := goodIn_r _ [4] (by decide +kernel) (by decide +kernel)
set_option maxRecDepth 20000 in
theorem gL_version_L_rate : GoodIn wsL_version (va_wsS RL 40 yL_rate wsL_rate) := goodIn_app (goodIn_of _ (by decide +kernel)) ggL_version_L_rate
set_option maxRecDepth 20000 in
theorem ggL_version_L_users : GoodIn wsL_version wsL_users := goodIn_r _ [7] (by decide +kernel) (by decide +kernel)
set_option maxRecDepth 20000 in
theorem gL_version_L_users : GoodIn wsL_version (va_wsS RL 44 yL_users wsL_users) := goodIn_app (goodIn_of _ (by decide +kernel)) ggL_version_L_users
set_option maxRecDepth 20000 in
theorem ggL_version_X4_gate : GoodIn wsL_version wsX4_gate := goodIn_ca (goodIn_r _ [12, 13, 14, 15, 16, 17, 18, 11, 19, 20, 21, 22, 23, 24, 25, 26, 27, 28, 29, 30, 31, 32, 33, 34, 35, 36, 37, 38, 39, 40, 41, 42, 43, 44, 45, 46, 47, 48, 49, 50, 51, 52, 57, 58, 59, 60, 61, 62, 63, 64, 65, 66, 67, 68, 69, 70, 71] (by decide +kernel) (by decide +kernel)) (goodIn_sub (fun _ h => List.mem_cons_of_mem _ (List.mem_append_right _ h)) (by decide +kernel))
set_option maxRecDepth 20000 in
theorem gL_version_X4_gate : GoodIn wsL_version (wsV RL 47 RX4 yX4_gate wsX4_gate) := goodIn_app (goodIn_of _ (by decide +kernel)) ggL_version_X4_gate
set_option maxRecDepth 20000 in
theorem ggL_version_X4_worst : GoodIn wsL_version wsX4_worst := goodIn_ca (goodIn_r _ [56, 14, 15, 17, 18, 11, 19, 20, 21, 22, 23, 24, 25, 26, 27, 28, 29, 30, 31, 32, 33, 13, 34, 35, 36, 37, 38, 39, 40, 41, 57, 58, 59, 60, 61, 62, 63, 64, 65, 66, 67, 68, 69, 70, 71] (by decide +kernel) (by decide +kernel)) (goodIn_sub (fun _ h => List.mem_cons_of_mem _ (List.mem_append_right _ h)) (by decide +kernel))
set_option maxRecDepth 20000 in
theorem gL_version_X4_worst : GoodIn wsL_version (wsV RL 51 RX4 yX4_worst wsX4_worst) := goodIn_app (goodIn_of _ (by decide +kernel)) ggL_version_X4_worst
set_option maxRecDepth 20000 in
theorem ggL_holds_L_rate : GoodIn wsL_holds wsL_rate := goodIn_r _ [4] (by decide +kernel) (by decide +kernel)
set_option maxRecDepth 20000 in
theorem gL_holds_L_rate : GoodIn wsL_holds (va_wsS RL 40 yL_rate wsL_rate) := goodIn_app (goodIn_of _ (by decide +kernel)) ggL_holds_L_rate
set_option maxRecDepth 20000 in
theorem ggL_isSo_L_names : GoodIn wsL_isSo wsL_names := goodIn_r _ [4, 5, 6, 3, 7, 8, 9, 10, 11, 12, 13] (by decide +kernel) (by decide +kernel)
set_option maxRecDepth 20000 in
theorem gL_isSo_L_names : GoodIn wsL_isSo (va_wsS RL 54 yL_names wsL_names) := goodIn_app (goodIn_of _ (by decide +kernel)) ggL_isSo_L_names
set_option maxRecDepth 20000 in
theorem ggL_isSo_X4_reports : GoodIn wsL_isSo wsX4_reports := goodIn_r _ [18, 19, 191, 192, 193, 194, 195, 196, 197, 198, 199, 200, 201] (by decide +kernel) (by decide +kernel)
set_option maxRecDepth 20000 in
theorem gL_isSo_X4_reports : GoodIn wsL_isSo (wsV RL 58 RX4 yX4_reports wsX4_reports) := goodIn_app (goodIn_of _ (by decide +kernel)) ggL_isSo_X4_reports
set_option maxRecDepth 20000 in
theorem ggL_isSo_X4_frame : GoodIn wsL_isSo wsX4_frame := goodIn_ca (goodIn_ca (goodIn_r _ [23, 24, 25, 26, 27, 17, 28, 29, 30, 19, 31, 32, 33, 34, 35, 36, 37, 38, 191, 192, 193, 194, 195, 196, 202, 203, 204, 205, 197, 198, 199, 200, 201] (by decide +kernel) (by decide +kernel)) (goodIn_sub (fun _ h => List.mem_cons_of_mem _ (List.mem_append_left _ (List.mem_append_left _ (List.mem_append_right _ h)))) (by decide +kernel))) (goodIn_sub (fun _ h => List.mem_cons_of_mem _ (List.mem_append_left _ (List.mem_append_right _ h))) (by decide +kernel))
set_option maxRecDepth 20000 in
theorem gL_isSo_X4_frame : GoodIn wsL_isSo (wsV RL 62 RX4 yX4_frame wsX4_frame) := goodIn_app (goodIn_of _ (by decide +kernel)) ggL_isSo_X4_frame
set_option maxRecDepth 20000 in
theorem ggL_isSo_L_frame : GoodIn wsL_isSo wsL_frame := goodIn_r _ [10] (by decide +kernel) (by decide +kernel)
set_option maxRecDepth 20000 in
theorem gL_isSo_L_frame : GoodIn wsL_isSo (va_wsS RL 26 yL_frame wsL_frame) := goodIn_app (goodIn_of _ (by decide +kernel)) ggL_isSo_L_frame
set_option maxRecDepth 20000 in
theorem ggL_isSo_X4_matters : GoodIn wsL_isSo wsX4_matters := goodIn_ca (goodIn_ca (goodIn_r _ [42, 24, 25, 26, 27, 17, 28, 29, 30, 19, 31, 32, 33, 34, 35, 36, 37, 38, 191, 192, 193, 194, 195, 196, 202, 203, 204, 205, 197, 198, 199, 200, 201] (by decide +kernel) (by decide +kernel)) (goodIn_sub (fun _ h => List.mem_cons_of_mem _ (List.mem_append_left _ (List.mem_append_left _ (List.mem_append_right _ h)))) (by decide +kernel))) (goodIn_sub (fun _ h => List.mem_cons_of_mem _ (List.mem_append_left _ (List.mem_append_right _ h))) (by decide +kernel))
set_option maxRecDepth 20000 in
theorem gL_isSo_X4_matters : GoodIn wsL_isSo (wsV RL 64 RX4 yX4_matters wsX4_matters) := goodIn_app (goodIn_of _ (by decide +kernel)) ggL_isSo_X4_matters
set_option maxRecDepth 20000 in
theorem ggL_isSo_X4_bucket : GoodIn wsL_isSo wsX4_bucket := goodIn_ca (goodIn_r _ [46, 24, 25, 26, 27, 17, 28, 29, 30, 19, 31, 32, 33, 191, 192, 193, 194, 195, 196, 202, 203, 204, 205, 197, 198, 199, 200, 201] (by decide +kernel) (by decide +kernel)) (goodIn_sub (fun _ h => List.mem_cons_of_mem _ (List.mem_append_left _ (List.mem_append_left _ (List.mem_append_right _ h)))) (by decide +kernel))
set_option maxRecDepth 20000 in
theorem gL_isSo_X4_bucket : GoodIn wsL_isSo (wsV RL 67 RX4 yX4_bucket wsX4_bucket) := goodIn_app (goodIn_of _ (by decide +kernel)) ggL_isSo_X4_bucket
set_option maxRecDepth 20000 in
theorem ggL_isSo_X4_size : GoodIn wsL_isSo wsX4_size := goodIn_ca (goodIn_r _ [50, 24, 25, 26, 27, 17, 28, 29, 30, 19, 31, 32, 33, 51, 52, 53, 54, 55, 56, 57, 58, 191, 192, 193, 194, 195, 196, 202, 203, 204, 205, 197, 198, 199, 200, 201] (by decide +kernel) (by decide +kernel)) (goodIn_sub (fun _ h => List.mem_cons_of_mem _ (List.mem_append_left _ (List.mem_append_left _ (List.mem_append_right _ h)))) (by decide +kernel))
set_option maxRecDepth 20000 in
theorem gL_isSo_X4_size : GoodIn wsL_isSo (wsV RL 70 RX4 yX4_size wsX4_size) := goodIn_app (goodIn_of _ (by decide +kernel)) ggL_isSo_X4_size
set_option maxRecDepth 20000 in
theorem ggL_isSo_L_calls : GoodIn wsL_isSo wsL_calls := goodIn_ca (goodIn_ca (goodIn_ca (goodIn_r _ [61, 62, 63, 64, 65, 17, 66, 67, 68, 69, 24, 19, 70, 31, 32, 33, 34, 35, 36, 37, 38, 71, 72, 73, 74, 75, 76, 77, 78, 79, 80, 81, 82, 83, 84, 85, 86, 87, 88, 89, 90, 91, 92, 93, 94, 95, 96, 97, 98, 99, 100, 101, 102, 103, 104, 105, 106, 107, 108, 109, 110, 111, 112, 113, 114, 115, 116, 117, 118, 119, 120, 121, 122, 123, 124, 125, 126, 127, 128, 129, 130, 131, 25, 26, 27, 28, 29, 30, 132, 133, 134, 135, 136, 137, 138, 139, 140, 141, 142, 143, 51, 52, 53, 54, 55, 56, 57, 58, 191, 192, 193, 194, 195, 196, 206, 207, 208, 209, 197, 198, 199, 200, 201, 202, 203, 204, 205, 210, 211, 212] (by decide +kernel) (by decide +kernel)) (goodIn_sub (fun _ h => List.mem_cons_of_mem _ (List.mem_append_right _ h)) (by decide +kernel))) (goodIn_sub (fun _ h => List.mem_cons_of_mem _ (List.mem_append_left _ (List.mem_append_right _ h))) (by decide +kernel))) (goodIn_sub (fun _ h => List.mem_cons_of_mem _ (List.mem_append_left _ (List.mem_append_left _ (List.mem_append_right _ h)))) (by decide +kernel))
set_option maxRecDepth 20000 in
theorem gL_isSo_L_calls : GoodIn wsL_isSo (va_wsS RL 73 yL_calls wsL_calls) := goodIn_app (goodIn_of _ (by decide +kernel)) ggL_isSo_L_calls
set_option maxRecDepth 20000 in
theorem ggL_isSo_L_holds : GoodIn wsL_isSo wsL_holds := goodIn_r _ [146, 147, 148, 3, 149] (by decide +kernel) (by decide +kernel)
set_option maxRecDepth 20000 in
theorem gL_isSo_L_holds : GoodIn wsL_isSo (va_wsS RL 77 yL_holds wsL_holds) := goodIn_app (goodIn_of _ (by decide +kernel)) ggL_isSo_L_holds
set_option maxRecDepth 20000 in
theorem ggL_isSo_X4_rate : GoodIn wsL_isSo wsX4_rate := goodIn_ca (goodIn_ca (goodIn_r _ [153, 24, 25, 26, 27, 17, 28, 29, 30, 19, 31, 32, 33, 34, 35, 36, 37, 38, 140, 141, 142, 143, 131, 51, 52, 53, 54, 55, 56, 57, 58, 191, 192, 193, 194, 195, 196, 202, 203, 204, 205, 197, 198, 199, 200, 201] (by decide +kernel) (by decide +kernel)) (goodIn_sub (fun _ h => List.mem_cons_of_mem _ (List.mem_append_left _ (List.mem_append_left _ (List.mem_append_right _ h)))) (by decide +kernel))) (goodIn_sub (fun _ h => List.mem_cons_of_mem _ (List.mem_append_left _ (List.mem_append_right _ h))) (by decide +kernel))
set_option maxRecDepth 20000 in
theorem gL_isSo_X4_rate : GoodIn wsL_isSo (wsV RL 80 RX4 yX4_rate wsX4_rate) := goodIn_app (goodIn_of _ (by decide +kernel)) ggL_isSo_X4_rate
set_option maxRecDepth 20000 in
theorem ggL_isSo_L_rate : GoodIn wsL_isSo wsL_rate := goodIn_r _ [149] (by decide +kernel) (by decide +kernel)
set_option maxRecDepth 20000 in
theorem gL_isSo_L_rate : GoodIn wsL_isSo (va_wsS RL 40 yL_rate wsL_rate) := goodIn_app (goodIn_of _ (by decide +kernel)) ggL_isSo_L_rate
set_option maxRecDepth 20000 in
theorem ggL_isSo_X4_users : GoodIn wsL_isSo wsX4_users := goodIn_ca (goodIn_ca (goodIn_r _ [157, 24, 25, 26, 27, 17, 28, 29, 30, 19, 31, 32, 33, 34, 35, 36, 37, 38, 158, 159, 160, 161, 55, 56, 57, 58, 162, 163, 164, 165, 166, 167, 168, 191, 192, 193, 194, 195, 196, 202, 203, 204, 205, 197, 198, 199, 200, 201] (by decide +kernel) (by decide +kernel)) (goodIn_sub (fun _ h => List.mem_cons_of_mem _ (List.mem_append_left _ (List.mem_append_left _ (List.mem_append_right _ h)))) (by decide +kernel))) (goodIn_sub (fun _ h => List.mem_cons_of_mem _ (List.mem_append_left _ (List.mem_append_right _ h))) (by decide +kernel))
set_option maxRecDepth 20000 in
theorem gL_isSo_X4_users : GoodIn wsL_isSo (wsV RL 82 RX4 yX4_users wsX4_users) := goodIn_app (goodIn_of _ (by decide +kernel)) ggL_isSo_X4_users
set_option maxRecDepth 20000 in
theorem ggL_isSo_L_users : GoodIn wsL_isSo wsL_users := goodIn_r _ [171] (by decide +kernel) (by decide +kernel)
set_option maxRecDepth 20000 in
theorem gL_isSo_L_users : GoodIn wsL_isSo (va_wsS RL 44 yL_users wsL_users) := goodIn_app (goodIn_of _ (by decide +kernel)) ggL_isSo_L_users
set_option maxRecDepth 20000 in
theorem ggL_isSo_L_version : GoodIn wsL_isSo wsL_version := goodIn_ca (goodIn_r _ [174, 147, 148, 3, 149, 169, 170, 171, 175, 176, 177, 17, 178, 131, 19, 24, 179, 31, 32, 33, 34, 35, 36, 37, 38, 180, 86, 181, 182, 105, 140, 141, 142, 143, 51, 52, 53, 54, 55, 56, 57, 58, 158, 159, 160, 161, 162, 163, 164, 165, 166, 167, 168, 183, 184, 185, 186, 191, 192, 193, 194, 195, 196, 197, 198, 199, 200, 201, 202, 203, 204, 205] (by decide +kernel) (by decide +kernel)) (goodIn_sub (fun _ h => List.mem_cons_of_mem _ (List.mem_append_left _ (List.mem_append_right _ h))) (by decide +kernel))
set_option maxRecDepth 20000 in
theorem gL_isSo_L_version : GoodIn wsL_isSo (va_wsS RL 84 yL_version wsL_version) := goodIn_app (goodIn_of _ (by decide +kernel)) ggL_isSo_L_version
set_option maxRecDepth 20000 in
theorem ggL_isSo_X4_buckets : GoodIn wsL_isSo wsX4_buckets := goodIn_r _ [190, 19, 24, 180, 86, 181, 182, 105, 191, 192, 193, 194, 195, 196, 197, 198, 199, 200, 201, 202, 203, 204, 205] (by decide +kernel) (by decide +kernel)
set_option maxRecDepth 20000 in
theorem gL_isSo_X4_buckets : GoodIn wsL_isSo (wsV RL 88 RX4 yX4_buckets wsX4_buckets) := goodIn_app (goodIn_of _ (by decide +kernel)) ggL_isSo_X4_buckets
set_option maxRecDepth 20000 in
theorem ggL_ranges_L_low : GoodIn wsL_ranges wsL_low := goodIn_r _ [4, 5] (by decide +kernel) (by decide +kernel)
set_option maxRecDepth 20000 in
theorem gL_ranges_L_low : GoodIn wsL_ranges (va_wsS RL 91 yL_low wsL_low) := goodIn_app (goodIn_of _ (by decide +kernel)) ggL_ranges_L_low
set_option maxRecDepth 20000 in
theorem ggL_ranges_L_calls : GoodIn wsL_ranges wsL_calls := goodIn_ca (goodIn_ca (goodIn_ca (goodIn_r _ [8, 9, 10, 11, 12, 13, 14, 15, 16, 17, 18, 19, 20, 21, 22, 23, 24, 25, 26, 27, 28, 29, 30, 31, 32, 33, 34, 35, 36, 37, 38, 39, 40, 41, 42, 43, 44, 45, 46, 47, 48, 49, 50, 51, 52, 53, 54, 55, 56, 57, 58, 59, 60, 61, 62, 63, 64, 65, 66, 67, 68, 69, 70, 71, 72, 73, 74, 75, 76, 77, 78, 79, 80, 81, 82, 83, 84, 85, 86, 87, 88, 89, 90, 91, 92, 93, 94, 95, 96, 97, 98, 99, 100, 101, 102, 103, 104, 105, 106, 107, 108, 109, 110, 111, 112, 113, 114, 115, 116, 117, 118, 119, 120, 121, 122, 123, 124, 125, 126, 127, 128, 129, 130, 131, 132, 133, 134, 135, 136, 137] (by decide +kernel) (by decide +kernel)) (goodIn_sub (fun _ h => List.mem_cons_of_mem _ (List.mem_append_left _ (List.mem_append_left _ (List.mem_append_right _ h)))) (by decide +kernel))) (goodIn_sub (fun _ h => List.mem_cons_of_mem _ (List.mem_append_left _ (List.mem_append_right _ h))) (by decide +kernel))) (goodIn_sub (fun _ h => List.mem_cons_of_mem _ (List.mem_append_right _ h)) (by decide +kernel))
set_option maxRecDepth 20000 in
theorem gL_ranges_L_calls : GoodIn wsL_ranges (va_wsS RL 73 yL_calls wsL_calls) := goodIn_app (goodIn_of _ (by decide +kernel)) ggL_ranges_L_calls
set_option maxRecDepth 20000 in
theorem ggL_rules_L_low : GoodIn wsL_rules wsL_low := goodIn_r _ [4, 5] (by decide +kernel) (by decide +kernel)
set_option maxRecDepth 20000 in
theorem gL_rules_L_low : GoodIn wsL_rules (va_wsS RL 91 yL_low wsL_low) := goodIn_app (goodIn_of _ (by decide +kernel)) ggL_rules_L_low
set_option maxRecDepth 20000 in
theorem ggL_rules_X4_ignore : GoodIn wsL_rules wsX4_ignore := goodIn_ca (goodIn_r _ [10, 11, 12, 13, 14, 15, 9, 16, 17, 18, 19, 20, 21, 22, 23, 24, 25, 26, 27, 28, 29, 30, 31, 32, 33, 34, 35, 36, 37, 38, 39, 40, 41, 42, 43, 44, 45, 46, 129, 130, 131, 132, 133, 134, 135, 136, 137, 138, 139, 140, 141, 142, 143, 144, 145, 146] (by decide +kernel) (by decide +kernel)) (goodIn_sub (fun _ h => List.mem_cons_of_mem _ (List.mem_append_left _ (List.mem_append_left _ (List.mem_append_right _ h)))) (by decide +kernel))
set_option maxRecDepth 20000 in
theorem gL_rules_X4_ignore : GoodIn wsL_rules (wsV RL 94 RX4 yX4_ignore wsX4_ignore) := goodIn_app (goodIn_of _ (by decide +kernel)) ggL_rules_X4_ignore
set_option maxRecDepth 20000 in
theorem ggL_rules_L_calls : GoodIn wsL_rules wsL_calls := goodIn_ca (goodIn_ca (goodIn_ca (goodIn_r _ [49, 50, 51, 52, 53, 9, 54, 55, 56, 57, 12, 13, 11, 14, 15, 16, 17, 18, 19, 20, 21, 58, 59, 60, 61, 62, 63, 64, 65, 66, 67, 68, 69, 70, 71, 72, 23, 73, 74, 75, 76, 77, 78, 36, 79, 80, 81, 22, 24, 25, 26, 27, 28, 29, 30, 31, 32, 33, 34, 35, 37, 38, 39, 40, 41, 42, 43, 44, 45, 46, 82, 83, 84, 85, 86, 87, 88, 89, 90, 91, 92, 93, 94, 95, 96, 97, 98, 99, 100, 101, 102, 103, 104, 105, 106, 107, 108, 109, 110, 111, 112, 113, 114, 115, 116, 117, 118, 119, 129, 130, 131, 132, 133, 134, 147, 148, 149, 150, 138, 139, 140, 141, 142, 143, 144, 145, 146, 135, 136, 137] (by decide +kernel) (by decide +kernel)) (goodIn_sub (fun _ h => List.mem_cons_of_mem _ (List.mem_append_left _ (List.mem_append_right _ h))) (by decide +kernel))) (goodIn_sub (fun _ h => List.mem_cons_of_mem _ (List.mem_append_left _ (List.mem_append_left _ (List.mem_append_right _ h)))) (by decide +kernel))) (goodIn_sub (fun _ h => List.mem_cons_of_mem _ (List.mem_append_right _ h)) (by decide +kernel))
set_option maxRecDepth 20000 in
theorem gL_rules_L_calls : GoodIn wsL_rules (va_wsS RL 73 yL_calls wsL_calls) := goodIn_app (goodIn_of _ (by decide +kernel)) ggL_rules_L_calls
set_option maxRecDepth 20000 in
theorem ggL_rules_X4_setDepth : GoodIn wsL_rules wsX4_setDepth := goodIn_ca (goodIn_r _ [123, 11, 12, 13, 17, 18, 9, 19, 20, 21, 22, 23, 24, 25, 26, 27, 28, 29, 30, 31, 32, 33, 34, 35, 36, 37, 38, 39, 40, 41, 42, 43, 44, 45, 46, 129, 130, 131, 132, 133, 134, 135, 136, 137, 138, 139, 140, 141, 142, 143, 144, 145, 146] (by decide +kernel) (by decide +kernel)) (goodIn_sub (fun _ h => List.mem_cons_of_mem _ (List.mem_append_left _ (List.mem_append_left _ (List.mem_append_right _ h)))) (by decide +kernel))
set_option maxRecDepth 20000 in
theorem gL_rules_X4_setDepth : GoodIn wsL_rules (wsV RL 98 RX4 yX4_setDepth wsX4_setDepth) := goodIn_app (goodIn_of _ (by decide +kernel)) ggL_rules_X4_setDepth
set_option maxRecDepth 20000 in
theorem ggL_rules_X4_setLimit : GoodIn wsL_rules wsX4_setLimit := goodIn_ca (goodIn_r _ [127, 128, 17, 18, 9, 19, 20, 21, 129, 130, 131, 132, 133, 134] (by decide +kernel) (by decide +kernel)) (goodIn_sub (fun _ h => List.mem_cons_of_mem _ (List.mem_append_left _ (List.mem_append_left _ (List.mem_append_right _ h)))) (by decide +kernel))
set_option maxRecDepth 20000 in
theorem gL_rules_X4_setLimit : GoodIn wsL_rules (wsV RL 101 RX4 yX4_setLimit wsX4_setLimit) := goodIn_app (goodIn_of _ (by decide +kernel)) ggL_rules_X4_setLimit
set_option maxRecDepth 20000 in
theorem ggL_report_L_low : GoodIn wsL_report wsL_low := goodIn_r _ [4, 5] (by decide +kernel) (by decide +kernel)
set_option maxRecDepth 20000 in
theorem gL_report_L_low : GoodIn wsL_report (va_wsS RL 91 yL_low wsL_low) := goodIn_app (goodIn_of _ (by decide +kernel)) ggL_report_L_low
set_option maxRecDepth 20000 in
theorem ggL_report_X4_report : GoodIn wsL_report wsX4_report := goodIn_ca (goodIn_ca (goodIn_r _ [10, 11, 12, 13, 14, 15, 16, 17, 18, 9, 19, 20, 21, 22, 23, 24, 25, 26, 27, 28, 29, 30, 31, 32, 33, 34, 35, 36, 37, 38, 39, 40, 41, 42, 43, 44, 45, 46, 47, 48, 49, 50, 51, 52, 53, 54, 55, 56, 57, 58, 59, 60, 61, 62, 63, 64, 65, 66, 67, 68, 69, 70, 71, 72, 73, 74, 75, 76, 77, 78, 79, 80, 81, 82, 83, 84, 85, 86, 87, 88, 89, 90, 91, 92, 93] (by decide +kernel) (by decide +kernel)) (goodIn_sub (fun _ h => List.mem_cons_of_mem _ (List.mem_append_left _ (List.mem_append_right _ h))) (by decide +kernel))) (goodIn_sub (fun _ h => List.mem_cons_of_mem _ (List.mem_append_right _ h)) (by decide +kernel))
set_option maxRecDepth 20000 in
theorem gL_report_X4_report : GoodIn wsL_report (wsV RL 104 RX4 yX4_report wsX4_report) := goodIn_app (goodIn_of _ (by decide +kernel)) ggL_report_X4_report
end
section
set_option maxRecDepth 20000 in
theorem ggL_law_X4_init : GoodIn wsL_law wsX4_init := goodIn_r _ [7, 8, 9, 10, 11, 12, 13, 14, 15, 16, 17, 18, 19, 20, 21, 22, 23, 24, 25, 26, 3, 27, 28, 29, 30, 31, 32, 33, 34, 35, 36, 37, 38, 39, 40, 41, 42, 43, 44, 45, 46, 47, 48, 49, 50, 51, 52, 53, 54, 55, 56, 57, 58, 59, 60, 293, 294, 295, 296, 287, 288, 289, 290, 291, 292, 297, 298, 299, 300, 301, 302, 303, 304, 305, 306, 307, 308] (by decide +kernel) (by decide +kernel)
set_option maxRecDepth 20000 in
theorem gL_law_X4_init : GoodIn wsL_law (wsX4_init) := ggL_law_X4_init
set_option maxRecDepth 20000 in
theorem ggL_law_L_cell : GoodIn wsL_law wsL_cell := goodIn_r _ [64, 65, 66] (by decide +kernel) (by decide +kernel)
set_option maxRecDepth 20000 in
theorem gL_law_L_cell : GoodIn wsL_law (va_wsS RL 109 yL_cell wsL_cell) := goodIn_app (goodIn_of _ (by decide +kernel)) ggL_law_L_cell
set_option maxRecDepth 20000 in
theorem ggL_law_L_low : GoodIn wsL_law wsL_low := goodIn_r _ [69, 70] (by decide +kernel) (by decide +kernel)
set_option maxRecDepth 20000 in
theorem gL_law_L_low : GoodIn wsL_law (va_wsS RL 91 yL_low wsL_low) := goodIn_app (goodIn_of _ (by decide +kernel)) ggL_law_L_low
set_option maxRecDepth 20000 in
theorem ggL_law_L_report : GoodIn wsL_law wsL_report := goodIn_ca (goodIn_ca (goodIn_r _ [73, 67, 68, 63, 69, 70, 74, 75, 76, 2, 77, 78, 79, 22, 26, 14, 18, 80, 81, 82, 83, 84, 85, 86, 87, 88, 89, 90, 91, 21, 92, 93, 47, 48, 49, 52, 94, 95, 96, 51, 97, 25, 98, 99, 57, 100, 13, 101, 102, 32, 34, 35, 36, 103, 104, 105, 59, 60, 106, 107, 108, 109, 58, 110, 17, 111, 112, 42, 113, 114, 115, 116, 287, 288, 289, 290, 291, 292, 300, 301, 302, 303, 304, 305, 306, 307, 308, 293, 294, 295, 296, 297, 298, 299] (by decide +kernel) (by decide +kernel)) (goodIn_sub (fun _ h => List.mem_append_left _ (List.mem_append_left _ (List.mem_append_right _ h))) (by decide +kernel))) (goodIn_sub (fun _ h => List.mem_append_left _ (List.mem_append_right _ h)) (by decide +kernel))
set_option maxRecDepth 20000 in
theorem gL_law_L_report : GoodIn wsL_law (va_wsS RL 113 yL_report wsL_report) := goodIn_app (goodIn_of _ (by decide +kernel)) ggL_law_L_report
set_option maxRecDepth 20000 in
theorem ggL_law_L_ranges : GoodIn wsL_law wsL_ranges := goodIn_ca (goodIn_ca (goodIn_ca (goodIn_r _ [119, 67, 68, 63, 69, 70, 120, 121, 122, 123, 124, 125, 126, 2, 127, 78, 79, 14, 26, 22, 18, 80, 81, 82, 83, 84, 85, 86, 87, 128, 13, 129, 130, 32, 131, 132, 133, 34, 35, 134, 135, 136, 36, 137, 25, 138, 139, 140, 97, 98, 99, 57, 100, 101, 102, 141, 142, 143, 144, 103, 104, 105, 59, 60, 106, 107, 108, 109, 58, 110, 17, 111, 112, 42, 113, 114, 115, 116, 145, 146, 147, 148, 149, 150, 151, 152, 153, 154, 155, 27, 156, 157, 158, 159, 160, 161, 162, 163, 164, 165, 166, 167, 168, 169, 170, 171, 172, 173, 174, 175, 176, 177, 178, 179, 180, 181, 287, 288, 289, 290, 291, 292, 293, 294, 295, 296, 300, 301, 302, 303, 304, 305, 306, 307, 308, 297, 298, 299] (by decide +kernel) (by decide +kernel)) (goodIn_sub (fun _ h => List.mem_append_left _ (List.mem_append_left _ (List.mem_append_right _ h))) (by decide +kernel))) (goodIn_sub (fun _ h => List.mem_append_left _ (List.mem_append_right _ h)) (by decide +kernel))) (goodIn_sub (fun _ h => List.mem_append_right _ h) (by decide +kernel))
set_option maxRecDepth 20000 in
theorem gL_law_L_ranges : GoodIn wsL_law (va_wsS RL 115 yL_ranges wsL_ranges) := goodIn_app (goodIn_of _ (by decide +kernel)) ggL_law_L_ranges
set_option maxRecDepth 20000 in
theorem ggL_law_L_rules : GoodIn wsL_law wsL_rules := goodIn_ca (goodIn_ca (goodIn_ca (goodIn_r _ [184, 67, 68, 63, 69, 70, 185, 186, 187, 2, 188, 18, 26, 22, 80, 81, 82, 83, 84, 85, 86, 87, 141, 25, 142, 143, 144, 103, 104, 105, 59, 60, 106, 107, 108, 109, 57, 58, 110, 17, 111, 112, 42, 113, 114, 115, 116, 120, 121, 122, 123, 124, 125, 126, 127, 78, 79, 14, 128, 13, 129, 130, 32, 131, 132, 133, 34, 35, 134, 135, 136, 36, 137, 138, 139, 140, 97, 98, 99, 100, 101, 102, 145, 146, 147, 148, 149, 150, 151, 152, 153, 154, 155, 27, 156, 157, 158, 159, 160, 161, 162, 163, 164, 165, 166, 167, 168, 169, 170, 171, 172, 173, 174, 175, 176, 177, 178, 179, 180, 181, 189, 190, 191, 192, 193, 194, 195, 196, 28, 287, 288, 289, 290, 291, 292, 297, 298, 299, 300, 301, 302, 303, 304, 305, 306, 307, 308, 293, 294, 295, 296] (by decide +kernel) (by decide +kernel)) (goodIn_sub (fun _ h => List.mem_append_left _ (List.mem_append_right _ h)) (by decide +kernel))) (goodIn_sub (fun _ h => List.mem_append_left _ (List.mem_append_left _ (List.mem_append_right _ h))) (by decide +kernel))) (goodIn_sub (fun _ h => List.mem_append_right _ h) (by decide +kernel))
set_option maxRecDepth 20000 in
theorem gL_law_L_rules : GoodIn wsL_law (va_wsS RL 119 yL_rules wsL_rules) := goodIn_app (goodIn_of _ (by decide +kernel)) ggL_law_L_rules
set_option maxRecDepth 20000 in
theorem ggL_law_X4_setSessions : GoodIn wsL_law wsX4_setSessions := goodIn_ca (goodIn_r _ [200, 201, 27, 80, 81, 2, 82, 83, 84, 85, 86, 87, 287, 288, 289, 290, 291, 292] (by decide +kernel) (by decide +kernel)) (goodIn_sub (fun _ h => List.mem_append_left _ (List.mem_append_right _ h)) (by decide +kernel))
set_option maxRecDepth 20000 in
theorem gL_law_X4_setSessions : GoodIn wsL_law (wsV RL 124 RX4 yX4_setSessions wsX4_setSessions) := goodIn_app (goodIn_of _ (by decide +kernel)) ggL_law_X4_setSessions
set_option maxRecDepth 20000 in
theorem ggL_law_X4_fix : GoodIn wsL_law wsX4_fix := goodIn_ca (goodIn_ca (goodIn_r _ [205, 22, 156, 157, 158, 2, 159, 160, 161, 80, 81, 82, 83, 84, 85, 86, 87, 287, 288, 289, 290, 291, 292, 300, 301, 302, 303, 304] (by decide +kernel) (by decide +kernel)) (goodIn_sub (fun _ h => List.mem_append_right _ h) (by decide +kernel))) (goodIn_sub (fun _ h => List.mem_append_left _ (List.mem_append_right _ h)) (by decide +kernel))
set_option maxRecDepth 20000 in
theorem gL_law_X4_fix : GoodIn wsL_law (wsV RL 127 RX4 yX4_fix wsX4_fix) := goodIn_app (goodIn_of _ (by decide +kernel)) ggL_law_X4_fix
end
section
theorem goodIn_cons {big a : List Cond} {c : Cond} (h : GoodIn big [c]) (ha : GoodIn big a) : GoodIn big (c :: a) := fun w hw => (List.mem_cons.mp hw).elim (fun e => h w (by rw [e]; exact List.mem_singleton.mpr rfl)) (fun h2 => ha w h2)
theorem inlX0 : ∀ w ∈ wsX00, w ∈ wsL_law := fun _ h => List.mem_append_left _ (List.mem_append_left _ (List.mem_append_left _ (List.mem_append_left _ (List.mem_append_left _ (List.mem_append_left _ (List.mem_append_left _ (List.mem_append_right _ h)))))))
theorem inlX1 : ∀ w ∈ wsX10, w ∈ wsL_law := fun _ h => List.mem_append_left _ (List.mem_append_left _ (List.mem_append_left _ (List.mem_append_left _ (List.mem_append_right _ h))))
theorem inlX2 : ∀ w ∈ wsX20, w ∈ wsL_law := fun _ h => List.mem_append_left _ (List.mem_append_left _ (List.mem_append_left _ (List.mem_append_left _ (List.mem_append_left _ (List.mem_append_right _ h)))))
theorem inlX3 : ∀ w ∈ wsX30, w ∈ wsL_law := fun _ h => List.mem_append_left _ (List.mem_append_left _ (List.mem_append_left _ (List.mem_append_left _ (List.mem_append_left _ (List.mem_append_left _ (List.mem_append_right _ h))))))
theorem inlX4 : ∀ w ∈ wsX40, w ∈ wsL_law := fun _ h => List.mem_append_left _ (List.mem_append_left _ (List.mem_append_left _ (List.mem_append_left _ (List.mem_append_left _ (List.mem_append_left _ (List.mem_append_left _ (List.mem_append_left _ (List.mem_append_right _ h))))))))
set_option maxRecDepth 20000 in
theorem gis_0 : GoodIn wsL_law [.code yL_isSo cL_isSo 17 (some .boolean)] := goodIn_r _ [208] (by decide +kernel) (by decide +kernel)
set_option maxRecDepth 20000 in
theorem gis_1 : GoodIn wsL_law wsL_isSo_r1 := goodIn_r _ [209, 210, 63, 211, 212, 213, 214, 215, 216, 217, 218, 219, 220, 221, 222, 223, 2, 224, 22, 225, 226, 227, 228, 26] (by decide +kernel) (by decide +kernel)
set_option maxRecDepth 20000 in
theorem gis_2 : GoodIn wsL_law wsL_isSo_r2 := goodIn_r _ [156, 157, 158, 159, 160, 161, 80, 81, 82, 83, 84, 85, 86, 87, 229, 230, 231, 232, 233, 234, 235, 236, 237, 238] (by decide +kernel) (by decide +kernel)
set_option maxRecDepth 20000 in
theorem gis_3 : GoodIn wsL_law wsL_isSo_r3 := goodIn_r _ [239, 240, 174, 175, 176, 177, 178, 179, 180, 181, 120, 121, 122, 123, 124, 125, 126, 127, 78, 79, 14, 18, 128, 13] (by decide +kernel) (by decide +kernel)
set_option maxRecDepth 20000 in
theorem gis_4 : GoodIn wsL_law wsL_isSo_r4 := goodIn_r _ [129, 130, 32, 131, 132, 133, 34, 35, 134, 135, 136, 36, 137, 25, 138, 139, 140, 97, 98, 99, 57, 100, 101, 102] (by decide +kernel) (by decide +kernel)
set_option maxRecDepth 20000 in
theorem gis_5 : GoodIn wsL_law wsL_isSo_r5 := goodIn_r _ [141, 142, 143, 144, 103, 104, 105, 59, 60, 106, 107, 108, 109, 58, 110, 17, 111, 112, 42, 113, 114, 115, 116, 145] (by decide +kernel) (by decide +kernel)
set_option maxRecDepth 20000 in
theorem gis_6 : GoodIn wsL_law wsL_isSo_r6 := goodIn_r _ [146, 147, 148, 149, 150, 151, 152, 153, 154, 155, 27, 162, 163, 164, 165, 166, 167, 168, 169, 170, 171, 172, 173, 241] (by decide +kernel) (by decide +kernel)
set_option maxRecDepth 20000 in
theorem gis_7 : GoodIn wsL_law wsL_isSo_r7 := goodIn_r _ [242, 243, 244, 245, 246, 247, 248, 249, 250, 251, 252, 253, 254, 255, 256, 257, 258, 259, 260, 261, 262, 263, 264, 265] (by decide +kernel) (by decide +kernel)
set_option maxRecDepth 20000 in
theorem gis_8 : GoodIn wsL_law wsL_isSo_r8 := goodIn_r _ [266, 267, 268, 269, 270, 271, 272, 273, 274, 275, 28, 276, 277, 278, 279, 280, 281, 282, 283, 284, 285, 286] (by decide +kernel) (by decide +kernel)
theorem gis_X4 : GoodIn wsL_law wsX40 := goodIn_sub inlX4 (by decide +kernel)
theorem gis_X2 : GoodIn wsL_law wsX20 := goodIn_sub inlX2 (by decide +kernel)
theorem gis_X1 : GoodIn wsL_law wsX10 := goodIn_sub inlX1 (by decide +kernel)
theorem gis_X0 : GoodIn wsL_law wsX00 := goodIn_sub inlX0 (by decide +kernel)
theorem gis_X3 : GoodIn wsL_law wsX30 := goodIn_sub inlX3 (by decide +kernel)
set_option maxRecDepth 20000 in
theorem ggL_law_L_isSo : GoodIn wsL_law wsL_isSo := goodIn_cons gis_0 (goodIn_app (goodIn_app (goodIn_app (goodIn_app (goodIn_app (goodIn_app (goodIn_app (goodIn_app (goodIn_app gis_1 (goodIn_app gis_2 (goodIn_app gis_3 (goodIn_app gis_4 (goodIn_app gis_5 (goodIn_app gis_6 (goodIn_app gis_7 gis_8))))))) gis_X4) gis_X2) gis_X1) gis_X0) gis_X3) (goodIn_sub (fun _ h => List.mem_append_right _ h) (by decide +kernel))) (goodIn_sub (fun _ h => List.mem_append_left _ (List.mem_append_right _ h)) (by decide +kernel))) (goodIn_sub (fun _ h => List.mem_append_left _ (List.mem_append_left _ (List.mem_append_right _ h))) (by decide +kernel)))
set_option maxRecDepth 20000 in
theorem gL_law_L_isSo : GoodIn wsL_law (va_wsS RL 130 yL_isSo wsL_isSo) := goodIn_app (goodIn_of _ (by decide +kernel)) ggL_law_L_isSo
end
section
/-! ===== p22's law in my words ===== -/
theorem nI_m1 (n : Nat) : nI n + Int32.ofInt (-1) = nI n - nI 1 := by
  rw [Int32.sub_eq_add_neg]
  rfl
theorem nIs_lt0 {n : Nat} (hn : n < 2 ^ 31) : nI n - nI 1 < 0 ↔ n = 0 := by
  constructor
  · intro h
    rcases Nat.eq_zero_or_pos n with e | e
    · exact e
    · obtain ⟨j, rfl⟩ : ∃ z, n = z + 1 := ⟨n - 1, by omega⟩
      have e2 : nI (j + 1) - nI 1 = nI j := nI_pred j
      rw [e2] at h
      exact absurd h (nI_pos (by omega))
  · rintro rfl
    decide
theorem nI_eq0 {n : Nat} (h : n < 2 ^ 31) : nI n = 0 ↔ n = 0 := by
  have := nI_eq (a := n) (b := 0) h (by decide)
  rw [show (0 : Int32) = nI 0 from rfl, this]
theorem i32_nlt {x y : Int32} (h : y ≤ x) : ¬ x < y := by
  rw [Int32.le_iff_toInt_le] at h
  rw [Int32.lt_iff_toInt_lt]
  omega
theorem i32_lt {x y : Int32} (h : ¬ y ≤ x) : x < y := by
  rw [Int32.le_iff_toInt_le] at h
  rw [Int32.lt_iff_toInt_lt]
  omega
theorem inR_lt0 {x : Int32} {n : Nat} (h : inR x n) (hn : n ≤ 2 ^ 31) : ¬ x < 0 := by
  rw [h.1]
  exact nI_pos (by have := h.2; omega)
section XROWS4
variable {p : Program} {l : Launch} {e : Env} {R : Room} {s : State} {m : MethodId} {args : Array Value} {below : List Frame} {meth : Method} {c : Code} {H : Heap} {locs : List Loc} {cells slots : Nat} {Q : State → Prop}
variable {cc : ByteArray} {pc : Nat} {ls : Array Slot} {rest : List Value}
theorem x_ifeqn (hexec : p.tables.exec = Jvm.exec) (hb : c.code = cc) {x : Nat} {off : Int} {tgt : Nat} (hx : x < 2 ^ 31) (hdg : decode cc pc = .ok (.ifCond .eq off, 3)) (ht : (pc : Int) + off = (tgt : Int))
    (kt : x = 0 → W p l e R s m args below meth c H locs cells slots Q (F0 m tgt ls rest)) (kf : x ≠ 0 → W p l e R s m args below meth c H locs cells slots Q (F0 m (pc + 3) ls rest)) : W p l e R s m args below meth c H locs cells slots Q (F0 m pc ls (.int (nI x) :: rest)) :=
  lv_if_eq hexec hb hdg ht (fun h => kt ((nI_eq0 hx).mp h)) (fun h => kf (fun h2 => h ((nI_eq0 hx).mpr h2)))
theorem x_ifnen (hexec : p.tables.exec = Jvm.exec) (hb : c.code = cc) {x : Nat} {off : Int} {tgt : Nat} (hx : x < 2 ^ 31) (hdg : decode cc pc = .ok (.ifCond .ne off, 3)) (ht : (pc : Int) + off = (tgt : Int))
    (kt : x ≠ 0 → W p l e R s m args below meth c H locs cells slots Q (F0 m tgt ls rest)) (kf : x = 0 → W p l e R s m args below meth c H locs cells slots Q (F0 m (pc + 3) ls rest)) : W p l e R s m args below meth c H locs cells slots Q (F0 m pc ls (.int (nI x) :: rest)) :=
  lv_if_ne hexec hb hdg ht (fun h => kt (fun h2 => h ((nI_eq0 hx).mpr h2))) (fun h => kf ((nI_eq0 hx).mp h))
end XROWS4
/-- low -/
def loI (z : Int32) (n : Nat) : Int32 := (z &&& 2147483647) - (z &&& 2147483647) / nI n * nI n
def loN (z : Int32) (n : Nat) : Nat := nv (loI z n)
theorem andN (x : Int32) (y : Nat) : x &&& nI y = nI (x.toBitVec.toNat &&& y) := by
  apply Int32.toBitVec_inj.mp
  rw [Int32.toBitVec_and]
  show x.toBitVec &&& BitVec.ofNat 32 y = BitVec.ofNat 32 (x.toBitVec.toNat &&& y)
  apply BitVec.eq_of_toNat_eq
  rw [BitVec.toNat_and, BitVec.toNat_ofNat, BitVec.toNat_ofNat, Nat.and_mod_two_pow, Nat.mod_eq_of_lt x.toBitVec.isLt]
theorem low_ex (z : Int32) : ∃ M : Nat, M < 2 ^ 31 ∧ z &&& 2147483647 = nI M := by
  refine ⟨z.toBitVec.toNat &&& 2147483647, ?_, andN z 2147483647⟩
  have : z.toBitVec.toNat &&& 2147483647 ≤ 2147483647 := Nat.and_le_right
  omega
theorem subN {x y : Nat} (h : y ≤ x) : nI x - nI y = nI (x - y) := by
  have e : nI x = nI (x - y) + nI y := by rw [nI_add]; congr 1; omega
  rw [e, Int32.add_sub_cancel]
theorem lo_R (z : Int32) {n : Nat} (h0 : 0 < n) (hn : n < 2 ^ 31) : inR (loI z n) n := by
  obtain ⟨M, hM, e⟩ := low_ex z
  have h1 : M / n * n ≤ M := Nat.div_mul_le_self M n
  have e2 : loI z n = nI (M - M / n * n) := by
    unfold loI
    rw [e, pk_div (by omega) (by omega) (by omega), pk_mul, subN h1]
  rw [e2]
  refine inR_nI ?_ (by omega)
  have h2 := Nat.div_add_mod M n
  have h3 := Nat.mod_lt M h0
  rw [Nat.mul_comm] at h2
  omega
theorem lo_e (z : Int32) {n : Nat} (h0 : 0 < n) (hn : n < 2 ^ 31) : loI z n = nI (loN z n) := (lo_R z h0 hn).1
theorem lo_lt (z : Int32) {n : Nat} (h0 : 0 < n) (hn : n < 2 ^ 31) : loN z n < n := (lo_R z h0 hn).2
abbrev shr (z : Int32) (k : Nat) : Int32 := z >>> (nI k &&& 31)
/-- what the machine needs of the law's arrays -/
def okP (σ : xS) : Prop := inR (σ 30 0 0) 13 ∧ inR (σ 30 0 1) 5 ∧ (∀ v, v < 4 → inR (σ 31 0 v) 7) ∧ (∀ v, v < 4 → inR (σ 31 0 (4 + v)) 1000001) ∧ (∀ f, f < 6 → inR (σ 31 0 (8 + f)) 2) ∧ (∀ f, f < 6 → inR (σ 31 0 (14 + f)) 6) ∧ (∀ k, k < 24 → inR (σ 34 0 k) 6) ∧ (∀ r, r < 12 → inR (σ 35 0 r) 4) ∧ (∀ r, r < 12 → inR (σ 36 0 r) 20) ∧ (∀ r, r < 12 → σ 38 0 r = -1 ∨ inR (σ 38 0 r) 4) ∧ inR (σ 30 0 2) 901
def pB (t : Nat) : Bool := t == 30 || t == 31 || t == 34 || t == 35 || t == 36 || t == 38
theorem okP.ne {σ τ : xS} (o : okP σ) (h : ∀ t i j, pB t = true → τ t i j = σ t i j) : okP τ := by
  obtain ⟨o1, o2, o3, o4, o5, o6, o7, o8, o9, o10, o11⟩ := o
  refine ⟨?_, ?_, fun v hv => ?_, fun v hv => ?_, fun f hf => ?_, fun f hf => ?_, fun k hk => ?_, fun r hr => ?_, fun r hr => ?_, fun r hr => ?_, ?_⟩
  · rw [h 30 0 0 rfl]; exact o1
  · rw [h 30 0 1 rfl]; exact o2
  · rw [h 31 0 _ rfl]; exact o3 v hv
  · rw [h 31 0 _ rfl]; exact o4 v hv
  · rw [h 31 0 _ rfl]; exact o5 f hf
  · rw [h 31 0 _ rfl]; exact o6 f hf
  · rw [h 34 0 _ rfl]; exact o7 k hk
  · rw [h 35 0 _ rfl]; exact o8 r hr
  · rw [h 36 0 _ rfl]; exact o9 r hr
  · rw [h 38 0 _ rfl]; exact o10 r hr
  · rw [h 30 0 2 rfl]; exact o11
theorem okP.n {σ : xS} (o : okP σ) : inR (σ 30 0 0) 13 := o.1
theorem okP.dep {σ : xS} (o : okP σ) : inR (σ 30 0 1) 5 := o.2.1
theorem okP.cnt {σ : xS} (o : okP σ) {v : Nat} (h : v < 4) : inR (σ 31 0 v) 7 := o.2.2.1 v h
theorem okP.ses {σ : xS} (o : okP σ) {v : Nat} (h : v < 4) : inR (σ 31 0 (4 + v)) 1000001 := o.2.2.2.1 v h
theorem okP.ign {σ : xS} (o : okP σ) {f : Nat} (h : f < 6) : inR (σ 31 0 (8 + f)) 2 := o.2.2.2.2.1 f h
theorem okP.std {σ : xS} (o : okP σ) {f : Nat} (h : f < 6) : inR (σ 31 0 (14 + f)) 6 := o.2.2.2.2.2.1 f h
theorem okP.fn {σ : xS} (o : okP σ) {k : Nat} (h : k < 24) : inR (σ 34 0 k) 6 := o.2.2.2.2.2.2.1 k h
theorem okP.ver {σ : xS} (o : okP σ) {r : Nat} (h : r < 12) : inR (σ 35 0 r) 4 := o.2.2.2.2.2.2.2.1 r h
theorem okP.usr {σ : xS} (o : okP σ) {r : Nat} (h : r < 12) : inR (σ 36 0 r) 20 := o.2.2.2.2.2.2.2.2.1 r h
theorem okP.fix {σ : xS} (o : okP σ) {r : Nat} (h : r < 12) : σ 38 0 r = -1 ∨ inR (σ 38 0 r) 4 := o.2.2.2.2.2.2.2.2.2.1 r h
theorem okP.lim {σ : xS} (o : okP σ) : inR (σ 30 0 2) 901 := o.2.2.2.2.2.2.2.2.2.2
/-- frame -/
def frP (σ : xS) (x : Int32) : Nat → Nat → Int32
  | 0, _ => -1
  | c + 1, n => if ¬ x < σ 32 0 n ∧ ¬ σ 33 0 n < x then σ 34 0 n else frP σ x c (n + 1)
def frV (σ : xS) (r p : Nat) : Int32 := frP σ (σ 37 0 (4 * r + p)) (nv (σ 31 0 (nv (σ 35 0 r)))) (6 * nv (σ 35 0 r))
theorem frP_rng {σ : xS} {x : Int32} (o : okP σ) : ∀ c n, n + c ≤ 24 → frP σ x c n = -1 ∨ inR (frP σ x c n) 6
  | 0, _, _ => Or.inl rfl
  | c + 1, n, h => by
    unfold frP
    split
    · exact Or.inr (o.fn (by omega))
    · exact frP_rng o c (n + 1) (by omega)
theorem frV_rng {σ : xS} {r p : Nat} (o : okP σ) (hr : r < 12) : frV σ r p = -1 ∨ inR (frV σ r p) 6 := by
  have h1 := (o.ver hr).2
  have h2 := (o.cnt h1).2
  exact frP_rng o _ _ (by omega)
theorem frV_ge {σ : xS} {r p : Nat} (o : okP σ) (hr : r < 12) (h : ¬ frV σ r p < 0) : inR (frV σ r p) 6 := (frV_rng o hr).resolve_left (fun e => h (by rw [e]; decide))
/-- ends -/
def enP (σ : xS) : Nat → Nat → Nat
  | 0, t => t
  | n + 1, t => enP σ n (nv (σ 31 0 (14 + t)))
theorem enP_lt {σ : xS} (o : okP σ) : ∀ n t, t < 6 → enP σ n t < 6
  | 0, _, h => h
  | n + 1, _, h => enP_lt o n _ (o.std h).2
/-- number -/
def isMt (σ : xS) (r p : Nat) : Bool := decide (¬ frV σ r p < 0) && decide (nv (σ 31 0 (8 + nv (frV σ r p))) = 0)
def mnP (σ : xS) (r : Nat) : Nat → Nat → Nat
  | 0, acc => acc
  | j + 1, acc => mnP σ r j (acc + if isMt σ r j = true then 1 else 0)
def myP (σ : xS) (r : Nat) : Nat := mnP σ r 4 0
def smP (σ : xS) (r : Nat) : Nat → Nat → Int32 → Nat
  | 0, sum, _ => sum
  | j + 1, sum, sk => if isMt σ r j = true then smP σ r j (if sk ≤ 0 then 7 * sum + 1 + enP σ 6 (nv (frV σ r j)) else 0) (sk + Int32.ofInt (-1)) else smP σ r j sum sk
def skP (σ : xS) (r : Nat) : Int32 := if myP σ r ≤ nv (σ 30 0 1) then nI 0 else nI (myP σ r) - nI (nv (σ 30 0 1))
def nuP (σ : xS) (r : Nat) : Int32 := if 0 < myP σ r then nI (smP σ r 4 0 (skP σ r)) else -1 - nI 4 * σ 37 0 (4 * r) - nI (nv (σ 35 0 r))
/-- names -/
def fsP (σ : xS) (r : Nat) : Nat → Nat → Nat
  | 0, k => k
  | n + 1, k => if σ 39 0 k = σ 39 0 r then k else fsP σ r n (k + 1)
def n1P (σ : xS) (n : Nat) : xS := up3 σ 39 0 n (nuP σ n)
def n2P (σ : xS) (n : Nat) : xS := up3 (n1P σ n) 39 0 (12 + n) (nI (fsP (n1P σ n) n n 0))
def nsL (σ : xS) : Nat → xS
  | 0 => σ
  | n + 1 => n2P (nsL σ n) n
def nsS (σ : xS) : xS := nsL σ (nv (σ 30 0 0))
theorem n2P_ne {σ : xS} {n : Nat} (t i j : Nat) (h : t ≠ 39) : n2P σ n t i j = σ t i j := by
  unfold n2P n1P
  rw [up3_ne (fun z => h z.1), up3_ne (fun z => h z.1)]
theorem nsL_ne {σ : xS} : ∀ (n t i j : Nat), t ≠ 39 → nsL σ n t i j = σ t i j
  | 0, _, _, _, _ => rfl
  | n + 1, t, i, j, h => (n2P_ne t i j h).trans (nsL_ne n t i j h)
theorem pB_39 {t : Nat} (h : pB t = true) : t ≠ 39 := fun e => by rw [e] at h; cases h
theorem nsL_ok {σ : xS} {n : Nat} (o : okP σ) : okP (nsL σ n) := o.ne (fun t i j h => nsL_ne n t i j (pB_39 h))
theorem n1P_ok {σ : xS} {n : Nat} (o : okP σ) : okP (n1P σ n) := o.ne (fun t i j h => up3_ne (fun z => pB_39 h z.1))
/-- rate -/
def rcP (σ : xS) (nm v : Nat) : Nat → Nat
  | 0 => 0
  | j + 1 => rcP σ nm v j + (if σ 39 0 (12 + (nm + j)) = nI nm ∧ nv (σ 35 0 (nm + j)) = v then 1 else 0)
theorem rcP_le {σ : xS} {nm v : Nat} : ∀ j, rcP σ nm v j ≤ j
  | 0 => Nat.le_refl _
  | j + 1 => by
    unfold rcP
    have := rcP_le (σ := σ) (nm := nm) (v := v) j
    split <;> omega
def rtP (σ : xS) (nm v : Nat) : Nat := rcP σ nm v (nv (σ 30 0 0) - nm) * 10000 / nv (σ 31 0 (4 + v))
theorem rtP_le {σ : xS} {nm v : Nat} (o : okP σ) : rtP σ nm v ≤ 120000 := by
  have h1 := rcP_le (σ := σ) (nm := nm) (v := v) (nv (σ 30 0 0) - nm)
  have h2 := o.n.2
  unfold rtP
  exact Nat.le_trans (Nat.div_le_self _ _) (by omega)
/-- users -/
def usP (σ : xS) (nm v : Nat) : Nat → Int32
  | 0 => nI 0
  | k + 1 => usP σ nm v k ||| (if σ 39 0 (12 + k) = nI nm ∧ nv (σ 35 0 k) = v then nI 1 <<< (nI (nv (σ 36 0 k)) &&& 31) else nI 0)
def fbP (x : Int32) : Nat → Int32
  | 0 => nI 0
  | n + 1 => fbP x n + ((x >>> (nI n &&& 31)) &&& nI 1)
def ucP (σ : xS) (nm v : Nat) : Int32 := fbP (usP σ nm v (nv (σ 30 0 0))) 20
/-- version -/
def vrP (σ : xS) (v n : Nat) : Nat := if σ 39 0 (12 + n) = nI n then rtP σ n v else 0
def g1P (σ : xS) (v n g : Nat) : Nat := if g = 0 ∧ nv (σ 30 0 2) ≤ vrP σ v n + vrP σ v n then 1 else g
def g2P (σ : xS) (v n g : Nat) : Nat := if σ 39 0 (12 + n) = nI n ∧ nv (σ 30 0 2) ≤ vrP σ v n ∧ 49 < nv (σ 31 0 (4 + v)) ∧ ¬ ucP σ n v ≤ nI 1 then 2 else g1P σ v n g
def veP (σ : xS) (v : Nat) : Nat → Nat → Nat → Int32 → Nat → Nat × Int32
  | 0, _, g, w, _ => (g, w)
  | c + 1, n, g, w, t => veP σ v c (n + 1) (g2P σ v n g) (if t < vrP σ v n then nI n else w) (if t < vrP σ v n then vrP σ v n else t)
def vgP (σ : xS) (v : Nat) : Nat × Int32 := veP σ v (nv (σ 30 0 0)) 0 (if nv (σ 31 0 (4 + v)) < 50 then 1 else 0) (-1) 0
/-- holds -/
def mxP (σ : xS) (r : Nat) : Nat → Nat
  | 0 => 0
  | n + 1 => if mxP σ r n < rtP σ (nv (σ 39 0 (12 + r))) n then rtP σ (nv (σ 39 0 (12 + r))) n else mxP σ r n
theorem mxP_le {σ : xS} {r : Nat} (o : okP σ) : ∀ n, mxP σ r n ≤ 120000
  | 0 => Nat.zero_le _
  | n + 1 => by
    unfold mxP
    split
    · exact rtP_le o
    · exact mxP_le o n
def hlP (σ : xS) (r t : Nat) : Nat → Nat → Int32
  | 0, _ => nI 1
  | c + 1, n => if 0 < nv (σ 31 0 (4 + n)) ∧ t < rtP σ (nv (σ 39 0 (12 + r))) n * 2 then nI 0 else hlP σ r t c (n + 1)
def hoP (σ : xS) (r : Nat) : Int32 := if σ 38 0 r < 0 then -3 else hlP σ r (mxP σ r (nv (σ 38 0 r))) (4 - nv (σ 38 0 r)) (nv (σ 38 0 r))
/-- isSo -/
def rsP (x : Int32) : Nat → Int32
  | 0 => x
  | p + 1 => if rsP x p ≤ 0 then nI 0 else rsP x p / nI 7
def mtP (x : Int32) (p : Nat) : Int32 := if rsP x p ≤ 0 then -1 else (rsP x p - rsP x p / nI 7 * nI 7) - nI 1
def szP (σ : xS) (n : Nat) : Nat → Nat
  | 0 => 0
  | i + 1 => szP σ n i + (if σ 39 0 (12 + i) = σ 39 0 (12 + n) then 1 else 0)
def bkP (σ : xS) : Nat → Nat
  | 0 => 0
  | n + 1 => bkP σ n + (if σ 39 0 (12 + n) = nI n then 1 else 0)
def chB (L : List (Bool × String)) : Bool := L.all (fun q => q.1)
theorem chOk_B : ∀ {L : List (Bool × String)}, chOk L → chB L = true
  | [], _ => rfl
  | (c, e) :: L, h => by
    have h2 : c = true ∧ chOk L := h
    have h3 := chOk_B h2.2
    unfold chB at h3 ⊢
    rw [List.all_cons, h3, h2.1]
    rfl
theorem chB_ok : ∀ {L : List (Bool × String)}, chB L = true → chOk L
  | [], _ => trivial
  | (c, e) :: L, h => by
    unfold chB at h
    rw [List.all_cons, Bool.and_eq_true] at h
    exact ⟨h.1, chB_ok h.2⟩
theorem chEx_B : ∀ {L : List (Bool × String)} {E : String}, chEx L E → chB L = false
  | [], _, h => h.elim
  | (c, e) :: L, E, h => by
    have h2 : (c = false ∧ E = e) ∨ (c = true ∧ chEx L E) := h
    rcases h2 with ⟨rfl, rfl⟩ | ⟨rfl, h3⟩
    · rfl
    · have := chEx_B h3
      unfold chB at this ⊢
      rw [List.all_cons, this]
      rfl
theorem chEx_no {L : List (Bool × String)} {E : String} (h : chOk L) (h2 : chEx L E) : False := by
  have := chEx_B h2
  rw [chOk_B h] at this
  cases this
/-- the class's part of a state from the one, the law's arrays from the other -/
def oM (σ τ : xS) : xS := fun t i => if 30 ≤ t then σ t i else τ t i
theorem oM_self {σ : xS} : oM σ σ = σ := by
  funext t i
  unfold oM
  split <;> rfl
def caV (L : List (Bool × String)) (r : Int32) : Int32 := if chB L = true then r else -3
def caS (L : List (Bool × String)) (σ τ : xS) : xS := if chB L = true then oM σ τ else σ
def hcX (σ : xS) (n : Nat) : Int32 := caV (hoC σ (nI n)) (bI (hoX σ (nv (nI n))))
def IsoA (τ : xS) (n : Nat) : Prop := (∀ p, p < 4 → τ 24 n p = frV τ n p ∧ τ 25 n p = mtP (τ 39 0 n) p) ∧ (τ 19 0 n = τ 39 0 (12 + n) ∧ siL τ (τ 19 0 n) 4 = szP τ n (nv (τ 30 0 0)) ∧ hcX τ n = hoP τ n) ∧ ∀ v, v < 4 → rtX τ (τ 19 0 n) v = rtP τ (nv (τ 39 0 (12 + n))) v ∧ ucX τ (τ 19 0 n) v = ucP τ (nv (τ 39 0 (12 + n))) v
def IsoV (τ : xS) (v : Nat) : Prop := gaX τ v = nI (vgP τ v).1 ∧ woX τ v = (vgP τ v).2
def Iso (τ : xS) : Prop := τ 3 0 0 = τ 30 0 0 ∧ (∀ n, n < nv (τ 30 0 0) → IsoA τ n ∧ inR (τ 39 0 (12 + n)) 12) ∧ (∀ v, v < 4 → IsoV τ v) ∧ buL τ (nv (τ 3 0 0)) = bkP τ (nv (τ 30 0 0))
/-- ranges -/
def rgV (z : Int32) : Nat := loN z 4
def rgF (z : Int32) : Nat := loN (shr z 2) 12 * 10
def rgK (z : Int32) : Nat := if loN (shr z 13) 3 = 0 then 40 else 10
def rgT (z : Int32) : Nat := rgF z + loN (shr z 6) (rgK z)
def rgO (z : Int32) : Nat := loN (shr z 9) 6
def caP (σ : xS) (v x y : Nat) : Nat → Bool
  | 0 => true
  | j + 1 => caP σ v x y j && (decide (nI y < σ 32 0 (6 * v + j)) || decide (σ 33 0 (6 * v + j) < nI x))
def rgC (σ : xS) (z : Int32) : Bool := caP σ (rgV z) (rgF z) (rgT z) (nv (σ 31 0 (rgV z)))
def rgA (σ : xS) (v x y o : Nat) : xS := up3 (up3 (up3 (up3 σ 32 0 (6 * v + nv (σ 31 0 v)) (nI x)) 33 0 (6 * v + nv (σ 31 0 v)) (nI y)) 34 0 (6 * v + nv (σ 31 0 v)) (nI o)) 31 0 v (nI (nv (σ 31 0 v) + 1))
def rgS (σ : xS) (z : Int32) : xS := if rgC σ z = true then rgA σ (rgV z) (rgF z) (rgT z) (rgO z) else σ
def rgL (σ : xS) (z : Int32) : List (Bool × String) := arC (rgS σ z) (nI (rgV z)) (nI (rgF z)) (nI (rgT z)) (nI (rgO z))
def rgN (σ : xS) (z : Int32) : xS := arS (rgS σ z) (nI (rgV z)) (nI (rgF z)) (nI (rgT z)) (nI (rgO z))
def rgE (σ : xS) (z : Int32) : xS := if rgC σ z = true ∧ nv (σ 31 0 (rgV z)) = 6 then σ else caS (rgL σ z) (rgS σ z) (rgN σ z)
/-- rules -/
def ruF (z : Int32) : Nat := loN (shr z 2) 6
def ruB (z : Int32) : Bool := decide (loN (shr z 5) 3 = 0)
def ruO (z : Int32) : Nat := loN (shr z 5) 6
def r0S (σ : xS) (z : Int32) : xS := up3 σ 31 0 (8 + ruF z) (nI (if ruB z = true then 1 else 0))
def r0E (σ : xS) (z : Int32) : xS := oM (r0S σ z) (igS (r0S σ z) (nI (ruF z)) (ruB z))
def atP (σ : xS) (o : Nat) : Nat → Nat
  | 0 => o
  | n + 1 => nv (σ 31 0 (14 + atP σ o n))
theorem atP_lt {σ : xS} {o : Nat} (ok : okP σ) (ho : o < 6) : ∀ n, atP σ o n < 6
  | 0 => ho
  | n + 1 => (ok.std (atP_lt ok ho n)).2
def rdP (σ : xS) (f o : Nat) : Nat → Bool
  | 0 => decide (o ≠ f) && decide (o = f)
  | n + 1 => rdP σ f o n || (decide (o ≠ f) && decide (atP σ o (n + 1) = f))
def r1C (σ : xS) (z : Int32) : Bool := rdP σ (ruF z) (ruO z) 6
def r1S (σ : xS) (z : Int32) : xS := up3 σ 31 0 (14 + ruF z) (nI (if rdP σ (ruF z) (ruO z) 6 = true then nv (σ 31 0 (14 + ruF z)) else ruO z))
def r1L (σ : xS) (z : Int32) : List (Bool × String) := sfC (r1S σ z) (nI (ruF z)) (nI (ruO z))
def r1E (σ : xS) (z : Int32) : xS := caS (r1L σ z) (r1S σ z) (sfS (r1S σ z) (nI (ruF z)) (nI (ruO z)))
def r2S (σ : xS) (z : Int32) : xS := up3 σ 30 0 1 (nI (1 + loN (shr z 5) 4))
def r2E (σ : xS) (z : Int32) : xS := oM (r2S σ z) (sdS (r2S σ z) (r2S σ z 30 0 1))
def r3S (σ : xS) (z : Int32) : xS := up3 σ 30 0 2 (nI (1 + loN (shr z 5) 900))
def r3E (σ : xS) (z : Int32) : xS := oM (r3S σ z) (slS (r3S σ z) (r3S σ z 30 0 2))
def ruE (σ : xS) (z : Int32) : xS := if loN z 4 = 0 then r0E σ z else if loN z 4 = 1 then r1E σ z else if loN z 4 = 2 then r2E σ z else r3E σ z
/-- report -/
def rp1 (σ : xS) (z : Int32) (n : Nat) : xS := up3 (up3 σ 35 0 n (nI (loN (shr z 2) 4))) 36 0 n (nI (loN (shr z 4) 20))
def rpX (z : Int32) (p : Nat) : Int32 := if p < 1 + loN z 4 then nI (loN (shr z (5 + p)) (if loN (shr z 14) 5 = 0 then 10000 else 130)) else -1
def rpK (σ : xS) (z : Int32) (n : Nat) : Nat → xS
  | 0 => rp1 σ z n
  | p + 1 => up3 (rpK σ z n p) 37 0 (4 * n + p) (rpX z p)
def rpQ (σ : xS) (z : Int32) (n : Nat) : xS := up3 (up3 (rpK σ z n 4) 38 0 n (-1)) 30 0 0 (nI (n + 1))
def rpA (τ : xS) (n : Nat) : List (Bool × String) := rpC τ (τ 35 0 n) (τ 36 0 n) (τ 37 0 (4 * n)) (τ 37 0 (4 * n + 1)) (τ 37 0 (4 * n + 2)) (τ 37 0 (4 * n + 3))
def rpN (τ : xS) (n : Nat) : xS := rpS τ (τ 35 0 n) (τ 36 0 n) (τ 37 0 (4 * n)) (τ 37 0 (4 * n + 1)) (τ 37 0 (4 * n + 2)) (τ 37 0 (4 * n + 3))
def rpE (σ : xS) (z : Int32) (n : Nat) : xS := oM (rpQ σ z n) (rpN (rpQ σ z n) n)
/-- setSessions and fix, in the law -/
def seV (z : Int32) : Nat := loN (shr z 4) 4
def seX (z : Int32) : Int32 := nI (loN (shr z 6) (if loN (shr z 13) 4 = 0 then 1000001 else 200))
def seS (σ : xS) (z : Int32) : xS := up3 σ 31 0 (4 + seV z) (seX z)
def seE (σ : xS) (z : Int32) : xS := oM (seS σ z) (ssS (seS σ z) (nI (seV z)) (seS σ z 31 0 (4 + seV z)))
def fiN (σ : xS) (z : Int32) : Nat := loN (shr z 4) (nv (σ 30 0 0))
def fiS (σ : xS) (z : Int32) : xS := up3 σ 38 0 (fiN σ z) (nI (1 + loN (shr z 9) 3))
def fiE (σ : xS) (z : Int32) : xS := oM (fiS σ z) (fxS (fiS σ z) (nI (fiN σ z)) (fiS σ z 38 0 (fiN σ z)))
end
section
/-! ===== rules of the law's world: the class's and the ten arrays ===== -/
def NLA : xNL := NLX ++ NLM
theorem NLA_X : ∀ n ∈ NLX, n ∈ NLA := fun _ h => List.mem_append_left _ h
theorem NLA_M : ∀ n ∈ NLM, n ∈ NLA := fun _ h => List.mem_append_right _ h
theorem NLX_lt : ∀ n ∈ NLX, ¬ 30 ≤ n.1 := by
  intro n hn e
  unfold NLX at hn
  simp only [List.mem_append, List.mem_map, List.mem_range] at hn
  rcases hn with ⟨i, hi, rfl⟩ | ⟨i, hi, rfl⟩ | ⟨i, hi, rfl⟩ | ⟨i, hi, rfl⟩ | ⟨i, hi, rfl⟩ | ⟨i, hi, rfl⟩ | ⟨i, hi, rfl⟩ <;> first | (dsimp only at e; omega) | (exact absurd e (by decide))
theorem NLM_ge : ∀ n ∈ NLM, 30 ≤ n.1 := by
  intro n hn
  unfold NLM at hn
  simp only [List.mem_map, List.mem_range] at hn
  obtain ⟨i, hi, rfl⟩ := hn
  show 30 ≤ 30 + i
  omega
theorem oM_X {g : xG} {a : xAd} {σ τ : xS} : xw NLX g a (oM σ τ) = xw NLX g a τ := xwf_congr (fun n hn => by unfold oM; rw [if_neg (NLX_lt n hn)])
theorem oM_M {g : xG} {a : xAd} {σ τ : xS} : xw NLM g a (oM σ τ) = xw NLM g a σ := xwf_congr (fun n hn => by unfold oM; rw [if_pos (NLM_ge n hn)])
theorem xwA {g : xG} {a : xAd} {σ : xS} : xw NLA g a σ = xw NLX g a σ ++ xw NLM g a σ := by
  unfold NLA xw xwf
  rw [List.map_append]
theorem xDj_A {a : xAd} (h : xDj NLA a) : xDj NLX a ∧ xDj NLM a ∧ ∀ n ∈ NLX, ∀ n' ∈ NLM, a n.1 n.2 ≠ a n'.1 n'.2 := by
  rw [xDj_nd] at h
  unfold NLA at h
  rw [List.map_append, List.nodup_append] at h
  refine ⟨xDj_nd.mpr h.1, xDj_nd.mpr h.2.1, fun n hn n' hn' e => ?_⟩
  first
    | exact h.2.2 _ (List.mem_map.mpr ⟨n, hn, rfl⟩) _ (List.mem_map.mpr ⟨n', hn', rfl⟩) e
    | exact h.2.2 (List.mem_map.mpr ⟨n, hn, rfl⟩) (by rw [e]; exact List.mem_map.mpr ⟨n', hn', rfl⟩)
theorem xA_join {g : xG} {a : xAd} {σ τ : xS} {H H1 : Heap} (hj : xDj NLA a) (hP : va_P g.1 vwCl (xw NLA g a σ) H) (hB : va_P g.1 vwCl (xw NLX g a τ) H1) (hk : ∀ q : Nat, q < H.size → ¬ xA NLX a H.size q → H1[q]? = H[q]?) : va_P g.1 vwCl (xw NLA g a (oM σ τ)) H1 := by
  rw [xwA, oM_X, oM_M]
  exact hB.app (xwf_kept (NL' := NLX) (xwf_sub hP NLA_M) hk (fun n hn n' hn' e => (xDj_A hj).2.2 n' hn' n hn e.symm))
/-- answers a number, in a state; it throws nothing -/
def xMl (l : Launch) (y : MethodName) (ws : List Cond) (rm : Room) (mc ms : Nat) (g : xG) (a : xAd) (σ : xS) (As : List Value) (r : Int32) (τ : xS) : Prop :=
  ∀ sz : Nat, Met l y ws rm (va_Pc As (xPrz NLA g a σ sz)) (va_Qi (fun (q : Int32) (u : xS) => q = r ∧ u = τ) (fun u t => va_P g.1 vwCl (xw NLA g a u) t.heap) (xA NLA a sz)) mc ms (xA NLA a sz)
theorem x_ofWH {l : Launch} {y : MethodName} {ws ws' : List Cond} {rm : Room} {Pc : Array Value → State → Prop} {Qc : Array Value → State → Outcome → State → Prop} {mc ms : Nat} {free : Addr → Prop} {cc : ByteArray} {maxL : Nat} {ret : Option FieldType} {hh : List (Nat × Nat × Nat × Nat)}
    (hy : plainName y.cls = true) (hw : ws = Cond.codeWith y cc maxL ret hh :: ws')
    (body : ∀ p e s m args below meth c s₁, BodyLoose p l y (headSpec ws rm) cc maxL ret e s m args below meth c s₁ → c.maxLocals = maxL → Pc args s →
      W p l e (headSpec ws rm).room s m args below meth c s.heap [] 0 0 (MQ below Qc args s mc ms free) (entryFrame m args maxL)) : Met l y ws rm Pc Qc mc ms free := by
  refine MetFree.of_bodyS (code := cc) (maxLocals := maxL) (ret := ret) hy ?_ ?_
  · intro args s m h hn
    obtain ⟨m9, meth, c, hn9, h1, h2, h3, h4, -, h5, h6, -⟩ := Cond.codeWith_spec (atoms_spec (ws := ws) h _ (by rw [hw]; exact List.mem_cons_self))
    cases hn.symm.trans hn9
    exact ⟨meth, c, h1, h2, h3, h4, h5, h6⟩
  · intro p e s m args below meth c s₁ B hml hP _
    have hh0 : s₁.heap = s.heap := by rw [B.state]; rfl
    obtain ⟨t, a1, o, b1, b2, b3⟩ := body p e s m args below meth c s₁ B hml hP s₁ hh0 (Stand.of_body B)
    exact ⟨t, o, a1, b1, b2, ⟨b3.1, b3.2⟩⟩
section XLRULES
variable {p : Program} {l : Launch} {e : Env} {R : Room} {s : State} {m : MethodId} {args : Array Value} {below : List Frame} {meth : Method} {c : Code} {H : Heap} {locs : List Loc} {cells slots : Nat} {Q : State → Prop}
variable {cc : ByteArray} {pc nL : Nat} {ls : Array Slot} {rest st : List Value} {Ts : List Cond} {own : String} {g : xG} {a : xAd} {σ : xS}
variable {mc ms n index maxL : Nat} {y : MethodName} {bytes : ByteArray} {ret : Option FieldType} {ws : List Cond} {rm : Room} {C : String} {b : Nat} {As : List Value} {st0 : List Value} {τ : xS} {r : Int32} {okp : Prop} {ex : String → Prop} {A : Nat → Prop} {hh : List (Nat × Nat × Nat × Nat)}
/-- a loop that writes, and makes cells -/
theorem x_loopC {α : Type} (μ : α → Nat) (ce sl : α → Nat) (I : α → Heap → List Loc → Array Slot → Prop) (hs : ∀ (x : α) (H : Heap) (locs : List Loc) (ls : Array Slot), I x H locs ls → (∀ (y : α) (H : Heap) (locs : List Loc) (ls : Array Slot), I y H locs ls → μ y < μ x → W p l e R s m args below meth c H locs (ce y) (sl y) Q (F0 m pc ls st)) → W p l e R s m args below meth c H locs (ce x) (sl x) Q (F0 m pc ls st)) (x0 : α) (h0 : I x0 H locs ls) : W p l e R s m args below meth c H locs (ce x0) (sl x0) Q (F0 m pc ls st) := by
  have key : ∀ (n : Nat) (x : α) (H : Heap) (locs : List Loc) (ls : Array Slot), μ x < n → I x H locs ls → W p l e R s m args below meth c H locs (ce x) (sl x) Q (F0 m pc ls st) := by
    intro n
    induction n with
    | zero => intro x H locs ls h; exact absurd h (Nat.not_lt_zero _)
    | succ n ih => intro x H locs ls h hi; exact hs x H locs ls hi (fun y H locs ls hy hlt => ih y H locs ls (by omega) hy)
  exact key (μ x0 + 1) x0 H locs ls (Nat.lt_succ_self _) h0
/-- a call of the class's that may throw, with what it throws -/
theorem x_VXA (C0 : xC p s m args c cc nL Ts own NLA g a A) (hM : xMxi l y ws rm mc ms NLX g a σ (.ref b :: As) okp r τ ex) (hP : va_P g.1 vwCl (xw NLA g a σ) H) (hS : va_S A s.heap H locs) (hT : xZt s) (hZ : xZh A s s.heap) (cw : CallW R s args own C index y bytes maxL ret ws rm mc ms n) (hrecv : ∃ cell : Cell, H[b]? = some cell ∧ cell.vm.isStatics = false ∧ s.vm.findClass C = some cell.cls) (hn : As.length = n) {lv : List (Nat × Value)} (hl : lv_has ls nL lv) (hst : st0 = As.reverse ++ .ref b :: rest) (hW : (rest.map fun v => v.category).sum ≤ 8) (hc1 : cells + mc ≤ R.cells) (hs1 : slots + ms ≤ R.slots) (hdg : decode cc pc = .ok (.invokevirtual index, 3))
    (kx : xKX p l e R s m args below meth c (cells + mc) (slots + ms) Q NLA g a A σ ex (F0 m pc ls rest))
    (kk : ∀ (H1 : Heap) (locs1 : List Loc), okp → va_P g.1 vwCl (xw NLA g a (oM σ τ)) H1 → va_S A s.heap H1 locs1 → W p l e R s m args below meth c H1 locs1 (cells + mc) (slots + ms) Q (F0 m (pc + 3) ls (.int r :: rest))) : W p l e R s m args below meth c H locs cells slots Q (F0 m pc ls st0) := by
  have h2 := xA_sub (NL' := NLX) C0 hS NLA_X
  have hj := C0.2.2.2.1
  have hPX : va_P g.1 vwCl (xw NLX g a σ) H := xwf_sub hP NLA_X
  refine vx_calli (vx_runV (g := F0 m pc ls st0) (As := As) (rest := rest) C0.1 (hM H.size) cw ⟨xFBz, hrecv, x_prez C0 hPX (xDj_A hj).1 hS NLA_X hT hZ⟩ rfl hn hl.1 hst (lv_room hW) hdg ⟨hc1, hs1⟩) hS (fun q _ h => h2 q h) h2 (fun q _ h => h2 q h) (fun E ce q u t H1 locs1 ht hvm hu hB hz hk hS1 hq hv hcl => ?_) (fun q u t H1 locs1 ht hvm hw hB hz hk hS1 => ?_)
  · have hB2 := hB.2
    rw [ht] at hB2
    have h9 := xA_join hj hP hB2 hk
    rw [oM_self] at h9
    exact kx E ce q H1 locs1 hB.1 h9 hS1 hq hv hcl
  · obtain ⟨⟨h9, rfl⟩, rfl⟩ := hw
    rw [ht] at hB
    exact kk H1 locs1 h9 (xA_join hj hP hB hk) hS1
/-- .. that throws nothing here -/
theorem x_VXN (C0 : xC p s m args c cc nL Ts own NLA g a A) (hM : xMxi l y ws rm mc ms NLX g a σ (.ref b :: As) okp r τ ex) (hno : ∀ E, ¬ ex E) (hP : va_P g.1 vwCl (xw NLA g a σ) H) (hS : va_S A s.heap H locs) (hT : xZt s) (hZ : xZh A s s.heap) (cw : CallW R s args own C index y bytes maxL ret ws rm mc ms n) (hrecv : ∃ cell : Cell, H[b]? = some cell ∧ cell.vm.isStatics = false ∧ s.vm.findClass C = some cell.cls) (hn : As.length = n) {lv : List (Nat × Value)} (hl : lv_has ls nL lv) (hst : st0 = As.reverse ++ .ref b :: rest) (hW : (rest.map fun v => v.category).sum ≤ 8) (hc1 : cells + mc ≤ R.cells) (hs1 : slots + ms ≤ R.slots) (hdg : decode cc pc = .ok (.invokevirtual index, 3))
    (kk : ∀ (H1 : Heap) (locs1 : List Loc), va_P g.1 vwCl (xw NLA g a (oM σ τ)) H1 → va_S A s.heap H1 locs1 → W p l e R s m args below meth c H1 locs1 (cells + mc) (slots + ms) Q (F0 m (pc + 3) ls (.int r :: rest))) : W p l e R s m args below meth c H locs cells slots Q (F0 m pc ls st0) :=
  x_VXA C0 hM hP hS hT hZ cw hrecv hn hl hst hW hc1 hs1 hdg (fun E _ _ _ _ h => absurd h (hno E)) (fun H1 locs1 _ h1 h2 => kk H1 locs1 h1 h2)
/-- .. and changes nothing -/
theorem x_VXR (C0 : xC p s m args c cc nL Ts own NLA g a A) (hM : xMxi l y ws rm mc ms NLX g a σ (.ref b :: As) okp r σ ex) (hno : ∀ E, ¬ ex E) (hP : va_P g.1 vwCl (xw NLA g a σ) H) (hS : va_S A s.heap H locs) (hT : xZt s) (hZ : xZh A s s.heap) (cw : CallW R s args own C index y bytes maxL ret ws rm mc ms n) (hrecv : ∃ cell : Cell, H[b]? = some cell ∧ cell.vm.isStatics = false ∧ s.vm.findClass C = some cell.cls) (hn : As.length = n) {lv : List (Nat × Value)} (hl : lv_has ls nL lv) (hst : st0 = As.reverse ++ .ref b :: rest) (hW : (rest.map fun v => v.category).sum ≤ 8) (hc1 : cells + mc ≤ R.cells) (hs1 : slots + ms ≤ R.slots) (hdg : decode cc pc = .ok (.invokevirtual index, 3))
    (kk : ∀ (H1 : Heap) (locs1 : List Loc), va_P g.1 vwCl (xw NLA g a σ) H1 → va_S A s.heap H1 locs1 → W p l e R s m args below meth c H1 locs1 (cells + mc) (slots + ms) Q (F0 m (pc + 3) ls (.int r :: rest))) : W p l e R s m args below meth c H locs cells slots Q (F0 m pc ls st0) :=
  x_VXN C0 hM hno hP hS hT hZ cw hrecv hn hl hst hW hc1 hs1 hdg (fun H1 locs1 h1 h2 => kk H1 locs1 (by rw [oM_self] at h1; exact h1) h2)
/-- the law's own methods -/
theorem x_LS (C0 : xC p s m args c cc nL Ts own NLA g a A) (hM : xMl l y ws rm mc ms g a σ As r τ) (hP : va_P g.1 vwCl (xw NLA g a σ) H) (hS : va_S A s.heap H locs) (hT : xZt s) (hZ : xZh A s s.heap) (cw : CallB R s args own index y bytes maxL ret ws rm mc ms n ∧ (Cond.static y).before args s = true) (hn : As.length = n) {lv : List (Nat × Value)} (hl : lv_has ls nL lv) (hst : st0 = As.reverse ++ rest) (hW : (rest.map fun v => v.category).sum ≤ 8) (hc1 : cells + mc ≤ R.cells) (hs1 : slots + ms ≤ R.slots) (hdg : decode cc pc = .ok (.invokestatic index, 3))
    (kk : ∀ (H1 : Heap) (locs1 : List Loc), va_P g.1 vwCl (xw NLA g a τ) H1 → va_S A s.heap H1 locs1 → W p l e R s m args below meth c H1 locs1 (cells + mc) (slots + ms) Q (F0 m (pc + 3) ls (.int r :: rest))) : W p l e R s m args below meth c H locs cells slots Q (F0 m pc ls st0) := by
  have h2 := xA_sub (NL' := NLA) C0 hS (fun n h => h)
  refine va_calli (va_runS (g := F0 m pc ls st0) (As := As) (rest := rest) C0.1 (hM H.size) cw ⟨xFBz, x_prez C0 hP C0.2.2.2.1 hS (fun n h => h) hT hZ⟩ rfl hn hl.1 hst (lv_room hW) hdg ⟨hc1, hs1⟩) hS (fun q _ h => h2 q h) (fun q h => h2 q h) (fun q u t H1 locs1 ht hvm hw hB hz hk hS1 => ?_)
  obtain ⟨rfl, rfl⟩ := hw
  rw [ht] at hB
  exact kk H1 locs1 hB hS1
theorem x_LSW (C0 : xC p s m args c cc nL Ts own NLA g a A) (hM : xMl l y ws rm mc ms g a σ As r τ) (hP : va_P g.1 vwCl (xw NLA g a σ) H) (hS : va_S A s.heap H locs) (hT : xZt s) (hZ : xZh A s s.heap) (cw : vx_CSW R s args own index y bytes maxL ret hh ws rm mc ms n) (hn : As.length = n) {lv : List (Nat × Value)} (hl : lv_has ls nL lv) (hst : st0 = As.reverse ++ rest) (hW : (rest.map fun v => v.category).sum ≤ 8) (hc1 : cells + mc ≤ R.cells) (hs1 : slots + ms ≤ R.slots) (hdg : decode cc pc = .ok (.invokestatic index, 3))
    (kk : ∀ (H1 : Heap) (locs1 : List Loc), va_P g.1 vwCl (xw NLA g a τ) H1 → va_S A s.heap H1 locs1 → W p l e R s m args below meth c H1 locs1 (cells + mc) (slots + ms) Q (F0 m (pc + 3) ls (.int r :: rest))) : W p l e R s m args below meth c H locs cells slots Q (F0 m pc ls st0) := by
  have h2 := xA_sub (NL' := NLA) C0 hS (fun n h => h)
  refine va_calli (vx_runSW (g := F0 m pc ls st0) (As := As) (rest := rest) C0.1 (hM H.size) cw ⟨xFBz, x_prez C0 hP C0.2.2.2.1 hS (fun n h => h) hT hZ⟩ rfl hn hl.1 hst (lv_room hW) hdg ⟨hc1, hs1⟩) hS (fun q _ h => h2 q h) (fun q h => h2 q h) (fun q u t H1 locs1 ht hvm hw hB hz hk hS1 => ?_)
  obtain ⟨rfl, rfl⟩ := hw
  rw [ht] at hB
  exact kk H1 locs1 hB hS1
theorem x_Sv (C0 : xC p s m args c cc nL Ts own NLA g a A) (hM : xMv l y ws rm NLA g a σ As τ) (hP : va_P g.1 vwCl (xw NLA g a σ) H) (hS : va_S A s.heap H locs) (cw : CallB R s args own index y bytes maxL ret ws rm 0 0 n ∧ (Cond.static y).before args s = true) (hn : As.length = n) {lv : List (Nat × Value)} (hl : lv_has ls nL lv) (hst : st0 = As.reverse ++ rest) (hW : (rest.map fun v => v.category).sum ≤ 8) (hc1 : cells ≤ R.cells) (hs1 : slots ≤ R.slots) (hdg : decode cc pc = .ok (.invokestatic index, 3))
    (kk : ∀ (H1 : Heap) (locs1 : List Loc), va_P g.1 vwCl (xw NLA g a τ) H1 → va_S A s.heap H1 locs1 → W p l e R s m args below meth c H1 locs1 cells slots Q (F0 m (pc + 3) ls rest)) : W p l e R s m args below meth c H locs cells slots Q (F0 m pc ls st0) := by
  obtain ⟨h1, h2⟩ := x_AA C0 hS
  refine va_callv (va_runS (g := F0 m pc ls st0) (As := As) (rest := rest) C0.1 (hM H.size) cw ⟨xFBs, x_pres C0 hP C0.2.2.2.1⟩ rfl hn hl.1 hst (lv_room hW) hdg ⟨hc1, hs1⟩) hS h1 h2 (fun u t H1 locs1 ht hvm hw hB hz hk hS1 => ?_)
  subst hw
  rw [ht] at hB
  exact kk H1 locs1 hB hS1
/-- caught by the table's row -/
theorem x_catch (C0 : xC p s m args c cc nL Ts own NLA g a A) (hT : xZt s) {E name : String} {ce : Cell} {q : Addr} (pre : List ExceptionTableEntry) (x : ExceptionTableEntry) (suf : List ExceptionTableEntry) (hsplit : c.exceptionTable.toList = pre ++ x :: suf)
    (hpass : ∀ z ∈ pre, covers z pc = false ∨ (z.catchType ≠ 0 ∧ ∃ nm : String, (Cond.classLink own z.catchType nm).before args s = true ∧ va_Nc E nm s)) (hx : covers x pc = true) (h0 : x.catchType ≠ 0) {ct : Nat} (hct : x.catchType = ct)
    (hlink : Cond.classLink own ct name ∈ Ts) (hEn : E = name) (hcast : Cond.castable name name ∈ xTw) (hcell : H[q]? = some ce) (hv : ce.vm = .none) (hcl : s.vm.findClass E = some ce.cls)
    (kk : W p l e R s m args below meth c H locs cells slots Q (F0 m x.handlerPc ls [.ref q])) : vx_W p l e R s m args below meth c H locs cells slots Q (F0 m pc ls rest) q := by
  subst hct
  subst hEn
  exact vx_catch C0.1.2.2.2.1 pre x suf hsplit hpass hx h0 (C0.hts _ hlink) (va_Nw.use rfl (hT.1 _ hcast)) hcell hv hcl kk
end XLRULES
end

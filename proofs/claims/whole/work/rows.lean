section
-- ===== PART A: goes FIRST, ahead of the names: the tables' words, and 'selects' of the private methods out of them =====
/-- a private method of a class that the tables say can be made, by its rows of tables_1 -/
def lw_okq (q : MethodName × Nat) : Prop := (q.1.cls ≠ "java/lang/invoke/MethodHandle" ∧ q.1.cls ≠ "java/lang/invoke/VarHandle") ∧ Cond.instantiable q.1.cls q.2 ∈ tables_1 ∧ Cond.privateMethod q.1 ∈ tables_1 ∧ Cond.instanceMethod q.1 ∈ tables_1
theorem lw_p0 : lw_okq (⟨"CrashBuckets$Buckets", "isName", "(I)Z"⟩, 4) := ⟨⟨by decide +kernel, by decide +kernel⟩, List.mem_of_getElem? (i := 99) (by decide +kernel), List.mem_of_getElem? (i := 149) (by decide +kernel), List.mem_of_getElem? (i := 150) (by decide +kernel)⟩
theorem lw_p1 : lw_okq (⟨"java/lang/Throwable", "fillInStackTrace", "(I)Ljava/lang/Throwable;"⟩, 6) := ⟨⟨by decide +kernel, by decide +kernel⟩, List.mem_of_getElem? (i := 206) (by decide +kernel), List.mem_of_getElem? (i := 204) (by decide +kernel), List.mem_of_getElem? (i := 205) (by decide +kernel)⟩
theorem lw_p2 : lw_okq (⟨"CrashBuckets$AddressMaps", "isFull", "(I)Z"⟩, 4) := ⟨⟨by decide +kernel, by decide +kernel⟩, List.mem_of_getElem? (i := 24) (by decide +kernel), List.mem_of_getElem? (i := 236) (by decide +kernel), List.mem_of_getElem? (i := 237) (by decide +kernel)⟩
theorem lw_p3 : lw_okq (⟨"CrashBuckets$AddressMaps", "overlaps", "(III)Z"⟩, 4) := ⟨⟨by decide +kernel, by decide +kernel⟩, List.mem_of_getElem? (i := 24) (by decide +kernel), List.mem_of_getElem? (i := 256) (by decide +kernel), List.mem_of_getElem? (i := 257) (by decide +kernel)⟩
theorem lw_p4 : lw_okq (⟨"CrashBuckets$AddressMaps", "add", "(IIII)V"⟩, 4) := ⟨⟨by decide +kernel, by decide +kernel⟩, List.mem_of_getElem? (i := 24) (by decide +kernel), List.mem_of_getElem? (i := 261) (by decide +kernel), List.mem_of_getElem? (i := 262) (by decide +kernel)⟩
theorem lw_p5 : lw_okq (⟨"CrashBuckets$Buckets", "readStacksOf", "(ILCrashBuckets$Reports;LCrashBuckets$AddressMaps;)V"⟩, 4) := ⟨⟨by decide +kernel, by decide +kernel⟩, List.mem_of_getElem? (i := 99) (by decide +kernel), List.mem_of_getElem? (i := 265) (by decide +kernel), List.mem_of_getElem? (i := 266) (by decide +kernel)⟩
theorem lw_p6 : lw_okq (⟨"CrashBuckets$Buckets", "readStack", "(ILCrashBuckets$Reports;LCrashBuckets$AddressMaps;)V"⟩, 4) := ⟨⟨by decide +kernel, by decide +kernel⟩, List.mem_of_getElem? (i := 99) (by decide +kernel), List.mem_of_getElem? (i := 269) (by decide +kernel), List.mem_of_getElem? (i := 270) (by decide +kernel)⟩
theorem lw_p7 : lw_okq (⟨"CrashBuckets$AddressMaps", "functionAt", "(II)I"⟩, 4) := ⟨⟨by decide +kernel, by decide +kernel⟩, List.mem_of_getElem? (i := 24) (by decide +kernel), List.mem_of_getElem? (i := 273) (by decide +kernel), List.mem_of_getElem? (i := 274) (by decide +kernel)⟩
theorem lw_p8 : lw_okq (⟨"CrashBuckets$Buckets", "sortAll", "(LCrashBuckets$Reports;LCrashBuckets$Rules;)V"⟩, 4) := ⟨⟨by decide +kernel, by decide +kernel⟩, List.mem_of_getElem? (i := 99) (by decide +kernel), List.mem_of_getElem? (i := 277) (by decide +kernel), List.mem_of_getElem? (i := 278) (by decide +kernel)⟩
theorem lw_p9 : lw_okq (⟨"CrashBuckets$Buckets", "sort", "(ILCrashBuckets$Reports;LCrashBuckets$Rules;)V"⟩, 4) := ⟨⟨by decide +kernel, by decide +kernel⟩, List.mem_of_getElem? (i := 99) (by decide +kernel), List.mem_of_getElem? (i := 281) (by decide +kernel), List.mem_of_getElem? (i := 282) (by decide +kernel)⟩
theorem lw_p10 : lw_okq (⟨"CrashBuckets$Buckets", "pickMattering", "(ILCrashBuckets$Rules;)V"⟩, 4) := ⟨⟨by decide +kernel, by decide +kernel⟩, List.mem_of_getElem? (i := 99) (by decide +kernel), List.mem_of_getElem? (i := 285) (by decide +kernel), List.mem_of_getElem? (i := 286) (by decide +kernel)⟩
theorem lw_p11 : lw_okq (⟨"CrashBuckets$Rules", "inTheEnd", "(I)I"⟩, 3) := ⟨⟨by decide +kernel, by decide +kernel⟩, List.mem_of_getElem? (i := 47) (by decide +kernel), List.mem_of_getElem? (i := 289) (by decide +kernel), List.mem_of_getElem? (i := 290) (by decide +kernel)⟩
theorem lw_p12 : lw_okq (⟨"CrashBuckets$Buckets", "signatureOf", "(ILCrashBuckets$Reports;)I"⟩, 4) := ⟨⟨by decide +kernel, by decide +kernel⟩, List.mem_of_getElem? (i := 99) (by decide +kernel), List.mem_of_getElem? (i := 293) (by decide +kernel), List.mem_of_getElem? (i := 294) (by decide +kernel)⟩
theorem lw_p13 : lw_okq (⟨"CrashBuckets$Rules", "leadsTo", "(II)Z"⟩, 3) := ⟨⟨by decide +kernel, by decide +kernel⟩, List.mem_of_getElem? (i := 47) (by decide +kernel), List.mem_of_getElem? (i := 311) (by decide +kernel), List.mem_of_getElem? (i := 312) (by decide +kernel)⟩
theorem lw_p14 : lw_okq (⟨"CrashBuckets$Reports", "add", "(II)I"⟩, 5) := ⟨⟨by decide +kernel, by decide +kernel⟩, List.mem_of_getElem? (i := 69) (by decide +kernel), List.mem_of_getElem? (i := 334) (by decide +kernel), List.mem_of_getElem? (i := 335) (by decide +kernel)⟩
theorem lw_p15 : lw_okq (⟨"CrashBuckets$Reports", "setStack", "(IIIII)V"⟩, 5) := ⟨⟨by decide +kernel, by decide +kernel⟩, List.mem_of_getElem? (i := 69) (by decide +kernel), List.mem_of_getElem? (i := 338) (by decide +kernel), List.mem_of_getElem? (i := 339) (by decide +kernel)⟩
def lw_privs_1 : List (MethodName × Nat) := [(⟨"CrashBuckets$Buckets", "isName", "(I)Z"⟩, 4), (⟨"java/lang/Throwable", "fillInStackTrace", "(I)Ljava/lang/Throwable;"⟩, 6), (⟨"CrashBuckets$AddressMaps", "isFull", "(I)Z"⟩, 4), (⟨"CrashBuckets$AddressMaps", "overlaps", "(III)Z"⟩, 4), (⟨"CrashBuckets$AddressMaps", "add", "(IIII)V"⟩, 4), (⟨"CrashBuckets$Buckets", "readStacksOf", "(ILCrashBuckets$Reports;LCrashBuckets$AddressMaps;)V"⟩, 4), (⟨"CrashBuckets$Buckets", "readStack", "(ILCrashBuckets$Reports;LCrashBuckets$AddressMaps;)V"⟩, 4), (⟨"CrashBuckets$AddressMaps", "functionAt", "(II)I"⟩, 4), (⟨"CrashBuckets$Buckets", "sortAll", "(LCrashBuckets$Reports;LCrashBuckets$Rules;)V"⟩, 4), (⟨"CrashBuckets$Buckets", "sort", "(ILCrashBuckets$Reports;LCrashBuckets$Rules;)V"⟩, 4), (⟨"CrashBuckets$Buckets", "pickMattering", "(ILCrashBuckets$Rules;)V"⟩, 4), (⟨"CrashBuckets$Rules", "inTheEnd", "(I)I"⟩, 3), (⟨"CrashBuckets$Buckets", "signatureOf", "(ILCrashBuckets$Reports;)I"⟩, 4), (⟨"CrashBuckets$Rules", "leadsTo", "(II)Z"⟩, 3), (⟨"CrashBuckets$Reports", "add", "(II)I"⟩, 5), (⟨"CrashBuckets$Reports", "setStack", "(IIIII)V"⟩, 5)]
theorem lw_r1 : ∀ q ∈ lw_privs_1, lw_okq q := List.forall_mem_cons.mpr ⟨lw_p0, List.forall_mem_cons.mpr ⟨lw_p1, List.forall_mem_cons.mpr ⟨lw_p2, List.forall_mem_cons.mpr ⟨lw_p3, List.forall_mem_cons.mpr ⟨lw_p4, List.forall_mem_cons.mpr ⟨lw_p5, List.forall_mem_cons.mpr ⟨lw_p6, List.forall_mem_cons.mpr ⟨lw_p7, List.forall_mem_cons.mpr ⟨lw_p8, List.forall_mem_cons.mpr ⟨lw_p9, List.forall_mem_cons.mpr ⟨lw_p10, List.forall_mem_cons.mpr ⟨lw_p11, List.forall_mem_cons.mpr ⟨lw_p12, List.forall_mem_cons.mpr ⟨lw_p13, List.forall_mem_cons.mpr ⟨lw_p14, List.forall_mem_cons.mpr ⟨lw_p15, fun _ h => absurd h List.not_mem_nil⟩⟩⟩⟩⟩⟩⟩⟩⟩⟩⟩⟩⟩⟩⟩⟩
theorem lw_p16 : lw_okq (⟨"CrashBuckets", "checkReport", "(I)V"⟩, 6) := ⟨⟨by decide +kernel, by decide +kernel⟩, List.mem_of_getElem? (i := 16) (by decide +kernel), List.mem_of_getElem? (i := 352) (by decide +kernel), List.mem_of_getElem? (i := 353) (by decide +kernel)⟩
theorem lw_p17 : lw_okq (⟨"CrashBuckets", "countIn", "(II)I"⟩, 6) := ⟨⟨by decide +kernel, by decide +kernel⟩, List.mem_of_getElem? (i := 16) (by decide +kernel), List.mem_of_getElem? (i := 393) (by decide +kernel), List.mem_of_getElem? (i := 394) (by decide +kernel)⟩
theorem lw_p18 : lw_okq (⟨"CrashBuckets", "isOf", "(III)Z"⟩, 6) := ⟨⟨by decide +kernel, by decide +kernel⟩, List.mem_of_getElem? (i := 16) (by decide +kernel), List.mem_of_getElem? (i := 397) (by decide +kernel), List.mem_of_getElem? (i := 398) (by decide +kernel)⟩
theorem lw_p19 : lw_okq (⟨"CrashBuckets", "rateOf", "(II)I"⟩, 6) := ⟨⟨by decide +kernel, by decide +kernel⟩, List.mem_of_getElem? (i := 16) (by decide +kernel), List.mem_of_getElem? (i := 423) (by decide +kernel), List.mem_of_getElem? (i := 424) (by decide +kernel)⟩
theorem lw_p20 : lw_okq (⟨"CrashBuckets", "usersOf", "(II)I"⟩, 6) := ⟨⟨by decide +kernel, by decide +kernel⟩, List.mem_of_getElem? (i := 16) (by decide +kernel), List.mem_of_getElem? (i := 434) (by decide +kernel), List.mem_of_getElem? (i := 435) (by decide +kernel)⟩
theorem lw_p21 : lw_okq (⟨"CrashBuckets", "greatestRateBefore", "(II)I"⟩, 6) := ⟨⟨by decide +kernel, by decide +kernel⟩, List.mem_of_getElem? (i := 16) (by decide +kernel), List.mem_of_getElem? (i := 473) (by decide +kernel), List.mem_of_getElem? (i := 474) (by decide +kernel)⟩
theorem lw_p22 : lw_okq (⟨"CrashBucketsModel", "fails", "(I)I"⟩, 18) := ⟨⟨by decide +kernel, by decide +kernel⟩, List.mem_of_getElem? (i := 480) (by decide +kernel), List.mem_of_getElem? (i := 561) (by decide +kernel), List.mem_of_getElem? (i := 562) (by decide +kernel)⟩
theorem lw_p23 : lw_okq (⟨"CrashBucketsModel", "leads", "(II)Z"⟩, 18) := ⟨⟨by decide +kernel, by decide +kernel⟩, List.mem_of_getElem? (i := 480) (by decide +kernel), List.mem_of_getElem? (i := 573) (by decide +kernel), List.mem_of_getElem? (i := 574) (by decide +kernel)⟩
theorem lw_p24 : lw_okq (⟨"CrashBucketsModel", "isReport", "(I)Z"⟩, 18) := ⟨⟨by decide +kernel, by decide +kernel⟩, List.mem_of_getElem? (i := 480) (by decide +kernel), List.mem_of_getElem? (i := 596) (by decide +kernel), List.mem_of_getElem? (i := 597) (by decide +kernel)⟩
theorem lw_p25 : lw_okq (⟨"CrashBucketsModel", "frameOf", "(II)I"⟩, 18) := ⟨⟨by decide +kernel, by decide +kernel⟩, List.mem_of_getElem? (i := 480) (by decide +kernel), List.mem_of_getElem? (i := 600) (by decide +kernel), List.mem_of_getElem? (i := 601) (by decide +kernel)⟩
theorem lw_p26 : lw_okq (⟨"CrashBucketsModel", "keys", "(I)V"⟩, 18) := ⟨⟨by decide +kernel, by decide +kernel⟩, List.mem_of_getElem? (i := 480) (by decide +kernel), List.mem_of_getElem? (i := 608) (by decide +kernel), List.mem_of_getElem? (i := 609) (by decide +kernel)⟩
theorem lw_p27 : lw_okq (⟨"CrashBucketsModel", "root", "(I)I"⟩, 18) := ⟨⟨by decide +kernel, by decide +kernel⟩, List.mem_of_getElem? (i := 480) (by decide +kernel), List.mem_of_getElem? (i := 612) (by decide +kernel), List.mem_of_getElem? (i := 613) (by decide +kernel)⟩
theorem lw_p28 : lw_okq (⟨"CrashBucketsModel", "names", "()V"⟩, 18) := ⟨⟨by decide +kernel, by decide +kernel⟩, List.mem_of_getElem? (i := 480) (by decide +kernel), List.mem_of_getElem? (i := 620) (by decide +kernel), List.mem_of_getElem? (i := 621) (by decide +kernel)⟩
theorem lw_p29 : lw_okq (⟨"CrashBucketsModel", "isSame", "(II)Z"⟩, 18) := ⟨⟨by decide +kernel, by decide +kernel⟩, List.mem_of_getElem? (i := 480) (by decide +kernel), List.mem_of_getElem? (i := 624) (by decide +kernel), List.mem_of_getElem? (i := 625) (by decide +kernel)⟩
theorem lw_p30 : lw_okq (⟨"CrashBucketsModel", "rateOf", "(II)I"⟩, 18) := ⟨⟨by decide +kernel, by decide +kernel⟩, List.mem_of_getElem? (i := 480) (by decide +kernel), List.mem_of_getElem? (i := 649) (by decide +kernel), List.mem_of_getElem? (i := 650) (by decide +kernel)⟩
theorem lw_p31 : lw_okq (⟨"CrashBucketsModel", "usersOf", "(II)I"⟩, 18) := ⟨⟨by decide +kernel, by decide +kernel⟩, List.mem_of_getElem? (i := 480) (by decide +kernel), List.mem_of_getElem? (i := 657) (by decide +kernel), List.mem_of_getElem? (i := 658) (by decide +kernel)⟩
def lw_privs_2 : List (MethodName × Nat) := [(⟨"CrashBuckets", "checkReport", "(I)V"⟩, 6), (⟨"CrashBuckets", "countIn", "(II)I"⟩, 6), (⟨"CrashBuckets", "isOf", "(III)Z"⟩, 6), (⟨"CrashBuckets", "rateOf", "(II)I"⟩, 6), (⟨"CrashBuckets", "usersOf", "(II)I"⟩, 6), (⟨"CrashBuckets", "greatestRateBefore", "(II)I"⟩, 6), (⟨"CrashBucketsModel", "fails", "(I)I"⟩, 18), (⟨"CrashBucketsModel", "leads", "(II)Z"⟩, 18), (⟨"CrashBucketsModel", "isReport", "(I)Z"⟩, 18), (⟨"CrashBucketsModel", "frameOf", "(II)I"⟩, 18), (⟨"CrashBucketsModel", "keys", "(I)V"⟩, 18), (⟨"CrashBucketsModel", "root", "(I)I"⟩, 18), (⟨"CrashBucketsModel", "names", "()V"⟩, 18), (⟨"CrashBucketsModel", "isSame", "(II)Z"⟩, 18), (⟨"CrashBucketsModel", "rateOf", "(II)I"⟩, 18), (⟨"CrashBucketsModel", "usersOf", "(II)I"⟩, 18)]
theorem lw_r2 : ∀ q ∈ lw_privs_2, lw_okq q := List.forall_mem_cons.mpr ⟨lw_p16, List.forall_mem_cons.mpr ⟨lw_p17, List.forall_mem_cons.mpr ⟨lw_p18, List.forall_mem_cons.mpr ⟨lw_p19, List.forall_mem_cons.mpr ⟨lw_p20, List.forall_mem_cons.mpr ⟨lw_p21, List.forall_mem_cons.mpr ⟨lw_p22, List.forall_mem_cons.mpr ⟨lw_p23, List.forall_mem_cons.mpr ⟨lw_p24, List.forall_mem_cons.mpr ⟨lw_p25, List.forall_mem_cons.mpr ⟨lw_p26, List.forall_mem_cons.mpr ⟨lw_p27, List.forall_mem_cons.mpr ⟨lw_p28, List.forall_mem_cons.mpr ⟨lw_p29, List.forall_mem_cons.mpr ⟨lw_p30, List.forall_mem_cons.mpr ⟨lw_p31, fun _ h => absurd h List.not_mem_nil⟩⟩⟩⟩⟩⟩⟩⟩⟩⟩⟩⟩⟩⟩⟩⟩
def lw_privs : List (MethodName × Nat) := lw_privs_1 ++ (lw_privs_2)
def lw_tbl : List Cond := k2_sels lw_privs ++ tables_1
theorem lw_privs_ok : ∀ q ∈ lw_privs, lw_okq q := by
  show ∀ q ∈ lw_privs_1 ++ (lw_privs_2), lw_okq q
  exact List.forall_mem_append.mpr ⟨lw_r1, lw_r2⟩
end
section
/-- an array of arrays is known by its component -/
def va_AOA (ty : FieldType) (U : State) : Prop := (Cond.arrayOver (.array ty)).before #[] U = true
theorem va_AOA.of {ty : FieldType} {A : Array Value} {U : State} (h : (Cond.arrayOver (.array ty)).before A U = true) : va_AOA ty U := h
theorem va_AOA.use {ty : FieldType} {A : Array Value} {U : State} (h : va_AOA ty U) : (Cond.arrayOver (.array ty)).before A U = true := h
/-! ===== BEGIN words of one list among another's, by their places ===== -/
theorem goodIn_r {big : List Cond} (ws : List Cond) (ps : List Nat) (hp : ws = ps.filterMap (fun i => big[i]?)) (h : ws.all goodWord = true) : GoodIn big ws := by
  intro w hw
  have h1 := List.all_eq_true.mp h w hw
  rw [hp] at hw
  obtain ⟨i, -, hi⟩ := List.mem_filterMap.mp hw
  have hm : w ∈ big := by first | exact List.mem_of_getElem? hi | exact List.getElem?_mem hi
  exact ⟨hm, good_of_word h1⟩
theorem goodIn_app {big a b : List Cond} (ha : GoodIn big a) (hb : GoodIn big b) : GoodIn big (a ++ b) := fun w h => (List.mem_append.mp h).elim (ha w) (hb w)
theorem goodIn_ca {big a b : List Cond} {c : Cond} (ha : GoodIn big (c :: a)) (hb : GoodIn big b) : GoodIn big (c :: (a ++ b)) := fun w h => (List.mem_cons.mp h).elim (fun e => ha w (List.mem_cons.mpr (Or.inl e))) (fun h => (List.mem_append.mp h).elim (fun h => ha w (List.mem_cons.mpr (Or.inr h))) (hb w))
theorem goodIn_sub {big ws : List Cond} (hm : ∀ w ∈ ws, w ∈ big) (h : ws.all goodWord = true) : GoodIn big ws := fun w hw => ⟨hm w hw, good_of_word (List.all_eq_true.mp h w hw)⟩
/-! ===== END ===== -/

/-! ===== BEGIN new T[n][m]: the outer array a place, the inner ones among the pooled ===== -/
/-- f, but v at every address of l -/
def vr_up {α : Type} (f : Nat → α) (l : List Nat) (v : α) : Nat → α := fun a => if a ∈ l then v else f a
theorem vr_up_in {α : Type} {f : Nat → α} {l : List Nat} {v : α} {a : Nat} (h : a ∈ l) : vr_up f l v a = v := if_pos h
theorem vr_up_ne {α : Type} {f : Nat → α} {l : List Nat} {v : α} {a : Nat} (h : a ∉ l) : vr_up f l v a = f a := if_neg h
theorem vr_rows {L l : List Nat} {f : Nat → va_E} {e : va_E} (h : ∀ a, a ∈ l → a ∉ L) : va_pl L f ++ l.map (fun a => (a, e)) = va_pl (L ++ l) (vr_up f l e) := by
  unfold va_pl
  rw [List.map_append]
  congr 1
  · apply List.map_congr_left
    intro a ha
    rw [vr_up_ne (fun q => h a q ha)]
  · apply List.map_congr_left
    intro a ha
    rw [vr_up_in ha]
theorem vr_lay {X rows : va_W} {x : Nat × va_E} {pl : va_W} {D : va_G} {cl : List vw_C} {H : Heap} (hP : va_P D cl (((X ++ pl) ++ [x]) ++ rows) H) : va_P D cl ((X ++ [x]) ++ (pl ++ rows)) H := by
  rw [List.append_assoc (X ++ pl)] at hP
  have h := va_P.swap hP
  rw [← List.append_assoc X] at h
  have h2 := va_P.swap h
  rw [List.append_assoc (X ++ [x])] at h2
  exact h2
theorem vr_layD {X rows : va_W} {x : Nat × va_E} {pl : va_W} {A : Nat → Prop} (hD : va_D A (((X ++ pl) ++ [x]) ++ rows)) : va_D A ((X ++ [x]) ++ (pl ++ rows)) := by
  rw [List.append_assoc (X ++ pl)] at hD
  have h := va_D.swap hD
  rw [← List.append_assoc X] at h
  have h2 := va_D.swap h
  rw [List.append_assoc (X ++ [x])] at h2
  exact h2
theorem vr_outer (c : ClassId) (N h0 : Nat) : ∀ i : Nat, Jvm.Free.Multi.outerC c N h0 i = arrV c N (fun j => va_rf (if j < i then some (h0 + 1 + j) else none))
  | 0 => by
    show ({ cls := c, slots := Array.replicate N .null, vm := .none } : Cell) = _
    rw [arrV_new]
    refine congrArg (arrV c N) (funext fun j => ?_)
    simp [va_rf]
  | i + 1 => by
    show (Jvm.Free.Multi.outerC c N h0 i).setSlot i (.ref (h0 + 1 + i)) = _
    rw [vr_outer c N h0 i, arrV_store]
    refine congrArg (arrV c N) (funext fun j => ?_)
    by_cases e : j = i
    · subst e
      simp [updV, va_rf]
    · by_cases h : j < i
      · simp [updV, e, h, Nat.lt_succ_of_lt h]
      · simp [updV, e, h, show ¬ j < i + 1 by omega]
section VGM
variable {p : Program} {l : Launch} {e : Env} {R : Room} {s : State} {m : MethodId} {args : Array Value} {below : List Frame} {meth : Method} {c : Code} {H : Heap} {locs : List Loc} {cells slots : Nat} {Q : State → Prop}
variable {cc : ByteArray} {pc : Nat} {ls : Array Slot} {rest : List Value} {D : va_G} {cl : List vw_C} {A : Nat → Prop} {a : Nat} {tys : List (ClassId × FieldType)} {ws : va_W} {H0 : Heap}
theorem va_mna {X : va_W} {L : List Nat} {f : Nat → va_E} {cc : ByteArray} (hexec : p.tables.exec = Jvm.exec) (hb : c.code = cc) {own : String} {index : Nat} {ty : FieldType} {cy : ClassId} (hown : s.vm.findClass own = some m.cls) (hclink : (Cond.classLink own index ("[" ++ (FieldType.array ty).toString)).before args s = true) (hover : va_AOA ty s) (harr : (Cond.arrayClass ty).before args s = true) (hcy : s.vm.findClass (FieldType.array ty).toString = some cy)
    (hK : va_K D cl tys s) (hP : va_P D cl (X ++ va_pl L f) H) (hD : va_D A (X ++ va_pl L f)) (hS : va_S A H0 H locs) (hA : ∀ q, H0.size ≤ q → A q) {n k : Int32} {N' K' : Nat} {z : vp_A} (hn : ¬ n < 0) (hk : ¬ k < 0) (hN : n.toNatClampNeg = N') (hM : k.toNatClampNeg = K')
    (hb1 : N' * 4 ≤ 536870912) (hb2 : K' * componentBytes ty ≤ 536870912) (hb3 : K' ≤ 536870912) (hdf : fits ty (defaultValue ty) = true) (hdd : (defaultValue ty).isDefault = true) (hcells : cells + (1 + N') ≤ R.cells) (hslots : slots + (N' + N' * K') ≤ R.slots) (hz : ∀ c : ClassId, Jvm.Free.Multi.innerC c K' (defaultValue ty) = vp_cell c z) (hdg : decode cc pc = .ok (.multianewarray index 2, 4))
    (kk : ∀ (q : Nat) (r : Nat → Nat) (cA : ClassId) (H1 : Heap), (∀ i j : Nat, i < N' → j < N' → r i = r j → i = j) → (∀ i : Nat, i < N' → r i ∉ L) → va_K D cl (tys ++ [(cA, .array ty)]) s →
      va_P D cl ((X ++ [(q, .inl (cA, N', .inr (.inr (.inr (.inr (fun i => if i < N' then some (r i) else none))))))]) ++ va_pl (L ++ (List.range N').map r) (vr_up f ((List.range N').map r) (.inl (cy, z)))) H1 → va_D A ((X ++ [(q, .inl (cA, N', .inr (.inr (.inr (.inr (fun i => if i < N' then some (r i) else none))))))]) ++ va_pl (L ++ (List.range N').map r) (vr_up f ((List.range N').map r) (.inl (cy, z)))) → va_S A H0 H1 locs →
      W p l e R s m args below meth c H1 locs (cells + 1 + N') (slots + N' + N' * K') Q (F0 m (pc + 4) ls (.ref q :: rest))) : W p l e R s m args below meth c H locs cells slots Q (F0 m pc ls (.int k :: .int n :: rest)) := by
  subst hN
  subst hM
  intro T hT Xs
  obtain ⟨vm₁, cA, comp, -, fA, fC, hO, -, X', step⟩ := Xs.multianewarray2F hexec hown hclink (va_AOA.use hover) harr (g := F0 m pc ls (.int k :: .int n :: rest)) rfl (by rw [hb]; exact hdg) rfl hn hk hb1 hb2 hb3 hdf hdd hcells hslots
  have ec : some cy = some comp := hcy.symm.trans fC
  cases ec
  generalize hF : Jvm.Free.Multi.fill (T.setVm vm₁) cA cy n.toNatClampNeg k.toNatClampNeg (defaultValue ty) n.toNatClampNeg = F at X' step
  have hTh : (T.setVm vm₁).heap = H := hT
  obtain ⟨f1, f2, -, -⟩ := Jvm.Free.Multi.fill_facts (T.setVm vm₁) cA cy n.toNatClampNeg k.toNatClampNeg (defaultValue ty) n.toNatClampNeg
  rw [hF, hTh] at f1 f2
  have hold : ∀ x : Nat, x < H.size → F.heap[x]? = H[x]? := fun x hx => by
    have := Jvm.Free.Multi.fill_old (T.setVm vm₁) cA cy n.toNatClampNeg k.toNatClampNeg (defaultValue ty) (a := x) (by rw [hTh]; exact hx) n.toNatClampNeg
    rw [hF, hTh] at this
    exact this
  have hrow : ∀ j : Nat, j < n.toNatClampNeg → F.heap[H.size + 1 + j]? = some (vp_cell cy z) := fun j hj => by
    have := Jvm.Free.Multi.fill_inner (T.setVm vm₁) cA cy n.toNatClampNeg k.toNatClampNeg (defaultValue ty) n.toNatClampNeg j hj
    rw [hF, hTh, hz] at this
    exact this
  have hout : Jvm.Free.Multi.outerC cA n.toNatClampNeg H.size n.toNatClampNeg = vp_cell cA (n.toNatClampNeg, .inr (.inr (.inr (.inr (fun i => if i < n.toNatClampNeg then some (H.size + 1 + i) else none))))) := by
    rw [vp_cell_q]
    exact vr_outer cA n.toNatClampNeg H.size n.toNatClampNeg
  rw [hout] at f2
  have hlt : ∀ a, a ∈ L → a < H.size := fun a ha => by
    obtain ⟨k9, hk9⟩ := va_pl_get (X := X) (f := f) ha
    exact (hP k9 _ hk9).lt
  have hnl : ∀ i : Nat, i < n.toNatClampNeg → H.size + 1 + i ∉ L := fun i _ h => by
    have := hlt _ h
    omega
  have hnm : ∀ a, a ∈ (List.range n.toNatClampNeg).map (fun i => H.size + 1 + i) → a ∉ L := fun a ha h => by
    obtain ⟨i, -, rfl⟩ := List.mem_map.mp ha
    have := hlt _ h
    omega
  have hP0 : va_P D cl (X ++ va_pl L f) F.heap := hP.kept (fun k9 x hx => hold x.1 ((hP k9 x hx).lt))
  have hP1 : va_P D cl ((X ++ va_pl L f) ++ [(H.size, .inl (cA, n.toNatClampNeg, .inr (.inr (.inr (.inr (fun i => if i < n.toNatClampNeg then some (H.size + 1 + i) else none))))))]) F.heap := hP0.app (fun k9 x hx => by
    have h0 : k9 < 1 := (List.getElem?_eq_some_iff.mp hx).1
    rw [show k9 = 0 by omega] at hx
    cases hx
    exact f2)
  have hP2 : va_P D cl (((X ++ va_pl L f) ++ [(H.size, .inl (cA, n.toNatClampNeg, .inr (.inr (.inr (.inr (fun i => if i < n.toNatClampNeg then some (H.size + 1 + i) else none))))))]) ++ ((List.range n.toNatClampNeg).map (fun i => H.size + 1 + i)).map (fun a => (a, .inl (cy, z)))) F.heap := hP1.app (fun k9 x hx => by
    obtain ⟨a, ha, rfl⟩ := List.mem_map.mp (List.mem_of_getElem? hx)
    obtain ⟨i, hi, rfl⟩ := List.mem_map.mp ha
    exact hrow i (List.mem_range.mp hi))
  have hD2 : va_D A (((X ++ va_pl L f) ++ [(H.size, .inl (cA, n.toNatClampNeg, .inr (.inr (.inr (.inr (fun i => if i < n.toNatClampNeg then some (H.size + 1 + i) else none))))))]) ++ ((List.range n.toNatClampNeg).map (fun i => H.size + 1 + i)).map (fun a => (a, .inl (cy, z)))) := by
    have hD1 := hD.push (e := .inl (cA, n.toNatClampNeg, .inr (.inr (.inr (.inr (fun i => if i < n.toNatClampNeg then some (H.size + 1 + i) else none)))))) hP rfl (hA _ hS.1)
    generalize hW1 : (X ++ va_pl L f) ++ [(H.size, .inl (cA, n.toNatClampNeg, .inr (.inr (.inr (.inr (fun i => if i < n.toNatClampNeg then some (H.size + 1 + i) else none))))))] = W1 at hD1 hP1 ⊢
    have hle : ∀ (k9 : Nat) (x : Nat × va_E), W1[k9]? = some x → x.1 ≤ H.size := fun k9 x hx => by
      rw [← hW1] at hx
      by_cases hl : k9 < (X ++ va_pl L f).length
      · rw [List.getElem?_append_left hl] at hx
        exact Nat.le_of_lt ((hP k9 x hx).lt)
      · rw [List.getElem?_append_right (by omega)] at hx
        have h0 : k9 - (X ++ va_pl L f).length < 1 := (List.getElem?_eq_some_iff.mp hx).1
        rw [show k9 - (X ++ va_pl L f).length = 0 by omega] at hx
        cases hx
        exact Nat.le_refl _
    have hr : ∀ (k9 : Nat) (x : Nat × va_E), (((List.range n.toNatClampNeg).map (fun i => H.size + 1 + i)).map (fun a => ((a, .inl (cy, z)) : Nat × va_E)))[k9]? = some x → x.1 = H.size + 1 + k9 := fun k9 x hx => by
      rw [List.getElem?_map, List.getElem?_map] at hx
      by_cases h9 : k9 < n.toNatClampNeg
      · rw [List.getElem?_range h9] at hx
        cases hx
        rfl
      · have hn0 : (List.range n.toNatClampNeg)[k9]? = none := List.getElem?_eq_none (by rw [List.length_range]; omega)
        rw [hn0] at hx
        cases hx
    refine ⟨fun i j x y hi hj hxy => ?_, fun k9 x hx => ?_⟩
    · by_cases h1 : i < W1.length <;> by_cases h2 : j < W1.length
      · rw [List.getElem?_append_left h1] at hi
        rw [List.getElem?_append_left h2] at hj
        exact hD1.1 i j x y hi hj hxy
      · rw [List.getElem?_append_left h1] at hi
        rw [List.getElem?_append_right (by omega)] at hj
        have := hle _ _ hi
        have := hr _ _ hj
        omega
      · rw [List.getElem?_append_right (by omega)] at hi
        rw [List.getElem?_append_left h2] at hj
        have := hle _ _ hj
        have := hr _ _ hi
        omega
      · rw [List.getElem?_append_right (by omega)] at hi hj
        have := hr _ _ hi
        have := hr _ _ hj
        omega
    · by_cases h1 : k9 < W1.length
      · rw [List.getElem?_append_left h1] at hx
        exact hD1.2 k9 x hx
      · rw [List.getElem?_append_right (by omega)] at hx
        have := hr _ _ hx
        exact hA _ (by have := hS.1; omega)
  have hAr : ArrOfT s cA (.array ty) := fun N9 z9 => by
    obtain ⟨-, k9, hk9, cm9, hkk9⟩ := (hO 0 0 0).1
    exact ⟨(fun q hq => by cases hq), k9, hk9, cm9, hkk9⟩
  have hK2 : va_K D cl (tys ++ [(cA, .array ty)]) s := ⟨hK.1, fun k9 x hx => by
    by_cases hl : k9 < tys.length
    · rw [List.getElem?_append_left hl] at hx
      exact hK.2 k9 x hx
    · rw [List.getElem?_append_right (by omega)] at hx
      have h0 : k9 - tys.length < 1 := (List.getElem?_eq_some_iff.mp hx).1
      rw [show k9 - tys.length = 0 by omega] at hx
      cases hx
      exact ⟨hAr, fA⟩⟩
  obtain ⟨t, a1, b1⟩ := kk H.size (fun i => H.size + 1 + i) cA F.heap (fun i j _ _ h => by have h9 : H.size + 1 + i = H.size + 1 + j := h; omega) hnl hK2 (by rw [← vr_rows hnm]; exact vr_lay hP2) (by rw [← vr_rows hnm]; exact vr_layD hD2) ⟨by rw [f1]; have := hS.1; omega, fun x h1 h2 => (hold x (Nat.lt_of_lt_of_le h1 hS.1)).trans (hS.2.1 x h1 h2), hS.2.2⟩ F rfl X'
  refine ⟨t, step t ?_, b1⟩
  have e : T.heap.size = H.size := by rw [hT]
  rw [e]
  exact a1
end VGM
/-! ===== END ===== -/

/-! ===== BEGIN exceptions that leave a method, and their catching by the caller (launches without stack traces) ===== -/
section VXA
/-! The laws vx_back, vx_callV, vx_callS, vx_callSW, vx_throw0, vx_throwS follow proofs of the library, with one case more: JvmDerived/Free/Laws.lean (Back.of_free), Shelf42/LK1.lean (callV, callS), Shelf/KitTraced.lean (throwNew0V, throwNewS). -/
/-- where a method has thrown q: the class by its name, the cell, what was written, the world -/
def vx_T (XC : String → State → State → Prop) (st : State) (q : Addr) (t : State) (mc ms : Nat) (free : Addr → Prop) : Prop :=
  ∃ (E : String) (ce : Cell) (L : List Loc), XC E st t ∧ t.heap[q]? = some ce ∧ ce.vm = .none ∧ st.vm.findClass E = some ce.cls ∧ st.WarmedH t.vm ∧ st.sameButNew ({ t with vm := st.vm } : State) L mc ms ∧ ∀ z ∈ L, free z.base
def vx_Q (Qc : Array Value → State → Outcome → State → Prop) (XC : String → State → State → Prop) (mc ms : Nat) (free : Addr → Prop) : Array Value → State → Outcome → State → Prop := fun a st o t =>
  (Qc a st o t ∧ ∃ L, FrameEnd st o t L mc ms ∧ ∀ q ∈ L, free q.base) ∨ ∃ q, o = .threw q ∧ vx_T XC st q t mc ms free
/-- a callee that returns or throws -/
def vx_Met (l : Launch) (y : MethodName) (ws : List Cond) (rm : Room) (Pc : Array Value → State → Prop) (Qc : Array Value → State → Outcome → State → Prop) (XC : String → State → State → Prop) (mc ms : Nat) (free : Addr → Prop) : Prop :=
  MetFree l y (headSpec ws rm) Pc (fun _ _ _ _ _ => True) (vx_Q Qc XC mc ms free)
def vx_Post (XC : String → State → State → Prop) (mc ms : Nat) (free : Addr → Prop) : Pt → Array Value → Addr → Pt → Prop := fun A a q B =>
  ∃ (g : JFrame) (mk : MethodId) (t : State) (L : List Loc) (E : String) (ce : Cell), B.U.heap = t.heap ∧ B.U.vm = t.vm ∧ XC E (A.U.calling g mk a) t ∧ t.heap[q]? = some ce ∧ ce.vm = .none ∧ A.U.vm.findClass E = some ce.cls ∧ B.locs = A.locs ++ L ∧ (∀ z ∈ L, free z.base) ∧ B.cells = A.cells + mc ∧ B.slots = A.slots + ms
def vx_Back (l : Launch) (R : Room) (p : Program) (e : Env) (below : List Frame) (s : State) (sargs : Array Value) (y : MethodName) (len W9 : Nat)
    (Pre : Pt → Array Value → Prop) (Post : Pt → Array Value → Option Value → Pt → Prop) (PostX : Pt → Array Value → Addr → Pt → Prop) : Prop :=
  ∀ (m : MethodId) (meth : Method) (c : Code) (A : Pt) (g : JFrame) (ig : Instr) (mk : MethodId) (a : Array Value),
    Stand p l e R s m sargs below meth c A.U A.locs A.cells A.slots → g.method = m → g.locals.size = c.maxLocals → decode c.code g.pc = .ok (ig, len) →
    2 * g.monitorRoom + (g.stack.map fun v => v.category).sum ≤ W9 → A.U.methodNamed? y = some mk → Pre A a →
    (∃ (v : Option Value) (B : Pt), Stand p l e R s m sargs below meth c B.U B.locs B.cells B.slots ∧ Post A a v B ∧
      Steps p.tables e below (doInvoke e (A.U.setTop g) [] mk a).1 (B.U.setTop { g with pc := g.pc + len, stack := v.toList ++ g.stack })) ∨
    (∃ (q : Addr) (B : Pt), Stand p l e R s m sargs below meth c B.U B.locs B.cells B.slots ∧ PostX A a q B ∧
      Steps p.tables e below (doInvoke e (A.U.setTop g) [] mk a).1 ((B.U.setTop g).pushFrame (.throwing q)))
section Payer
variable {l : Launch} {R : Room} {p : Program} {e : Env} {below : List Frame} {s : State} {sargs : Array Value} {y : MethodName} {len W9 : Nat}
theorem vx_back {ws : List Cond} {rm : Room} {Pc : Array Value → State → Prop} {Qc : Array Value → State → Outcome → State → Prop} {XC : String → State → State → Prop} {mc ms : Nat} {free : Addr → Prop} {bytes : ByteArray} {maxL : Nat} {ret : Option FieldType}
    (hM : vx_Met l y ws rm Pc Qc XC mc ms free) (hblind : FrameBlind Pc) (hrc : rm.cells = mc) (hrs : rm.slots = ms)
    (hframes : rm.frames + 1 ≤ R.frames) (hlocals : W9 + (maxL + 11) + rm.locals ≤ R.locals)
    (hws : ∀ w ∈ ws, ∀ a' U, s.WarmedH U.vm → w.before a' U = true) (hcode : Cond.code y bytes maxL ret ∈ ws) (hinit : ∀ a' U, s.WarmedH U.vm → (Cond.initialized y.cls).before a' U = true) :
    vx_Back l R p e below s sargs y len W9 (PreOf R mc ms Pc) (PostOf Qc mc ms free) (vx_Post XC mc ms free) := by
  intro m meth c A g ig mk a X hg hsize hdg hW hn hp
  have h1 : (headSpec ws rm).pre.before a A.U = true := atoms_intro fun w hw => hws w hw _ _ X.warmed
  have h2 : (Cond.code y bytes maxL ret).before a A.U = true := hws _ hcode _ _ X.warmed
  have h3 : (Cond.initialized y.cls).before a A.U = true := hinit _ _ X.warmed
  have h4 : A.cells + (headSpec ws rm).room.cells ≤ R.cells := by rw [show (headSpec ws rm).room.cells = mc from hrc]; exact hp.1
  have h5 : A.slots + (headSpec ws rm).room.slots ≤ R.slots := by rw [show (headSpec ws rm).room.slots = ms from hrs]; exact hp.2.1
  have hPc : Pc a (A.U.calling g mk a) := hblind _ _ _ _ hp.2.2
  obtain ⟨U, Ls, c0, s0⟩ := A
  dsimp only [Pt.U, Pt.locs, Pt.cells, Pt.slots] at h1 h2 h3 h4 h5 X hn hPc ⊢
  obtain ⟨methY, cY, hmY, hcY, -, hlY, -, -, -, -⟩ := Cond.code_spec hn h2
  obtain ⟨kY, hkY, -⟩ := className_of_methodNamed hn
  have hinitY : kY.init = .initialized := Cond.initialized_spec (findClass_of_methodNamed hn) hkY h3
  have h : At U g.method c below := by rw [hg]; exact X.here
  have hlocals9 : W9 + (maxL + 11) + (headSpec ws rm).room.locals ≤ R.locals := hlocals
  have happ : (headSpec ws rm).appliesLoose y e.platform (U.calling g mk a) = true :=
    Spec.appliesLoose_calling (g := g) h hdg hn hkY hinitY
      (X.room_calling (g := g) (R' := (headSpec ws rm).room) hsize hmY hcY hframes (by rw [hlY]; omega) h4 h5) h1
  obtain ⟨mid, hmid⟩ := h.above
  have hfr : (U.setTop g).frames = (.java g :: mid) ++ below := by rw [State.frames_setTop' g h.top, hmid]; rfl
  obtain ⟨o, s₂, hsteps, -, hend, hq⟩ := Steps.callFree hM p X.admits X.cas X.clock (acts := []) hfr happ hPc trivial
  have hq' : vx_Q Qc XC mc ms free a (U.calling g mk a) o s₂ := hq
  rw [State.frames_setTop' g h.top] at hend
  obtain ⟨g₀, hg0⟩ := Option.isSome_iff_exists.mp h.top
  obtain ⟨r, hr⟩ := State.topJava?_eq_some.mp hg0
  have hr' : (({ U with heap := s₂.heap, slotsUsed := s₂.slotsUsed } : State).setVm s₂.vm).frames = .java g₀ :: r := hr
  rcases hq' with ⟨hqc, L, hfe, hL⟩ | ⟨q, rfl, E, ce, L, hx, hce, hcv, hcl, hW₂, hsm, hL⟩
  · obtain ⟨⟨v, rfl⟩, hW₂, e2, q2, q3, q4, q5, q6⟩ := id hfe
    have e3 : s₂ = ({ (U.calling g mk a).setFrames s₂.frames with heap := s₂.heap, slotsUsed := s₂.slotsUsed } : State).setVm s₂.vm := by
      have : s₂ = ({ s₂ with vm := (U.calling g mk a).vm } : State).setVm s₂.vm := rfl
      rw [e2] at this
      exact this
    obtain ⟨c₂, i₂, len₂, hc₂, hd₂, hf₂⟩ := hend
    have hW' : U.WarmedH s₂.vm := hW₂
    have hcc : c₂ = c := by
      have h1 : s₂.code? g.method = U.code? g.method := by
        rw [State.code?_eq, State.code?_eq, hW'.alike.method?]
      exact Option.some.inj (hc₂.symm.trans (h1.trans h.code))
    subst hcc
    have hlen : len₂ = len := by rw [hdg] at hd₂; cases hd₂; rfl
    subst hlen
    have hs₂ : s₂ = (({ U with heap := s₂.heap, slotsUsed := s₂.slotsUsed } : State).setVm s₂.vm).setTop { g with pc := g.pc + len₂, stack := v.toList ++ g.stack } := by
      refine e3.trans ?_
      rw [hf₂, State.calling_eq h.top, State.setFrames_setFrames, State.setTop_of_frames _ hr', hr]
      rfl
    have hsame : U.sameButNew ({ U with heap := s₂.heap, slotsUsed := s₂.slotsUsed } : State) L mc ms := by
      refine ⟨?_, q2, q3, q4, q5, q6⟩
      obtain ⟨t, ht, -⟩ := State.frames_cons hr
      show ({ U with heap := s₂.heap, slotsUsed := s₂.slotsUsed } : State) = { U.setFrames U.frames with heap := s₂.heap, slotsUsed := s₂.slotsUsed }
      rw [State.setFrames_self ht]
    subst hg
    refine Or.inl ⟨v, ⟨(({ U with heap := s₂.heap, slotsUsed := s₂.slotsUsed } : State).setVm s₂.vm), Ls ++ L, c0 + mc, s0 + ms⟩,
      ⟨X.admits, X.cas, X.clock, X.frames, X.room, X.hears, X.method, X.code, (X.here.setHeapUsed s₂.heap s₂.slotsUsed).setVm hW'.alike, X.tail, State.WarmedH.trans X.warmed hW', X.limits, X.bytes, X.same.trans (hsame.setVm s.vm)⟩,
      ⟨g, mk, s₂, L, rfl, rfl, hqc, rfl, hL, rfl, rfl⟩, ?_⟩
    show Steps p.tables e below _ ((({ U with heap := s₂.heap, slotsUsed := s₂.slotsUsed } : State).setVm s₂.vm).setTop { g with pc := g.pc + len₂, stack := v.toList ++ g.stack })
    rw [← hs₂]
    exact hsteps
  · obtain ⟨e2, q2, q3, q4, q5, q6⟩ := id hsm
    have e3 : s₂ = ({ (U.calling g mk a).setFrames s₂.frames with heap := s₂.heap, slotsUsed := s₂.slotsUsed } : State).setVm s₂.vm := by
      have : s₂ = ({ s₂ with vm := (U.calling g mk a).vm } : State).setVm s₂.vm := rfl
      rw [e2] at this
      exact this
    have hf₂ : s₂.frames = .throwing q :: .java g :: U.frames.tail := hend
    have hW' : U.WarmedH s₂.vm := hW₂
    have hs₂ : s₂ = ((({ U with heap := s₂.heap, slotsUsed := s₂.slotsUsed } : State).setVm s₂.vm).setTop g).pushFrame (.throwing q) := by
      refine e3.trans ?_
      rw [hf₂, State.calling_eq h.top, State.setFrames_setFrames, State.pushFrame, State.frames_setTop _ hr', State.setTop_of_frames _ hr', State.setFrames_setFrames, hr]
      rfl
    have hsame : U.sameButNew ({ U with heap := s₂.heap, slotsUsed := s₂.slotsUsed } : State) L mc ms := by
      refine ⟨?_, q2, q3, q4, q5, q6⟩
      obtain ⟨t, ht, -⟩ := State.frames_cons hr
      show ({ U with heap := s₂.heap, slotsUsed := s₂.slotsUsed } : State) = { U.setFrames U.frames with heap := s₂.heap, slotsUsed := s₂.slotsUsed }
      rw [State.setFrames_self ht]
    subst hg
    refine Or.inr ⟨q, ⟨(({ U with heap := s₂.heap, slotsUsed := s₂.slotsUsed } : State).setVm s₂.vm), Ls ++ L, c0 + mc, s0 + ms⟩,
      ⟨X.admits, X.cas, X.clock, X.frames, X.room, X.hears, X.method, X.code, (X.here.setHeapUsed s₂.heap s₂.slotsUsed).setVm hW'.alike, X.tail, State.WarmedH.trans X.warmed hW', X.limits, X.bytes, X.same.trans (hsame.setVm s.vm)⟩,
      ⟨g, mk, s₂, L, E, ce, rfl, rfl, hx, hce, hcv, hcl, rfl, hL, rfl, rfl⟩, ?_⟩
    show Steps p.tables e below _ (((({ U with heap := s₂.heap, slotsUsed := s₂.slotsUsed } : State).setVm s₂.vm).setTop g).pushFrame (.throwing q))
    rw [← hs₂]
    exact hsteps
end Payer
section Calls
variable {p : Program} {l : Launch} {e : Env} {R : Room} {s : State} {m : MethodId} {args : Array Value} {below : List Frame} {meth : Method} {c : Code} {T : State} {locs : List Loc} {cells slots : Nat}
theorem vx_callV (X : Stand p l e R s m args below meth c T locs cells slots) (hexec : p.tables.exec = Jvm.exec) {own C : String} {index : Nat} {y : MethodName} {bytes : ByteArray} {maxL : Nat} {ret : Option FieldType}
    (hown : s.vm.findClass own = some m.cls) (hlink : (Cond.methodLink own index y).before args s = true) (hinst : (Cond.instanceMethod y).before args s = true) (hsel : (Cond.selects C y y).before args s = true)
    (hcode : (Cond.code y bytes maxL ret).before args s = true) (hy : y.cls ≠ "java/lang/invoke/MethodHandle" ∧ y.cls ≠ "java/lang/invoke/VarHandle")
    {W9 : Nat} {Pre : Pt → Array Value → Prop} {Post : Pt → Array Value → Option Value → Pt → Prop} {PostX : Pt → Array Value → Addr → Pt → Prop} (hK : vx_Back l R p e below s args y 3 W9 Pre Post PostX)
    {b : Addr} {cellB : Cell} (hcell : T.heap[b]? = some cellB) (hobj : cellB.vm.isStatics = false) (hcls : s.vm.findClass C = some cellB.cls)
    {g : JFrame} (hg : g.method = m) (hsize : g.locals.size = c.maxLocals) {argsL rest : List Value} (hlen : ∀ sig, parseMethodDescriptor y.desc = some sig → argsL.length = sig.parameters.length)
    (hstack : g.stack = argsL.reverse ++ .ref b :: rest) (hW : 2 * g.monitorRoom + (rest.map fun v => v.category).sum ≤ W9) (hdg : decode c.code g.pc = .ok (.invokevirtual index, 3))
    (hpre : ∀ vm₁, s.WarmedH vm₁ → Pre ⟨T.setVm vm₁, locs, cells, slots⟩ (Value.ref b :: argsL).toArray) :
    (∃ (v : Option Value) (vm₁ : Vm) (B : Pt), s.WarmedH vm₁ ∧ Stand p l e R s m args below meth c B.U B.locs B.cells B.slots ∧ Post ⟨T.setVm vm₁, locs, cells, slots⟩ (Value.ref b :: argsL).toArray v B ∧
      ∀ target, Steps p.tables e below (B.U.setTop { g with pc := g.pc + 3, stack := v.toList ++ rest }) target → Steps p.tables e below (T.setTop g) target) ∨
    (∃ (q : Addr) (vm₁ : Vm) (B : Pt), s.WarmedH vm₁ ∧ Stand p l e R s m args below meth c B.U B.locs B.cells B.slots ∧ PostX ⟨T.setVm vm₁, locs, cells, slots⟩ (Value.ref b :: argsL).toArray q B ∧
      Steps p.tables e below (T.setTop g) ((B.U.setTop { g with stack := rest }).pushFrame (.throwing q))) := by
  obtain ⟨mk, methM, hnamed, hmethM, hstM, habM⟩ := Cond.instanceMethod_spec hinst
  obtain ⟨methM', cM, hmethM', -, -, -, -, -, -, hsigM⟩ := Cond.code_spec hnamed hcode
  cases hmethM.symm.trans hmethM'
  obtain ⟨c2, r2, m2, q1, q2, q3, q4, kP, hkP, hkPi⟩ := Cond.selects_spec hsel
  cases hcls.symm.trans q1
  cases (State.methodFound?_of_named hnamed hy).symm.trans q2
  cases hnamed.symm.trans q3
  have hselP : selectMethod e.platform s.vm cellB.cls mk = .method mk := by rw [Launch.admits_selectMethod X.admits]; exact q4
  obtain ⟨vm₁, X₁, hstep₁⟩ := X.invokevirtual hexec hown hlink hnamed hmethM hstM hkP hkPi hy (a := b) (cell := cellB) hcell
    (fun z h => by rw [h] at hobj; cases hobj) hselP hmethM habM hkP hkPi (g := g) hg (argsL := argsL) (rest := rest) (hlen _ hsigM) hstack hdg
  rcases hK m meth c ⟨T.setVm vm₁, locs, cells, slots⟩ { g with stack := rest } (.invokevirtual index) mk (Value.ref b :: argsL).toArray X₁ hg hsize hdg hW (X₁.named hnamed) (hpre vm₁ X₁.warmed) with ⟨v, B, X', hpost, hsteps⟩ | ⟨q, B, X', hpost, hsteps⟩
  · exact Or.inl ⟨v, vm₁, B, X₁.warmed, X', hpost, fun target h => hstep₁ _ fun acts => by rw [doInvoke_state]; exact hsteps.trans h⟩
  · exact Or.inr ⟨q, vm₁, B, X₁.warmed, X', hpost, hstep₁ _ fun acts => by rw [doInvoke_state]; exact hsteps⟩
theorem vx_callS (X : Stand p l e R s m args below meth c T locs cells slots) (hexec : p.tables.exec = Jvm.exec) {own : String} {index : Nat} {y : MethodName} {bytes : ByteArray} {maxL : Nat} {ret : Option FieldType}
    (hown : s.vm.findClass own = some m.cls) (hlink : (Cond.methodLink own index y).before args s = true) (hstat : (Cond.static y).before args s = true) (hinit : (Cond.initialized y.cls).before args s = true)
    (hcode : (Cond.code y bytes maxL ret).before args s = true) (hy : y.cls ≠ "java/lang/invoke/MethodHandle" ∧ y.cls ≠ "java/lang/invoke/VarHandle")
    {W9 : Nat} {Pre : Pt → Array Value → Prop} {Post : Pt → Array Value → Option Value → Pt → Prop} {PostX : Pt → Array Value → Addr → Pt → Prop} (hK : vx_Back l R p e below s args y 3 W9 Pre Post PostX)
    {g : JFrame} (hg : g.method = m) (hsize : g.locals.size = c.maxLocals) {argsL rest : List Value} (hlen : ∀ sig, parseMethodDescriptor y.desc = some sig → argsL.length = sig.parameters.length)
    (hstack : g.stack = argsL.reverse ++ rest) (hW : 2 * g.monitorRoom + (rest.map fun v => v.category).sum ≤ W9) (hdg : decode c.code g.pc = .ok (.invokestatic index, 3))
    (hpre : ∀ vm₁, s.WarmedH vm₁ → Pre ⟨T.setVm vm₁, locs, cells, slots⟩ argsL.toArray) :
    (∃ (v : Option Value) (vm₁ : Vm) (B : Pt), s.WarmedH vm₁ ∧ Stand p l e R s m args below meth c B.U B.locs B.cells B.slots ∧ Post ⟨T.setVm vm₁, locs, cells, slots⟩ argsL.toArray v B ∧
      ∀ target, Steps p.tables e below (B.U.setTop { g with pc := g.pc + 3, stack := v.toList ++ rest }) target → Steps p.tables e below (T.setTop g) target) ∨
    (∃ (q : Addr) (vm₁ : Vm) (B : Pt), s.WarmedH vm₁ ∧ Stand p l e R s m args below meth c B.U B.locs B.cells B.slots ∧ PostX ⟨T.setVm vm₁, locs, cells, slots⟩ argsL.toArray q B ∧
      Steps p.tables e below (T.setTop g) ((B.U.setTop { g with stack := rest }).pushFrame (.throwing q))) := by
  obtain ⟨mk, hnamed⟩ := Cond.code_named hcode
  obtain ⟨methM, cM, hmethM, -, -, -, -, -, -, hsigM⟩ := Cond.code_spec hnamed hcode
  have hstatic : methM.isStatic = true := Cond.static_spec hnamed hmethM hstat
  obtain ⟨kP, hkP, -⟩ := className_of_methodNamed hnamed
  have hinitP : kP.init = .initialized := Cond.initialized_spec (findClass_of_methodNamed hnamed) hkP hinit
  obtain ⟨vm₁, X₁, hstep₁⟩ := X.invokestatic hexec hown hlink hnamed hmethM hstatic hkP hinitP hy (g := g) hg (argsL := argsL) (rest := rest) (hlen _ hsigM) hstack hdg
  rcases hK m meth c ⟨T.setVm vm₁, locs, cells, slots⟩ { g with stack := rest } (.invokestatic index) mk argsL.toArray X₁ hg hsize hdg hW (X₁.named hnamed) (hpre vm₁ X₁.warmed) with ⟨v, B, X', hpost, hsteps⟩ | ⟨q, B, X', hpost, hsteps⟩
  · exact Or.inl ⟨v, vm₁, B, X₁.warmed, X', hpost, fun target h => hstep₁ _ fun acts => by rw [doInvoke_state]; exact hsteps.trans h⟩
  · exact Or.inr ⟨q, vm₁, B, X₁.warmed, X', hpost, hstep₁ _ fun acts => by rw [doInvoke_state]; exact hsteps⟩
end Calls
theorem vx_cls {s : State} {T : State} {vm₁ : Vm} {E : String} {k : ClassId} (hW : s.WarmedH vm₁) (h : (T.setVm vm₁).vm.findClass E = some k) : s.vm.findClass E = some k := by
  have h1 : vm₁.findClass E = some k := h
  rw [hW.alike.findClass] at h1
  exact h1
/-- the method's frame g, with q thrown over it -/
def vx_W (p : Program) (l : Launch) (e : Env) (R : Room) (s : State) (m : MethodId) (args : Array Value) (below : List Frame) (meth : Method) (c : Code) (H : Heap) (locs : List Loc) (cells slots : Nat) (Q : State → Prop) (g : JFrame) (q : Addr) : Prop :=
  ∀ T : State, T.heap = H → Stand p l e R s m args below meth c T locs cells slots → ∃ t, Steps p.tables e below ((T.setTop g).pushFrame (.throwing q)) t ∧ Q t
def vx_Run (p : Program) (l : Launch) (e : Env) (R : Room) (s : State) (m : MethodId) (args : Array Value) (below : List Frame) (meth : Method) (c : Code) (H : Heap) (locs : List Loc) (cells slots mc ms : Nat) (g : JFrame) (rest : List Value) (Qa : State → Outcome → State → Prop) (XC : String → State → State → Prop) (free : Addr → Prop) : Prop :=
  ∀ T : State, T.heap = H → Stand p l e R s m args below meth c T locs cells slots →
    (∃ (v : Option Value) (st₀ t T' : State) (L : List Loc), st₀.heap = H ∧ Stand p l e R s m args below meth c T' (locs ++ L) (cells + mc) (slots + ms) ∧ (∀ q ∈ L, free q.base) ∧ T'.heap = t.heap ∧ T'.vm = t.vm ∧ Qa st₀ (.returned v) t ∧
      Goes p e below T g T' { g with pc := g.pc + 3, stack := v.toList ++ rest }) ∨
    (∃ (q : Addr) (st₀ t T' : State) (L : List Loc) (E : String) (ce : Cell), st₀.heap = H ∧ Stand p l e R s m args below meth c T' (locs ++ L) (cells + mc) (slots + ms) ∧ (∀ z ∈ L, free z.base) ∧ T'.heap = t.heap ∧ T'.vm = t.vm ∧ XC E st₀ t ∧ t.heap[q]? = some ce ∧ ce.vm = .none ∧ s.vm.findClass E = some ce.cls ∧
      Steps p.tables e below (T.setTop g) ((T'.setTop { g with stack := rest }).pushFrame (.throwing q)))
def vx_X {S : Type} (px : S → Prop) (B : String → S → State → Prop) (A : Nat → Prop) : String → State → State → Prop := fun E st t => ∃ u : S, px u ∧ B E u t ∧ va_F A st t
section Runs
variable {p : Program} {l : Launch} {e : Env} {R : Room} {s : State} {m : MethodId} {args : Array Value} {below : List Frame} {meth : Method} {c : Code} {H : Heap} {locs : List Loc} {cells slots : Nat}
variable {y : MethodName} {bytes cc : ByteArray} {maxL nL mc ms n index : Nat} {ret : Option FieldType} {ws : List Cond} {rm : Room} {Pc : Array Value → State → Prop} {Qc : Array Value → State → Outcome → State → Prop} {XC : String → State → State → Prop} {free : Addr → Prop} {Ts : List Cond} {own C : String} {b : Addr} {As rest : List Value} {g : JFrame}
theorem vx_callBack (cb : CallB R s args own index y bytes maxL ret ws rm mc ms n) (hM : vx_Met l y ws rm Pc Qc XC mc ms free) (hbl : FrameBlind Pc) : vx_Back l R p e below s args y 3 8 (PreOf R mc ms Pc) (PostOf Qc mc ms free) (vx_Post XC mc ms free) := by
  obtain ⟨hrc, hrs, hfr, hlo, hws, hcw, -, hini, -⟩ := cb
  exact vx_back (bytes := bytes) (maxL := maxL) (ret := ret) hM hbl hrc hrs hfr hlo hws hcw (fun a' U hW => word_at hW (Or.inl (by first | rfl | simp [Cond.onTables, Cond.keeps, Cond.steady])) hini)
theorem vx_runV (S : CallFix p m c cc nL s args Ts own) (hM : vx_Met l y ws rm Pc Qc XC mc ms free) (cw : CallW R s args own C index y bytes maxL ret ws rm mc ms n) (hp : PreV s H C b Pc As)
    (hg : g.method = m) (hn : As.length = n) (hsize : g.locals.size = nL) (hstack : g.stack = As.reverse ++ .ref b :: rest) (hW : 2 * g.monitorRoom + (rest.map fun v => v.category).sum ≤ 8) (hdg : decode cc g.pc = .ok (.invokevirtual index, 3)) (hf : cells + mc ≤ R.cells ∧ slots + ms ≤ R.slots) :
    vx_Run p l e R s m args below meth c H locs cells slots mc ms g rest (Qc (Value.ref b :: As).toArray) XC free := by
  have hK : vx_Back l R p e below s args y 3 8 (PreOf R mc ms Pc) (PostOf Qc mc ms free) (vx_Post XC mc ms free) := vx_callBack cw.1 hM hp.1
  obtain ⟨⟨-, -, -, -, -, -, hcode, -, hy, hlen, hl⟩, hin, hse⟩ := cw
  obtain ⟨hx, hb, hml, ho, -⟩ := S
  obtain ⟨-, ⟨cellB, hcB, hoB, hclB⟩, hPc⟩ := hp
  intro T hT X
  rcases vx_callV X hx (C := C) (bytes := bytes) (maxL := maxL) (ret := ret) ho hl hin hse hcode hy hK (by rw [hT]; exact hcB) hoB hclB hg (hsize.trans hml.symm) (argsL := As) (rest := rest) (fun sig h => hn.trans (hlen sig h)) hstack hW (by rw [hb]; exact hdg)
    (fun vm₁ hW₁ => ⟨hf.1, hf.2, hPc (T.setVm vm₁) hT hW₁⟩) with ⟨v, vm₁, ⟨U', l2, c2, s2⟩, hW₁, X', ⟨g', mk, t, L, e1, e2, hq, h1, hL, h2, h3⟩, st⟩ | ⟨q, vm₁, ⟨U', l2, c2, s2⟩, hW₁, X', ⟨g', mk, t, L, E, ce, e1, e2, hq, hce, hcv, hcl, h1, hL, h2, h3⟩, st⟩
  · dsimp only [Pt.U, Pt.locs, Pt.cells, Pt.slots] at X' e1 e2 h1 h2 h3 st
    subst h1; subst h2; subst h3
    exact Or.inl ⟨v, (T.setVm vm₁).calling g' mk (Value.ref b :: As).toArray, t, U', L, hT, X', hL, e1, e2, hq, st⟩
  · dsimp only [Pt.U, Pt.locs, Pt.cells, Pt.slots] at X' e1 e2 h1 h2 h3 st hcl
    subst h1; subst h2; subst h3
    exact Or.inr ⟨q, (T.setVm vm₁).calling g' mk (Value.ref b :: As).toArray, t, U', L, E, ce, hT, X', hL, e1, e2, hq, hce, hcv, vx_cls hW₁ hcl, st⟩
theorem vx_runS (S : CallFix p m c cc nL s args Ts own) (hM : vx_Met l y ws rm Pc Qc XC mc ms free) (cw : CallB R s args own index y bytes maxL ret ws rm mc ms n ∧ (Cond.static y).before args s = true) (hp : PreS s H Pc As)
    (hg : g.method = m) (hn : As.length = n) (hsize : g.locals.size = nL) (hstack : g.stack = As.reverse ++ rest) (hW : 2 * g.monitorRoom + (rest.map fun v => v.category).sum ≤ 8) (hdg : decode cc g.pc = .ok (.invokestatic index, 3)) (hf : cells + mc ≤ R.cells ∧ slots + ms ≤ R.slots) :
    vx_Run p l e R s m args below meth c H locs cells slots mc ms g rest (Qc As.toArray) XC free := by
  have hK : vx_Back l R p e below s args y 3 8 (PreOf R mc ms Pc) (PostOf Qc mc ms free) (vx_Post XC mc ms free) := vx_callBack cw.1 hM hp.1
  obtain ⟨⟨-, -, -, -, -, -, hcode, hini, hy, hlen, hl⟩, hstt⟩ := cw
  obtain ⟨hx, hb, hml, ho, -⟩ := S
  intro T hT X
  rcases vx_callS X hx (bytes := bytes) (maxL := maxL) (ret := ret) ho hl hstt hini hcode hy hK hg (hsize.trans hml.symm) (argsL := As) (rest := rest) (fun sig h => hn.trans (hlen sig h)) hstack hW (by rw [hb]; exact hdg)
    (fun vm₁ hW₁ => ⟨hf.1, hf.2, hp.2 (T.setVm vm₁) hT hW₁⟩) with ⟨v, vm₁, ⟨U', l2, c2, s2⟩, hW₁, X', ⟨g', mk, t, L, e1, e2, hq, h1, hL, h2, h3⟩, st⟩ | ⟨q, vm₁, ⟨U', l2, c2, s2⟩, hW₁, X', ⟨g', mk, t, L, E, ce, e1, e2, hq, hce, hcv, hcl, h1, hL, h2, h3⟩, st⟩
  · dsimp only [Pt.U, Pt.locs, Pt.cells, Pt.slots] at X' e1 e2 h1 h2 h3 st
    subst h1; subst h2; subst h3
    exact Or.inl ⟨v, (T.setVm vm₁).calling g' mk As.toArray, t, U', L, hT, X', hL, e1, e2, hq, st⟩
  · dsimp only [Pt.U, Pt.locs, Pt.cells, Pt.slots] at X' e1 e2 h1 h2 h3 st hcl
    subst h1; subst h2; subst h3
    exact Or.inr ⟨q, (T.setVm vm₁).calling g' mk As.toArray, t, U', L, E, ce, hT, X', hL, e1, e2, hq, hce, hcv, vx_cls hW₁ hcl, st⟩
end Runs
section Rows
variable {p : Program} {l : Launch} {e : Env} {R : Room} {s : State} {m : MethodId} {args : Array Value} {below : List Frame} {meth : Method} {c : Code} {H : Heap} {locs : List Loc} {cells slots : Nat} {Q : State → Prop}
variable {mc ms : Nat} {free : Addr → Prop} {A0 A1 : Nat → Prop} {H0 : Heap} {a : Array Value} {pc : Nat} {ls : Array Slot} {st0 rest : List Value}
theorem vx_keep {st₀ t T' : State} {L : List Loc} (h0 : st₀.heap = H) (e1 : T'.heap = t.heap) (hS : va_S A0 H0 H locs) (hA : ∀ q, q < H.size → A1 q → A0 q) (hf : ∀ q, free q → A0 q) (hL : ∀ q ∈ L, free q.base) (hF : va_F A1 st₀ t) :
    H.size ≤ T'.heap.size ∧ (∀ q : Nat, q < H.size → ¬ A1 q → T'.heap[q]? = H[q]?) ∧ va_S A0 H0 T'.heap (locs ++ L) := by
  obtain ⟨hz, hk⟩ := hF
  rw [h0] at hz hk
  exact ⟨by rw [e1]; exact hz, fun q h1 h2 => by rw [e1]; exact hk q h1 h2,
    ⟨Nat.le_trans hS.1 (by rw [e1]; exact hz), fun q h1 h2 => by rw [e1, hk q (Nat.lt_of_lt_of_le h1 hS.1) (fun z => h2 (hA q (Nat.lt_of_lt_of_le h1 hS.1) z))]; exact hS.2.1 q h1 h2, fun q hq => by
      rcases List.mem_append.mp hq with h | h
      · exact hS.2.2 q h
      · exact hf _ (hL q h)⟩⟩
theorem vx_calli {S SX : Type} {post : Int32 → S → Prop} {px : SX → Prop} {B : S → State → Prop} {BX : String → SX → State → Prop} {AX : Nat → Prop} (hr : vx_Run p l e R s m args below meth c H locs cells slots mc ms (F0 m pc ls st0) rest (va_Qi post B A1 a) (vx_X px BX AX) free) (hS : va_S A0 H0 H locs) (hA : ∀ q, q < H.size → A1 q → A0 q) (hf : ∀ q, free q → A0 q) (hAX : ∀ q, q < H.size → AX q → A0 q)
    (kx : ∀ (E : String) (ce : Cell) (q9 : Addr) (u : SX) (t : State) (H1 : Heap) (locs1 : List Loc), t.heap = H1 → s.vm.Alike t.vm → px u → BX E u t → H.size ≤ H1.size → (∀ q : Nat, q < H.size → ¬ AX q → H1[q]? = H[q]?) → va_S A0 H0 H1 locs1 → H1[q9]? = some ce → ce.vm = .none → s.vm.findClass E = some ce.cls → vx_W p l e R s m args below meth c H1 locs1 (cells + mc) (slots + ms) Q (F0 m pc ls rest) q9)
    (kk : ∀ (r : Int32) (u : S) (t : State) (H1 : Heap) (locs1 : List Loc), t.heap = H1 → s.vm.Alike t.vm → post r u → B u t → H.size ≤ H1.size → (∀ q : Nat, q < H.size → ¬ A1 q → H1[q]? = H[q]?) → va_S A0 H0 H1 locs1 → W p l e R s m args below meth c H1 locs1 (cells + mc) (slots + ms) Q (F0 m (pc + 3) ls (.int r :: rest))) : W p l e R s m args below meth c H locs cells slots Q (F0 m pc ls st0) := by
  intro T hT X
  rcases hr T hT X with ⟨v, st₀, t, T', L, h0, X', hL, e1, e2, ⟨⟨r, u, hv, hp, hb⟩, hF⟩, st⟩ | ⟨q, st₀, t, T', L, E, ce, h0, X', hL, e1, e2, ⟨u, hp, hb, hF⟩, hce, hcv, hcl, st⟩
  · cases hv
    obtain ⟨k1, k2, k3⟩ := vx_keep h0 e1 hS hA hf hL hF
    obtain ⟨t2, a1, b1⟩ := kk r u t T'.heap (locs ++ L) e1.symm (by rw [← e2]; exact X'.warmed.alike) hp hb k1 k2 k3 T' rfl X'
    exact ⟨t2, st t2 a1, b1⟩
  · obtain ⟨k1, k2, k3⟩ := vx_keep h0 e1 hS hAX hf hL hF
    obtain ⟨t2, a1, b1⟩ := kx E ce q u t T'.heap (locs ++ L) e1.symm (by rw [← e2]; exact X'.warmed.alike) hp hb k1 k2 k3 (by rw [e1]; exact hce) hcv hcl T' rfl X'
    exact ⟨t2, st.trans a1, b1⟩
theorem vx_calll {S SX : Type} {post : Int64 → S → Prop} {px : SX → Prop} {B : S → State → Prop} {BX : String → SX → State → Prop} {AX : Nat → Prop} (hr : vx_Run p l e R s m args below meth c H locs cells slots mc ms (F0 m pc ls st0) rest (va_Ql post B A1 a) (vx_X px BX AX) free) (hS : va_S A0 H0 H locs) (hA : ∀ q, q < H.size → A1 q → A0 q) (hf : ∀ q, free q → A0 q) (hAX : ∀ q, q < H.size → AX q → A0 q)
    (kx : ∀ (E : String) (ce : Cell) (q9 : Addr) (u : SX) (t : State) (H1 : Heap) (locs1 : List Loc), t.heap = H1 → s.vm.Alike t.vm → px u → BX E u t → H.size ≤ H1.size → (∀ q : Nat, q < H.size → ¬ AX q → H1[q]? = H[q]?) → va_S A0 H0 H1 locs1 → H1[q9]? = some ce → ce.vm = .none → s.vm.findClass E = some ce.cls → vx_W p l e R s m args below meth c H1 locs1 (cells + mc) (slots + ms) Q (F0 m pc ls rest) q9)
    (kk : ∀ (r : Int64) (u : S) (t : State) (H1 : Heap) (locs1 : List Loc), t.heap = H1 → s.vm.Alike t.vm → post r u → B u t → H.size ≤ H1.size → (∀ q : Nat, q < H.size → ¬ A1 q → H1[q]? = H[q]?) → va_S A0 H0 H1 locs1 → W p l e R s m args below meth c H1 locs1 (cells + mc) (slots + ms) Q (F0 m (pc + 3) ls (.long r :: rest))) : W p l e R s m args below meth c H locs cells slots Q (F0 m pc ls st0) := by
  intro T hT X
  rcases hr T hT X with ⟨v, st₀, t, T', L, h0, X', hL, e1, e2, ⟨⟨r, u, hv, hp, hb⟩, hF⟩, st⟩ | ⟨q, st₀, t, T', L, E, ce, h0, X', hL, e1, e2, ⟨u, hp, hb, hF⟩, hce, hcv, hcl, st⟩
  · cases hv
    obtain ⟨k1, k2, k3⟩ := vx_keep h0 e1 hS hA hf hL hF
    obtain ⟨t2, a1, b1⟩ := kk r u t T'.heap (locs ++ L) e1.symm (by rw [← e2]; exact X'.warmed.alike) hp hb k1 k2 k3 T' rfl X'
    exact ⟨t2, st t2 a1, b1⟩
  · obtain ⟨k1, k2, k3⟩ := vx_keep h0 e1 hS hAX hf hL hF
    obtain ⟨t2, a1, b1⟩ := kx E ce q u t T'.heap (locs ++ L) e1.symm (by rw [← e2]; exact X'.warmed.alike) hp hb k1 k2 k3 (by rw [e1]; exact hce) hcv hcl T' rfl X'
    exact ⟨t2, st.trans a1, b1⟩
theorem vx_callf {S SX : Type} {post : UInt32 → S → Prop} {px : SX → Prop} {B : S → State → Prop} {BX : String → SX → State → Prop} {AX : Nat → Prop} (hr : vx_Run p l e R s m args below meth c H locs cells slots mc ms (F0 m pc ls st0) rest (va_Qf post B A1 a) (vx_X px BX AX) free) (hS : va_S A0 H0 H locs) (hA : ∀ q, q < H.size → A1 q → A0 q) (hf : ∀ q, free q → A0 q) (hAX : ∀ q, q < H.size → AX q → A0 q)
    (kx : ∀ (E : String) (ce : Cell) (q9 : Addr) (u : SX) (t : State) (H1 : Heap) (locs1 : List Loc), t.heap = H1 → s.vm.Alike t.vm → px u → BX E u t → H.size ≤ H1.size → (∀ q : Nat, q < H.size → ¬ AX q → H1[q]? = H[q]?) → va_S A0 H0 H1 locs1 → H1[q9]? = some ce → ce.vm = .none → s.vm.findClass E = some ce.cls → vx_W p l e R s m args below meth c H1 locs1 (cells + mc) (slots + ms) Q (F0 m pc ls rest) q9)
    (kk : ∀ (r : UInt32) (u : S) (t : State) (H1 : Heap) (locs1 : List Loc), t.heap = H1 → s.vm.Alike t.vm → post r u → B u t → H.size ≤ H1.size → (∀ q : Nat, q < H.size → ¬ A1 q → H1[q]? = H[q]?) → va_S A0 H0 H1 locs1 → W p l e R s m args below meth c H1 locs1 (cells + mc) (slots + ms) Q (F0 m (pc + 3) ls (.float r :: rest))) : W p l e R s m args below meth c H locs cells slots Q (F0 m pc ls st0) := by
  intro T hT X
  rcases hr T hT X with ⟨v, st₀, t, T', L, h0, X', hL, e1, e2, ⟨⟨r, u, hv, hp, hb⟩, hF⟩, st⟩ | ⟨q, st₀, t, T', L, E, ce, h0, X', hL, e1, e2, ⟨u, hp, hb, hF⟩, hce, hcv, hcl, st⟩
  · cases hv
    obtain ⟨k1, k2, k3⟩ := vx_keep h0 e1 hS hA hf hL hF
    obtain ⟨t2, a1, b1⟩ := kk r u t T'.heap (locs ++ L) e1.symm (by rw [← e2]; exact X'.warmed.alike) hp hb k1 k2 k3 T' rfl X'
    exact ⟨t2, st t2 a1, b1⟩
  · obtain ⟨k1, k2, k3⟩ := vx_keep h0 e1 hS hAX hf hL hF
    obtain ⟨t2, a1, b1⟩ := kx E ce q u t T'.heap (locs ++ L) e1.symm (by rw [← e2]; exact X'.warmed.alike) hp hb k1 k2 k3 (by rw [e1]; exact hce) hcv hcl T' rfl X'
    exact ⟨t2, st.trans a1, b1⟩
theorem vx_calld {S SX : Type} {post : UInt64 → S → Prop} {px : SX → Prop} {B : S → State → Prop} {BX : String → SX → State → Prop} {AX : Nat → Prop} (hr : vx_Run p l e R s m args below meth c H locs cells slots mc ms (F0 m pc ls st0) rest (va_Qd post B A1 a) (vx_X px BX AX) free) (hS : va_S A0 H0 H locs) (hA : ∀ q, q < H.size → A1 q → A0 q) (hf : ∀ q, free q → A0 q) (hAX : ∀ q, q < H.size → AX q → A0 q)
    (kx : ∀ (E : String) (ce : Cell) (q9 : Addr) (u : SX) (t : State) (H1 : Heap) (locs1 : List Loc), t.heap = H1 → s.vm.Alike t.vm → px u → BX E u t → H.size ≤ H1.size → (∀ q : Nat, q < H.size → ¬ AX q → H1[q]? = H[q]?) → va_S A0 H0 H1 locs1 → H1[q9]? = some ce → ce.vm = .none → s.vm.findClass E = some ce.cls → vx_W p l e R s m args below meth c H1 locs1 (cells + mc) (slots + ms) Q (F0 m pc ls rest) q9)
    (kk : ∀ (r : UInt64) (u : S) (t : State) (H1 : Heap) (locs1 : List Loc), t.heap = H1 → s.vm.Alike t.vm → post r u → B u t → H.size ≤ H1.size → (∀ q : Nat, q < H.size → ¬ A1 q → H1[q]? = H[q]?) → va_S A0 H0 H1 locs1 → W p l e R s m args below meth c H1 locs1 (cells + mc) (slots + ms) Q (F0 m (pc + 3) ls (.double r :: rest))) : W p l e R s m args below meth c H locs cells slots Q (F0 m pc ls st0) := by
  intro T hT X
  rcases hr T hT X with ⟨v, st₀, t, T', L, h0, X', hL, e1, e2, ⟨⟨r, u, hv, hp, hb⟩, hF⟩, st⟩ | ⟨q, st₀, t, T', L, E, ce, h0, X', hL, e1, e2, ⟨u, hp, hb, hF⟩, hce, hcv, hcl, st⟩
  · cases hv
    obtain ⟨k1, k2, k3⟩ := vx_keep h0 e1 hS hA hf hL hF
    obtain ⟨t2, a1, b1⟩ := kk r u t T'.heap (locs ++ L) e1.symm (by rw [← e2]; exact X'.warmed.alike) hp hb k1 k2 k3 T' rfl X'
    exact ⟨t2, st t2 a1, b1⟩
  · obtain ⟨k1, k2, k3⟩ := vx_keep h0 e1 hS hAX hf hL hF
    obtain ⟨t2, a1, b1⟩ := kx E ce q u t T'.heap (locs ++ L) e1.symm (by rw [← e2]; exact X'.warmed.alike) hp hb k1 k2 k3 (by rw [e1]; exact hce) hcv hcl T' rfl X'
    exact ⟨t2, st.trans a1, b1⟩
theorem vx_callv {S SX : Type} {post : S → Prop} {px : SX → Prop} {B : S → State → Prop} {BX : String → SX → State → Prop} {AX : Nat → Prop} (hr : vx_Run p l e R s m args below meth c H locs cells slots mc ms (F0 m pc ls st0) rest (va_Qv post B A1 a) (vx_X px BX AX) free) (hS : va_S A0 H0 H locs) (hA : ∀ q, q < H.size → A1 q → A0 q) (hf : ∀ q, free q → A0 q) (hAX : ∀ q, q < H.size → AX q → A0 q)
    (kx : ∀ (E : String) (ce : Cell) (q9 : Addr) (u : SX) (t : State) (H1 : Heap) (locs1 : List Loc), t.heap = H1 → s.vm.Alike t.vm → px u → BX E u t → H.size ≤ H1.size → (∀ q : Nat, q < H.size → ¬ AX q → H1[q]? = H[q]?) → va_S A0 H0 H1 locs1 → H1[q9]? = some ce → ce.vm = .none → s.vm.findClass E = some ce.cls → vx_W p l e R s m args below meth c H1 locs1 (cells + mc) (slots + ms) Q (F0 m pc ls rest) q9)
    (kk : ∀ (u : S) (t : State) (H1 : Heap) (locs1 : List Loc), t.heap = H1 → s.vm.Alike t.vm → post u → B u t → H.size ≤ H1.size → (∀ q : Nat, q < H.size → ¬ A1 q → H1[q]? = H[q]?) → va_S A0 H0 H1 locs1 → W p l e R s m args below meth c H1 locs1 (cells + mc) (slots + ms) Q (F0 m (pc + 3) ls (rest))) : W p l e R s m args below meth c H locs cells slots Q (F0 m pc ls st0) := by
  intro T hT X
  rcases hr T hT X with ⟨v, st₀, t, T', L, h0, X', hL, e1, e2, ⟨⟨u, hv, hp, hb⟩, hF⟩, st⟩ | ⟨q, st₀, t, T', L, E, ce, h0, X', hL, e1, e2, ⟨u, hp, hb, hF⟩, hce, hcv, hcl, st⟩
  · cases hv
    obtain ⟨k1, k2, k3⟩ := vx_keep h0 e1 hS hA hf hL hF
    obtain ⟨t2, a1, b1⟩ := kk u t T'.heap (locs ++ L) e1.symm (by rw [← e2]; exact X'.warmed.alike) hp hb k1 k2 k3 T' rfl X'
    exact ⟨t2, st t2 a1, b1⟩
  · obtain ⟨k1, k2, k3⟩ := vx_keep h0 e1 hS hAX hf hL hF
    obtain ⟨t2, a1, b1⟩ := kx E ce q u t T'.heap (locs ++ L) e1.symm (by rw [← e2]; exact X'.warmed.alike) hp hb k1 k2 k3 (by rw [e1]; exact hce) hcv hcl T' rfl X'
    exact ⟨t2, st.trans a1, b1⟩
/-- caught by the row x of this method's table; the rows ahead don't take it -/
theorem vx_catch {own name : String} {E : String} {ce : Cell} {q : Addr} (hown : s.vm.findClass own = some m.cls) (pre : List ExceptionTableEntry) (x : ExceptionTableEntry) (suf : List ExceptionTableEntry) (hsplit : c.exceptionTable.toList = pre ++ x :: suf)
    (hpass : ∀ z ∈ pre, covers z pc = false ∨ (z.catchType ≠ 0 ∧ ∃ nm : String, (Cond.classLink own z.catchType nm).before args s = true ∧ va_Nc E nm s)) (hx : covers x pc = true) (h0 : x.catchType ≠ 0)
    (hlink : (Cond.classLink own x.catchType name).before args s = true) (hcast : (Cond.castable E name).before args s = true) (hcell : H[q]? = some ce) (hv : ce.vm = .none) (hcl : s.vm.findClass E = some ce.cls)
    (kk : W p l e R s m args below meth c H locs cells slots Q (F0 m x.handlerPc ls [.ref q])) : vx_W p l e R s m args below meth c H locs cells slots Q (F0 m pc ls rest) q := by
  intro T hT X
  have hpl : e.platform.magicAccessors = ({} : Platform).magicAccessors := by rw [X.admits.platform]
  obtain ⟨c3, c4, hc3, hc4, hasg⟩ := Cond.castable_spec hcast
  cases Option.some.inj (hc3.symm.trans hcl)
  obtain ⟨c5, hc5, hcl5⟩ := Cond.classLink_spec hown hlink e.platform hpl
  cases Option.some.inj (hc4.symm.trans hc5)
  obtain ⟨vm', X', st⟩ := X.thenCaughtThrough q (g := F0 m pc ls rest) rfl (Steps.refl _) (by rw [hT]; exact hcell) (by rw [hv]; rfl) (by obtain ⟨k9, h9, -⟩ := Vm.findClass_spec hcl; exact ⟨k9, h9⟩) pre x suf hsplit
    (fun z hz => by
      rcases hpass z hz with h | ⟨hz0, nm, hl1, hn1⟩
      · exact Or.inl h
      · obtain ⟨c6, hc6, hcl6⟩ := Cond.classLink_spec hown hl1 e.platform hpl
        obtain ⟨a8, b8, h1, h2, h3⟩ := hn1
        cases Option.some.inj (h1.symm.trans hcl)
        cases Option.some.inj (h2.symm.trans hc6)
        exact Or.inr ⟨hz0, _, hcl6, h3⟩) hx (Or.inr ⟨h0, c4, hcl5, hasg⟩)
  obtain ⟨t, a1, b1⟩ := kk (T.setVm vm') hT X'
  exact ⟨t, st.trans a1, b1⟩
end Rows
section Ends
variable {p : Program} {l : Launch} {e : Env} {R : Room} {s : State} {m : MethodId} {args : Array Value} {below : List Frame} {meth : Method} {c : Code} {H : Heap} {locs : List Loc} {cells slots : Nat} {Q : State → Prop}
variable {mc ms : Nat} {free : Addr → Prop} {A0 A1 : Nat → Prop} {H0 : Heap} {a : Array Value} {ls : Array Slot} {st0 rest : List Value}
variable {Qc : Array Value → State → Outcome → State → Prop} {XC : String → State → State → Prop}
/-- what a body that may throw owes at its end -/
def vx_MQ (below : List Frame) (Qc : Array Value → State → Outcome → State → Prop) (XC : String → State → State → Prop) (a : Array Value) (s : State) (mc ms : Nat) (free : Addr → Prop) : State → Prop := fun t =>
  ∃ o, t.status = .running ∧ Ended t below o ∧ vx_Q Qc XC mc ms free a s o t
theorem vx_ret {g : JFrame} {mc ms : Nat} (k : W p l e R s m args below meth c H locs cells slots (MQ below Qc args s mc ms free) g) : W p l e R s m args below meth c H locs cells slots (vx_MQ below Qc XC args s mc ms free) g := by
  intro T hT X
  obtain ⟨t, a1, o, b1, b2, b3, b4⟩ := k T hT X
  exact ⟨t, a1, o, b1, b2, Or.inl ⟨b3, b4⟩⟩
/-- not caught here: it goes on to the caller -/
theorem vx_widen {g : JFrame} {q : Addr} {k n : Nat} (h1 : cells ≤ k) (h2 : slots ≤ n) (kk : vx_W p l e R s m args below meth c H locs k n Q g q) : vx_W p l e R s m args below meth c H locs cells slots Q g q := fun T hT X => kk T hT (stand_widen X h1 h2)
theorem vx_out {pc : Nat} {E : String} {ce : Cell} {q : Addr} {mc ms : Nat} (hout : ∀ x ∈ c.exceptionTable.toList, covers x pc = false) (hlocks : meth.locks = false) (hcell : H[q]? = some ce) (hv : ce.vm = .none) (hcl : s.vm.findClass E = some ce.cls)
    (hx : ∀ t : State, t.heap = H → s.vm.Alike t.vm → XC E s t) (hf : ∀ z ∈ locs, free z.base) (hc : cells ≤ mc) (hs : slots ≤ ms) :
    vx_W p l e R s m args below meth c H locs cells slots (vx_MQ below Qc XC args s mc ms free) (F0 m pc ls rest) q := by
  intro T hT X
  obtain ⟨st1, hrun, hend, hW, hsm⟩ := X.leaveThrown q (g := F0 m pc ls rest) rfl rfl rfl hout hlocks
  have hcell9 : (T.setFrames (.throwing q :: below)).heap[q]? = some ce := by
    show T.heap[q]? = some ce
    rw [hT]; exact hcell
  exact ⟨_, st1, .threw q, hrun, hend, Or.inr ⟨q, rfl, E, ce, locs, hx _ hT hW.alike, hcell9, hv, hcl, hW, hsm.mono hc hs, hf⟩⟩
theorem vx_frame {U : State} {k n : Nat} (h : s.sameButNew ({ U with vm := s.vm } : State) locs k n) : s.heap.size ≤ U.heap.size ∧ ∀ q : Nat, q < s.heap.size → (∀ z ∈ locs, z.base ≠ q) → U.heap[q]? = s.heap[q]? := by
  obtain ⟨-, h2, -, -, -, h6⟩ := h
  refine ⟨h2, fun q hq hz => ?_⟩
  obtain ⟨c9, e1, e2, e3, e4⟩ := h6 q _ (Array.getElem?_eq_getElem hq)
  have hs : c9.slots = (s.heap[q]).slots := Array.ext_getElem? fun i => e4 i fun hm => hz _ hm rfl
  have h9 : c9 = s.heap[q] := by
    rw [hs] at e2
    exact e2
  have e5 : U.heap[q]? = some c9 := e1
  rw [e5, h9, Array.getElem?_eq_getElem hq]
/-- the words of a throw but the four that speak of the heap -/
def vx_no (w : Cond) : Bool := decide (w ≠ .isRef (.static Bundle.tN "UNASSIGNED_STACK" Bundle.steD)) && decide (w ≠ .isRef (.static Bundle.tN "SUPPRESSED_SENTINEL" Bundle.listD)) && decide (w ≠ .laysStatic Bundle.tN "UNASSIGNED_STACK" Bundle.steD) && decide (w ≠ .laysStatic Bundle.tN "SUPPRESSED_SENTINEL" Bundle.listD)
def vx_at0 (own : String) (ic : Nat) (X : String) (names : List String) : List Cond := (Bundle.ownAtoms0 own ic X names).filter vx_no
def vx_atS (own : String) (ic : Nat) (X : String) (names : List String) : List Cond := (Bundle.ownAtoms own ic X names).filter vx_no
/-- a word that the tables alone decide, or a good one -/
def vx_ot (w : Cond) : Bool := w.onTables || goodWord w
theorem vx_ot_at {args a' : Array Value} {s U : State} {w : Cond} (hW : s.WarmedH U.vm) (hvm : s.vm = U.vm) (hg : vx_ot w = true) (h : w.before args s = true) : w.before a' U = true := by
  simp only [vx_ot, Bool.or_eq_true] at hg
  rcases hg with hg | hg
  · exact va_tabs hg hvm h
  · exact word_at hW (good_of_word hg) h
/-- a list's words: the good ones out of the method's own list, the others by premises of their own -/
theorem vx_hat {args : Array Value} {s : State} {L B : List Cond} (h1 : ∀ w ∈ L.filter goodWord, w.before args s = true) (h2 : ∀ w ∈ L.filter (fun w => !goodWord w), w ∈ B) (h3 : ∀ w ∈ B, w.before args s = true) : ∀ w ∈ L, w.before args s = true := by
  intro w hw
  by_cases g : goodWord w = true
  · exact h1 w (List.mem_filter.mpr ⟨hw, g⟩)
  · refine h3 w (h2 w (List.mem_filter.mpr ⟨hw, ?_⟩))
    show (!goodWord w) = true
    cases hgw : goodWord w
    · rfl
    · exact absurd hgw g
theorem vx_c {args : Array Value} {s : State} {w : Cond} {B : List Cond} (h : w.before args s = true) (t : ∀ w ∈ B, w.before args s = true) : ∀ w' ∈ w :: B, w'.before args s = true := fun w' h' => (List.mem_cons.mp h').elim (fun e => by rw [e]; exact h) (t w')
theorem vx_n {args : Array Value} {s : State} : ∀ w ∈ ([] : List Cond), w.before args s = true := fun _ h => nomatch h
theorem vx_own {args : Array Value} {s : State} {L : List Cond} (h1 : ∀ w ∈ L.filter vx_no, w.before args s = true)
    (hU : (Cond.isRef (.static Bundle.tN "UNASSIGNED_STACK" Bundle.steD)).before args s = true) (hN : (Cond.isRef (.static Bundle.tN "SUPPRESSED_SENTINEL" Bundle.listD)).before args s = true)
    (lU : (Cond.laysStatic Bundle.tN "UNASSIGNED_STACK" Bundle.steD).before args s = true) (lN : (Cond.laysStatic Bundle.tN "SUPPRESSED_SENTINEL" Bundle.listD).before args s = true) : ∀ w ∈ L, w.before args s = true := by
  intro w hw
  by_cases e1 : w = .isRef (.static Bundle.tN "UNASSIGNED_STACK" Bundle.steD)
  · rw [e1]; exact hU
  · by_cases e2 : w = .isRef (.static Bundle.tN "SUPPRESSED_SENTINEL" Bundle.listD)
    · rw [e2]; exact hN
    · by_cases e3 : w = .laysStatic Bundle.tN "UNASSIGNED_STACK" Bundle.steD
      · rw [e3]; exact lU
      · by_cases e4 : w = .laysStatic Bundle.tN "SUPPRESSED_SENTINEL" Bundle.listD
        · rw [e4]; exact lN
        · exact h1 w (List.mem_filter.mpr ⟨hw, by unfold vx_no; rw [decide_eq_true e1, decide_eq_true e2, decide_eq_true e3, decide_eq_true e4]; rfl⟩)
/-- where a static field lies, its class's statics cell in H -/
def vx_L (C n d : String) (A : Nat → Prop) (U : State) (H : Heap) : Prop := ∃ (c : ClassId) (k : Class) (i : Nat) (f : Field) (a : Nat) (cell : Cell), U.vm.findClass C = some c ∧ U.fieldFound? C n d = some (c, k, i, f) ∧ f.isStatic = true ∧ k.statics = some a ∧ H[a]? = some cell ∧ cell.vm.isStatics = true ∧ cell.cls = c ∧ f.slot < cell.slots.size ∧ k.staticTypes[f.slot]? = some f.type ∧ ¬ A a
theorem vx_L.moved {C n d : String} {A : Nat → Prop} {u U : State} {H : Heap} (hvm : u.vm.Alike U.vm) (h : vx_L C n d A u H) : vx_L C n d A U H := by
  obtain ⟨c, k, i, f, a, cell, h1, h2, h3, h4, h5, h6, h7, h8, h9, h10⟩ := h
  obtain ⟨k', hi', he⟩ := State.fieldFound?_setVm hvm h2
  exact ⟨c, k', i, f, a, cell, by rw [hvm.findClass]; exact h1, hi', h3, by rw [he]; exact h4, h5, h6, h7, h8, by rw [he]; exact h9, h10⟩
theorem vx_L.kept {C n d : String} {A : Nat → Prop} {U : State} {H H1 : Heap} (h : vx_L C n d A U H) (hq : ∀ a : Nat, a < H.size → ¬ A a → H1[a]? = H[a]?) : vx_L C n d A U H1 := by
  obtain ⟨c, k, i, f, a, cell, h1, h2, h3, h4, h5, h6, h7, h8, h9, h10⟩ := h
  exact ⟨c, k, i, f, a, cell, h1, h2, h3, h4, by rw [hq a (Array.getElem?_eq_some_iff.mp h5).1 h10]; exact h5, h6, h7, h8, h9, h10⟩
theorem vx_L.narrow {C n d : String} {A B : Nat → Prop} {U : State} {H : Heap} (h : vx_L C n d A U H) (hAB : ∀ q, B q → A q) : vx_L C n d B U H := by
  obtain ⟨c, k, i, f, a, cell, h1, h2, h3, h4, h5, h6, h7, h8, h9, h10⟩ := h
  exact ⟨c, k, i, f, a, cell, h1, h2, h3, h4, h5, h6, h7, h8, h9, fun z => h10 (hAB _ z)⟩
theorem vx_L.word {C n d : String} {A : Nat → Prop} {s : State} {args : Array Value} (h : vx_L C n d A s s.heap) : (Cond.laysStatic C n d).before args s = true := by
  obtain ⟨c, k, i, f, a, cell, h1, h2, h3, h4, h5, h6, h7, h8, h9, -⟩ := h
  show (Cond.laysStatic C n d).holds args s none s [] = true
  exact Cond.laysStatic_of h1 h2 h3 h4 h5 h6 h7 h8 h9
/-- .. and what it holds: null or some reference -/
def vx_Zq (C n d : String) (A : Nat → Prop) (U : State) (H : Heap) : Prop := va_Zq C n d A U H ∧ vx_L C n d A U H
theorem vx_Zq.moved {C n d : String} {A : Nat → Prop} {u U : State} {H : Heap} (hvm : u.vm.Alike U.vm) (h : vx_Zq C n d A u H) : vx_Zq C n d A U H := ⟨va_Zq.moved hvm h.1, vx_L.moved hvm h.2⟩
theorem vx_Zq.kept {C n d : String} {A : Nat → Prop} {U : State} {H H1 : Heap} (h : vx_Zq C n d A U H) (hq : ∀ a : Nat, a < H.size → ¬ A a → H1[a]? = H[a]?) : vx_Zq C n d A U H1 := ⟨va_Zq.kept h.1 hq, vx_L.kept h.2 hq⟩
theorem vx_Zq.narrow {C n d : String} {A B : Nat → Prop} {U : State} {H : Heap} (h : vx_Zq C n d A U H) (hAB : ∀ q, B q → A q) : vx_Zq C n d B U H := ⟨va_Zq.narrow h.1 hAB, vx_L.narrow h.2 hAB⟩
theorem vx_Zqof {args : Array Value} {s : State} {C n d : String} {A : Nat → Prop} (hl : (Cond.laysStatic C n d).before args s = true) (hini : (Cond.initialized C).before args s = true) (h : (Cond.isRef (.static C n d)).before args s = true) (hA : ∀ a : Nat, a < s.heap.size → ¬ A a) : vx_Zq C n d A s s.heap := by
  refine ⟨va_Zqof hl hini h hA, ?_⟩
  obtain ⟨c, k, i, f, a, cell, h1, h2, h3, h4, h5, h6, h7, h8, h9⟩ := Cond.laysStatic_spec hl
  exact ⟨c, k, i, f, a, cell, h1, h2, h3, h4, h5, h6, h7, h8, h9, hA a (Array.getElem?_eq_some_iff.mp h5).1⟩
theorem vx_isRef {C n d : String} {v : Value} {A : Nat → Prop} {s : State} {args : Array Value} (h : va_Z C n d v A s s.heap) (hv : v.isRef = true) : (Cond.isRef (.static C n d)).before args s = true := by
  obtain ⟨cf, kf, fi, f, a, cell, h1, h2, h3, h4, h5, h6, h7, -⟩ := h
  have he : (Term.static C n d).eval args s none [] s = some v := by
    simp [Term.eval, State.fieldNamed?, h1, h2, h4, h5, h6, h7]
  simp only [Cond.before, Cond.holds, Cond.value, he]
  cases v <;> simp_all [Value.isRef]
theorem vx_isRefq {C n d : String} {A : Nat → Prop} {s : State} {args : Array Value} (h : va_Zq C n d A s s.heap) : (Cond.isRef (.static C n d)).before args s = true := by
  rcases h with h | ⟨t, h⟩
  · exact vx_isRef h rfl
  · exact vx_isRef h rfl
/-- the same frame, seen from here: as if the method were called anew in this heap -/
theorem vx_rebase {T : State} (X : Stand p l e R s m args below meth c T locs cells slots) {R' : Room} (hf : R'.frames ≤ R.frames) (hl : R'.locals ≤ R.locals) (hc : cells + R'.cells ≤ R.cells) (hs : slots + R'.slots ≤ R.slots) :
    Stand p l e R' ((T.setVm s.vm).setFrames (.invoking m args :: below)) m args below meth c T [] 0 0 := by
  have htop : (T.setVm s.vm).topJava?.isSome := X.here.top
  have hF : ((T.setVm s.vm).setFrames (.invoking m args :: below)).frames = .invoking m args :: below := State.frames_setFrames _ (State.cur_lt_of_top htop)
  obtain ⟨g₀, hg0⟩ := Option.isSome_iff_exists.mp htop
  obtain ⟨r, hr⟩ := State.topJava?_eq_some.mp hg0
  have hl9 : e.platform.stackLimits (T.setVm s.vm).me = e.platform.stackLimits s.me := X.limits
  have hb9 : (T.setVm s.vm).me.stackBytes = s.me.stackBytes := X.bytes
  refine ⟨X.admits, X.cas, X.clock, hF, ?_, X.hears, X.method, X.code, X.here, X.tail, X.warmed, ?_, ?_, ?_⟩
  · have h := X.room
    have hU : ((T.setVm s.vm).setFrames (.invoking m args :: below)).localsInUse = s.localsInUse := by
      rw [State.localsInUse_invoking hF (meth := meth) (c := c) X.method X.code, State.localsInUse_invoking X.frames X.method X.code]
    simp only [State.hasRoom, Bool.and_eq_true, decide_eq_true_eq] at h ⊢
    obtain ⟨⟨⟨⟨h1, h2, h3, h4, h5, h6⟩, h7⟩, h8⟩, h9⟩ := h
    rw [X.frames, List.length_cons] at h2 h3
    have q1 := X.heapSize
    have q2 := X.used
    simp only [hF, hU, List.length_cons, State.stackLimits_setFrames, State.stackBytes_setFrames, hl9, hb9]
    refine ⟨⟨⟨⟨by omega, by omega, by omega, by omega, by omega, h6⟩, ?_⟩, ?_⟩, X.book⟩
    · show T.heap.size + R'.cells ≤ e.platform.maxCells
      omega
    · show T.slotsUsed + R'.slots ≤ e.platform.maxSlots
      omega
  · rw [State.stackLimits_setFrames]; rfl
  · rw [State.stackBytes_setFrames]; rfl
  · refine ⟨?_, Nat.le_refl _, Nat.le_refl _, ?_, ?_, fun a c9 h9 => ⟨c9, h9, rfl, rfl, fun _ _ => rfl⟩⟩
    · obtain ⟨t, ht, -⟩ := State.frames_cons hr
      show T.setVm s.vm = { ((T.setVm s.vm).setFrames (.invoking m args :: below)).setFrames (T.setVm s.vm).frames with heap := T.heap, slotsUsed := T.slotsUsed }
      rw [State.setFrames_setFrames, State.setFrames_self ht]
      rfl
    · show T.slotsUsed = T.slotsUsed + ((T.heap.toList.drop T.heap.size).map (·.slots.size)).sum
      rw [List.drop_eq_nil_of_le (Nat.le_of_eq Array.length_toList)]
      rfl
    · show ((T.heap.toList.drop T.heap.size).map (·.slots.size)).sum ≤ 0
      rw [List.drop_eq_nil_of_le (Nat.le_of_eq Array.length_toList)]
      exact Nat.le_refl _
/-- 'throw new E()': new; dup; invokespecial; athrow -/
theorem vx_throw0 {cc : ByteArray} {pc : Nat} (hexec : p.tables.exec = Jvm.exec) (hb : c.code = cc) (hl : l.stackTraces = false) {own cls : String} {names : List String} {ik ic mc ms : Nat} {A : Nat → Prop}
    (hown : s.vm.findClass own = some m.cls) (hcls : Bundle.fit cls = true) (hnames : ∀ n ∈ names, Bundle.fit n = true)
    (hk : (Cond.classLink own ik cls).before args s = true) (hini : (Cond.initialized cls).before args s = true) (hat : ∀ w ∈ vx_at0 own ic cls names, w.before args s = true)
    (hgood : ∀ w ∈ Cond.classLink own ik cls :: Cond.initialized cls :: vx_at0 own ic cls names, vx_ot w = true)
    (hU : vx_Zq Bundle.tN "UNASSIGNED_STACK" Bundle.steD A s s.heap) (hN : vx_Zq Bundle.tN "SUPPRESSED_SENTINEL" Bundle.listD A s s.heap) (hS : va_S A s.heap H locs) (hsize : ls.size = c.maxLocals)
    (d0 : decode cc pc = .ok (.new ik, 3)) (d3 : decode cc (pc + 3) = .ok (.dup, 1)) (d4 : decode cc (pc + 4) = .ok (.invokespecial ic, 3)) (d7 : decode cc (pc + 7) = .ok (.athrow, 1))
    (hout : ∀ x ∈ c.exceptionTable.toList, covers x (pc + 7) = false)
    (hRframes : names.length + 3 < R.frames) (hRlocals : (rest.map fun v => v.category).sum + (13 * (names.length + 1) + 42) ≤ R.locals) (hRcells : cells + 1 ≤ R.cells) (hRslots : slots + 6 ≤ R.slots) (hlocks : meth.locks = false)
    (hx : ∀ t : State, s.vm.Alike t.vm → H.size ≤ t.heap.size → (∀ q : Nat, q < H.size → t.heap[q]? = H[q]?) → XC cls s t)
    (hf : ∀ z ∈ locs, free z.base) (hc : cells + 1 ≤ mc) (hs : slots + 6 ≤ ms) :
    W p l e R s m args below meth c H locs cells slots (vx_MQ below Qc XC args s mc ms free) (F0 m pc ls rest) := by
  intro T hT X
  have htr : e.platform.stackTraces = false := (show e.platform.stackTraces = l.stackTraces by rw [X.admits.platform]).trans hl
  have Y := vx_rebase X (R' := { frames := R.frames, locals := R.locals, cells := 1, slots := 6 }) (Nat.le_refl _) (Nat.le_refl _) hRcells hRslots
  obtain ⟨s', hA⟩ : ∃ z, z = (T.setVm s.vm).setFrames (.invoking m args :: below) := ⟨_, rfl⟩
  rw [← hA] at Y
  have hvm : s'.vm = s.vm := by rw [hA]; rfl
  have hhp : s'.heap = H := by rw [hA]; exact hT
  have hW0 : s.WarmedH s'.vm := by rw [hvm]; exact State.WarmedH.refl s
  have hat' : ∀ w ∈ vx_at0 own ic cls names, w.before args s' = true := fun w hw => vx_ot_at hW0 hvm.symm (hgood w (List.mem_cons_of_mem _ (List.mem_cons_of_mem _ hw))) (hat w hw)
  have hk' : (Cond.classLink own ik cls).before args s' = true := vx_ot_at hW0 hvm.symm (hgood _ List.mem_cons_self) hk
  have hini' : (Cond.initialized cls).before args s' = true := vx_ot_at hW0 hvm.symm (hgood _ (List.mem_cons_of_mem _ List.mem_cons_self)) hini
  have hU' : vx_Zq Bundle.tN "UNASSIGNED_STACK" Bundle.steD A s' s'.heap := by rw [hhp]; exact vx_Zq.moved hW0.alike (hU.kept hS.2.1)
  have hN' : vx_Zq Bundle.tN "SUPPRESSED_SENTINEL" Bundle.listD A s' s'.heap := by rw [hhp]; exact vx_Zq.moved hW0.alike (hN.kept hS.2.1)
  have h : ∀ w ∈ Bundle.ownAtoms0 own ic cls names, w.before args s' = true := vx_own hat' (vx_isRefq hU'.1) (vx_isRefq hN'.1) hU'.2.word hN'.2.word
  have hown' : s'.vm.findClass own = some m.cls := by rw [hvm]; exact hown
  have hins : (Cond.instantiable cls 6).before args s' = true := h _ (by simp [Bundle.ownAtoms0])
  obtain ⟨vm₁, cX, kX, hfX, hkX, -, -, X₁, st1⟩ := Y.newCold hexec (own := own) (C := cls) (index := ik) (n := 6) hown' hk' hins hini'
    (g := F0 m pc ls rest) rfl (by rw [hb]; exact d0) (Nat.le_refl _) (Nat.le_refl _)
  generalize hT1 : (T.setVm vm₁).pushCell { cls := cX, slots := kX.instanceTypes.map defaultValue, vm := .none } = T1 at X₁ st1
  have hcat : (Value.ref T.heap.size).category = 1 := rfl
  have hcellA : T1.heap[T.heap.size]? = some (freshCell cX kX) := by rw [← hT1]; exact State.heap_pushCell_size _ _
  have d3' : decode c.code (pc + 3) = .ok (.dup, 1) := by rw [hb]; exact d3
  obtain ⟨U, hsteps, hrun, hend, hW, hsame, ce, hce, hO⟩ := X₁.ctorThrow0 hexec htr (own := own) (cls := cls) (names := names) (ic := ic) hown' hcls hnames h (fun x hx => nomatch hx) hfX hkX hcellA (by rw [hhp, hT]; exact Nat.le_refl _)
    (g := { method := m, pc := pc + 4, locals := ls, stack := .ref T.heap.size :: .ref T.heap.size :: rest, locked := none }) rfl hsize rfl rfl (rest := rest) rfl
    (by rw [hb]; exact d4) (by rw [hb]; exact d7) hout hRframes (by simp only [List.map_cons, List.sum_cons, hcat]; omega) hlocks
  obtain ⟨f1, f2⟩ := vx_frame hsame
  rw [hhp] at f1 f2
  have hWs : s.WarmedH U.vm := State.WarmedH.trans hW0 hW
  have hcl : s.vm.findClass cls = some ce.cls := by
    have h9 := hO.cls
    rw [hvm] at h9
    exact h9
  have hall : s.sameButNew ({ U with vm := s.vm } : State) locs mc ms := by
    subst hA
    obtain ⟨e1, e2⟩ := hsame
    rw [State.setFrames_setFrames] at e1
    have h2 : (T.setVm s.vm).sameButNew ({ U with vm := s.vm } : State) [] (0 + 1) (0 + 6) := ⟨e1, e2⟩
    have h3 := X.same.trans h2
    rw [List.append_nil] at h3
    exact h3.mono hc hs
  refine ⟨U, ?_, .threw T.heap.size, hrun, hend, Or.inr ⟨T.heap.size, rfl, cls, ce, locs, hx U hWs.alike f1 (fun q hq => f2 q hq (fun z hz => nomatch hz)), hce, hO.vm, hcl, hWs, hall, hf⟩⟩
  refine st1 _ ?_
  show Steps p.tables e below (T1.setTop { method := m, pc := pc + 3, locals := ls, stack := .ref T.heap.size :: rest, locked := none }) _
  jvm_step X₁.here [X₁.here.top, hexec, d3', Value.category]
  exact hsteps
/-- 'throw new E("text")': new; dup; ldc; invokespecial; athrow -/
theorem vx_throwS {cc : ByteArray} {pc : Nat} (hexec : p.tables.exec = Jvm.exec) (hb : c.code = cc) (hl : l.stackTraces = false) {own cls text : String} {names : List String} {ik is ic mc ms sa : Nat} {A : Nat → Prop}
    (hown : s.vm.findClass own = some m.cls) (hcls : Bundle.fit cls = true) (hnames : ∀ n ∈ names, Bundle.fit n = true)
    (hk : (Cond.classLink own ik cls).before args s = true) (hini : (Cond.initialized cls).before args s = true) (hstr : vk_R own is text sa s) (hat : ∀ w ∈ vx_atS own ic cls names, w.before args s = true)
    (hgood : ∀ w ∈ Cond.classLink own ik cls :: Cond.initialized cls :: vx_atS own ic cls names, vx_ot w = true)
    (hU : vx_Zq Bundle.tN "UNASSIGNED_STACK" Bundle.steD A s s.heap) (hN : vx_Zq Bundle.tN "SUPPRESSED_SENTINEL" Bundle.listD A s s.heap) (hS : va_S A s.heap H locs) (hsize : ls.size = c.maxLocals)
    (d0 : decode cc pc = .ok (.new ik, 3)) (d3 : decode cc (pc + 3) = .ok (.dup, 1)) (d4 : decode cc (pc + 4) = .ok (.ldc is, 2)) (d6 : decode cc (pc + 6) = .ok (.invokespecial ic, 3)) (d9 : decode cc (pc + 9) = .ok (.athrow, 1))
    (hout : ∀ x ∈ c.exceptionTable.toList, covers x (pc + 9) = false)
    (hRframes : names.length + 3 < R.frames) (hRlocals : (rest.map fun v => v.category).sum + (13 * (names.length + 1) + 43) ≤ R.locals) (hRcells : cells + 1 ≤ R.cells) (hRslots : slots + 6 ≤ R.slots) (hlocks : meth.locks = false)
    (hx : ∀ t : State, s.vm.Alike t.vm → H.size ≤ t.heap.size → (∀ q : Nat, q < H.size → t.heap[q]? = H[q]?) → XC cls s t)
    (hf : ∀ z ∈ locs, free z.base) (hc : cells + 1 ≤ mc) (hs : slots + 6 ≤ ms) :
    W p l e R s m args below meth c H locs cells slots (vx_MQ below Qc XC args s mc ms free) (F0 m pc ls rest) := by
  intro T hT X
  have htr : e.platform.stackTraces = false := (show e.platform.stackTraces = l.stackTraces by rw [X.admits.platform]).trans hl
  have Y := vx_rebase X (R' := { frames := R.frames, locals := R.locals, cells := 1, slots := 6 }) (Nat.le_refl _) (Nat.le_refl _) hRcells hRslots
  obtain ⟨s', hA⟩ : ∃ z, z = (T.setVm s.vm).setFrames (.invoking m args :: below) := ⟨_, rfl⟩
  rw [← hA] at Y
  have hvm : s'.vm = s.vm := by rw [hA]; rfl
  have hhp : s'.heap = H := by rw [hA]; exact hT
  have hW0 : s.WarmedH s'.vm := by rw [hvm]; exact State.WarmedH.refl s
  have hat' : ∀ w ∈ vx_atS own ic cls names, w.before args s' = true := fun w hw => vx_ot_at hW0 hvm.symm (hgood w (List.mem_cons_of_mem _ (List.mem_cons_of_mem _ hw))) (hat w hw)
  have hk' : (Cond.classLink own ik cls).before args s' = true := vx_ot_at hW0 hvm.symm (hgood _ List.mem_cons_self) hk
  have hini' : (Cond.initialized cls).before args s' = true := vx_ot_at hW0 hvm.symm (hgood _ (List.mem_cons_of_mem _ List.mem_cons_self)) hini
  have hU' : vx_Zq Bundle.tN "UNASSIGNED_STACK" Bundle.steD A s' s'.heap := by rw [hhp]; exact vx_Zq.moved hW0.alike (hU.kept hS.2.1)
  have hN' : vx_Zq Bundle.tN "SUPPRESSED_SENTINEL" Bundle.listD A s' s'.heap := by rw [hhp]; exact vx_Zq.moved hW0.alike (hN.kept hS.2.1)
  have h : ∀ w ∈ Bundle.ownAtoms own ic cls names, w.before args s' = true := vx_own hat' (vx_isRefq hU'.1) (vx_isRefq hN'.1) hU'.2.word hN'.2.word
  have hown' : s'.vm.findClass own = some m.cls := by rw [hvm]; exact hown
  have hins : (Cond.instantiable cls 6).before args s' = true := h _ (by simp [Bundle.ownAtoms])
  obtain ⟨vm₁, cX, kX, hfX, hkX, -, -, X₁, st1⟩ := Y.newCold hexec (own := own) (C := cls) (index := ik) (n := 6) hown' hk' hins hini'
    (g := F0 m pc ls rest) rfl (by rw [hb]; exact d0) (Nat.le_refl _) (Nat.le_refl _)
  generalize hT1 : (T.setVm vm₁).pushCell { cls := cX, slots := kX.instanceTypes.map defaultValue, vm := .none } = T1 at X₁ st1
  have hcat : (Value.ref T.heap.size).category = 1 := rfl
  have hcellA : T1.heap[T.heap.size]? = some (freshCell cX kX) := by rw [← hT1]; exact State.heap_pushCell_size _ _
  have d3' : decode c.code (pc + 3) = .ok (.dup, 1) := by rw [hb]; exact d3
  have d4' : decode c.code (pc + 4) = .ok (.ldc is, 2) := by rw [hb]; exact d4
  have hstr' : vk_R own is text sa s' := vk_R.warm hW0 hstr
  obtain ⟨U, hsteps, hrun, hend, hW, hsame, ce, hce, hO⟩ := X₁.ctorThrowS hexec htr (own := own) (cls := cls) (names := names) (ic := ic) hown' hcls hnames h (fun x hx => nomatch hx) hfX hkX hcellA (by rw [hhp, hT]; exact Nat.le_refl _) (msg := .ref sa) rfl
    (g := { method := m, pc := pc + 6, locals := ls, stack := .ref sa :: .ref T.heap.size :: .ref T.heap.size :: rest, locked := none }) rfl hsize rfl rfl (rest := rest) rfl
    (by rw [hb]; exact d6) (by rw [hb]; exact d9) hout hRframes (by simp only [List.map_cons, List.sum_cons, hcat]; omega) hlocks
  obtain ⟨f1, f2⟩ := vx_frame hsame
  rw [hhp] at f1 f2
  have hWs : s.WarmedH U.vm := State.WarmedH.trans hW0 hW
  have hcl : s.vm.findClass cls = some ce.cls := by
    have h9 := hO.cls
    rw [hvm] at h9
    exact h9
  have hall : s.sameButNew ({ U with vm := s.vm } : State) locs mc ms := by
    subst hA
    obtain ⟨e1, e2⟩ := hsame
    rw [State.setFrames_setFrames] at e1
    have h2 : (T.setVm s.vm).sameButNew ({ U with vm := s.vm } : State) [] (0 + 1) (0 + 6) := ⟨e1, e2⟩
    have h3 := X.same.trans h2
    rw [List.append_nil] at h3
    exact h3.mono hc hs
  refine ⟨U, ?_, .threw T.heap.size, hrun, hend, Or.inr ⟨T.heap.size, rfl, cls, ce, locs, hx U hWs.alike f1 (fun q hq => f2 q hq (fun z hz => nomatch hz)), hce, hO.vm, hcl, hWs, hall, hf⟩⟩
  refine st1 _ ?_
  show Steps p.tables e below (T1.setTop { method := m, pc := pc + 3, locals := ls, stack := .ref T.heap.size :: rest, locked := none }) _
  jvm_step X₁.here [X₁.here.top, hexec, d3', Value.category]
  exact X₁.ldcString hexec (own := own) (text := text) (index := is) (a := sa) hown' hstr'.1 hstr'.2
    (g := { method := m, pc := pc + 4, locals := ls, stack := .ref T.heap.size :: .ref T.heap.size :: rest, locked := none }) rfl d4' _ hsteps
/-- 'throw new E("text")', the text by a wide index -/
theorem vx_throwSW {cc : ByteArray} {pc : Nat} (hexec : p.tables.exec = Jvm.exec) (hb : c.code = cc) (hl : l.stackTraces = false) {own cls text : String} {names : List String} {ik is ic mc ms sa : Nat} {A : Nat → Prop}
    (hown : s.vm.findClass own = some m.cls) (hcls : Bundle.fit cls = true) (hnames : ∀ n ∈ names, Bundle.fit n = true)
    (hk : (Cond.classLink own ik cls).before args s = true) (hini : (Cond.initialized cls).before args s = true) (hstr : vk_R own is text sa s) (hat : ∀ w ∈ vx_atS own ic cls names, w.before args s = true)
    (hgood : ∀ w ∈ Cond.classLink own ik cls :: Cond.initialized cls :: vx_atS own ic cls names, vx_ot w = true)
    (hU : vx_Zq Bundle.tN "UNASSIGNED_STACK" Bundle.steD A s s.heap) (hN : vx_Zq Bundle.tN "SUPPRESSED_SENTINEL" Bundle.listD A s s.heap) (hS : va_S A s.heap H locs) (hsize : ls.size = c.maxLocals)
    (d0 : decode cc pc = .ok (.new ik, 3)) (d3 : decode cc (pc + 3) = .ok (.dup, 1)) (d4 : decode cc (pc + 4) = .ok (.ldc_w is, 3)) (d7 : decode cc (pc + 7) = .ok (.invokespecial ic, 3)) (d10 : decode cc (pc + 10) = .ok (.athrow, 1))
    (hout : ∀ x ∈ c.exceptionTable.toList, covers x (pc + 10) = false)
    (hRframes : names.length + 3 < R.frames) (hRlocals : (rest.map fun v => v.category).sum + (13 * (names.length + 1) + 43) ≤ R.locals) (hRcells : cells + 1 ≤ R.cells) (hRslots : slots + 6 ≤ R.slots) (hlocks : meth.locks = false)
    (hx : ∀ t : State, s.vm.Alike t.vm → H.size ≤ t.heap.size → (∀ q : Nat, q < H.size → t.heap[q]? = H[q]?) → XC cls s t)
    (hf : ∀ z ∈ locs, free z.base) (hc : cells + 1 ≤ mc) (hs : slots + 6 ≤ ms) :
    W p l e R s m args below meth c H locs cells slots (vx_MQ below Qc XC args s mc ms free) (F0 m pc ls rest) := by
  intro T hT X
  have htr : e.platform.stackTraces = false := (show e.platform.stackTraces = l.stackTraces by rw [X.admits.platform]).trans hl
  have Y := vx_rebase X (R' := { frames := R.frames, locals := R.locals, cells := 1, slots := 6 }) (Nat.le_refl _) (Nat.le_refl _) hRcells hRslots
  obtain ⟨s', hA⟩ : ∃ z, z = (T.setVm s.vm).setFrames (.invoking m args :: below) := ⟨_, rfl⟩
  rw [← hA] at Y
  have hvm : s'.vm = s.vm := by rw [hA]; rfl
  have hhp : s'.heap = H := by rw [hA]; exact hT
  have hW0 : s.WarmedH s'.vm := by rw [hvm]; exact State.WarmedH.refl s
  have hat' : ∀ w ∈ vx_atS own ic cls names, w.before args s' = true := fun w hw => vx_ot_at hW0 hvm.symm (hgood w (List.mem_cons_of_mem _ (List.mem_cons_of_mem _ hw))) (hat w hw)
  have hk' : (Cond.classLink own ik cls).before args s' = true := vx_ot_at hW0 hvm.symm (hgood _ List.mem_cons_self) hk
  have hini' : (Cond.initialized cls).before args s' = true := vx_ot_at hW0 hvm.symm (hgood _ (List.mem_cons_of_mem _ List.mem_cons_self)) hini
  have hU' : vx_Zq Bundle.tN "UNASSIGNED_STACK" Bundle.steD A s' s'.heap := by rw [hhp]; exact vx_Zq.moved hW0.alike (hU.kept hS.2.1)
  have hN' : vx_Zq Bundle.tN "SUPPRESSED_SENTINEL" Bundle.listD A s' s'.heap := by rw [hhp]; exact vx_Zq.moved hW0.alike (hN.kept hS.2.1)
  have h : ∀ w ∈ Bundle.ownAtoms own ic cls names, w.before args s' = true := vx_own hat' (vx_isRefq hU'.1) (vx_isRefq hN'.1) hU'.2.word hN'.2.word
  have hown' : s'.vm.findClass own = some m.cls := by rw [hvm]; exact hown
  have hins : (Cond.instantiable cls 6).before args s' = true := h _ (by simp [Bundle.ownAtoms])
  obtain ⟨vm₁, cX, kX, hfX, hkX, -, -, X₁, st1⟩ := Y.newCold hexec (own := own) (C := cls) (index := ik) (n := 6) hown' hk' hins hini'
    (g := F0 m pc ls rest) rfl (by rw [hb]; exact d0) (Nat.le_refl _) (Nat.le_refl _)
  generalize hT1 : (T.setVm vm₁).pushCell { cls := cX, slots := kX.instanceTypes.map defaultValue, vm := .none } = T1 at X₁ st1
  have hcat : (Value.ref T.heap.size).category = 1 := rfl
  have hcellA : T1.heap[T.heap.size]? = some (freshCell cX kX) := by rw [← hT1]; exact State.heap_pushCell_size _ _
  have d3' : decode c.code (pc + 3) = .ok (.dup, 1) := by rw [hb]; exact d3
  have d4' : decode c.code (pc + 4) = .ok (.ldc_w is, 3) := by rw [hb]; exact d4
  have hstr' : vk_R own is text sa s' := vk_R.warm hW0 hstr
  obtain ⟨U, hsteps, hrun, hend, hW, hsame, ce, hce, hO⟩ := X₁.ctorThrowS hexec htr (own := own) (cls := cls) (names := names) (ic := ic) hown' hcls hnames h (fun x hx => nomatch hx) hfX hkX hcellA (by rw [hhp, hT]; exact Nat.le_refl _) (msg := .ref sa) rfl
    (g := { method := m, pc := pc + 7, locals := ls, stack := .ref sa :: .ref T.heap.size :: .ref T.heap.size :: rest, locked := none }) rfl hsize rfl rfl (rest := rest) rfl
    (by rw [hb]; exact d7) (by rw [hb]; exact d10) hout hRframes (by simp only [List.map_cons, List.sum_cons, hcat]; omega) hlocks
  obtain ⟨f1, f2⟩ := vx_frame hsame
  rw [hhp] at f1 f2
  have hWs : s.WarmedH U.vm := State.WarmedH.trans hW0 hW
  have hcl : s.vm.findClass cls = some ce.cls := by
    have h9 := hO.cls
    rw [hvm] at h9
    exact h9
  have hall : s.sameButNew ({ U with vm := s.vm } : State) locs mc ms := by
    subst hA
    obtain ⟨e1, e2⟩ := hsame
    rw [State.setFrames_setFrames] at e1
    have h2 : (T.setVm s.vm).sameButNew ({ U with vm := s.vm } : State) [] (0 + 1) (0 + 6) := ⟨e1, e2⟩
    have h3 := X.same.trans h2
    rw [List.append_nil] at h3
    exact h3.mono hc hs
  refine ⟨U, ?_, .threw T.heap.size, hrun, hend, Or.inr ⟨T.heap.size, rfl, cls, ce, locs, hx U hWs.alike f1 (fun q hq => f2 q hq (fun z hz => nomatch hz)), hce, hO.vm, hcl, hWs, hall, hf⟩⟩
  refine st1 _ ?_
  show Steps p.tables e below (T1.setTop { method := m, pc := pc + 3, locals := ls, stack := .ref T.heap.size :: rest, locked := none }) _
  jvm_step X₁.here [X₁.here.top, hexec, d3', Value.category]
  exact X₁.ldcStringW hexec (own := own) (text := text) (index := is) (a := sa) hown' hstr'.1 hstr'.2
    (g := { method := m, pc := pc + 4, locals := ls, stack := .ref T.heap.size :: .ref T.heap.size :: rest, locked := none }) rfl d4' _ hsteps
end Ends
section Bodies
variable {l : Launch}
theorem vx_ofW {y : MethodName} {ws ws' : List Cond} {rm : Room} {Pc : Array Value → State → Prop} {Qc : Array Value → State → Outcome → State → Prop} {XC : String → State → State → Prop} {mc ms : Nat} {free : Addr → Prop} {cc : ByteArray} {maxL : Nat} {ret : Option FieldType}
    (hy : plainName y.cls = true) (hw : ws = Cond.code y cc maxL ret :: ws')
    (body : ∀ p e s m args below meth c s₁, BodyLoose p l y (headSpec ws rm) cc maxL ret e s m args below meth c s₁ → c.maxLocals = maxL → (∀ x ∈ c.exceptionTable.toList, False) → Pc args s →
      W p l e (headSpec ws rm).room s m args below meth c s.heap [] 0 0 (vx_MQ below Qc XC args s mc ms free) (entryFrame m args maxL)) : vx_Met l y ws rm Pc Qc XC mc ms free := by
  refine MetFree.of_bodyS (code := cc) (maxLocals := maxL) (ret := ret) hy ?_ ?_
  · intro args s m h hn
    obtain ⟨meth, c, h1, h2, h3, h4, h5, h6, -, -⟩ := Cond.code_spec hn (atoms_spec (ws := ws) h _ (by rw [hw]; exact List.mem_cons_self))
    exact ⟨meth, c, h1, h2, h3, h4, h5, h6⟩
  · intro p e s m args below meth c s₁ B hml hP _
    have hh0 : s₁.heap = s.heap := by rw [B.state]; rfl
    have ht : ∀ x ∈ c.exceptionTable.toList, False := by
      obtain ⟨meth9, c9, h1, h2, -, -, -, -, h7, -⟩ := Cond.code_spec B.named (atoms_spec (ws := ws) B.pre _ (by rw [hw]; exact List.mem_cons_self))
      cases Option.some.inj (h1.symm.trans B.method)
      cases Option.some.inj (h2.symm.trans (Stand.of_body B).code)
      intro x hx
      rw [Array.isEmpty_iff.mp h7] at hx
      cases hx
    obtain ⟨t, a1, o, b1, b2, b3⟩ := body p e s m args below meth c s₁ B hml ht hP s₁ hh0 (Stand.of_body B)
    exact ⟨t, o, a1, b1, b2, b3⟩
/-- the table of a body with handlers -/
theorem vx_table {p : Program} {x y : MethodName} {S : Spec} {cc bytes : ByteArray} {maxL maxL' : Nat} {ret ret' : Option FieldType} {e : Env} {s s₁ : State} {m : MethodId} {args : Array Value} {below : List Frame} {meth : Method} {c : Code} {hh : List (Nat × Nat × Nat × Nat)}
    (B : BodyLoose p l y S cc maxL ret e s m args below meth c s₁) (h : (Cond.codeWith y bytes maxL' ret' hh).before args s = true) : c.exceptionTable.toList = tableOf hh := by
  obtain ⟨m9, meth9, c9, hn9, h1, h2, -, -, h6, -⟩ := Cond.codeWith_spec h
  cases Option.some.inj (hn9.symm.trans B.named)
  cases Option.some.inj (h1.symm.trans B.method)
  cases Option.some.inj (h2.symm.trans (Stand.of_body B).code)
  rw [← h6, table_eq]
end Bodies
end VXA
/-! ===== END ===== -/
/-! ===== BEGIN a static call of a method with an exception table ===== -/
section VXS
variable {p : Program} {l : Launch} {e : Env} {R : Room} {s : State} {m : MethodId} {args : Array Value} {below : List Frame} {meth : Method} {c : Code} {T : State} {H : Heap} {locs : List Loc} {cells slots : Nat}
abbrev vx_CSW (R : Room) (s : State) (args : Array Value) (own : String) (index : Nat) (y : MethodName) (bytes : ByteArray) (maxL : Nat) (ret : Option FieldType) (hh : List (Nat × Nat × Nat × Nat)) (ws : List Cond) (rm : Room) (mc ms n : Nat) : Prop :=
  (rm.cells = mc ∧ rm.slots = ms ∧ rm.frames + 1 ≤ R.frames ∧ 8 + (maxL + 11) + rm.locals ≤ R.locals ∧ (∀ w ∈ ws, ∀ (a' : Array Value) (U : State), s.WarmedH U.vm → w.before a' U = true) ∧ Cond.codeWith y bytes maxL ret hh ∈ ws) ∧
  (Cond.codeWith y bytes maxL ret hh).before args s = true ∧ (Cond.initialized y.cls).before args s = true ∧ (y.cls ≠ "java/lang/invoke/MethodHandle" ∧ y.cls ≠ "java/lang/invoke/VarHandle") ∧
  (∀ sig, parseMethodDescriptor y.desc = some sig → n = sig.parameters.length) ∧ (Cond.methodLink own index y).before args s = true ∧ (Cond.static y).before args s = true
theorem vx_cwSW {own : String} {index maxL mc ms : Nat} {y : MethodName} {bytes : ByteArray} {ret : Option FieldType} {hh : List (Nat × Nat × Nat × Nat)} {Ts ws ws' : List Cond} {rm : Room} (n : Nat) (ht : ∀ w ∈ Ts, w.before args s = true) (hT : GoodIn Ts (va_wsS own index y ws)) (hw : ws = Cond.codeWith y bytes maxL ret hh :: ws') (hrc : rm.cells = mc) (hrs : rm.slots = ms)
    (hd : y.cls ≠ "java/lang/invoke/MethodHandle" ∧ y.cls ≠ "java/lang/invoke/VarHandle" ∧ (parseMethodDescriptor y.desc).map (fun d => d.parameters.length) = some n) (hR : rm.frames + 1 ≤ R.frames ∧ 8 + (maxL + 11) + rm.locals ≤ R.locals) :
    vx_CSW R s args own index y bytes maxL ret hh ws rm mc ms n := by
  have ok : ∀ w ∈ va_wsS own index y ws, w.before args s = true := fun w h => ht w (hT w h).1
  have hG : GoodIn Ts ws := fun w h => hT w (by unfold va_wsS; exact List.mem_append_right _ h)
  have hc : Cond.codeWith y bytes maxL ret hh ∈ ws := by rw [hw]; exact List.mem_cons_self
  refine ⟨⟨hrc, hrs, hR.1, hR.2, pay_in ht hG, hc⟩, ht _ (hG _ hc).1, ok _ (by simp [va_wsS]), ⟨hd.1, hd.2.1⟩, fun sig h => ?_, ok _ (by simp [va_wsS]), ok _ (by simp [va_wsS])⟩
  have h2 := hd.2.2
  rw [h] at h2
  exact (Option.some.inj h2).symm
theorem vx_callSW (X : Stand p l e R s m args below meth c T locs cells slots) (hexec : p.tables.exec = Jvm.exec) {own : String} {index : Nat} {y : MethodName} {bytes : ByteArray} {maxL : Nat} {ret : Option FieldType} {hh : List (Nat × Nat × Nat × Nat)}
    (hown : s.vm.findClass own = some m.cls) (hlink : (Cond.methodLink own index y).before args s = true) (hstat : (Cond.static y).before args s = true) (hinit : (Cond.initialized y.cls).before args s = true)
    (hcode : (Cond.codeWith y bytes maxL ret hh).before args s = true) (hy : y.cls ≠ "java/lang/invoke/MethodHandle" ∧ y.cls ≠ "java/lang/invoke/VarHandle")
    {W9 : Nat} {Pre : Pt → Array Value → Prop} {Post : Pt → Array Value → Option Value → Pt → Prop} (hK : Back l R p e below s args y 3 W9 Pre Post)
    {g : JFrame} (hg : g.method = m) (hsize : g.locals.size = c.maxLocals) {argsL rest : List Value} (hlen : ∀ sig, parseMethodDescriptor y.desc = some sig → argsL.length = sig.parameters.length)
    (hstack : g.stack = argsL.reverse ++ rest) (hW : 2 * g.monitorRoom + (rest.map fun v => v.category).sum ≤ W9) (hdg : decode c.code g.pc = .ok (.invokestatic index, 3))
    (hpre : ∀ vm₁, s.WarmedH vm₁ → Pre ⟨T.setVm vm₁, locs, cells, slots⟩ argsL.toArray) :
    ∃ (v : Option Value) (vm₁ : Vm) (B : Pt), s.WarmedH vm₁ ∧ Stand p l e R s m args below meth c B.U B.locs B.cells B.slots ∧ Post ⟨T.setVm vm₁, locs, cells, slots⟩ argsL.toArray v B ∧
      ∀ target, Steps p.tables e below (B.U.setTop { g with pc := g.pc + 3, stack := v.toList ++ rest }) target → Steps p.tables e below (T.setTop g) target := by
  obtain ⟨mk, methM, cM, hnamed, hmethM, -, -, -, -, -, -, hsigM⟩ := Cond.codeWith_spec hcode
  have hstatic : methM.isStatic = true := Cond.static_spec hnamed hmethM hstat
  obtain ⟨kP, hkP, -⟩ := className_of_methodNamed hnamed
  have hinitP : kP.init = .initialized := Cond.initialized_spec (findClass_of_methodNamed hnamed) hkP hinit
  obtain ⟨vm₁, X₁, hstep₁⟩ := X.invokestatic hexec hown hlink hnamed hmethM hstatic hkP hinitP hy (g := g) hg (argsL := argsL) (rest := rest) (hlen _ hsigM) hstack hdg
  obtain ⟨v, B, X', hpost, hsteps⟩ := hK m meth c ⟨T.setVm vm₁, locs, cells, slots⟩ { g with stack := rest } (.invokestatic index) mk argsL.toArray X₁ hg hsize hdg hW (X₁.named hnamed) (hpre vm₁ X₁.warmed)
  exact ⟨v, vm₁, B, X₁.warmed, X', hpost, fun target h => hstep₁ _ fun acts => by rw [doInvoke_state]; exact hsteps.trans h⟩
theorem vx_runSW {y : MethodName} {bytes cc : ByteArray} {maxL nL mc ms n index : Nat} {ret : Option FieldType} {hh : List (Nat × Nat × Nat × Nat)} {ws : List Cond} {rm : Room} {Pc : Array Value → State → Prop} {Qc : Array Value → State → Outcome → State → Prop} {free : Addr → Prop} {Ts : List Cond} {own : String} {As rest : List Value} {g : JFrame}
    (S : CallFix p m c cc nL s args Ts own) (hM : Met l y ws rm Pc Qc mc ms free) (cw : vx_CSW R s args own index y bytes maxL ret hh ws rm mc ms n) (hp : PreS s H Pc As)
    (hg : g.method = m) (hn : As.length = n) (hsize : g.locals.size = nL) (hstack : g.stack = As.reverse ++ rest) (hW : 2 * g.monitorRoom + (rest.map fun v => v.category).sum ≤ 8) (hdg : decode cc g.pc = .ok (.invokestatic index, 3)) (hf : cells + mc ≤ R.cells ∧ slots + ms ≤ R.slots) :
    va_Run p l e R s m args below meth c H locs cells slots mc ms g rest (Qc As.toArray) (free) := by
  obtain ⟨⟨hrc, hrs, hfr, hlo, hws, hcw⟩, hcode, hini, hy, hlen, hl, hstt⟩ := cw
  have hK : Back l R p e below s args y 3 8 (PreOf R mc ms Pc) (PostOf Qc mc ms free) := va_backW (hh := hh) (bytes := bytes) (maxL := maxL) (ret := ret) hM hp.1 hrc hrs hfr hlo hws hcw (fun a' U hW => word_at hW (Or.inl (by first | rfl | simp [Cond.onTables, Cond.keeps, Cond.steady])) hini)
  obtain ⟨hx, hb, hml, ho, -⟩ := S
  intro T hT X
  obtain ⟨v, vm₁, ⟨U', l2, c2, s2⟩, hW₁, X', ⟨g', mk, t, L, e1, e2, hq, h1, hL, h2, h3⟩, st⟩ := vx_callSW X hx (hh := hh) (bytes := bytes) (maxL := maxL) (ret := ret) ho hl hstt hini hcode hy hK hg (hsize.trans hml.symm) (argsL := As) (rest := rest) (fun sig h => hn.trans (hlen sig h)) hstack hW (by rw [hb]; exact hdg)
    (fun vm₁ hW₁ => ⟨hf.1, hf.2, hp.2 (T.setVm vm₁) hT hW₁⟩)
  dsimp only [Pt.U, Pt.locs, Pt.cells, Pt.slots] at X' e1 e2 h1 h2 h3 st
  subst h1; subst h2; subst h3
  exact ⟨v, (T.setVm vm₁).calling g' mk As.toArray, t, U', L, hT, X', hL, e1, e2, hq, st⟩
/-- not caught here, past rows that name other classes: it goes on to the caller -/
theorem vx_outP {p : Program} {l : Launch} {e : Env} {R : Room} {s : State} {m : MethodId} {args : Array Value} {below : List Frame} {meth : Method} {c : Code} {H : Heap} {locs : List Loc} {cells slots : Nat} {free : Addr → Prop} {ls : Array Slot} {rest : List Value} {Qc : Array Value → State → Outcome → State → Prop} {XC : String → State → State → Prop}
    {pc : Nat} {own E : String} {ce : Cell} {q : Addr} {mc ms : Nat} (hown : s.vm.findClass own = some m.cls) (hlocks : meth.locks = false)
    (hpass : ∀ z ∈ c.exceptionTable.toList, covers z pc = false ∨ (z.catchType ≠ 0 ∧ ∃ nm : String, (Cond.classLink own z.catchType nm).before args s = true ∧ va_Nc E nm s)) (hcell : H[q]? = some ce) (hv : ce.vm = .none) (hcl : s.vm.findClass E = some ce.cls)
    (hx : ∀ t : State, t.heap = H → s.vm.Alike t.vm → XC E s t) (hf : ∀ z ∈ locs, free z.base) (hc : cells ≤ mc) (hs : slots ≤ ms) :
    vx_W p l e R s m args below meth c H locs cells slots (vx_MQ below Qc XC args s mc ms free) (F0 m pc ls rest) q := by
  intro T hT X
  have hpl : e.platform.magicAccessors = ({} : Platform).magicAccessors := by rw [X.admits.platform]
  obtain ⟨vm', hW', X', st⟩ := X.outThrough hlocks q (g := F0 m pc ls rest) rfl rfl rfl (cell := ce) (by rw [hT]; exact hcell) (by rw [hv]; rfl)
    (by obtain ⟨k9, h9, -⟩ := Vm.findClass_spec hcl; exact ⟨k9, h9⟩) (fun z hz => by
      rcases hpass z hz with h | ⟨hz0, nm, hl1, hn1⟩
      · exact Or.inl h
      · obtain ⟨c6, hc6, hcl6⟩ := Cond.classLink_spec hown hl1 e.platform hpl
        obtain ⟨a8, b8, h1, h2, h3⟩ := hn1
        cases Option.some.inj (h1.symm.trans hcl)
        cases Option.some.inj (h2.symm.trans hc6)
        exact Or.inr ⟨hz0, _, hcl6, h3⟩)
  obtain ⟨g₀, hfr⟩ := X'.frames_eq
  have hcell9 : ((T.setVm vm').setFrames (.throwing q :: below)).heap[q]? = some ce := by
    show T.heap[q]? = some ce
    rw [hT]; exact hcell
  have hend : Ended ((T.setVm vm').setFrames (.throwing q :: below)) below (.threw q) := State.frames_setFrames _ (State.cur_lt_of_frames hfr)
  refine ⟨(T.setVm vm').setFrames (.throwing q :: below), ?_, .threw q, X'.here.running, hend, Or.inr ⟨q, rfl, E, ce, locs, hx _ hT (X'.ends _).1.alike, hcell9, hv, hcl, (X'.ends _).1, (X'.ends _).2.mono hc hs, hf⟩⟩
  rw [X.pushThrowing_eq]
  exact st
/-- a thing of a world lies in the heap -/
theorem vx_lt {D : va_G} {cl : List vw_C} {ws : va_W} {H1 : Heap} (h : va_P D cl ws H1) {k : Nat} {q : Nat × va_E} (hk : ws[k]? = some q) : q.1 < H1.size := (h k q hk).lt
end VXS
/-! ===== END ===== -/
/-! ===== BEGIN methods with a table of their own: called by a name, returning or throwing ===== -/
section VXH
/-! vx_backW, vx_callVX, vx_callSX, vx_callVW, vx_runVW, vx_runVX, vx_runSX, vx_ofWH follow the same proofs as their sisters above (Free/Laws.lean, Shelf42/LK1.lean); vx_outP calls Shelf42/NT130.lean (outThrough). -/
section
variable {l : Launch} {R : Room} {p : Program} {e : Env} {below : List Frame} {s : State} {sargs : Array Value} {y : MethodName} {len W9 : Nat}
theorem vx_backW {ws : List Cond} {rm : Room} {Pc : Array Value → State → Prop} {Qc : Array Value → State → Outcome → State → Prop} {XC : String → State → State → Prop} {mc ms : Nat} {free : Addr → Prop} {bytes : ByteArray} {maxL : Nat} {ret : Option FieldType} {hh : List (Nat × Nat × Nat × Nat)}
    (hM : vx_Met l y ws rm Pc Qc XC mc ms free) (hblind : FrameBlind Pc) (hrc : rm.cells = mc) (hrs : rm.slots = ms)
    (hframes : rm.frames + 1 ≤ R.frames) (hlocals : W9 + (maxL + 11) + rm.locals ≤ R.locals)
    (hws : ∀ w ∈ ws, ∀ a' U, s.WarmedH U.vm → w.before a' U = true) (hcode : Cond.codeWith y bytes maxL ret hh ∈ ws) (hinit : ∀ a' U, s.WarmedH U.vm → (Cond.initialized y.cls).before a' U = true) :
    vx_Back l R p e below s sargs y len W9 (PreOf R mc ms Pc) (PostOf Qc mc ms free) (vx_Post XC mc ms free) := by
  intro m meth c A g ig mk a X hg hsize hdg hW hn hp
  have h1 : (headSpec ws rm).pre.before a A.U = true := atoms_intro fun w hw => hws w hw _ _ X.warmed
  have h2 : (Cond.codeWith y bytes maxL ret hh).before a A.U = true := hws _ hcode _ _ X.warmed
  have h3 : (Cond.initialized y.cls).before a A.U = true := hinit _ _ X.warmed
  have h4 : A.cells + (headSpec ws rm).room.cells ≤ R.cells := by rw [show (headSpec ws rm).room.cells = mc from hrc]; exact hp.1
  have h5 : A.slots + (headSpec ws rm).room.slots ≤ R.slots := by rw [show (headSpec ws rm).room.slots = ms from hrs]; exact hp.2.1
  have hPc : Pc a (A.U.calling g mk a) := hblind _ _ _ _ hp.2.2
  obtain ⟨U, Ls, c0, s0⟩ := A
  dsimp only [Pt.U, Pt.locs, Pt.cells, Pt.slots] at h1 h2 h3 h4 h5 X hn hPc ⊢
  obtain ⟨m9, methY, cY, hn9, hmY, hcY, -, hlY, -⟩ := Cond.codeWith_spec h2
  cases Option.some.inj (hn9.symm.trans hn)
  obtain ⟨kY, hkY, -⟩ := className_of_methodNamed hn
  have hinitY : kY.init = .initialized := Cond.initialized_spec (findClass_of_methodNamed hn) hkY h3
  have h : At U g.method c below := by rw [hg]; exact X.here
  have hlocals9 : W9 + (maxL + 11) + (headSpec ws rm).room.locals ≤ R.locals := hlocals
  have happ : (headSpec ws rm).appliesLoose y e.platform (U.calling g mk a) = true :=
    Spec.appliesLoose_calling (g := g) h hdg hn hkY hinitY
      (X.room_calling (g := g) (R' := (headSpec ws rm).room) hsize hmY hcY hframes (by rw [hlY]; omega) h4 h5) h1
  obtain ⟨mid, hmid⟩ := h.above
  have hfr : (U.setTop g).frames = (.java g :: mid) ++ below := by rw [State.frames_setTop' g h.top, hmid]; rfl
  obtain ⟨o, s₂, hsteps, -, hend, hq⟩ := Steps.callFree hM p X.admits X.cas X.clock (acts := []) hfr happ hPc trivial
  have hq' : vx_Q Qc XC mc ms free a (U.calling g mk a) o s₂ := hq
  rw [State.frames_setTop' g h.top] at hend
  obtain ⟨g₀, hg0⟩ := Option.isSome_iff_exists.mp h.top
  obtain ⟨r, hr⟩ := State.topJava?_eq_some.mp hg0
  have hr' : (({ U with heap := s₂.heap, slotsUsed := s₂.slotsUsed } : State).setVm s₂.vm).frames = .java g₀ :: r := hr
  rcases hq' with ⟨hqc, L, hfe, hL⟩ | ⟨q, rfl, E, ce, L, hx, hce, hcv, hcl, hW₂, hsm, hL⟩
  · obtain ⟨⟨v, rfl⟩, hW₂, e2, q2, q3, q4, q5, q6⟩ := id hfe
    have e3 : s₂ = ({ (U.calling g mk a).setFrames s₂.frames with heap := s₂.heap, slotsUsed := s₂.slotsUsed } : State).setVm s₂.vm := by
      have : s₂ = ({ s₂ with vm := (U.calling g mk a).vm } : State).setVm s₂.vm := rfl
      rw [e2] at this
      exact this
    obtain ⟨c₂, i₂, len₂, hc₂, hd₂, hf₂⟩ := hend
    have hW' : U.WarmedH s₂.vm := hW₂
    have hcc : c₂ = c := by
      have h1 : s₂.code? g.method = U.code? g.method := by
        rw [State.code?_eq, State.code?_eq, hW'.alike.method?]
      exact Option.some.inj (hc₂.symm.trans (h1.trans h.code))
    subst hcc
    have hlen : len₂ = len := by rw [hdg] at hd₂; cases hd₂; rfl
    subst hlen
    have hs₂ : s₂ = (({ U with heap := s₂.heap, slotsUsed := s₂.slotsUsed } : State).setVm s₂.vm).setTop { g with pc := g.pc + len₂, stack := v.toList ++ g.stack } := by
      refine e3.trans ?_
      rw [hf₂, State.calling_eq h.top, State.setFrames_setFrames, State.setTop_of_frames _ hr', hr]
      rfl
    have hsame : U.sameButNew ({ U with heap := s₂.heap, slotsUsed := s₂.slotsUsed } : State) L mc ms := by
      refine ⟨?_, q2, q3, q4, q5, q6⟩
      obtain ⟨t, ht, -⟩ := State.frames_cons hr
      show ({ U with heap := s₂.heap, slotsUsed := s₂.slotsUsed } : State) = { U.setFrames U.frames with heap := s₂.heap, slotsUsed := s₂.slotsUsed }
      rw [State.setFrames_self ht]
    subst hg
    refine Or.inl ⟨v, ⟨(({ U with heap := s₂.heap, slotsUsed := s₂.slotsUsed } : State).setVm s₂.vm), Ls ++ L, c0 + mc, s0 + ms⟩,
      ⟨X.admits, X.cas, X.clock, X.frames, X.room, X.hears, X.method, X.code, (X.here.setHeapUsed s₂.heap s₂.slotsUsed).setVm hW'.alike, X.tail, State.WarmedH.trans X.warmed hW', X.limits, X.bytes, X.same.trans (hsame.setVm s.vm)⟩,
      ⟨g, mk, s₂, L, rfl, rfl, hqc, rfl, hL, rfl, rfl⟩, ?_⟩
    show Steps p.tables e below _ ((({ U with heap := s₂.heap, slotsUsed := s₂.slotsUsed } : State).setVm s₂.vm).setTop { g with pc := g.pc + len₂, stack := v.toList ++ g.stack })
    rw [← hs₂]
    exact hsteps
  · obtain ⟨e2, q2, q3, q4, q5, q6⟩ := id hsm
    have e3 : s₂ = ({ (U.calling g mk a).setFrames s₂.frames with heap := s₂.heap, slotsUsed := s₂.slotsUsed } : State).setVm s₂.vm := by
      have : s₂ = ({ s₂ with vm := (U.calling g mk a).vm } : State).setVm s₂.vm := rfl
      rw [e2] at this
      exact this
    have hf₂ : s₂.frames = .throwing q :: .java g :: U.frames.tail := hend
    have hW' : U.WarmedH s₂.vm := hW₂
    have hs₂ : s₂ = ((({ U with heap := s₂.heap, slotsUsed := s₂.slotsUsed } : State).setVm s₂.vm).setTop g).pushFrame (.throwing q) := by
      refine e3.trans ?_
      rw [hf₂, State.calling_eq h.top, State.setFrames_setFrames, State.pushFrame, State.frames_setTop _ hr', State.setTop_of_frames _ hr', State.setFrames_setFrames, hr]
      rfl
    have hsame : U.sameButNew ({ U with heap := s₂.heap, slotsUsed := s₂.slotsUsed } : State) L mc ms := by
      refine ⟨?_, q2, q3, q4, q5, q6⟩
      obtain ⟨t, ht, -⟩ := State.frames_cons hr
      show ({ U with heap := s₂.heap, slotsUsed := s₂.slotsUsed } : State) = { U.setFrames U.frames with heap := s₂.heap, slotsUsed := s₂.slotsUsed }
      rw [State.setFrames_self ht]
    subst hg
    refine Or.inr ⟨q, ⟨(({ U with heap := s₂.heap, slotsUsed := s₂.slotsUsed } : State).setVm s₂.vm), Ls ++ L, c0 + mc, s0 + ms⟩,
      ⟨X.admits, X.cas, X.clock, X.frames, X.room, X.hears, X.method, X.code, (X.here.setHeapUsed s₂.heap s₂.slotsUsed).setVm hW'.alike, X.tail, State.WarmedH.trans X.warmed hW', X.limits, X.bytes, X.same.trans (hsame.setVm s.vm)⟩,
      ⟨g, mk, s₂, L, E, ce, rfl, rfl, hx, hce, hcv, hcl, rfl, hL, rfl, rfl⟩, ?_⟩
    show Steps p.tables e below _ (((({ U with heap := s₂.heap, slotsUsed := s₂.slotsUsed } : State).setVm s₂.vm).setTop g).pushFrame (.throwing q))
    rw [← hs₂]
    exact hsteps
end
variable {p : Program} {l : Launch} {e : Env} {R : Room} {s : State} {m : MethodId} {args : Array Value} {below : List Frame} {meth : Method} {c : Code} {T : State} {H : Heap} {locs : List Loc} {cells slots : Nat}
theorem vx_callVX (X : Stand p l e R s m args below meth c T locs cells slots) (hexec : p.tables.exec = Jvm.exec) {own C : String} {index : Nat} {y : MethodName} {bytes : ByteArray} {maxL : Nat} {ret : Option FieldType} {hh : List (Nat × Nat × Nat × Nat)}
    (hown : s.vm.findClass own = some m.cls) (hlink : (Cond.methodLink own index y).before args s = true) (hinst : (Cond.instanceMethod y).before args s = true) (hsel : (Cond.selects C y y).before args s = true)
    (hcode : (Cond.codeWith y bytes maxL ret hh).before args s = true) (hy : y.cls ≠ "java/lang/invoke/MethodHandle" ∧ y.cls ≠ "java/lang/invoke/VarHandle")
    {W9 : Nat} {Pre : Pt → Array Value → Prop} {Post : Pt → Array Value → Option Value → Pt → Prop} {PostX : Pt → Array Value → Addr → Pt → Prop} (hK : vx_Back l R p e below s args y 3 W9 Pre Post PostX)
    {b : Addr} {cellB : Cell} (hcell : T.heap[b]? = some cellB) (hobj : cellB.vm.isStatics = false) (hcls : s.vm.findClass C = some cellB.cls)
    {g : JFrame} (hg : g.method = m) (hsize : g.locals.size = c.maxLocals) {argsL rest : List Value} (hlen : ∀ sig, parseMethodDescriptor y.desc = some sig → argsL.length = sig.parameters.length)
    (hstack : g.stack = argsL.reverse ++ .ref b :: rest) (hW : 2 * g.monitorRoom + (rest.map fun v => v.category).sum ≤ W9) (hdg : decode c.code g.pc = .ok (.invokevirtual index, 3))
    (hpre : ∀ vm₁, s.WarmedH vm₁ → Pre ⟨T.setVm vm₁, locs, cells, slots⟩ (Value.ref b :: argsL).toArray) :
    (∃ (v : Option Value) (vm₁ : Vm) (B : Pt), s.WarmedH vm₁ ∧ Stand p l e R s m args below meth c B.U B.locs B.cells B.slots ∧ Post ⟨T.setVm vm₁, locs, cells, slots⟩ (Value.ref b :: argsL).toArray v B ∧
      ∀ target, Steps p.tables e below (B.U.setTop { g with pc := g.pc + 3, stack := v.toList ++ rest }) target → Steps p.tables e below (T.setTop g) target) ∨
    (∃ (q : Addr) (vm₁ : Vm) (B : Pt), s.WarmedH vm₁ ∧ Stand p l e R s m args below meth c B.U B.locs B.cells B.slots ∧ PostX ⟨T.setVm vm₁, locs, cells, slots⟩ (Value.ref b :: argsL).toArray q B ∧
      Steps p.tables e below (T.setTop g) ((B.U.setTop { g with stack := rest }).pushFrame (.throwing q))) := by
  obtain ⟨mk, methM, hnamed, hmethM, hstM, habM⟩ := Cond.instanceMethod_spec hinst
  obtain ⟨m8, methM', cM, hn8, hmethM', -, -, -, -, -, -, hsigM⟩ := Cond.codeWith_spec hcode
  cases Option.some.inj (hn8.symm.trans hnamed)
  cases hmethM.symm.trans hmethM'
  obtain ⟨c2, r2, m2, q1, q2, q3, q4, kP, hkP, hkPi⟩ := Cond.selects_spec hsel
  cases hcls.symm.trans q1
  cases (State.methodFound?_of_named hnamed hy).symm.trans q2
  cases hnamed.symm.trans q3
  have hselP : selectMethod e.platform s.vm cellB.cls mk = .method mk := by rw [Launch.admits_selectMethod X.admits]; exact q4
  obtain ⟨vm₁, X₁, hstep₁⟩ := X.invokevirtual hexec hown hlink hnamed hmethM hstM hkP hkPi hy (a := b) (cell := cellB) hcell
    (fun z h => by rw [h] at hobj; cases hobj) hselP hmethM habM hkP hkPi (g := g) hg (argsL := argsL) (rest := rest) (hlen _ hsigM) hstack hdg
  rcases hK m meth c ⟨T.setVm vm₁, locs, cells, slots⟩ { g with stack := rest } (.invokevirtual index) mk (Value.ref b :: argsL).toArray X₁ hg hsize hdg hW (X₁.named hnamed) (hpre vm₁ X₁.warmed) with ⟨v, B, X', hpost, hsteps⟩ | ⟨q, B, X', hpost, hsteps⟩
  · exact Or.inl ⟨v, vm₁, B, X₁.warmed, X', hpost, fun target h => hstep₁ _ fun acts => by rw [doInvoke_state]; exact hsteps.trans h⟩
  · exact Or.inr ⟨q, vm₁, B, X₁.warmed, X', hpost, hstep₁ _ fun acts => by rw [doInvoke_state]; exact hsteps⟩
theorem vx_callSX (X : Stand p l e R s m args below meth c T locs cells slots) (hexec : p.tables.exec = Jvm.exec) {own : String} {index : Nat} {y : MethodName} {bytes : ByteArray} {maxL : Nat} {ret : Option FieldType} {hh : List (Nat × Nat × Nat × Nat)}
    (hown : s.vm.findClass own = some m.cls) (hlink : (Cond.methodLink own index y).before args s = true) (hstat : (Cond.static y).before args s = true) (hinit : (Cond.initialized y.cls).before args s = true)
    (hcode : (Cond.codeWith y bytes maxL ret hh).before args s = true) (hy : y.cls ≠ "java/lang/invoke/MethodHandle" ∧ y.cls ≠ "java/lang/invoke/VarHandle")
    {W9 : Nat} {Pre : Pt → Array Value → Prop} {Post : Pt → Array Value → Option Value → Pt → Prop} {PostX : Pt → Array Value → Addr → Pt → Prop} (hK : vx_Back l R p e below s args y 3 W9 Pre Post PostX)
    {g : JFrame} (hg : g.method = m) (hsize : g.locals.size = c.maxLocals) {argsL rest : List Value} (hlen : ∀ sig, parseMethodDescriptor y.desc = some sig → argsL.length = sig.parameters.length)
    (hstack : g.stack = argsL.reverse ++ rest) (hW : 2 * g.monitorRoom + (rest.map fun v => v.category).sum ≤ W9) (hdg : decode c.code g.pc = .ok (.invokestatic index, 3))
    (hpre : ∀ vm₁, s.WarmedH vm₁ → Pre ⟨T.setVm vm₁, locs, cells, slots⟩ argsL.toArray) :
    (∃ (v : Option Value) (vm₁ : Vm) (B : Pt), s.WarmedH vm₁ ∧ Stand p l e R s m args below meth c B.U B.locs B.cells B.slots ∧ Post ⟨T.setVm vm₁, locs, cells, slots⟩ argsL.toArray v B ∧
      ∀ target, Steps p.tables e below (B.U.setTop { g with pc := g.pc + 3, stack := v.toList ++ rest }) target → Steps p.tables e below (T.setTop g) target) ∨
    (∃ (q : Addr) (vm₁ : Vm) (B : Pt), s.WarmedH vm₁ ∧ Stand p l e R s m args below meth c B.U B.locs B.cells B.slots ∧ PostX ⟨T.setVm vm₁, locs, cells, slots⟩ argsL.toArray q B ∧
      Steps p.tables e below (T.setTop g) ((B.U.setTop { g with stack := rest }).pushFrame (.throwing q))) := by
  obtain ⟨mk, methM, cM, hnamed, hmethM, -, -, -, -, -, -, hsigM⟩ := Cond.codeWith_spec hcode
  have hstatic : methM.isStatic = true := Cond.static_spec hnamed hmethM hstat
  obtain ⟨kP, hkP, -⟩ := className_of_methodNamed hnamed
  have hinitP : kP.init = .initialized := Cond.initialized_spec (findClass_of_methodNamed hnamed) hkP hinit
  obtain ⟨vm₁, X₁, hstep₁⟩ := X.invokestatic hexec hown hlink hnamed hmethM hstatic hkP hinitP hy (g := g) hg (argsL := argsL) (rest := rest) (hlen _ hsigM) hstack hdg
  rcases hK m meth c ⟨T.setVm vm₁, locs, cells, slots⟩ { g with stack := rest } (.invokestatic index) mk argsL.toArray X₁ hg hsize hdg hW (X₁.named hnamed) (hpre vm₁ X₁.warmed) with ⟨v, B, X', hpost, hsteps⟩ | ⟨q, B, X', hpost, hsteps⟩
  · exact Or.inl ⟨v, vm₁, B, X₁.warmed, X', hpost, fun target h => hstep₁ _ fun acts => by rw [doInvoke_state]; exact hsteps.trans h⟩
  · exact Or.inr ⟨q, vm₁, B, X₁.warmed, X', hpost, hstep₁ _ fun acts => by rw [doInvoke_state]; exact hsteps⟩
theorem vx_callVW (X : Stand p l e R s m args below meth c T locs cells slots) (hexec : p.tables.exec = Jvm.exec) {own C : String} {index : Nat} {y : MethodName} {bytes : ByteArray} {maxL : Nat} {ret : Option FieldType} {hh : List (Nat × Nat × Nat × Nat)}
    (hown : s.vm.findClass own = some m.cls) (hlink : (Cond.methodLink own index y).before args s = true) (hinst : (Cond.instanceMethod y).before args s = true) (hsel : (Cond.selects C y y).before args s = true)
    (hcode : (Cond.codeWith y bytes maxL ret hh).before args s = true) (hy : y.cls ≠ "java/lang/invoke/MethodHandle" ∧ y.cls ≠ "java/lang/invoke/VarHandle")
    {W9 : Nat} {Pre : Pt → Array Value → Prop} {Post : Pt → Array Value → Option Value → Pt → Prop} (hK : Back l R p e below s args y 3 W9 Pre Post)
    {b : Addr} {cellB : Cell} (hcell : T.heap[b]? = some cellB) (hobj : cellB.vm.isStatics = false) (hcls : s.vm.findClass C = some cellB.cls)
    {g : JFrame} (hg : g.method = m) (hsize : g.locals.size = c.maxLocals) {argsL rest : List Value} (hlen : ∀ sig, parseMethodDescriptor y.desc = some sig → argsL.length = sig.parameters.length)
    (hstack : g.stack = argsL.reverse ++ .ref b :: rest) (hW : 2 * g.monitorRoom + (rest.map fun v => v.category).sum ≤ W9) (hdg : decode c.code g.pc = .ok (.invokevirtual index, 3))
    (hpre : ∀ vm₁, s.WarmedH vm₁ → Pre ⟨T.setVm vm₁, locs, cells, slots⟩ (Value.ref b :: argsL).toArray) :
    ∃ (v : Option Value) (vm₁ : Vm) (B : Pt), s.WarmedH vm₁ ∧ Stand p l e R s m args below meth c B.U B.locs B.cells B.slots ∧ Post ⟨T.setVm vm₁, locs, cells, slots⟩ (Value.ref b :: argsL).toArray v B ∧
      ∀ target, Steps p.tables e below (B.U.setTop { g with pc := g.pc + 3, stack := v.toList ++ rest }) target → Steps p.tables e below (T.setTop g) target := by
  obtain ⟨mk, methM, hnamed, hmethM, hstM, habM⟩ := Cond.instanceMethod_spec hinst
  obtain ⟨m8, methM', cM, hn8, hmethM', -, -, -, -, -, -, hsigM⟩ := Cond.codeWith_spec hcode
  cases Option.some.inj (hn8.symm.trans hnamed)
  cases hmethM.symm.trans hmethM'
  obtain ⟨c2, r2, m2, q1, q2, q3, q4, kP, hkP, hkPi⟩ := Cond.selects_spec hsel
  cases hcls.symm.trans q1
  cases (State.methodFound?_of_named hnamed hy).symm.trans q2
  cases hnamed.symm.trans q3
  have hselP : selectMethod e.platform s.vm cellB.cls mk = .method mk := by rw [Launch.admits_selectMethod X.admits]; exact q4
  obtain ⟨vm₁, X₁, hstep₁⟩ := X.invokevirtual hexec hown hlink hnamed hmethM hstM hkP hkPi hy (a := b) (cell := cellB) hcell
    (fun z h => by rw [h] at hobj; cases hobj) hselP hmethM habM hkP hkPi (g := g) hg (argsL := argsL) (rest := rest) (hlen _ hsigM) hstack hdg
  obtain ⟨v, B, X', hpost, hsteps⟩ := hK m meth c ⟨T.setVm vm₁, locs, cells, slots⟩ { g with stack := rest } (.invokevirtual index) mk (Value.ref b :: argsL).toArray X₁ hg hsize hdg hW (X₁.named hnamed) (hpre vm₁ X₁.warmed)
  exact ⟨v, vm₁, B, X₁.warmed, X', hpost, fun target h => hstep₁ _ fun acts => by rw [doInvoke_state]; exact hsteps.trans h⟩
abbrev vx_CVW (R : Room) (s : State) (args : Array Value) (own C : String) (index : Nat) (y : MethodName) (bytes : ByteArray) (maxL : Nat) (ret : Option FieldType) (hh : List (Nat × Nat × Nat × Nat)) (ws : List Cond) (rm : Room) (mc ms n : Nat) : Prop :=
  (rm.cells = mc ∧ rm.slots = ms ∧ rm.frames + 1 ≤ R.frames ∧ 8 + (maxL + 11) + rm.locals ≤ R.locals ∧ (∀ w ∈ ws, ∀ (a' : Array Value) (U : State), s.WarmedH U.vm → w.before a' U = true) ∧ Cond.codeWith y bytes maxL ret hh ∈ ws) ∧
  (Cond.codeWith y bytes maxL ret hh).before args s = true ∧ (Cond.initialized y.cls).before args s = true ∧ (y.cls ≠ "java/lang/invoke/MethodHandle" ∧ y.cls ≠ "java/lang/invoke/VarHandle") ∧
  (∀ sig, parseMethodDescriptor y.desc = some sig → n = sig.parameters.length) ∧ (Cond.methodLink own index y).before args s = true ∧ (Cond.instanceMethod y).before args s = true ∧ (Cond.selects C y y).before args s = true
theorem vx_cwVW {own C : String} {index maxL mc ms : Nat} {y : MethodName} {bytes : ByteArray} {ret : Option FieldType} {hh : List (Nat × Nat × Nat × Nat)} {Ts ws ws' : List Cond} {rm : Room} (n : Nat) (ht : ∀ w ∈ Ts, w.before args s = true) (hT : GoodIn Ts (wsV own index C y ws)) (hw : ws = Cond.codeWith y bytes maxL ret hh :: ws') (hrc : rm.cells = mc) (hrs : rm.slots = ms)
    (hd : y.cls = C ∧ y.cls ≠ "java/lang/invoke/MethodHandle" ∧ y.cls ≠ "java/lang/invoke/VarHandle" ∧ (parseMethodDescriptor y.desc).map (fun d => d.parameters.length) = some n) (hR : rm.frames + 1 ≤ R.frames ∧ 8 + (maxL + 11) + rm.locals ≤ R.locals) :
    vx_CVW R s args own C index y bytes maxL ret hh ws rm mc ms n := by
  obtain ⟨hC, hd⟩ := hd
  subst hC
  have ok : ∀ w ∈ wsV own index y.cls y ws, w.before args s = true := fun w h => ht w (hT w h).1
  have hG : GoodIn Ts ws := fun w h => hT w (by unfold wsV; exact List.mem_append_right _ h)
  have hc : Cond.codeWith y bytes maxL ret hh ∈ ws := by rw [hw]; exact List.mem_cons_self
  refine ⟨⟨hrc, hrs, hR.1, hR.2, pay_in ht hG, hc⟩, ht _ (hG _ hc).1, ok _ (by simp [wsV]), ⟨hd.1, hd.2.1⟩, fun sig h => ?_, ok _ (by simp [wsV]), ok _ (by simp [wsV]), ok _ (by simp [wsV])⟩
  have h2 := hd.2.2
  rw [h] at h2
  exact (Option.some.inj h2).symm
theorem vx_runVW {y : MethodName} {bytes cc : ByteArray} {maxL nL mc ms n index : Nat} {ret : Option FieldType} {hh : List (Nat × Nat × Nat × Nat)} {ws : List Cond} {rm : Room} {Pc : Array Value → State → Prop} {Qc : Array Value → State → Outcome → State → Prop} {free : Addr → Prop} {Ts : List Cond} {own C : String} {b : Addr} {As rest : List Value} {g : JFrame}
    (S : CallFix p m c cc nL s args Ts own) (hM : Met l y ws rm Pc Qc mc ms free) (cw : vx_CVW R s args own C index y bytes maxL ret hh ws rm mc ms n) (hp : PreV s H C b Pc As)
    (hg : g.method = m) (hn : As.length = n) (hsize : g.locals.size = nL) (hstack : g.stack = As.reverse ++ .ref b :: rest) (hW : 2 * g.monitorRoom + (rest.map fun v => v.category).sum ≤ 8) (hdg : decode cc g.pc = .ok (.invokevirtual index, 3)) (hf : cells + mc ≤ R.cells ∧ slots + ms ≤ R.slots) :
    va_Run p l e R s m args below meth c H locs cells slots mc ms g rest (Qc (Value.ref b :: As).toArray) free := by
  obtain ⟨⟨hrc, hrs, hfr, hlo, hws, hcw⟩, hcode, hini, hy, hlen, hl, hin, hse⟩ := cw
  have hK : Back l R p e below s args y 3 8 (PreOf R mc ms Pc) (PostOf Qc mc ms free) := va_backW (hh := hh) (bytes := bytes) (maxL := maxL) (ret := ret) hM hp.1 hrc hrs hfr hlo hws hcw (fun a' U hW => word_at hW (Or.inl (by first | rfl | simp [Cond.onTables, Cond.keeps, Cond.steady])) hini)
  obtain ⟨hx, hb, hml, ho, -⟩ := S
  obtain ⟨-, ⟨cellB, hcB, hoB, hclB⟩, hPc⟩ := hp
  intro T hT X
  obtain ⟨v, vm₁, ⟨U', l2, c2, s2⟩, hW₁, X', ⟨g', mk, t, L, e1, e2, hq, h1, hL, h2, h3⟩, st⟩ := vx_callVW X hx (C := C) (hh := hh) (bytes := bytes) (maxL := maxL) (ret := ret) ho hl hin hse hcode hy hK (by rw [hT]; exact hcB) hoB hclB hg (hsize.trans hml.symm) (argsL := As) (rest := rest) (fun sig h => hn.trans (hlen sig h)) hstack hW (by rw [hb]; exact hdg)
    (fun vm₁ hW₁ => ⟨hf.1, hf.2, hPc (T.setVm vm₁) hT hW₁⟩)
  dsimp only [Pt.U, Pt.locs, Pt.cells, Pt.slots] at X' e1 e2 h1 h2 h3 st
  subst h1; subst h2; subst h3
  exact ⟨v, (T.setVm vm₁).calling g' mk (Value.ref b :: As).toArray, t, U', L, hT, X', hL, e1, e2, hq, st⟩
section
variable {y : MethodName} {bytes cc : ByteArray} {maxL nL mc ms n index : Nat} {ret : Option FieldType} {ws : List Cond} {rm : Room} {Pc : Array Value → State → Prop} {Qc : Array Value → State → Outcome → State → Prop} {XC : String → State → State → Prop} {free : Addr → Prop} {Ts : List Cond} {own C : String} {b : Addr} {As rest : List Value} {g : JFrame}
theorem vx_runVX {hh : List (Nat × Nat × Nat × Nat)} (S : CallFix p m c cc nL s args Ts own) (hM : vx_Met l y ws rm Pc Qc XC mc ms free) (cw : vx_CVW R s args own C index y bytes maxL ret hh ws rm mc ms n) (hp : PreV s H C b Pc As)
    (hg : g.method = m) (hn : As.length = n) (hsize : g.locals.size = nL) (hstack : g.stack = As.reverse ++ .ref b :: rest) (hW : 2 * g.monitorRoom + (rest.map fun v => v.category).sum ≤ 8) (hdg : decode cc g.pc = .ok (.invokevirtual index, 3)) (hf : cells + mc ≤ R.cells ∧ slots + ms ≤ R.slots) :
    vx_Run p l e R s m args below meth c H locs cells slots mc ms g rest (Qc (Value.ref b :: As).toArray) XC free := by
  obtain ⟨⟨hrc, hrs, hfr, hlo, hws, hcw⟩, hcode, hini, hy, hlen, hl, hin, hse⟩ := cw
  have hK : vx_Back l R p e below s args y 3 8 (PreOf R mc ms Pc) (PostOf Qc mc ms free) (vx_Post XC mc ms free) := vx_backW (hh := hh) (bytes := bytes) (maxL := maxL) (ret := ret) hM hp.1 hrc hrs hfr hlo hws hcw (fun a' U hW => word_at hW (Or.inl (by first | rfl | simp [Cond.onTables, Cond.keeps, Cond.steady])) hini)
  obtain ⟨hx, hb, hml, ho, -⟩ := S
  obtain ⟨-, ⟨cellB, hcB, hoB, hclB⟩, hPc⟩ := hp
  intro T hT X
  rcases vx_callVX X hx (C := C) (hh := hh) (bytes := bytes) (maxL := maxL) (ret := ret) ho hl hin hse hcode hy hK (by rw [hT]; exact hcB) hoB hclB hg (hsize.trans hml.symm) (argsL := As) (rest := rest) (fun sig h => hn.trans (hlen sig h)) hstack hW (by rw [hb]; exact hdg)
    (fun vm₁ hW₁ => ⟨hf.1, hf.2, hPc (T.setVm vm₁) hT hW₁⟩) with ⟨v, vm₁, ⟨U', l2, c2, s2⟩, hW₁, X', ⟨g', mk, t, L, e1, e2, hq, h1, hL, h2, h3⟩, st⟩ | ⟨q, vm₁, ⟨U', l2, c2, s2⟩, hW₁, X', ⟨g', mk, t, L, E, ce, e1, e2, hq, hce, hcv, hcl, h1, hL, h2, h3⟩, st⟩
  · dsimp only [Pt.U, Pt.locs, Pt.cells, Pt.slots] at X' e1 e2 h1 h2 h3 st
    subst h1; subst h2; subst h3
    exact Or.inl ⟨v, (T.setVm vm₁).calling g' mk (Value.ref b :: As).toArray, t, U', L, hT, X', hL, e1, e2, hq, st⟩
  · dsimp only [Pt.U, Pt.locs, Pt.cells, Pt.slots] at X' e1 e2 h1 h2 h3 st hcl
    subst h1; subst h2; subst h3
    exact Or.inr ⟨q, (T.setVm vm₁).calling g' mk (Value.ref b :: As).toArray, t, U', L, E, ce, hT, X', hL, e1, e2, hq, hce, hcv, vx_cls hW₁ hcl, st⟩
theorem vx_runSX {hh : List (Nat × Nat × Nat × Nat)} (S : CallFix p m c cc nL s args Ts own) (hM : vx_Met l y ws rm Pc Qc XC mc ms free) (cw : vx_CSW R s args own index y bytes maxL ret hh ws rm mc ms n) (hp : PreS s H Pc As)
    (hg : g.method = m) (hn : As.length = n) (hsize : g.locals.size = nL) (hstack : g.stack = As.reverse ++ rest) (hW : 2 * g.monitorRoom + (rest.map fun v => v.category).sum ≤ 8) (hdg : decode cc g.pc = .ok (.invokestatic index, 3)) (hf : cells + mc ≤ R.cells ∧ slots + ms ≤ R.slots) :
    vx_Run p l e R s m args below meth c H locs cells slots mc ms g rest (Qc As.toArray) XC free := by
  obtain ⟨⟨hrc, hrs, hfr, hlo, hws, hcw⟩, hcode, hini, hy, hlen, hl, hstt⟩ := cw
  have hK : vx_Back l R p e below s args y 3 8 (PreOf R mc ms Pc) (PostOf Qc mc ms free) (vx_Post XC mc ms free) := vx_backW (hh := hh) (bytes := bytes) (maxL := maxL) (ret := ret) hM hp.1 hrc hrs hfr hlo hws hcw (fun a' U hW => word_at hW (Or.inl (by first | rfl | simp [Cond.onTables, Cond.keeps, Cond.steady])) hini)
  obtain ⟨hx, hb, hml, ho, -⟩ := S
  intro T hT X
  rcases vx_callSX X hx (hh := hh) (bytes := bytes) (maxL := maxL) (ret := ret) ho hl hstt hini hcode hy hK hg (hsize.trans hml.symm) (argsL := As) (rest := rest) (fun sig h => hn.trans (hlen sig h)) hstack hW (by rw [hb]; exact hdg)
    (fun vm₁ hW₁ => ⟨hf.1, hf.2, hp.2 (T.setVm vm₁) hT hW₁⟩) with ⟨v, vm₁, ⟨U', l2, c2, s2⟩, hW₁, X', ⟨g', mk, t, L, e1, e2, hq, h1, hL, h2, h3⟩, st⟩ | ⟨q, vm₁, ⟨U', l2, c2, s2⟩, hW₁, X', ⟨g', mk, t, L, E, ce, e1, e2, hq, hce, hcv, hcl, h1, hL, h2, h3⟩, st⟩
  · dsimp only [Pt.U, Pt.locs, Pt.cells, Pt.slots] at X' e1 e2 h1 h2 h3 st
    subst h1; subst h2; subst h3
    exact Or.inl ⟨v, (T.setVm vm₁).calling g' mk As.toArray, t, U', L, hT, X', hL, e1, e2, hq, st⟩
  · dsimp only [Pt.U, Pt.locs, Pt.cells, Pt.slots] at X' e1 e2 h1 h2 h3 st hcl
    subst h1; subst h2; subst h3
    exact Or.inr ⟨q, (T.setVm vm₁).calling g' mk As.toArray, t, U', L, E, ce, hT, X', hL, e1, e2, hq, hce, hcv, vx_cls hW₁ hcl, st⟩
end
end VXH
theorem vx_ofWH {l : Launch} {y : MethodName} {ws ws' : List Cond} {rm : Room} {Pc : Array Value → State → Prop} {Qc : Array Value → State → Outcome → State → Prop} {XC : String → State → State → Prop} {mc ms : Nat} {free : Addr → Prop} {cc : ByteArray} {maxL : Nat} {ret : Option FieldType} {hh : List (Nat × Nat × Nat × Nat)}
    (hy : plainName y.cls = true) (hw : ws = Cond.codeWith y cc maxL ret hh :: ws')
    (body : ∀ p e s m args below meth c s₁, BodyLoose p l y (headSpec ws rm) cc maxL ret e s m args below meth c s₁ → c.maxLocals = maxL → Pc args s →
      W p l e (headSpec ws rm).room s m args below meth c s.heap [] 0 0 (vx_MQ below Qc XC args s mc ms free) (entryFrame m args maxL)) : vx_Met l y ws rm Pc Qc XC mc ms free := by
  refine MetFree.of_bodyS (code := cc) (maxLocals := maxL) (ret := ret) hy ?_ ?_
  · intro args s m h hn
    obtain ⟨m9, meth, c, hn9, h1, h2, h3, h4, -, h5, h6, -⟩ := Cond.codeWith_spec (atoms_spec (ws := ws) h _ (by rw [hw]; exact List.mem_cons_self))
    cases hn.symm.trans hn9
    exact ⟨meth, c, h1, h2, h3, h4, h5, h6⟩
  · intro p e s m args below meth c s₁ B hml hP _
    have hh0 : s₁.heap = s.heap := by rw [B.state]; rfl
    obtain ⟨t, a1, o, b1, b2, b3⟩ := body p e s m args below meth c s₁ B hml hP s₁ hh0 (Stand.of_body B)
    exact ⟨t, o, a1, b1, b2, b3⟩
/-! ===== END ===== -/
end
section
/-! ===== BEGIN printed: names, fields, word lists, decode rows ===== -/
def RX0 : String := "CrashBuckets$AddressMaps"
def TX0 : u_T := fun k => match k with
  | 0 => ("CrashBuckets$AddressMaps", "counts", "[I", true)
  | 1 => ("CrashBuckets$AddressMaps", "froms", "[[I", true)
  | 2 => ("CrashBuckets$AddressMaps", "tos", "[[I", true)
  | _ => ("CrashBuckets$AddressMaps", "functions", "[[I", true)
def tyX0 : Nat → FieldType := fun k => match k with
  | 0 => .array .int
  | 1 => .array (.array .int)
  | 2 => .array (.array .int)
  | _ => .array (.array .int)
abbrev wsX00 : List Cond := u_ws RX0 TX0 4
theorem nmX0 : ∀ a, a < 4 → ∀ b, b < 4 → a ≠ b → (TX0 a).2.1 ≠ (TX0 b).2.1 := by decide +kernel
theorem tyX0_ok : ∀ k, k < 4 → parseFieldDescriptor (TX0 k).2.2.1 = some (tyX0 k) := by decide +kernel
abbrev cX0_init : ByteArray := prog_2_method_1_code
def yX0_init : MethodName := ⟨RX0, "<init>", "()V"⟩
abbrev cX0_isFull : ByteArray := prog_2_method_2_code
def yX0_isFull : MethodName := ⟨RX0, "isFull", "(I)Z"⟩
abbrev cX0_overlaps : ByteArray := prog_2_method_3_code
def yX0_overlaps : MethodName := ⟨RX0, "overlaps", "(III)Z"⟩
abbrev cX0_add : ByteArray := prog_2_method_4_code
def yX0_add : MethodName := ⟨RX0, "add", "(IIII)V"⟩
abbrev cX0_functionAt : ByteArray := prog_2_method_5_code
def yX0_functionAt : MethodName := ⟨RX0, "functionAt", "(II)I"⟩
def RX1 : String := "CrashBuckets$Buckets"
def TX1 : u_T := fun k => match k with
  | 0 => ("CrashBuckets$Buckets", "frames", "[[I", true)
  | 1 => ("CrashBuckets$Buckets", "mattering", "[[I", true)
  | 2 => ("CrashBuckets$Buckets", "signatures", "[I", true)
  | _ => ("CrashBuckets$Buckets", "names", "[I", true)
def tyX1 : Nat → FieldType := fun k => match k with
  | 0 => .array (.array .int)
  | 1 => .array (.array .int)
  | 2 => .array .int
  | _ => .array .int
abbrev wsX10 : List Cond := u_ws RX1 TX1 4
theorem nmX1 : ∀ a, a < 4 → ∀ b, b < 4 → a ≠ b → (TX1 a).2.1 ≠ (TX1 b).2.1 := by decide +kernel
theorem tyX1_ok : ∀ k, k < 4 → parseFieldDescriptor (TX1 k).2.2.1 = some (tyX1 k) := by decide +kernel
abbrev cX1_init : ByteArray := prog_3_method_1_code
def yX1_init : MethodName := ⟨RX1, "<init>", "()V"⟩
abbrev cX1_isName : ByteArray := prog_3_method_2_code
def yX1_isName : MethodName := ⟨RX1, "isName", "(I)Z"⟩
abbrev cX1_readStacksOf : ByteArray := prog_3_method_3_code
def yX1_readStacksOf : MethodName := ⟨RX1, "readStacksOf", "(ILCrashBuckets$Reports;LCrashBuckets$AddressMaps;)V"⟩
abbrev cX1_readStack : ByteArray := prog_3_method_4_code
def yX1_readStack : MethodName := ⟨RX1, "readStack", "(ILCrashBuckets$Reports;LCrashBuckets$AddressMaps;)V"⟩
abbrev cX1_sortAll : ByteArray := prog_3_method_5_code
def yX1_sortAll : MethodName := ⟨RX1, "sortAll", "(LCrashBuckets$Reports;LCrashBuckets$Rules;)V"⟩
abbrev cX1_sort : ByteArray := prog_3_method_6_code
def yX1_sort : MethodName := ⟨RX1, "sort", "(ILCrashBuckets$Reports;LCrashBuckets$Rules;)V"⟩
abbrev cX1_pickMattering : ByteArray := prog_3_method_7_code
def yX1_pickMattering : MethodName := ⟨RX1, "pickMattering", "(ILCrashBuckets$Rules;)V"⟩
abbrev cX1_signatureOf : ByteArray := prog_3_method_8_code
def yX1_signatureOf : MethodName := ⟨RX1, "signatureOf", "(ILCrashBuckets$Reports;)I"⟩
def RX2 : String := "CrashBuckets$Reports"
def TX2 : u_T := fun k => match k with
  | 0 => ("CrashBuckets$Reports", "count", "I", false)
  | 1 => ("CrashBuckets$Reports", "versions", "[I", true)
  | 2 => ("CrashBuckets$Reports", "reporters", "[I", true)
  | 3 => ("CrashBuckets$Reports", "stacks", "[[I", true)
  | _ => ("CrashBuckets$Reports", "fixedFrom", "[I", true)
def tyX2 : Nat → FieldType := fun k => match k with
  | 0 => .int
  | 1 => .array .int
  | 2 => .array .int
  | 3 => .array (.array .int)
  | _ => .array .int
abbrev wsX20 : List Cond := u_ws RX2 TX2 5
theorem nmX2 : ∀ a, a < 5 → ∀ b, b < 5 → a ≠ b → (TX2 a).2.1 ≠ (TX2 b).2.1 := by decide +kernel
theorem tyX2_ok : ∀ k, k < 5 → parseFieldDescriptor (TX2 k).2.2.1 = some (tyX2 k) := by decide +kernel
abbrev cX2_init : ByteArray := prog_4_method_1_code
def yX2_init : MethodName := ⟨RX2, "<init>", "()V"⟩
abbrev cX2_add : ByteArray := prog_4_method_2_code
def yX2_add : MethodName := ⟨RX2, "add", "(II)I"⟩
abbrev cX2_setStack : ByteArray := prog_4_method_3_code
def yX2_setStack : MethodName := ⟨RX2, "setStack", "(IIIII)V"⟩
def RX3 : String := "CrashBuckets$Rules"
def TX3 : u_T := fun k => match k with
  | 0 => ("CrashBuckets$Rules", "ignored", "[Z", true)
  | 1 => ("CrashBuckets$Rules", "standsFor", "[I", true)
  | _ => ("CrashBuckets$Rules", "depth", "I", false)
def tyX3 : Nat → FieldType := fun k => match k with
  | 0 => .array .boolean
  | 1 => .array .int
  | _ => .int
abbrev wsX30 : List Cond := u_ws RX3 TX3 3
theorem nmX3 : ∀ a, a < 3 → ∀ b, b < 3 → a ≠ b → (TX3 a).2.1 ≠ (TX3 b).2.1 := by decide +kernel
theorem tyX3_ok : ∀ k, k < 3 → parseFieldDescriptor (TX3 k).2.2.1 = some (tyX3 k) := by decide +kernel
abbrev cX3_init : ByteArray := prog_5_method_1_code
def yX3_init : MethodName := ⟨RX3, "<init>", "()V"⟩
abbrev cX3_leadsTo : ByteArray := prog_5_method_2_code
def yX3_leadsTo : MethodName := ⟨RX3, "leadsTo", "(II)Z"⟩
abbrev cX3_inTheEnd : ByteArray := prog_5_method_3_code
def yX3_inTheEnd : MethodName := ⟨RX3, "inTheEnd", "(I)I"⟩
def RX4 : String := "CrashBuckets"
def TX4 : u_T := fun k => match k with
  | 0 => ("CrashBuckets", "maps", "LCrashBuckets$AddressMaps;", true)
  | 1 => ("CrashBuckets", "rules", "LCrashBuckets$Rules;", true)
  | 2 => ("CrashBuckets", "told", "LCrashBuckets$Reports;", true)
  | 3 => ("CrashBuckets", "sorted", "LCrashBuckets$Buckets;", true)
  | 4 => ("CrashBuckets", "sessions", "[I", true)
  | _ => ("CrashBuckets", "limit", "I", false)
def tyX4 : Nat → FieldType := fun k => match k with
  | 0 => .object "CrashBuckets$AddressMaps"
  | 1 => .object "CrashBuckets$Rules"
  | 2 => .object "CrashBuckets$Reports"
  | 3 => .object "CrashBuckets$Buckets"
  | 4 => .array .int
  | _ => .int
abbrev wsX40 : List Cond := u_ws RX4 TX4 6
theorem nmX4 : ∀ a, a < 6 → ∀ b, b < 6 → a ≠ b → (TX4 a).2.1 ≠ (TX4 b).2.1 := by decide +kernel
theorem tyX4_ok : ∀ k, k < 6 → parseFieldDescriptor (TX4 k).2.2.1 = some (tyX4 k) := by decide +kernel
abbrev cX4_init : ByteArray := prog_1_method_1_code
def yX4_init : MethodName := ⟨RX4, "<init>", "()V"⟩
abbrev cX4_addRange : ByteArray := prog_1_method_2_code
def yX4_addRange : MethodName := ⟨RX4, "addRange", "(IIII)I"⟩
abbrev cX4_ignore : ByteArray := prog_1_method_3_code
def yX4_ignore : MethodName := ⟨RX4, "ignore", "(IZ)Z"⟩
abbrev cX4_standFor : ByteArray := prog_1_method_4_code
def yX4_standFor : MethodName := ⟨RX4, "standFor", "(II)I"⟩
abbrev cX4_setDepth : ByteArray := prog_1_method_5_code
def yX4_setDepth : MethodName := ⟨RX4, "setDepth", "(I)I"⟩
abbrev cX4_report : ByteArray := prog_1_method_6_code
def yX4_report : MethodName := ⟨RX4, "report", "(IIIIII)I"⟩
abbrev cX4_reports : ByteArray := prog_1_method_7_code
def yX4_reports : MethodName := ⟨RX4, "reports", "()I"⟩
abbrev cX4_frame : ByteArray := prog_1_method_8_code
def yX4_frame : MethodName := ⟨RX4, "frame", "(II)I"⟩
abbrev cX4_matters : ByteArray := prog_1_method_9_code
def yX4_matters : MethodName := ⟨RX4, "matters", "(II)I"⟩
abbrev cX4_bucket : ByteArray := prog_1_method_10_code
def yX4_bucket : MethodName := ⟨RX4, "bucket", "(I)I"⟩
abbrev cX4_buckets : ByteArray := prog_1_method_11_code
def yX4_buckets : MethodName := ⟨RX4, "buckets", "()I"⟩
abbrev cX4_size : ByteArray := prog_1_method_12_code
def yX4_size : MethodName := ⟨RX4, "size", "(I)I"⟩
abbrev cX4_setSessions : ByteArray := prog_1_method_13_code
def yX4_setSessions : MethodName := ⟨RX4, "setSessions", "(II)I"⟩
abbrev cX4_setLimit : ByteArray := prog_1_method_14_code
def yX4_setLimit : MethodName := ⟨RX4, "setLimit", "(I)I"⟩
abbrev cX4_rate : ByteArray := prog_1_method_15_code
def yX4_rate : MethodName := ⟨RX4, "rate", "(II)I"⟩
abbrev cX4_users : ByteArray := prog_1_method_16_code
def yX4_users : MethodName := ⟨RX4, "users", "(II)I"⟩
abbrev cX4_gate : ByteArray := prog_1_method_17_code
def yX4_gate : MethodName := ⟨RX4, "gate", "(I)I"⟩
abbrev cX4_worst : ByteArray := prog_1_method_18_code
def yX4_worst : MethodName := ⟨RX4, "worst", "(I)I"⟩
abbrev cX4_fix : ByteArray := prog_1_method_19_code
def yX4_fix : MethodName := ⟨RX4, "fix", "(II)I"⟩
abbrev cX4_holds : ByteArray := prog_1_method_20_code
def yX4_holds : MethodName := ⟨RX4, "holds", "(I)Z"⟩
abbrev cX4_isBelow : ByteArray := prog_1_method_21_code
def yX4_isBelow : MethodName := ⟨RX4, "isBelow", "(II)Z"⟩
abbrev cX4_mayFollow : ByteArray := prog_1_method_22_code
def yX4_mayFollow : MethodName := ⟨RX4, "mayFollow", "(II)Z"⟩
abbrev cX4_checkArgument : ByteArray := prog_1_method_23_code
def yX4_checkArgument : MethodName := ⟨RX4, "checkArgument", "(Z)V"⟩
abbrev cX4_checkReport : ByteArray := prog_1_method_24_code
def yX4_checkReport : MethodName := ⟨RX4, "checkReport", "(I)V"⟩
abbrev cX4_isOf : ByteArray := prog_1_method_25_code
def yX4_isOf : MethodName := ⟨RX4, "isOf", "(III)Z"⟩
abbrev cX4_countIn : ByteArray := prog_1_method_26_code
def yX4_countIn : MethodName := ⟨RX4, "countIn", "(II)I"⟩
abbrev cX4_rateOf : ByteArray := prog_1_method_27_code
def yX4_rateOf : MethodName := ⟨RX4, "rateOf", "(II)I"⟩
abbrev cX4_usersOf : ByteArray := prog_1_method_28_code
def yX4_usersOf : MethodName := ⟨RX4, "usersOf", "(II)I"⟩
abbrev cX4_greatestRateBefore : ByteArray := prog_1_method_29_code
def yX4_greatestRateBefore : MethodName := ⟨RX4, "greatestRateBefore", "(II)I"⟩
def RX5 : String := "CrashBucketsModel"
def TX5 : u_T := fun k => match k with
  | 0 => ("CrashBucketsModel", "thrown", "I", false)
  | 1 => ("CrashBucketsModel", "ranges", "[I", true)
  | 2 => ("CrashBucketsModel", "from", "[I", true)
  | 3 => ("CrashBucketsModel", "to", "[I", true)
  | 4 => ("CrashBucketsModel", "of", "[I", true)
  | 5 => ("CrashBucketsModel", "ignored", "[Z", true)
  | 6 => ("CrashBucketsModel", "stands", "[I", true)
  | 7 => ("CrashBucketsModel", "depth", "I", false)
  | 8 => ("CrashBucketsModel", "reports", "I", false)
  | 9 => ("CrashBucketsModel", "version", "[I", true)
  | 10 => ("CrashBucketsModel", "user", "[I", true)
  | 11 => ("CrashBucketsModel", "stack", "[I", true)
  | 12 => ("CrashBucketsModel", "fixed", "[I", true)
  | 13 => ("CrashBucketsModel", "sessions", "[I", true)
  | 14 => ("CrashBucketsModel", "limit", "I", false)
  | 15 => ("CrashBucketsModel", "name", "[I", true)
  | 16 => ("CrashBucketsModel", "key", "[I", true)
  | _ => ("CrashBucketsModel", "seen", "[Z", true)
def tyX5 : Nat → FieldType := fun k => match k with
  | 0 => .int
  | 1 => .array .int
  | 2 => .array .int
  | 3 => .array .int
  | 4 => .array .int
  | 5 => .array .boolean
  | 6 => .array .int
  | 7 => .int
  | 8 => .int
  | 9 => .array .int
  | 10 => .array .int
  | 11 => .array .int
  | 12 => .array .int
  | 13 => .array .int
  | 14 => .int
  | 15 => .array .int
  | 16 => .array .int
  | _ => .array .boolean
abbrev wsX50 : List Cond := u_ws RX5 TX5 18
theorem nmX5 : ∀ a, a < 18 → ∀ b, b < 18 → a ≠ b → (TX5 a).2.1 ≠ (TX5 b).2.1 := by decide +kernel
theorem tyX5_ok : ∀ k, k < 18 → parseFieldDescriptor (TX5 k).2.2.1 = some (tyX5 k) := by decide +kernel
abbrev cX5_init : ByteArray := prog_7_method_1_code
def yX5_init : MethodName := ⟨RX5, "<init>", "()V"⟩
abbrev cX5_thrown : ByteArray := prog_7_method_2_code
def yX5_thrown : MethodName := ⟨RX5, "thrown", "()I"⟩
abbrev cX5_fails : ByteArray := prog_7_method_3_code
def yX5_fails : MethodName := ⟨RX5, "fails", "(I)I"⟩
abbrev cX5_in : ByteArray := prog_7_method_4_code
def yX5_in : MethodName := ⟨RX5, "in", "(III)Z"⟩
abbrev cX5_isVersion : ByteArray := prog_7_method_5_code
def yX5_isVersion : MethodName := ⟨RX5, "isVersion", "(I)Z"⟩
abbrev cX5_isFunction : ByteArray := prog_7_method_6_code
def yX5_isFunction : MethodName := ⟨RX5, "isFunction", "(I)Z"⟩
abbrev cX5_isAddress : ByteArray := prog_7_method_7_code
def yX5_isAddress : MethodName := ⟨RX5, "isAddress", "(I)Z"⟩
abbrev cX5_isReport : ByteArray := prog_7_method_8_code
def yX5_isReport : MethodName := ⟨RX5, "isReport", "(I)Z"⟩
abbrev cX5_addRange : ByteArray := prog_7_method_9_code
def yX5_addRange : MethodName := ⟨RX5, "addRange", "(IIII)I"⟩
abbrev cX5_ignore : ByteArray := prog_7_method_10_code
def yX5_ignore : MethodName := ⟨RX5, "ignore", "(IZ)Z"⟩
abbrev cX5_leads : ByteArray := prog_7_method_11_code
def yX5_leads : MethodName := ⟨RX5, "leads", "(II)Z"⟩
abbrev cX5_root : ByteArray := prog_7_method_12_code
def yX5_root : MethodName := ⟨RX5, "root", "(I)I"⟩
abbrev cX5_standFor : ByteArray := prog_7_method_13_code
def yX5_standFor : MethodName := ⟨RX5, "standFor", "(II)I"⟩
abbrev cX5_setDepth : ByteArray := prog_7_method_14_code
def yX5_setDepth : MethodName := ⟨RX5, "setDepth", "(I)I"⟩
abbrev cX5_isNext : ByteArray := prog_7_method_15_code
def yX5_isNext : MethodName := ⟨RX5, "isNext", "(II)Z"⟩
abbrev cX5_report : ByteArray := prog_7_method_16_code
def yX5_report : MethodName := ⟨RX5, "report", "(IIIIII)I"⟩
abbrev cX5_reports : ByteArray := prog_7_method_17_code
def yX5_reports : MethodName := ⟨RX5, "reports", "()I"⟩
abbrev cX5_frameOf : ByteArray := prog_7_method_18_code
def yX5_frameOf : MethodName := ⟨RX5, "frameOf", "(II)I"⟩
abbrev cX5_frame : ByteArray := prog_7_method_19_code
def yX5_frame : MethodName := ⟨RX5, "frame", "(II)I"⟩
abbrev cX5_keys : ByteArray := prog_7_method_20_code
def yX5_keys : MethodName := ⟨RX5, "keys", "(I)V"⟩
abbrev cX5_matters : ByteArray := prog_7_method_21_code
def yX5_matters : MethodName := ⟨RX5, "matters", "(II)I"⟩
abbrev cX5_isSame : ByteArray := prog_7_method_22_code
def yX5_isSame : MethodName := ⟨RX5, "isSame", "(II)Z"⟩
abbrev cX5_names : ByteArray := prog_7_method_23_code
def yX5_names : MethodName := ⟨RX5, "names", "()V"⟩
abbrev cX5_bucket : ByteArray := prog_7_method_24_code
def yX5_bucket : MethodName := ⟨RX5, "bucket", "(I)I"⟩
abbrev cX5_buckets : ByteArray := prog_7_method_25_code
def yX5_buckets : MethodName := ⟨RX5, "buckets", "()I"⟩
abbrev cX5_size : ByteArray := prog_7_method_26_code
def yX5_size : MethodName := ⟨RX5, "size", "(I)I"⟩
abbrev cX5_setSessions : ByteArray := prog_7_method_27_code
def yX5_setSessions : MethodName := ⟨RX5, "setSessions", "(II)I"⟩
abbrev cX5_setLimit : ByteArray := prog_7_method_28_code
def yX5_setLimit : MethodName := ⟨RX5, "setLimit", "(I)I"⟩
abbrev cX5_rateOf : ByteArray := prog_7_method_29_code
def yX5_rateOf : MethodName := ⟨RX5, "rateOf", "(II)I"⟩
abbrev cX5_usersOf : ByteArray := prog_7_method_30_code
def yX5_usersOf : MethodName := ⟨RX5, "usersOf", "(II)I"⟩
abbrev cX5_rate : ByteArray := prog_7_method_31_code
def yX5_rate : MethodName := ⟨RX5, "rate", "(II)I"⟩
abbrev cX5_users : ByteArray := prog_7_method_32_code
def yX5_users : MethodName := ⟨RX5, "users", "(II)I"⟩
abbrev cX5_gate : ByteArray := prog_7_method_33_code
def yX5_gate : MethodName := ⟨RX5, "gate", "(I)I"⟩
abbrev cX5_worst : ByteArray := prog_7_method_34_code
def yX5_worst : MethodName := ⟨RX5, "worst", "(I)I"⟩
abbrev cX5_fix : ByteArray := prog_7_method_35_code
def yX5_fix : MethodName := ⟨RX5, "fix", "(II)I"⟩
abbrev cX5_holds : ByteArray := prog_7_method_36_code
def yX5_holds : MethodName := ⟨RX5, "holds", "(I)Z"⟩
def RJ6 : String := "java/lang/Integer"
def TJ6 : u_T := fun k => match k with
  | _ => ("", "", "", false)
def tyJ6 : Nat → FieldType := fun k => match k with
  | _ => .int
abbrev wsJ60 : List Cond := u_ws RJ6 TJ6 0
theorem nmJ6 : ∀ a, a < 0 → ∀ b, b < 0 → a ≠ b → (TJ6 a).2.1 ≠ (TJ6 b).2.1 := by decide +kernel
theorem tyJ6_ok : ∀ k, k < 0 → parseFieldDescriptor (TJ6 k).2.2.1 = some (tyJ6 k) := by decide +kernel
abbrev cJ6_bitCount_0f7a4 : ByteArray := prog_12_method_49_code
def yJ6_bitCount_0f7a4 : MethodName := ⟨RJ6, "bitCount", "(I)I"⟩
def RJ9 : String := "java/lang/Math"
def TJ9 : u_T := fun k => match k with
  | _ => ("", "", "", false)
def tyJ9 : Nat → FieldType := fun k => match k with
  | _ => .int
abbrev wsJ90 : List Cond := u_ws RJ9 TJ9 0
theorem nmJ9 : ∀ a, a < 0 → ∀ b, b < 0 → a ≠ b → (TJ9 a).2.1 ≠ (TJ9 b).2.1 := by decide +kernel
theorem tyJ9_ok : ∀ k, k < 0 → parseFieldDescriptor (TJ9 k).2.2.1 = some (tyJ9 k) := by decide +kernel
abbrev cJ9_max_7cf53 : ByteArray := prog_13_method_65_code
def yJ9_max_7cf53 : MethodName := ⟨RJ9, "max", "(II)I"⟩
def RJ0 : String := "java/lang/String"
def TJ0 : u_T := fun k => match k with
  | _ => ("", "", "", false)
def tyJ0 : Nat → FieldType := fun k => match k with
  | _ => .int
abbrev wsJ00 : List Cond := u_ws RJ0 TJ0 0
theorem nmJ0 : ∀ a, a < 0 → ∀ b, b < 0 → a ≠ b → (TJ0 a).2.1 ≠ (TJ0 b).2.1 := by decide +kernel
theorem tyJ0_ok : ∀ k, k < 0 → parseFieldDescriptor (TJ0 k).2.2.1 = some (tyJ0 k) := by decide +kernel
def RL : String := "CrashBucketsLaw"
abbrev cL_addRange : ByteArray := method_3_code
def yL_addRange : MethodName := ⟨RL, "addRange", "(LCrashBuckets;IIII[J)I"⟩
abbrev cL_ignore : ByteArray := method_4_code
def yL_ignore : MethodName := ⟨RL, "ignore", "(LCrashBuckets;IZ[J)I"⟩
abbrev cL_standFor : ByteArray := method_5_code
def yL_standFor : MethodName := ⟨RL, "standFor", "(LCrashBuckets;II[J)I"⟩
abbrev cL_setDepth : ByteArray := method_6_code
def yL_setDepth : MethodName := ⟨RL, "setDepth", "(LCrashBuckets;I[J)I"⟩
abbrev cL_report : ByteArray := method_7_code
def yL_report : MethodName := ⟨RL, "report", "(LCrashBuckets;IIIIII[J)I"⟩
abbrev cL_frame : ByteArray := method_8_code
def yL_frame : MethodName := ⟨RL, "frame", "(LCrashBuckets;II[J)I"⟩
abbrev cL_matters : ByteArray := method_9_code
def yL_matters : MethodName := ⟨RL, "matters", "(LCrashBuckets;II[J)I"⟩
abbrev cL_bucket : ByteArray := method_10_code
def yL_bucket : MethodName := ⟨RL, "bucket", "(LCrashBuckets;I[J)I"⟩
abbrev cL_size : ByteArray := method_11_code
def yL_size : MethodName := ⟨RL, "size", "(LCrashBuckets;I[J)I"⟩
abbrev cL_setSessions : ByteArray := method_12_code
def yL_setSessions : MethodName := ⟨RL, "setSessions", "(LCrashBuckets;II[J)I"⟩
abbrev cL_setLimit : ByteArray := method_13_code
def yL_setLimit : MethodName := ⟨RL, "setLimit", "(LCrashBuckets;I[J)I"⟩
abbrev cL_rate : ByteArray := method_14_code
def yL_rate : MethodName := ⟨RL, "rate", "(LCrashBuckets;II[J)I"⟩
abbrev cL_users : ByteArray := method_15_code
def yL_users : MethodName := ⟨RL, "users", "(LCrashBuckets;II[J)I"⟩
abbrev cL_gate : ByteArray := method_16_code
def yL_gate : MethodName := ⟨RL, "gate", "(LCrashBuckets;I[J)I"⟩
abbrev cL_worst : ByteArray := method_17_code
def yL_worst : MethodName := ⟨RL, "worst", "(LCrashBuckets;I[J)I"⟩
abbrev cL_fix : ByteArray := method_18_code
def yL_fix : MethodName := ⟨RL, "fix", "(LCrashBuckets;II[J)I"⟩
abbrev cL_holds : ByteArray := method_19_code
def yL_holds : MethodName := ⟨RL, "holds", "(LCrashBuckets;I[J)I"⟩
abbrev cL_law : ByteArray := code
def yL_law : MethodName := ⟨RL, "law", "([I)Z"⟩
def wsX0_init : List Cond := .code yX0_init cX0_init 1 none :: ([.methodLink RX0 3 objectInit, .instanceMethod objectInit, .code objectInit ⟨#[0xb1]⟩ 1 none, .arrayClass .int, .fieldLink RX0 9 "CrashBuckets$AddressMaps" "counts" "[I", .classLink RX0 15 "[[I", .fieldLink RX0 17 "CrashBuckets$AddressMaps" "froms" "[[I", .fieldLink RX0 20 "CrashBuckets$AddressMaps" "tos" "[[I", .fieldLink RX0 23 "CrashBuckets$AddressMaps" "functions" "[[I"] ++ wsX00)
def wsX0_isFull : List Cond := .code yX0_isFull cX0_isFull 2 (some .boolean) :: ([.fieldLink RX0 9 "CrashBuckets$AddressMaps" "counts" "[I"] ++ wsX00)
def wsX0_overlaps : List Cond := .code yX0_overlaps cX0_overlaps 5 (some .boolean) :: ([.fieldLink RX0 9 "CrashBuckets$AddressMaps" "counts" "[I", .fieldLink RX0 17 "CrashBuckets$AddressMaps" "froms" "[[I", .fieldLink RX0 20 "CrashBuckets$AddressMaps" "tos" "[[I"] ++ wsX00)
def wsX0_add : List Cond := .code yX0_add cX0_add 6 none :: ([.fieldLink RX0 9 "CrashBuckets$AddressMaps" "counts" "[I", .fieldLink RX0 17 "CrashBuckets$AddressMaps" "froms" "[[I", .fieldLink RX0 20 "CrashBuckets$AddressMaps" "tos" "[[I", .fieldLink RX0 23 "CrashBuckets$AddressMaps" "functions" "[[I"] ++ wsX00)
def wsX0_functionAt : List Cond := .code yX0_functionAt cX0_functionAt 4 (some .int) :: ([.fieldLink RX0 9 "CrashBuckets$AddressMaps" "counts" "[I", .fieldLink RX0 17 "CrashBuckets$AddressMaps" "froms" "[[I", .fieldLink RX0 20 "CrashBuckets$AddressMaps" "tos" "[[I", .fieldLink RX0 23 "CrashBuckets$AddressMaps" "functions" "[[I"] ++ wsX00)
def wsX1_init : List Cond := .code yX1_init cX1_init 1 none :: ([.methodLink RX1 3 objectInit, .instanceMethod objectInit, .code objectInit ⟨#[0xb1]⟩ 1 none, .classLink RX1 9 "[[I", .arrayClass .int, .fieldLink RX1 11 "CrashBuckets$Buckets" "frames" "[[I", .fieldLink RX1 16 "CrashBuckets$Buckets" "mattering" "[[I", .fieldLink RX1 19 "CrashBuckets$Buckets" "signatures" "[I", .fieldLink RX1 23 "CrashBuckets$Buckets" "names" "[I"] ++ wsX10)
def wsX1_isName : List Cond := .code yX1_isName cX1_isName 2 (some .boolean) :: ([.fieldLink RX1 23 "CrashBuckets$Buckets" "names" "[I"] ++ wsX10)
def wsX1_readStack : List Cond := .code yX1_readStack cX1_readStack 5 none :: ([.fieldLink RX1 11 "CrashBuckets$Buckets" "frames" "[[I", .instanceMethod yX0_functionAt, .initialized RX0, .selects RX0 yX0_functionAt yX0_functionAt, .code yX0_functionAt cX0_functionAt 4 (some .int), .fieldLink RX0 9 "CrashBuckets$AddressMaps" "counts" "[I", .fieldLink RX0 17 "CrashBuckets$AddressMaps" "froms" "[[I", .fieldLink RX0 20 "CrashBuckets$AddressMaps" "tos" "[[I", .fieldLink RX0 23 "CrashBuckets$AddressMaps" "functions" "[[I"] ++ wsX10 ++ wsX20 ++ wsX00)
def wsX1_readStacksOf : List Cond := .code yX1_readStacksOf cX1_readStacksOf 5 none :: ([.methodLink RX1 35 yX1_readStack, .instanceMethod yX1_readStack, .selects RX1 yX1_readStack yX1_readStack, .initialized RX1, .code yX1_readStack cX1_readStack 5 none, .fieldLink RX1 11 "CrashBuckets$Buckets" "frames" "[[I", .instanceMethod yX0_functionAt, .initialized RX0, .selects RX0 yX0_functionAt yX0_functionAt, .code yX0_functionAt cX0_functionAt 4 (some .int), .fieldLink RX0 9 "CrashBuckets$AddressMaps" "counts" "[I", .fieldLink RX0 17 "CrashBuckets$AddressMaps" "froms" "[[I", .fieldLink RX0 20 "CrashBuckets$AddressMaps" "tos" "[[I", .fieldLink RX0 23 "CrashBuckets$AddressMaps" "functions" "[[I"] ++ wsX20 ++ wsX10 ++ wsX00)
def wsX3_inTheEnd : List Cond := .code yX3_inTheEnd cX3_inTheEnd 4 (some .int) :: ([.fieldLink RX3 15 "CrashBuckets$Rules" "standsFor" "[I"] ++ wsX30)
def wsX1_pickMattering : List Cond := .code yX1_pickMattering cX1_pickMattering 6 none :: ([.fieldLink RX1 11 "CrashBuckets$Buckets" "frames" "[[I", .fieldLink RX1 16 "CrashBuckets$Buckets" "mattering" "[[I", .instanceMethod yX3_inTheEnd, .initialized RX3, .selects RX3 yX3_inTheEnd yX3_inTheEnd, .code yX3_inTheEnd cX3_inTheEnd 4 (some .int), .fieldLink RX3 15 "CrashBuckets$Rules" "standsFor" "[I"] ++ wsX30 ++ wsX10)
def wsX1_signatureOf : List Cond := .code yX1_signatureOf cX1_signatureOf 5 (some .int) :: ([.fieldLink RX1 16 "CrashBuckets$Buckets" "mattering" "[[I"] ++ wsX10 ++ wsX20)
def wsX1_sort : List Cond := .code yX1_sort cX1_sort 5 none :: ([.fieldLink RX1 19 "CrashBuckets$Buckets" "signatures" "[I", .fieldLink RX1 23 "CrashBuckets$Buckets" "names" "[I", .methodLink RX1 52 yX1_pickMattering, .instanceMethod yX1_pickMattering, .selects RX1 yX1_pickMattering yX1_pickMattering, .initialized RX1, .code yX1_pickMattering cX1_pickMattering 6 none, .fieldLink RX1 11 "CrashBuckets$Buckets" "frames" "[[I", .fieldLink RX1 16 "CrashBuckets$Buckets" "mattering" "[[I", .instanceMethod yX3_inTheEnd, .initialized RX3, .selects RX3 yX3_inTheEnd yX3_inTheEnd, .code yX3_inTheEnd cX3_inTheEnd 4 (some .int), .fieldLink RX3 15 "CrashBuckets$Rules" "standsFor" "[I", .methodLink RX1 56 yX1_signatureOf, .instanceMethod yX1_signatureOf, .selects RX1 yX1_signatureOf yX1_signatureOf, .code yX1_signatureOf cX1_signatureOf 5 (some .int)] ++ wsX10 ++ wsX30 ++ wsX20)
def wsX1_sortAll : List Cond := .code yX1_sortAll cX1_sortAll 4 none :: ([.methodLink RX1 48 yX1_sort, .instanceMethod yX1_sort, .selects RX1 yX1_sort yX1_sort, .initialized RX1, .code yX1_sort cX1_sort 5 none, .fieldLink RX1 19 "CrashBuckets$Buckets" "signatures" "[I", .fieldLink RX1 23 "CrashBuckets$Buckets" "names" "[I", .methodLink RX1 52 yX1_pickMattering, .instanceMethod yX1_pickMattering, .selects RX1 yX1_pickMattering yX1_pickMattering, .code yX1_pickMattering cX1_pickMattering 6 none, .fieldLink RX1 11 "CrashBuckets$Buckets" "frames" "[[I", .fieldLink RX1 16 "CrashBuckets$Buckets" "mattering" "[[I", .instanceMethod yX3_inTheEnd, .initialized RX3, .selects RX3 yX3_inTheEnd yX3_inTheEnd, .code yX3_inTheEnd cX3_inTheEnd 4 (some .int), .fieldLink RX3 15 "CrashBuckets$Rules" "standsFor" "[I", .methodLink RX1 56 yX1_signatureOf, .instanceMethod yX1_signatureOf, .selects RX1 yX1_signatureOf yX1_signatureOf, .code yX1_signatureOf cX1_signatureOf 5 (some .int)] ++ wsX20 ++ wsX10 ++ wsX30)
def wsX2_init : List Cond := .code yX2_init cX2_init 1 none :: ([.methodLink RX2 3 objectInit, .instanceMethod objectInit, .code objectInit ⟨#[0xb1]⟩ 1 none, .fieldLink RX2 9 "CrashBuckets$Reports" "count" "I", .arrayClass .int, .fieldLink RX2 15 "CrashBuckets$Reports" "versions" "[I", .fieldLink RX2 19 "CrashBuckets$Reports" "reporters" "[I", .classLink RX2 22 "[[I", .fieldLink RX2 24 "CrashBuckets$Reports" "stacks" "[[I", .fieldLink RX2 27 "CrashBuckets$Reports" "fixedFrom" "[I"] ++ wsX20)
def wsX2_add : List Cond := .code yX2_add cX2_add 4 (some .int) :: ([.fieldLink RX2 9 "CrashBuckets$Reports" "count" "I", .fieldLink RX2 15 "CrashBuckets$Reports" "versions" "[I", .fieldLink RX2 19 "CrashBuckets$Reports" "reporters" "[I", .fieldLink RX2 27 "CrashBuckets$Reports" "fixedFrom" "[I"] ++ wsX20)
def wsX2_setStack : List Cond := .code yX2_setStack cX2_setStack 6 none :: ([.fieldLink RX2 24 "CrashBuckets$Reports" "stacks" "[[I"] ++ wsX20)
def wsX3_init : List Cond := .code yX3_init cX3_init 2 none :: ([.methodLink RX3 3 objectInit, .instanceMethod objectInit, .code objectInit ⟨#[0xb1]⟩ 1 none, .arrayClass .boolean, .fieldLink RX3 9 "CrashBuckets$Rules" "ignored" "[Z", .arrayClass .int, .fieldLink RX3 15 "CrashBuckets$Rules" "standsFor" "[I", .fieldLink RX3 19 "CrashBuckets$Rules" "depth" "I"] ++ wsX30)
def wsX3_leadsTo : List Cond := .code yX3_leadsTo cX3_leadsTo 5 (some .boolean) :: ([.fieldLink RX3 15 "CrashBuckets$Rules" "standsFor" "[I"] ++ wsX30)
def wsX4_init_r1 : List Cond := [Cond.methodLink RX4 1 objectInit, Cond.instanceMethod objectInit, Cond.code objectInit ⟨#[0xb1]⟩ 1 none, Cond.classLink RX4 7 RX0, Cond.instantiable RX0 4, Cond.initialized RX0, Cond.fieldLink RX4 10 "CrashBuckets" "maps" "LCrashBuckets$AddressMaps;", Cond.classLink RX4 16 RX3, Cond.instantiable RX3 3, Cond.initialized RX3, Cond.fieldLink RX4 19 "CrashBuckets" "rules" "LCrashBuckets$Rules;", Cond.classLink RX4 23 RX2, Cond.instantiable RX2 5, Cond.initialized RX2, Cond.fieldLink RX4 26 "CrashBuckets" "told" "LCrashBuckets$Reports;", Cond.classLink RX4 30 RX1, Cond.instantiable RX1 4, Cond.initialized RX1, Cond.fieldLink RX4 33 "CrashBuckets" "sorted" "LCrashBuckets$Buckets;", Cond.arrayClass .int, Cond.fieldLink RX4 37 "CrashBuckets" "sessions" "[I", Cond.fieldLink RX4 41 "CrashBuckets" "limit" "I", Cond.instanceMethod yX0_init, Cond.code yX0_init cX0_init 1 none]
def wsX4_init_r2 : List Cond := [Cond.methodLink RX0 3 objectInit, Cond.fieldLink RX0 9 "CrashBuckets$AddressMaps" "counts" "[I", Cond.classLink RX0 15 "[[I", Cond.fieldLink RX0 17 "CrashBuckets$AddressMaps" "froms" "[[I", Cond.fieldLink RX0 20 "CrashBuckets$AddressMaps" "tos" "[[I", Cond.fieldLink RX0 23 "CrashBuckets$AddressMaps" "functions" "[[I", Cond.instanceMethod yX3_init, Cond.code yX3_init cX3_init 2 none, Cond.methodLink RX3 3 objectInit, Cond.arrayClass .boolean, Cond.fieldLink RX3 9 "CrashBuckets$Rules" "ignored" "[Z", Cond.fieldLink RX3 15 "CrashBuckets$Rules" "standsFor" "[I", Cond.fieldLink RX3 19 "CrashBuckets$Rules" "depth" "I", Cond.instanceMethod yX2_init, Cond.code yX2_init cX2_init 1 none, Cond.methodLink RX2 3 objectInit, Cond.fieldLink RX2 9 "CrashBuckets$Reports" "count" "I", Cond.fieldLink RX2 15 "CrashBuckets$Reports" "versions" "[I", Cond.fieldLink RX2 19 "CrashBuckets$Reports" "reporters" "[I", Cond.classLink RX2 22 "[[I", Cond.fieldLink RX2 24 "CrashBuckets$Reports" "stacks" "[[I", Cond.fieldLink RX2 27 "CrashBuckets$Reports" "fixedFrom" "[I", Cond.instanceMethod yX1_init, Cond.code yX1_init cX1_init 1 none]
def wsX4_init_r3 : List Cond := [Cond.methodLink RX1 3 objectInit, Cond.classLink RX1 9 "[[I", Cond.fieldLink RX1 11 "CrashBuckets$Buckets" "frames" "[[I", Cond.fieldLink RX1 16 "CrashBuckets$Buckets" "mattering" "[[I", Cond.fieldLink RX1 19 "CrashBuckets$Buckets" "signatures" "[I", Cond.fieldLink RX1 23 "CrashBuckets$Buckets" "names" "[I"]
def wsX4_init : List Cond := .code yX4_init cX4_init 1 none :: ((wsX4_init_r1 ++ (wsX4_init_r2 ++ wsX4_init_r3)) ++ wsX00 ++ wsX40 ++ wsX30 ++ wsX20 ++ wsX10)
def wsX4_isBelow : List Cond := .code yX4_isBelow cX4_isBelow 2 (some .boolean) :: ([])
def wsX4_checkArgument : List Cond := .code yX4_checkArgument cX4_checkArgument 1 none :: ([.classLink RX4 157 "java/lang/IllegalArgumentException", .initialized "java/lang/IllegalArgumentException"] ++ (vx_atS RX4 161 "java/lang/IllegalArgumentException" ["java/lang/RuntimeException", "java/lang/Exception"]).filter goodWord)
def wsX4_addRange_r1 : List Cond := [Cond.classLink RX4 57 "java/lang/IllegalStateException", Cond.initialized "java/lang/IllegalStateException", Cond.fieldLink RX4 10 "CrashBuckets" "maps" "LCrashBuckets$AddressMaps;", Cond.fieldLink RX4 33 "CrashBuckets" "sorted" "LCrashBuckets$Buckets;", Cond.fieldLink RX4 26 "CrashBuckets" "told" "LCrashBuckets$Reports;", Cond.fieldLink RX4 19 "CrashBuckets" "rules" "LCrashBuckets$Rules;", Cond.methodLink RX4 45 yX4_isBelow, Cond.static yX4_isBelow, Cond.initialized RX4, Cond.code yX4_isBelow cX4_isBelow 2 (some .boolean), Cond.methodLink RX4 49 yX4_checkArgument, Cond.static yX4_checkArgument, Cond.code yX4_checkArgument cX4_checkArgument 1 none, Cond.classLink RX4 157 "java/lang/IllegalArgumentException", Cond.initialized "java/lang/IllegalArgumentException", Cond.instanceMethod yX0_isFull, Cond.initialized RX0, Cond.selects RX0 yX0_isFull yX0_isFull, Cond.code yX0_isFull cX0_isFull 2 (some .boolean), Cond.fieldLink RX0 9 "CrashBuckets$AddressMaps" "counts" "[I", Cond.instanceMethod yX0_overlaps, Cond.selects RX0 yX0_overlaps yX0_overlaps, Cond.code yX0_overlaps cX0_overlaps 5 (some .boolean), Cond.fieldLink RX0 17 "CrashBuckets$AddressMaps" "froms" "[[I"]
def wsX4_addRange_r2 : List Cond := [Cond.fieldLink RX0 20 "CrashBuckets$AddressMaps" "tos" "[[I", Cond.instanceMethod yX0_add, Cond.selects RX0 yX0_add yX0_add, Cond.code yX0_add cX0_add 6 none, Cond.fieldLink RX0 23 "CrashBuckets$AddressMaps" "functions" "[[I", Cond.instanceMethod yX1_readStacksOf, Cond.initialized RX1, Cond.selects RX1 yX1_readStacksOf yX1_readStacksOf, Cond.code yX1_readStacksOf cX1_readStacksOf 5 none, Cond.methodLink RX1 35 yX1_readStack, Cond.instanceMethod yX1_readStack, Cond.selects RX1 yX1_readStack yX1_readStack, Cond.code yX1_readStack cX1_readStack 5 none, Cond.fieldLink RX1 11 "CrashBuckets$Buckets" "frames" "[[I", Cond.instanceMethod yX0_functionAt, Cond.selects RX0 yX0_functionAt yX0_functionAt, Cond.code yX0_functionAt cX0_functionAt 4 (some .int), Cond.instanceMethod yX1_sortAll, Cond.selects RX1 yX1_sortAll yX1_sortAll, Cond.code yX1_sortAll cX1_sortAll 4 none, Cond.methodLink RX1 48 yX1_sort, Cond.instanceMethod yX1_sort, Cond.selects RX1 yX1_sort yX1_sort, Cond.code yX1_sort cX1_sort 5 none]
def wsX4_addRange_r3 : List Cond := [Cond.fieldLink RX1 19 "CrashBuckets$Buckets" "signatures" "[I", Cond.fieldLink RX1 23 "CrashBuckets$Buckets" "names" "[I", Cond.methodLink RX1 52 yX1_pickMattering, Cond.instanceMethod yX1_pickMattering, Cond.selects RX1 yX1_pickMattering yX1_pickMattering, Cond.code yX1_pickMattering cX1_pickMattering 6 none, Cond.fieldLink RX1 16 "CrashBuckets$Buckets" "mattering" "[[I", Cond.instanceMethod yX3_inTheEnd, Cond.initialized RX3, Cond.selects RX3 yX3_inTheEnd yX3_inTheEnd, Cond.code yX3_inTheEnd cX3_inTheEnd 4 (some .int), Cond.fieldLink RX3 15 "CrashBuckets$Rules" "standsFor" "[I", Cond.methodLink RX1 56 yX1_signatureOf, Cond.instanceMethod yX1_signatureOf, Cond.selects RX1 yX1_signatureOf yX1_signatureOf, Cond.code yX1_signatureOf cX1_signatureOf 5 (some .int)]
def wsX4_addRange : List Cond := .code yX4_addRange cX4_addRange 5 (some .int) :: ((wsX4_addRange_r1 ++ (wsX4_addRange_r2 ++ wsX4_addRange_r3)) ++ wsX40 ++ wsX00 ++ wsX20 ++ wsX10 ++ wsX30 ++ (vx_atS RX4 61 "java/lang/IllegalStateException" ["java/lang/RuntimeException", "java/lang/Exception"]).filter goodWord ++ (vx_atS RX4 161 "java/lang/IllegalArgumentException" ["java/lang/RuntimeException", "java/lang/Exception"]).filter goodWord)
def wsX4_ignore_r1 : List Cond := [Cond.fieldLink RX4 19 "CrashBuckets" "rules" "LCrashBuckets$Rules;", Cond.fieldLink RX4 33 "CrashBuckets" "sorted" "LCrashBuckets$Buckets;", Cond.fieldLink RX4 26 "CrashBuckets" "told" "LCrashBuckets$Reports;", Cond.methodLink RX4 45 yX4_isBelow, Cond.static yX4_isBelow, Cond.initialized RX4, Cond.code yX4_isBelow cX4_isBelow 2 (some .boolean), Cond.methodLink RX4 49 yX4_checkArgument, Cond.static yX4_checkArgument, Cond.code yX4_checkArgument cX4_checkArgument 1 none, Cond.classLink RX4 157 "java/lang/IllegalArgumentException", Cond.initialized "java/lang/IllegalArgumentException", Cond.instanceMethod yX1_sortAll, Cond.initialized RX1, Cond.selects RX1 yX1_sortAll yX1_sortAll, Cond.code yX1_sortAll cX1_sortAll 4 none, Cond.methodLink RX1 48 yX1_sort, Cond.instanceMethod yX1_sort, Cond.selects RX1 yX1_sort yX1_sort, Cond.code yX1_sort cX1_sort 5 none, Cond.fieldLink RX1 19 "CrashBuckets$Buckets" "signatures" "[I", Cond.fieldLink RX1 23 "CrashBuckets$Buckets" "names" "[I", Cond.methodLink RX1 52 yX1_pickMattering, Cond.instanceMethod yX1_pickMattering]
def wsX4_ignore_r2 : List Cond := [Cond.selects RX1 yX1_pickMattering yX1_pickMattering, Cond.code yX1_pickMattering cX1_pickMattering 6 none, Cond.fieldLink RX1 11 "CrashBuckets$Buckets" "frames" "[[I", Cond.fieldLink RX1 16 "CrashBuckets$Buckets" "mattering" "[[I", Cond.instanceMethod yX3_inTheEnd, Cond.initialized RX3, Cond.selects RX3 yX3_inTheEnd yX3_inTheEnd, Cond.code yX3_inTheEnd cX3_inTheEnd 4 (some .int), Cond.fieldLink RX3 15 "CrashBuckets$Rules" "standsFor" "[I", Cond.methodLink RX1 56 yX1_signatureOf, Cond.instanceMethod yX1_signatureOf, Cond.selects RX1 yX1_signatureOf yX1_signatureOf, Cond.code yX1_signatureOf cX1_signatureOf 5 (some .int)]
def wsX4_ignore : List Cond := .code yX4_ignore cX4_ignore 4 (some .boolean) :: ((wsX4_ignore_r1 ++ wsX4_ignore_r2) ++ wsX40 ++ wsX30 ++ wsX20 ++ wsX10 ++ (vx_atS RX4 161 "java/lang/IllegalArgumentException" ["java/lang/RuntimeException", "java/lang/Exception"]).filter goodWord)
def wsX4_standFor_r1 : List Cond := [Cond.classLink RX4 57 "java/lang/IllegalStateException", Cond.initialized "java/lang/IllegalStateException", Cond.fieldLink RX4 19 "CrashBuckets" "rules" "LCrashBuckets$Rules;", Cond.fieldLink RX4 33 "CrashBuckets" "sorted" "LCrashBuckets$Buckets;", Cond.fieldLink RX4 26 "CrashBuckets" "told" "LCrashBuckets$Reports;", Cond.methodLink RX4 45 yX4_isBelow, Cond.static yX4_isBelow, Cond.initialized RX4, Cond.code yX4_isBelow cX4_isBelow 2 (some .boolean), Cond.methodLink RX4 49 yX4_checkArgument, Cond.static yX4_checkArgument, Cond.code yX4_checkArgument cX4_checkArgument 1 none, Cond.classLink RX4 157 "java/lang/IllegalArgumentException", Cond.initialized "java/lang/IllegalArgumentException", Cond.instanceMethod yX3_leadsTo, Cond.initialized RX3, Cond.selects RX3 yX3_leadsTo yX3_leadsTo, Cond.code yX3_leadsTo cX3_leadsTo 5 (some .boolean), Cond.fieldLink RX3 15 "CrashBuckets$Rules" "standsFor" "[I", Cond.instanceMethod yX1_sortAll, Cond.initialized RX1, Cond.selects RX1 yX1_sortAll yX1_sortAll, Cond.code yX1_sortAll cX1_sortAll 4 none, Cond.methodLink RX1 48 yX1_sort]
def wsX4_standFor_r2 : List Cond := [Cond.instanceMethod yX1_sort, Cond.selects RX1 yX1_sort yX1_sort, Cond.code yX1_sort cX1_sort 5 none, Cond.fieldLink RX1 19 "CrashBuckets$Buckets" "signatures" "[I", Cond.fieldLink RX1 23 "CrashBuckets$Buckets" "names" "[I", Cond.methodLink RX1 52 yX1_pickMattering, Cond.instanceMethod yX1_pickMattering, Cond.selects RX1 yX1_pickMattering yX1_pickMattering, Cond.code yX1_pickMattering cX1_pickMattering 6 none, Cond.fieldLink RX1 11 "CrashBuckets$Buckets" "frames" "[[I", Cond.fieldLink RX1 16 "CrashBuckets$Buckets" "mattering" "[[I", Cond.instanceMethod yX3_inTheEnd, Cond.selects RX3 yX3_inTheEnd yX3_inTheEnd, Cond.code yX3_inTheEnd cX3_inTheEnd 4 (some .int), Cond.methodLink RX1 56 yX1_signatureOf, Cond.instanceMethod yX1_signatureOf, Cond.selects RX1 yX1_signatureOf yX1_signatureOf, Cond.code yX1_signatureOf cX1_signatureOf 5 (some .int)]
def wsX4_standFor : List Cond := .code yX4_standFor cX4_standFor 4 (some .int) :: ((wsX4_standFor_r1 ++ wsX4_standFor_r2) ++ wsX40 ++ wsX30 ++ wsX20 ++ wsX10 ++ (vx_atS RX4 61 "java/lang/IllegalStateException" ["java/lang/RuntimeException", "java/lang/Exception"]).filter goodWord ++ (vx_atS RX4 161 "java/lang/IllegalArgumentException" ["java/lang/RuntimeException", "java/lang/Exception"]).filter goodWord)
def wsX4_setDepth_r1 : List Cond := [Cond.fieldLink RX4 19 "CrashBuckets" "rules" "LCrashBuckets$Rules;", Cond.fieldLink RX4 33 "CrashBuckets" "sorted" "LCrashBuckets$Buckets;", Cond.fieldLink RX4 26 "CrashBuckets" "told" "LCrashBuckets$Reports;", Cond.methodLink RX4 49 yX4_checkArgument, Cond.static yX4_checkArgument, Cond.initialized RX4, Cond.code yX4_checkArgument cX4_checkArgument 1 none, Cond.classLink RX4 157 "java/lang/IllegalArgumentException", Cond.initialized "java/lang/IllegalArgumentException", Cond.instanceMethod yX1_sortAll, Cond.initialized RX1, Cond.selects RX1 yX1_sortAll yX1_sortAll, Cond.code yX1_sortAll cX1_sortAll 4 none, Cond.methodLink RX1 48 yX1_sort, Cond.instanceMethod yX1_sort, Cond.selects RX1 yX1_sort yX1_sort, Cond.code yX1_sort cX1_sort 5 none, Cond.fieldLink RX1 19 "CrashBuckets$Buckets" "signatures" "[I", Cond.fieldLink RX1 23 "CrashBuckets$Buckets" "names" "[I", Cond.methodLink RX1 52 yX1_pickMattering, Cond.instanceMethod yX1_pickMattering, Cond.selects RX1 yX1_pickMattering yX1_pickMattering, Cond.code yX1_pickMattering cX1_pickMattering 6 none, Cond.fieldLink RX1 11 "CrashBuckets$Buckets" "frames" "[[I"]
def wsX4_setDepth_r2 : List Cond := [Cond.fieldLink RX1 16 "CrashBuckets$Buckets" "mattering" "[[I", Cond.instanceMethod yX3_inTheEnd, Cond.initialized RX3, Cond.selects RX3 yX3_inTheEnd yX3_inTheEnd, Cond.code yX3_inTheEnd cX3_inTheEnd 4 (some .int), Cond.fieldLink RX3 15 "CrashBuckets$Rules" "standsFor" "[I", Cond.methodLink RX1 56 yX1_signatureOf, Cond.instanceMethod yX1_signatureOf, Cond.selects RX1 yX1_signatureOf yX1_signatureOf, Cond.code yX1_signatureOf cX1_signatureOf 5 (some .int)]
def wsX4_setDepth : List Cond := .code yX4_setDepth cX4_setDepth 3 (some .int) :: ((wsX4_setDepth_r1 ++ wsX4_setDepth_r2) ++ wsX40 ++ wsX30 ++ wsX20 ++ wsX10 ++ (vx_atS RX4 161 "java/lang/IllegalArgumentException" ["java/lang/RuntimeException", "java/lang/Exception"]).filter goodWord)
def wsX4_mayFollow : List Cond := .code yX4_mayFollow cX4_mayFollow 2 (some .boolean) :: ([.methodLink RX4 45 yX4_isBelow, .static yX4_isBelow, .initialized RX4, .code yX4_isBelow cX4_isBelow 2 (some .boolean)])
def wsX4_report_r1 : List Cond := [Cond.classLink RX4 57 "java/lang/IllegalStateException", Cond.initialized "java/lang/IllegalStateException", Cond.fieldLink RX4 26 "CrashBuckets" "told" "LCrashBuckets$Reports;", Cond.fieldLink RX4 33 "CrashBuckets" "sorted" "LCrashBuckets$Buckets;", Cond.fieldLink RX4 10 "CrashBuckets" "maps" "LCrashBuckets$AddressMaps;", Cond.fieldLink RX4 19 "CrashBuckets" "rules" "LCrashBuckets$Rules;", Cond.methodLink RX4 45 yX4_isBelow, Cond.static yX4_isBelow, Cond.initialized RX4, Cond.code yX4_isBelow cX4_isBelow 2 (some .boolean), Cond.methodLink RX4 49 yX4_checkArgument, Cond.static yX4_checkArgument, Cond.code yX4_checkArgument cX4_checkArgument 1 none, Cond.classLink RX4 157 "java/lang/IllegalArgumentException", Cond.initialized "java/lang/IllegalArgumentException", Cond.methodLink RX4 100 yX4_mayFollow, Cond.static yX4_mayFollow, Cond.code yX4_mayFollow cX4_mayFollow 2 (some .boolean), Cond.instanceMethod yX2_add, Cond.initialized RX2, Cond.selects RX2 yX2_add yX2_add, Cond.code yX2_add cX2_add 4 (some .int), Cond.fieldLink RX2 9 "CrashBuckets$Reports" "count" "I", Cond.fieldLink RX2 15 "CrashBuckets$Reports" "versions" "[I"]
def wsX4_report_r2 : List Cond := [Cond.fieldLink RX2 19 "CrashBuckets$Reports" "reporters" "[I", Cond.fieldLink RX2 27 "CrashBuckets$Reports" "fixedFrom" "[I", Cond.instanceMethod yX2_setStack, Cond.selects RX2 yX2_setStack yX2_setStack, Cond.code yX2_setStack cX2_setStack 6 none, Cond.fieldLink RX2 24 "CrashBuckets$Reports" "stacks" "[[I", Cond.instanceMethod yX1_readStack, Cond.initialized RX1, Cond.selects RX1 yX1_readStack yX1_readStack, Cond.code yX1_readStack cX1_readStack 5 none, Cond.fieldLink RX1 11 "CrashBuckets$Buckets" "frames" "[[I", Cond.instanceMethod yX0_functionAt, Cond.initialized RX0, Cond.selects RX0 yX0_functionAt yX0_functionAt, Cond.code yX0_functionAt cX0_functionAt 4 (some .int), Cond.fieldLink RX0 9 "CrashBuckets$AddressMaps" "counts" "[I", Cond.fieldLink RX0 17 "CrashBuckets$AddressMaps" "froms" "[[I", Cond.fieldLink RX0 20 "CrashBuckets$AddressMaps" "tos" "[[I", Cond.fieldLink RX0 23 "CrashBuckets$AddressMaps" "functions" "[[I", Cond.instanceMethod yX1_sort, Cond.selects RX1 yX1_sort yX1_sort, Cond.code yX1_sort cX1_sort 5 none, Cond.fieldLink RX1 19 "CrashBuckets$Buckets" "signatures" "[I", Cond.fieldLink RX1 23 "CrashBuckets$Buckets" "names" "[I"]
def wsX4_report_r3 : List Cond := [Cond.methodLink RX1 52 yX1_pickMattering, Cond.instanceMethod yX1_pickMattering, Cond.selects RX1 yX1_pickMattering yX1_pickMattering, Cond.code yX1_pickMattering cX1_pickMattering 6 none, Cond.fieldLink RX1 16 "CrashBuckets$Buckets" "mattering" "[[I", Cond.instanceMethod yX3_inTheEnd, Cond.initialized RX3, Cond.selects RX3 yX3_inTheEnd yX3_inTheEnd, Cond.code yX3_inTheEnd cX3_inTheEnd 4 (some .int), Cond.fieldLink RX3 15 "CrashBuckets$Rules" "standsFor" "[I", Cond.methodLink RX1 56 yX1_signatureOf, Cond.instanceMethod yX1_signatureOf, Cond.selects RX1 yX1_signatureOf yX1_signatureOf, Cond.code yX1_signatureOf cX1_signatureOf 5 (some .int)]
def wsX4_report : List Cond := .code yX4_report cX4_report 8 (some .int) :: ((wsX4_report_r1 ++ (wsX4_report_r2 ++ wsX4_report_r3)) ++ wsX40 ++ wsX20 ++ wsX10 ++ wsX00 ++ wsX30 ++ (vx_atS RX4 61 "java/lang/IllegalStateException" ["java/lang/RuntimeException", "java/lang/Exception"]).filter goodWord ++ (vx_atS RX4 161 "java/lang/IllegalArgumentException" ["java/lang/RuntimeException", "java/lang/Exception"]).filter goodWord)
def wsX4_reports : List Cond := .code yX4_reports cX4_reports 1 (some .int) :: ([.fieldLink RX4 26 "CrashBuckets" "told" "LCrashBuckets$Reports;"] ++ wsX40 ++ wsX20)
def wsX4_checkReport : List Cond := .code yX4_checkReport cX4_checkReport 2 none :: ([.classLink RX4 162 "java/lang/IndexOutOfBoundsException", .initialized "java/lang/IndexOutOfBoundsException", .fieldLink RX4 26 "CrashBuckets" "told" "LCrashBuckets$Reports;", .methodLink RX4 45 yX4_isBelow, .static yX4_isBelow, .initialized RX4, .code yX4_isBelow cX4_isBelow 2 (some .boolean)] ++ wsX40 ++ wsX20 ++ (vx_atS RX4 166 "java/lang/IndexOutOfBoundsException" ["java/lang/RuntimeException", "java/lang/Exception"]).filter goodWord)
def wsX4_frame : List Cond := .code yX4_frame cX4_frame 3 (some .int) :: ([.fieldLink RX4 33 "CrashBuckets" "sorted" "LCrashBuckets$Buckets;", .methodLink RX4 122 yX4_checkReport, .instanceMethod yX4_checkReport, .selects RX4 yX4_checkReport yX4_checkReport, .initialized RX4, .code yX4_checkReport cX4_checkReport 2 none, .classLink RX4 162 "java/lang/IndexOutOfBoundsException", .initialized "java/lang/IndexOutOfBoundsException", .fieldLink RX4 26 "CrashBuckets" "told" "LCrashBuckets$Reports;", .methodLink RX4 45 yX4_isBelow, .static yX4_isBelow, .code yX4_isBelow cX4_isBelow 2 (some .boolean), .methodLink RX4 49 yX4_checkArgument, .static yX4_checkArgument, .code yX4_checkArgument cX4_checkArgument 1 none, .classLink RX4 157 "java/lang/IllegalArgumentException", .initialized "java/lang/IllegalArgumentException"] ++ wsX40 ++ wsX10 ++ wsX20 ++ (vx_atS RX4 166 "java/lang/IndexOutOfBoundsException" ["java/lang/RuntimeException", "java/lang/Exception"]).filter goodWord ++ (vx_atS RX4 161 "java/lang/IllegalArgumentException" ["java/lang/RuntimeException", "java/lang/Exception"]).filter goodWord)
def wsX4_matters : List Cond := .code yX4_matters cX4_matters 3 (some .int) :: ([.fieldLink RX4 33 "CrashBuckets" "sorted" "LCrashBuckets$Buckets;", .methodLink RX4 122 yX4_checkReport, .instanceMethod yX4_checkReport, .selects RX4 yX4_checkReport yX4_checkReport, .initialized RX4, .code yX4_checkReport cX4_checkReport 2 none, .classLink RX4 162 "java/lang/IndexOutOfBoundsException", .initialized "java/lang/IndexOutOfBoundsException", .fieldLink RX4 26 "CrashBuckets" "told" "LCrashBuckets$Reports;", .methodLink RX4 45 yX4_isBelow, .static yX4_isBelow, .code yX4_isBelow cX4_isBelow 2 (some .boolean), .methodLink RX4 49 yX4_checkArgument, .static yX4_checkArgument, .code yX4_checkArgument cX4_checkArgument 1 none, .classLink RX4 157 "java/lang/IllegalArgumentException", .initialized "java/lang/IllegalArgumentException"] ++ wsX40 ++ wsX10 ++ wsX20 ++ (vx_atS RX4 166 "java/lang/IndexOutOfBoundsException" ["java/lang/RuntimeException", "java/lang/Exception"]).filter goodWord ++ (vx_atS RX4 161 "java/lang/IllegalArgumentException" ["java/lang/RuntimeException", "java/lang/Exception"]).filter goodWord)
def wsX4_bucket : List Cond := .code yX4_bucket cX4_bucket 2 (some .int) :: ([.fieldLink RX4 33 "CrashBuckets" "sorted" "LCrashBuckets$Buckets;", .methodLink RX4 122 yX4_checkReport, .instanceMethod yX4_checkReport, .selects RX4 yX4_checkReport yX4_checkReport, .initialized RX4, .code yX4_checkReport cX4_checkReport 2 none, .classLink RX4 162 "java/lang/IndexOutOfBoundsException", .initialized "java/lang/IndexOutOfBoundsException", .fieldLink RX4 26 "CrashBuckets" "told" "LCrashBuckets$Reports;", .methodLink RX4 45 yX4_isBelow, .static yX4_isBelow, .code yX4_isBelow cX4_isBelow 2 (some .boolean)] ++ wsX40 ++ wsX10 ++ wsX20 ++ (vx_atS RX4 166 "java/lang/IndexOutOfBoundsException" ["java/lang/RuntimeException", "java/lang/Exception"]).filter goodWord)
def wsX4_buckets : List Cond := .code yX4_buckets cX4_buckets 3 (some .int) :: ([.fieldLink RX4 26 "CrashBuckets" "told" "LCrashBuckets$Reports;", .fieldLink RX4 33 "CrashBuckets" "sorted" "LCrashBuckets$Buckets;", .instanceMethod yX1_isName, .initialized RX1, .selects RX1 yX1_isName yX1_isName, .code yX1_isName cX1_isName 2 (some .boolean), .fieldLink RX1 23 "CrashBuckets$Buckets" "names" "[I"] ++ wsX40 ++ wsX20 ++ wsX10)
def wsX4_isOf : List Cond := .code yX4_isOf cX4_isOf 4 (some .boolean) :: ([.fieldLink RX4 33 "CrashBuckets" "sorted" "LCrashBuckets$Buckets;", .fieldLink RX4 26 "CrashBuckets" "told" "LCrashBuckets$Reports;"] ++ wsX40 ++ wsX10 ++ wsX20)
def wsX4_countIn : List Cond := .code yX4_countIn cX4_countIn 5 (some .int) :: ([.fieldLink RX4 26 "CrashBuckets" "told" "LCrashBuckets$Reports;", .methodLink RX4 170 yX4_isOf, .instanceMethod yX4_isOf, .selects RX4 yX4_isOf yX4_isOf, .initialized RX4, .code yX4_isOf cX4_isOf 4 (some .boolean), .fieldLink RX4 33 "CrashBuckets" "sorted" "LCrashBuckets$Buckets;"] ++ wsX40 ++ wsX20 ++ wsX10)
def wsX4_size : List Cond := .code yX4_size cX4_size 4 (some .int) :: ([.fieldLink RX4 33 "CrashBuckets" "sorted" "LCrashBuckets$Buckets;", .methodLink RX4 122 yX4_checkReport, .instanceMethod yX4_checkReport, .selects RX4 yX4_checkReport yX4_checkReport, .initialized RX4, .code yX4_checkReport cX4_checkReport 2 none, .classLink RX4 162 "java/lang/IndexOutOfBoundsException", .initialized "java/lang/IndexOutOfBoundsException", .fieldLink RX4 26 "CrashBuckets" "told" "LCrashBuckets$Reports;", .methodLink RX4 45 yX4_isBelow, .static yX4_isBelow, .code yX4_isBelow cX4_isBelow 2 (some .boolean), .methodLink RX4 139 yX4_countIn, .instanceMethod yX4_countIn, .selects RX4 yX4_countIn yX4_countIn, .code yX4_countIn cX4_countIn 5 (some .int), .methodLink RX4 170 yX4_isOf, .instanceMethod yX4_isOf, .selects RX4 yX4_isOf yX4_isOf, .code yX4_isOf cX4_isOf 4 (some .boolean)] ++ wsX40 ++ wsX10 ++ wsX20 ++ (vx_atS RX4 166 "java/lang/IndexOutOfBoundsException" ["java/lang/RuntimeException", "java/lang/Exception"]).filter goodWord)
def wsX4_setSessions : List Cond := .code yX4_setSessions cX4_setSessions 4 (some .int) :: ([.constant RX4 142 (1000000), .fieldLink RX4 37 "CrashBuckets" "sessions" "[I", .methodLink RX4 45 yX4_isBelow, .static yX4_isBelow, .initialized RX4, .code yX4_isBelow cX4_isBelow 2 (some .boolean), .methodLink RX4 49 yX4_checkArgument, .static yX4_checkArgument, .code yX4_checkArgument cX4_checkArgument 1 none, .classLink RX4 157 "java/lang/IllegalArgumentException", .initialized "java/lang/IllegalArgumentException"] ++ wsX40 ++ (vx_atS RX4 161 "java/lang/IllegalArgumentException" ["java/lang/RuntimeException", "java/lang/Exception"]).filter goodWord)
def wsX4_setLimit : List Cond := .code yX4_setLimit cX4_setLimit 3 (some .int) :: ([.fieldLink RX4 41 "CrashBuckets" "limit" "I", .methodLink RX4 49 yX4_checkArgument, .static yX4_checkArgument, .initialized RX4, .code yX4_checkArgument cX4_checkArgument 1 none, .classLink RX4 157 "java/lang/IllegalArgumentException", .initialized "java/lang/IllegalArgumentException"] ++ wsX40 ++ (vx_atS RX4 161 "java/lang/IllegalArgumentException" ["java/lang/RuntimeException", "java/lang/Exception"]).filter goodWord)
def wsX4_rateOf : List Cond := .code yX4_rateOf cX4_rateOf 4 (some .int) :: ([.fieldLink RX4 37 "CrashBuckets" "sessions" "[I", .methodLink RX4 139 yX4_countIn, .instanceMethod yX4_countIn, .selects RX4 yX4_countIn yX4_countIn, .initialized RX4, .code yX4_countIn cX4_countIn 5 (some .int), .fieldLink RX4 26 "CrashBuckets" "told" "LCrashBuckets$Reports;", .methodLink RX4 170 yX4_isOf, .instanceMethod yX4_isOf, .selects RX4 yX4_isOf yX4_isOf, .code yX4_isOf cX4_isOf 4 (some .boolean), .fieldLink RX4 33 "CrashBuckets" "sorted" "LCrashBuckets$Buckets;"] ++ wsX40 ++ wsX20 ++ wsX10)
def wsX4_rate_r1 : List Cond := [Cond.fieldLink RX4 33 "CrashBuckets" "sorted" "LCrashBuckets$Buckets;", Cond.methodLink RX4 122 yX4_checkReport, Cond.instanceMethod yX4_checkReport, Cond.selects RX4 yX4_checkReport yX4_checkReport, Cond.initialized RX4, Cond.code yX4_checkReport cX4_checkReport 2 none, Cond.classLink RX4 162 "java/lang/IndexOutOfBoundsException", Cond.initialized "java/lang/IndexOutOfBoundsException", Cond.fieldLink RX4 26 "CrashBuckets" "told" "LCrashBuckets$Reports;", Cond.methodLink RX4 45 yX4_isBelow, Cond.static yX4_isBelow, Cond.code yX4_isBelow cX4_isBelow 2 (some .boolean), Cond.methodLink RX4 49 yX4_checkArgument, Cond.static yX4_checkArgument, Cond.code yX4_checkArgument cX4_checkArgument 1 none, Cond.classLink RX4 157 "java/lang/IllegalArgumentException", Cond.initialized "java/lang/IllegalArgumentException", Cond.methodLink RX4 143 yX4_rateOf, Cond.instanceMethod yX4_rateOf, Cond.selects RX4 yX4_rateOf yX4_rateOf, Cond.code yX4_rateOf cX4_rateOf 4 (some .int), Cond.fieldLink RX4 37 "CrashBuckets" "sessions" "[I", Cond.methodLink RX4 139 yX4_countIn, Cond.instanceMethod yX4_countIn]
def wsX4_rate_r2 : List Cond := [Cond.selects RX4 yX4_countIn yX4_countIn, Cond.code yX4_countIn cX4_countIn 5 (some .int), Cond.methodLink RX4 170 yX4_isOf, Cond.instanceMethod yX4_isOf, Cond.selects RX4 yX4_isOf yX4_isOf, Cond.code yX4_isOf cX4_isOf 4 (some .boolean)]
def wsX4_rate : List Cond := .code yX4_rate cX4_rate 3 (some .int) :: ((wsX4_rate_r1 ++ wsX4_rate_r2) ++ wsX40 ++ wsX10 ++ wsX20 ++ (vx_atS RX4 166 "java/lang/IndexOutOfBoundsException" ["java/lang/RuntimeException", "java/lang/Exception"]).filter goodWord ++ (vx_atS RX4 161 "java/lang/IllegalArgumentException" ["java/lang/RuntimeException", "java/lang/Exception"]).filter goodWord)
def wsJ6_bitCount_0f7a4 : List Cond := .code yJ6_bitCount_0f7a4 cJ6_bitCount_0f7a4 1 (some .int) :: ([.constant RJ6 265 (1431655765), .constant RJ6 266 (858993459), .constant RJ6 267 (252645135)])
def wsX4_usersOf : List Cond := .code yX4_usersOf cX4_usersOf 5 (some .int) :: ([.fieldLink RX4 26 "CrashBuckets" "told" "LCrashBuckets$Reports;", .methodLink RX4 170 yX4_isOf, .instanceMethod yX4_isOf, .selects RX4 yX4_isOf yX4_isOf, .initialized RX4, .code yX4_isOf cX4_isOf 4 (some .boolean), .fieldLink RX4 33 "CrashBuckets" "sorted" "LCrashBuckets$Buckets;", .methodLink RX4 176 yJ6_bitCount_0f7a4, .static yJ6_bitCount_0f7a4, .initialized RJ6, .code yJ6_bitCount_0f7a4 cJ6_bitCount_0f7a4 1 (some .int), .constant RJ6 265 (1431655765), .constant RJ6 266 (858993459), .constant RJ6 267 (252645135)] ++ wsX40 ++ wsX20 ++ wsX10)
def wsX4_users_r1 : List Cond := [Cond.fieldLink RX4 33 "CrashBuckets" "sorted" "LCrashBuckets$Buckets;", Cond.methodLink RX4 122 yX4_checkReport, Cond.instanceMethod yX4_checkReport, Cond.selects RX4 yX4_checkReport yX4_checkReport, Cond.initialized RX4, Cond.code yX4_checkReport cX4_checkReport 2 none, Cond.classLink RX4 162 "java/lang/IndexOutOfBoundsException", Cond.initialized "java/lang/IndexOutOfBoundsException", Cond.fieldLink RX4 26 "CrashBuckets" "told" "LCrashBuckets$Reports;", Cond.methodLink RX4 45 yX4_isBelow, Cond.static yX4_isBelow, Cond.code yX4_isBelow cX4_isBelow 2 (some .boolean), Cond.methodLink RX4 49 yX4_checkArgument, Cond.static yX4_checkArgument, Cond.code yX4_checkArgument cX4_checkArgument 1 none, Cond.classLink RX4 157 "java/lang/IllegalArgumentException", Cond.initialized "java/lang/IllegalArgumentException", Cond.methodLink RX4 146 yX4_usersOf, Cond.instanceMethod yX4_usersOf, Cond.selects RX4 yX4_usersOf yX4_usersOf, Cond.code yX4_usersOf cX4_usersOf 5 (some .int), Cond.methodLink RX4 170 yX4_isOf, Cond.instanceMethod yX4_isOf, Cond.selects RX4 yX4_isOf yX4_isOf]
def wsX4_users_r2 : List Cond := [Cond.code yX4_isOf cX4_isOf 4 (some .boolean), Cond.methodLink RX4 176 yJ6_bitCount_0f7a4, Cond.static yJ6_bitCount_0f7a4, Cond.initialized RJ6, Cond.code yJ6_bitCount_0f7a4 cJ6_bitCount_0f7a4 1 (some .int), Cond.constant RJ6 265 (1431655765), Cond.constant RJ6 266 (858993459), Cond.constant RJ6 267 (252645135)]
def wsX4_users : List Cond := .code yX4_users cX4_users 3 (some .int) :: ((wsX4_users_r1 ++ wsX4_users_r2) ++ wsX40 ++ wsX10 ++ wsX20 ++ (vx_atS RX4 166 "java/lang/IndexOutOfBoundsException" ["java/lang/RuntimeException", "java/lang/Exception"]).filter goodWord ++ (vx_atS RX4 161 "java/lang/IllegalArgumentException" ["java/lang/RuntimeException", "java/lang/Exception"]).filter goodWord)
def wsX4_gate_r1 : List Cond := [Cond.fieldLink RX4 37 "CrashBuckets" "sessions" "[I", Cond.fieldLink RX4 26 "CrashBuckets" "told" "LCrashBuckets$Reports;", Cond.fieldLink RX4 33 "CrashBuckets" "sorted" "LCrashBuckets$Buckets;", Cond.fieldLink RX4 41 "CrashBuckets" "limit" "I", Cond.methodLink RX4 45 yX4_isBelow, Cond.static yX4_isBelow, Cond.initialized RX4, Cond.code yX4_isBelow cX4_isBelow 2 (some .boolean), Cond.methodLink RX4 49 yX4_checkArgument, Cond.static yX4_checkArgument, Cond.code yX4_checkArgument cX4_checkArgument 1 none, Cond.classLink RX4 157 "java/lang/IllegalArgumentException", Cond.initialized "java/lang/IllegalArgumentException", Cond.instanceMethod yX1_isName, Cond.initialized RX1, Cond.selects RX1 yX1_isName yX1_isName, Cond.code yX1_isName cX1_isName 2 (some .boolean), Cond.fieldLink RX1 23 "CrashBuckets$Buckets" "names" "[I", Cond.methodLink RX4 143 yX4_rateOf, Cond.instanceMethod yX4_rateOf, Cond.selects RX4 yX4_rateOf yX4_rateOf, Cond.code yX4_rateOf cX4_rateOf 4 (some .int), Cond.methodLink RX4 139 yX4_countIn, Cond.instanceMethod yX4_countIn]
def wsX4_gate_r2 : List Cond := [Cond.selects RX4 yX4_countIn yX4_countIn, Cond.code yX4_countIn cX4_countIn 5 (some .int), Cond.methodLink RX4 170 yX4_isOf, Cond.instanceMethod yX4_isOf, Cond.selects RX4 yX4_isOf yX4_isOf, Cond.code yX4_isOf cX4_isOf 4 (some .boolean), Cond.methodLink RX4 146 yX4_usersOf, Cond.instanceMethod yX4_usersOf, Cond.selects RX4 yX4_usersOf yX4_usersOf, Cond.code yX4_usersOf cX4_usersOf 5 (some .int), Cond.methodLink RX4 176 yJ6_bitCount_0f7a4, Cond.static yJ6_bitCount_0f7a4, Cond.initialized RJ6, Cond.code yJ6_bitCount_0f7a4 cJ6_bitCount_0f7a4 1 (some .int), Cond.constant RJ6 265 (1431655765), Cond.constant RJ6 266 (858993459), Cond.constant RJ6 267 (252645135)]
def wsX4_gate : List Cond := .code yX4_gate cX4_gate 6 (some .int) :: ((wsX4_gate_r1 ++ wsX4_gate_r2) ++ wsX40 ++ wsX20 ++ wsX10 ++ (vx_atS RX4 161 "java/lang/IllegalArgumentException" ["java/lang/RuntimeException", "java/lang/Exception"]).filter goodWord)
def wsX4_worst_r1 : List Cond := [Cond.fieldLink RX4 26 "CrashBuckets" "told" "LCrashBuckets$Reports;", Cond.fieldLink RX4 33 "CrashBuckets" "sorted" "LCrashBuckets$Buckets;", Cond.methodLink RX4 45 yX4_isBelow, Cond.static yX4_isBelow, Cond.initialized RX4, Cond.code yX4_isBelow cX4_isBelow 2 (some .boolean), Cond.methodLink RX4 49 yX4_checkArgument, Cond.static yX4_checkArgument, Cond.code yX4_checkArgument cX4_checkArgument 1 none, Cond.classLink RX4 157 "java/lang/IllegalArgumentException", Cond.initialized "java/lang/IllegalArgumentException", Cond.instanceMethod yX1_isName, Cond.initialized RX1, Cond.selects RX1 yX1_isName yX1_isName, Cond.code yX1_isName cX1_isName 2 (some .boolean), Cond.fieldLink RX1 23 "CrashBuckets$Buckets" "names" "[I", Cond.methodLink RX4 143 yX4_rateOf, Cond.instanceMethod yX4_rateOf, Cond.selects RX4 yX4_rateOf yX4_rateOf, Cond.code yX4_rateOf cX4_rateOf 4 (some .int), Cond.fieldLink RX4 37 "CrashBuckets" "sessions" "[I", Cond.methodLink RX4 139 yX4_countIn, Cond.instanceMethod yX4_countIn, Cond.selects RX4 yX4_countIn yX4_countIn]
def wsX4_worst_r2 : List Cond := [Cond.code yX4_countIn cX4_countIn 5 (some .int), Cond.methodLink RX4 170 yX4_isOf, Cond.instanceMethod yX4_isOf, Cond.selects RX4 yX4_isOf yX4_isOf, Cond.code yX4_isOf cX4_isOf 4 (some .boolean)]
def wsX4_worst : List Cond := .code yX4_worst cX4_worst 6 (some .int) :: ((wsX4_worst_r1 ++ wsX4_worst_r2) ++ wsX40 ++ wsX20 ++ wsX10 ++ (vx_atS RX4 161 "java/lang/IllegalArgumentException" ["java/lang/RuntimeException", "java/lang/Exception"]).filter goodWord)
def wsX4_fix : List Cond := .code yX4_fix cX4_fix 4 (some .int) :: ([.fieldLink RX4 26 "CrashBuckets" "told" "LCrashBuckets$Reports;", .methodLink RX4 122 yX4_checkReport, .instanceMethod yX4_checkReport, .selects RX4 yX4_checkReport yX4_checkReport, .initialized RX4, .code yX4_checkReport cX4_checkReport 2 none, .classLink RX4 162 "java/lang/IndexOutOfBoundsException", .initialized "java/lang/IndexOutOfBoundsException", .methodLink RX4 45 yX4_isBelow, .static yX4_isBelow, .code yX4_isBelow cX4_isBelow 2 (some .boolean), .methodLink RX4 49 yX4_checkArgument, .static yX4_checkArgument, .code yX4_checkArgument cX4_checkArgument 1 none, .classLink RX4 157 "java/lang/IllegalArgumentException", .initialized "java/lang/IllegalArgumentException"] ++ wsX40 ++ wsX20 ++ (vx_atS RX4 166 "java/lang/IndexOutOfBoundsException" ["java/lang/RuntimeException", "java/lang/Exception"]).filter goodWord ++ (vx_atS RX4 161 "java/lang/IllegalArgumentException" ["java/lang/RuntimeException", "java/lang/Exception"]).filter goodWord)
def wsX4_greatestRateBefore : List Cond := .code yX4_greatestRateBefore cX4_greatestRateBefore 5 (some .int) :: ([.methodLink RX4 182 Lib.Math.max.name, .static Lib.Math.max.name, .initialized "java/lang/Math", .code Lib.Math.max.name Lib.Math.max.code 2 (some .int), .methodLink RX4 143 yX4_rateOf, .instanceMethod yX4_rateOf, .selects RX4 yX4_rateOf yX4_rateOf, .initialized RX4, .code yX4_rateOf cX4_rateOf 4 (some .int), .fieldLink RX4 37 "CrashBuckets" "sessions" "[I", .methodLink RX4 139 yX4_countIn, .instanceMethod yX4_countIn, .selects RX4 yX4_countIn yX4_countIn, .code yX4_countIn cX4_countIn 5 (some .int), .fieldLink RX4 26 "CrashBuckets" "told" "LCrashBuckets$Reports;", .methodLink RX4 170 yX4_isOf, .instanceMethod yX4_isOf, .selects RX4 yX4_isOf yX4_isOf, .code yX4_isOf cX4_isOf 4 (some .boolean), .fieldLink RX4 33 "CrashBuckets" "sorted" "LCrashBuckets$Buckets;"] ++ wsX40 ++ wsX20 ++ wsX10)
def wsX4_holds_r1 : List Cond := [Cond.classLink RX4 57 "java/lang/IllegalStateException", Cond.initialized "java/lang/IllegalStateException", Cond.fieldLink RX4 26 "CrashBuckets" "told" "LCrashBuckets$Reports;", Cond.fieldLink RX4 33 "CrashBuckets" "sorted" "LCrashBuckets$Buckets;", Cond.fieldLink RX4 37 "CrashBuckets" "sessions" "[I", Cond.methodLink RX4 122 yX4_checkReport, Cond.instanceMethod yX4_checkReport, Cond.selects RX4 yX4_checkReport yX4_checkReport, Cond.initialized RX4, Cond.code yX4_checkReport cX4_checkReport 2 none, Cond.classLink RX4 162 "java/lang/IndexOutOfBoundsException", Cond.initialized "java/lang/IndexOutOfBoundsException", Cond.methodLink RX4 45 yX4_isBelow, Cond.static yX4_isBelow, Cond.code yX4_isBelow cX4_isBelow 2 (some .boolean), Cond.methodLink RX4 154 yX4_greatestRateBefore, Cond.instanceMethod yX4_greatestRateBefore, Cond.selects RX4 yX4_greatestRateBefore yX4_greatestRateBefore, Cond.code yX4_greatestRateBefore cX4_greatestRateBefore 5 (some .int), Cond.methodLink RX4 182 Lib.Math.max.name, Cond.static Lib.Math.max.name, Cond.initialized "java/lang/Math", Cond.code Lib.Math.max.name Lib.Math.max.code 2 (some .int), Cond.methodLink RX4 143 yX4_rateOf]
def wsX4_holds_r2 : List Cond := [Cond.instanceMethod yX4_rateOf, Cond.selects RX4 yX4_rateOf yX4_rateOf, Cond.code yX4_rateOf cX4_rateOf 4 (some .int), Cond.methodLink RX4 139 yX4_countIn, Cond.instanceMethod yX4_countIn, Cond.selects RX4 yX4_countIn yX4_countIn, Cond.code yX4_countIn cX4_countIn 5 (some .int), Cond.methodLink RX4 170 yX4_isOf, Cond.instanceMethod yX4_isOf, Cond.selects RX4 yX4_isOf yX4_isOf, Cond.code yX4_isOf cX4_isOf 4 (some .boolean)]
def wsX4_holds : List Cond := .code yX4_holds cX4_holds 6 (some .boolean) :: ((wsX4_holds_r1 ++ wsX4_holds_r2) ++ wsX40 ++ wsX20 ++ wsX10 ++ (vx_atS RX4 61 "java/lang/IllegalStateException" ["java/lang/RuntimeException", "java/lang/Exception"]).filter goodWord ++ (vx_atS RX4 166 "java/lang/IndexOutOfBoundsException" ["java/lang/RuntimeException", "java/lang/Exception"]).filter goodWord)
def wsX5_init : List Cond := .code yX5_init cX5_init 2 none :: ([.methodLink RX5 1 objectInit, .instanceMethod objectInit, .code objectInit ⟨#[0xb1]⟩ 1 none, .arrayClass .int, .fieldLink RX5 7 "CrashBucketsModel" "ranges" "[I", .fieldLink RX5 13 "CrashBucketsModel" "from" "[I", .fieldLink RX5 16 "CrashBucketsModel" "to" "[I", .fieldLink RX5 19 "CrashBucketsModel" "of" "[I", .arrayClass .boolean, .fieldLink RX5 22 "CrashBucketsModel" "ignored" "[Z", .fieldLink RX5 26 "CrashBucketsModel" "stands" "[I", .fieldLink RX5 29 "CrashBucketsModel" "depth" "I", .fieldLink RX5 33 "CrashBucketsModel" "version" "[I", .fieldLink RX5 36 "CrashBucketsModel" "user" "[I", .fieldLink RX5 39 "CrashBucketsModel" "stack" "[I", .fieldLink RX5 42 "CrashBucketsModel" "fixed" "[I", .fieldLink RX5 45 "CrashBucketsModel" "sessions" "[I", .fieldLink RX5 48 "CrashBucketsModel" "limit" "I", .fieldLink RX5 51 "CrashBucketsModel" "name" "[I", .fieldLink RX5 54 "CrashBucketsModel" "key" "[I", .fieldLink RX5 57 "CrashBucketsModel" "seen" "[Z"] ++ wsX50)
def wsX5_thrown : List Cond := .code yX5_thrown cX5_thrown 1 (some .int) :: ([.fieldLink RX5 60 "CrashBucketsModel" "thrown" "I"] ++ wsX50)
def wsX5_fails : List Cond := .code yX5_fails cX5_fails 2 (some .int) :: ([.fieldLink RX5 60 "CrashBucketsModel" "thrown" "I"] ++ wsX50)
def wsX5_in : List Cond := .code yX5_in cX5_in 3 (some .boolean) :: ([])
def wsX5_isVersion : List Cond := .code yX5_isVersion cX5_isVersion 1 (some .boolean) :: ([.methodLink RX5 63 yX5_in, .static yX5_in, .initialized RX5, .code yX5_in cX5_in 3 (some .boolean)])
def wsX5_isFunction : List Cond := .code yX5_isFunction cX5_isFunction 1 (some .boolean) :: ([.methodLink RX5 63 yX5_in, .static yX5_in, .initialized RX5, .code yX5_in cX5_in 3 (some .boolean)])
def wsX5_isAddress : List Cond := .code yX5_isAddress cX5_isAddress 1 (some .boolean) :: ([.methodLink RX5 63 yX5_in, .static yX5_in, .initialized RX5, .code yX5_in cX5_in 3 (some .boolean)])
def wsX5_isReport : List Cond := .code yX5_isReport cX5_isReport 2 (some .boolean) :: ([.fieldLink RX5 67 "CrashBucketsModel" "reports" "I", .methodLink RX5 63 yX5_in, .static yX5_in, .initialized RX5, .code yX5_in cX5_in 3 (some .boolean)] ++ wsX50)
def wsX5_addRange : List Cond := .code yX5_addRange cX5_addRange 7 (some .int) :: ([.fieldLink RX5 60 "CrashBucketsModel" "thrown" "I", .fieldLink RX5 7 "CrashBucketsModel" "ranges" "[I", .fieldLink RX5 16 "CrashBucketsModel" "to" "[I", .fieldLink RX5 13 "CrashBucketsModel" "from" "[I", .fieldLink RX5 19 "CrashBucketsModel" "of" "[I", .methodLink RX5 70 yX5_isVersion, .static yX5_isVersion, .initialized RX5, .code yX5_isVersion cX5_isVersion 1 (some .boolean), .methodLink RX5 63 yX5_in, .static yX5_in, .code yX5_in cX5_in 3 (some .boolean), .methodLink RX5 74 yX5_isAddress, .static yX5_isAddress, .code yX5_isAddress cX5_isAddress 1 (some .boolean), .methodLink RX5 77 yX5_isFunction, .static yX5_isFunction, .code yX5_isFunction cX5_isFunction 1 (some .boolean), .methodLink RX5 80 yX5_fails, .instanceMethod yX5_fails, .selects RX5 yX5_fails yX5_fails, .code yX5_fails cX5_fails 2 (some .int)] ++ wsX50)
def wsX5_ignore : List Cond := .code yX5_ignore cX5_ignore 4 (some .boolean) :: ([.fieldLink RX5 60 "CrashBucketsModel" "thrown" "I", .fieldLink RX5 22 "CrashBucketsModel" "ignored" "[Z", .methodLink RX5 77 yX5_isFunction, .static yX5_isFunction, .initialized RX5, .code yX5_isFunction cX5_isFunction 1 (some .boolean), .methodLink RX5 63 yX5_in, .static yX5_in, .code yX5_in cX5_in 3 (some .boolean)] ++ wsX50)
def wsX5_leads : List Cond := .code yX5_leads cX5_leads 6 (some .boolean) :: ([.fieldLink RX5 26 "CrashBucketsModel" "stands" "[I"] ++ wsX50)
def wsX5_root : List Cond := .code yX5_root cX5_root 3 (some .int) :: ([.fieldLink RX5 26 "CrashBucketsModel" "stands" "[I"] ++ wsX50)
def wsX5_standFor : List Cond := .code yX5_standFor cX5_standFor 4 (some .int) :: ([.fieldLink RX5 60 "CrashBucketsModel" "thrown" "I", .fieldLink RX5 26 "CrashBucketsModel" "stands" "[I", .methodLink RX5 77 yX5_isFunction, .static yX5_isFunction, .initialized RX5, .code yX5_isFunction cX5_isFunction 1 (some .boolean), .methodLink RX5 63 yX5_in, .static yX5_in, .code yX5_in cX5_in 3 (some .boolean), .methodLink RX5 80 yX5_fails, .instanceMethod yX5_fails, .selects RX5 yX5_fails yX5_fails, .code yX5_fails cX5_fails 2 (some .int), .methodLink RX5 84 yX5_leads, .instanceMethod yX5_leads, .selects RX5 yX5_leads yX5_leads, .code yX5_leads cX5_leads 6 (some .boolean)] ++ wsX50)
def wsX5_setDepth : List Cond := .code yX5_setDepth cX5_setDepth 3 (some .int) :: ([.fieldLink RX5 60 "CrashBucketsModel" "thrown" "I", .fieldLink RX5 29 "CrashBucketsModel" "depth" "I", .methodLink RX5 63 yX5_in, .static yX5_in, .initialized RX5, .code yX5_in cX5_in 3 (some .boolean), .methodLink RX5 80 yX5_fails, .instanceMethod yX5_fails, .selects RX5 yX5_fails yX5_fails, .code yX5_fails cX5_fails 2 (some .int)] ++ wsX50)
def wsX5_isNext : List Cond := .code yX5_isNext cX5_isNext 2 (some .boolean) :: ([.methodLink RX5 74 yX5_isAddress, .static yX5_isAddress, .initialized RX5, .code yX5_isAddress cX5_isAddress 1 (some .boolean), .methodLink RX5 63 yX5_in, .static yX5_in, .code yX5_in cX5_in 3 (some .boolean)])
def wsX5_report : List Cond := .code yX5_report cX5_report 7 (some .int) :: ([.fieldLink RX5 60 "CrashBucketsModel" "thrown" "I", .fieldLink RX5 67 "CrashBucketsModel" "reports" "I", .fieldLink RX5 33 "CrashBucketsModel" "version" "[I", .fieldLink RX5 36 "CrashBucketsModel" "user" "[I", .fieldLink RX5 39 "CrashBucketsModel" "stack" "[I", .fieldLink RX5 42 "CrashBucketsModel" "fixed" "[I", .methodLink RX5 70 yX5_isVersion, .static yX5_isVersion, .initialized RX5, .code yX5_isVersion cX5_isVersion 1 (some .boolean), .methodLink RX5 63 yX5_in, .static yX5_in, .code yX5_in cX5_in 3 (some .boolean), .methodLink RX5 74 yX5_isAddress, .static yX5_isAddress, .code yX5_isAddress cX5_isAddress 1 (some .boolean), .methodLink RX5 88 yX5_isNext, .static yX5_isNext, .code yX5_isNext cX5_isNext 2 (some .boolean), .methodLink RX5 80 yX5_fails, .instanceMethod yX5_fails, .selects RX5 yX5_fails yX5_fails, .code yX5_fails cX5_fails 2 (some .int)] ++ wsX50)
def wsX5_reports : List Cond := .code yX5_reports cX5_reports 1 (some .int) :: ([.fieldLink RX5 60 "CrashBucketsModel" "thrown" "I", .fieldLink RX5 67 "CrashBucketsModel" "reports" "I"] ++ wsX50)
def wsX5_frameOf : List Cond := .code yX5_frameOf cX5_frameOf 6 (some .int) :: ([.fieldLink RX5 39 "CrashBucketsModel" "stack" "[I", .fieldLink RX5 33 "CrashBucketsModel" "version" "[I", .fieldLink RX5 7 "CrashBucketsModel" "ranges" "[I", .fieldLink RX5 13 "CrashBucketsModel" "from" "[I", .fieldLink RX5 16 "CrashBucketsModel" "to" "[I", .fieldLink RX5 19 "CrashBucketsModel" "of" "[I"] ++ wsX50)
def wsX5_frame : List Cond := .code yX5_frame cX5_frame 3 (some .int) :: ([.fieldLink RX5 60 "CrashBucketsModel" "thrown" "I", .methodLink RX5 91 yX5_isReport, .instanceMethod yX5_isReport, .selects RX5 yX5_isReport yX5_isReport, .initialized RX5, .code yX5_isReport cX5_isReport 2 (some .boolean), .fieldLink RX5 67 "CrashBucketsModel" "reports" "I", .methodLink RX5 63 yX5_in, .static yX5_in, .code yX5_in cX5_in 3 (some .boolean), .methodLink RX5 80 yX5_fails, .instanceMethod yX5_fails, .selects RX5 yX5_fails yX5_fails, .code yX5_fails cX5_fails 2 (some .int), .methodLink RX5 94 yX5_frameOf, .instanceMethod yX5_frameOf, .selects RX5 yX5_frameOf yX5_frameOf, .code yX5_frameOf cX5_frameOf 6 (some .int), .fieldLink RX5 39 "CrashBucketsModel" "stack" "[I", .fieldLink RX5 33 "CrashBucketsModel" "version" "[I", .fieldLink RX5 7 "CrashBucketsModel" "ranges" "[I", .fieldLink RX5 13 "CrashBucketsModel" "from" "[I", .fieldLink RX5 16 "CrashBucketsModel" "to" "[I", .fieldLink RX5 19 "CrashBucketsModel" "of" "[I"] ++ wsX50)
def wsX5_keys : List Cond := .code yX5_keys cX5_keys 5 none :: ([.fieldLink RX5 54 "CrashBucketsModel" "key" "[I", .fieldLink RX5 22 "CrashBucketsModel" "ignored" "[Z", .fieldLink RX5 29 "CrashBucketsModel" "depth" "I", .methodLink RX5 94 yX5_frameOf, .instanceMethod yX5_frameOf, .selects RX5 yX5_frameOf yX5_frameOf, .initialized RX5, .code yX5_frameOf cX5_frameOf 6 (some .int), .fieldLink RX5 39 "CrashBucketsModel" "stack" "[I", .fieldLink RX5 33 "CrashBucketsModel" "version" "[I", .fieldLink RX5 7 "CrashBucketsModel" "ranges" "[I", .fieldLink RX5 13 "CrashBucketsModel" "from" "[I", .fieldLink RX5 16 "CrashBucketsModel" "to" "[I", .fieldLink RX5 19 "CrashBucketsModel" "of" "[I", .methodLink RX5 98 yX5_root, .instanceMethod yX5_root, .selects RX5 yX5_root yX5_root, .code yX5_root cX5_root 3 (some .int), .fieldLink RX5 26 "CrashBucketsModel" "stands" "[I"] ++ wsX50)
def wsX5_matters_r1 : List Cond := [Cond.fieldLink RX5 60 "CrashBucketsModel" "thrown" "I", Cond.fieldLink RX5 54 "CrashBucketsModel" "key" "[I", Cond.methodLink RX5 91 yX5_isReport, Cond.instanceMethod yX5_isReport, Cond.selects RX5 yX5_isReport yX5_isReport, Cond.initialized RX5, Cond.code yX5_isReport cX5_isReport 2 (some .boolean), Cond.fieldLink RX5 67 "CrashBucketsModel" "reports" "I", Cond.methodLink RX5 63 yX5_in, Cond.static yX5_in, Cond.code yX5_in cX5_in 3 (some .boolean), Cond.methodLink RX5 80 yX5_fails, Cond.instanceMethod yX5_fails, Cond.selects RX5 yX5_fails yX5_fails, Cond.code yX5_fails cX5_fails 2 (some .int), Cond.methodLink RX5 101 yX5_keys, Cond.instanceMethod yX5_keys, Cond.selects RX5 yX5_keys yX5_keys, Cond.code yX5_keys cX5_keys 5 none, Cond.fieldLink RX5 22 "CrashBucketsModel" "ignored" "[Z", Cond.fieldLink RX5 29 "CrashBucketsModel" "depth" "I", Cond.methodLink RX5 94 yX5_frameOf, Cond.instanceMethod yX5_frameOf, Cond.selects RX5 yX5_frameOf yX5_frameOf]
def wsX5_matters_r2 : List Cond := [Cond.code yX5_frameOf cX5_frameOf 6 (some .int), Cond.fieldLink RX5 39 "CrashBucketsModel" "stack" "[I", Cond.fieldLink RX5 33 "CrashBucketsModel" "version" "[I", Cond.fieldLink RX5 7 "CrashBucketsModel" "ranges" "[I", Cond.fieldLink RX5 13 "CrashBucketsModel" "from" "[I", Cond.fieldLink RX5 16 "CrashBucketsModel" "to" "[I", Cond.fieldLink RX5 19 "CrashBucketsModel" "of" "[I", Cond.methodLink RX5 98 yX5_root, Cond.instanceMethod yX5_root, Cond.selects RX5 yX5_root yX5_root, Cond.code yX5_root cX5_root 3 (some .int), Cond.fieldLink RX5 26 "CrashBucketsModel" "stands" "[I"]
def wsX5_matters : List Cond := .code yX5_matters cX5_matters 3 (some .int) :: ((wsX5_matters_r1 ++ wsX5_matters_r2) ++ wsX50)
def wsX5_isSame : List Cond := .code yX5_isSame cX5_isSame 5 (some .boolean) :: ([.fieldLink RX5 54 "CrashBucketsModel" "key" "[I", .fieldLink RX5 39 "CrashBucketsModel" "stack" "[I", .fieldLink RX5 33 "CrashBucketsModel" "version" "[I"] ++ wsX50)
def wsX5_names_r1 : List Cond := [Cond.fieldLink RX5 67 "CrashBucketsModel" "reports" "I", Cond.fieldLink RX5 51 "CrashBucketsModel" "name" "[I", Cond.methodLink RX5 101 yX5_keys, Cond.instanceMethod yX5_keys, Cond.selects RX5 yX5_keys yX5_keys, Cond.initialized RX5, Cond.code yX5_keys cX5_keys 5 none, Cond.fieldLink RX5 54 "CrashBucketsModel" "key" "[I", Cond.fieldLink RX5 22 "CrashBucketsModel" "ignored" "[Z", Cond.fieldLink RX5 29 "CrashBucketsModel" "depth" "I", Cond.methodLink RX5 94 yX5_frameOf, Cond.instanceMethod yX5_frameOf, Cond.selects RX5 yX5_frameOf yX5_frameOf, Cond.code yX5_frameOf cX5_frameOf 6 (some .int), Cond.fieldLink RX5 39 "CrashBucketsModel" "stack" "[I", Cond.fieldLink RX5 33 "CrashBucketsModel" "version" "[I", Cond.fieldLink RX5 7 "CrashBucketsModel" "ranges" "[I", Cond.fieldLink RX5 13 "CrashBucketsModel" "from" "[I", Cond.fieldLink RX5 16 "CrashBucketsModel" "to" "[I", Cond.fieldLink RX5 19 "CrashBucketsModel" "of" "[I", Cond.methodLink RX5 98 yX5_root, Cond.instanceMethod yX5_root, Cond.selects RX5 yX5_root yX5_root, Cond.code yX5_root cX5_root 3 (some .int)]
def wsX5_names_r2 : List Cond := [Cond.fieldLink RX5 26 "CrashBucketsModel" "stands" "[I", Cond.methodLink RX5 105 yX5_isSame, Cond.instanceMethod yX5_isSame, Cond.selects RX5 yX5_isSame yX5_isSame, Cond.code yX5_isSame cX5_isSame 5 (some .boolean)]
def wsX5_names : List Cond := .code yX5_names cX5_names 3 none :: ((wsX5_names_r1 ++ wsX5_names_r2) ++ wsX50)
def wsX5_bucket_r1 : List Cond := [Cond.fieldLink RX5 60 "CrashBucketsModel" "thrown" "I", Cond.fieldLink RX5 51 "CrashBucketsModel" "name" "[I", Cond.methodLink RX5 91 yX5_isReport, Cond.instanceMethod yX5_isReport, Cond.selects RX5 yX5_isReport yX5_isReport, Cond.initialized RX5, Cond.code yX5_isReport cX5_isReport 2 (some .boolean), Cond.fieldLink RX5 67 "CrashBucketsModel" "reports" "I", Cond.methodLink RX5 63 yX5_in, Cond.static yX5_in, Cond.code yX5_in cX5_in 3 (some .boolean), Cond.methodLink RX5 80 yX5_fails, Cond.instanceMethod yX5_fails, Cond.selects RX5 yX5_fails yX5_fails, Cond.code yX5_fails cX5_fails 2 (some .int), Cond.methodLink RX5 108 yX5_names, Cond.instanceMethod yX5_names, Cond.selects RX5 yX5_names yX5_names, Cond.code yX5_names cX5_names 3 none, Cond.methodLink RX5 101 yX5_keys, Cond.instanceMethod yX5_keys, Cond.selects RX5 yX5_keys yX5_keys, Cond.code yX5_keys cX5_keys 5 none, Cond.fieldLink RX5 54 "CrashBucketsModel" "key" "[I"]
def wsX5_bucket_r2 : List Cond := [Cond.fieldLink RX5 22 "CrashBucketsModel" "ignored" "[Z", Cond.fieldLink RX5 29 "CrashBucketsModel" "depth" "I", Cond.methodLink RX5 94 yX5_frameOf, Cond.instanceMethod yX5_frameOf, Cond.selects RX5 yX5_frameOf yX5_frameOf, Cond.code yX5_frameOf cX5_frameOf 6 (some .int), Cond.fieldLink RX5 39 "CrashBucketsModel" "stack" "[I", Cond.fieldLink RX5 33 "CrashBucketsModel" "version" "[I", Cond.fieldLink RX5 7 "CrashBucketsModel" "ranges" "[I", Cond.fieldLink RX5 13 "CrashBucketsModel" "from" "[I", Cond.fieldLink RX5 16 "CrashBucketsModel" "to" "[I", Cond.fieldLink RX5 19 "CrashBucketsModel" "of" "[I", Cond.methodLink RX5 98 yX5_root, Cond.instanceMethod yX5_root, Cond.selects RX5 yX5_root yX5_root, Cond.code yX5_root cX5_root 3 (some .int), Cond.fieldLink RX5 26 "CrashBucketsModel" "stands" "[I", Cond.methodLink RX5 105 yX5_isSame, Cond.instanceMethod yX5_isSame, Cond.selects RX5 yX5_isSame yX5_isSame, Cond.code yX5_isSame cX5_isSame 5 (some .boolean)]
def wsX5_bucket : List Cond := .code yX5_bucket cX5_bucket 2 (some .int) :: ((wsX5_bucket_r1 ++ wsX5_bucket_r2) ++ wsX50)
def wsX5_buckets_r1 : List Cond := [Cond.fieldLink RX5 60 "CrashBucketsModel" "thrown" "I", Cond.fieldLink RX5 67 "CrashBucketsModel" "reports" "I", Cond.fieldLink RX5 51 "CrashBucketsModel" "name" "[I", Cond.methodLink RX5 108 yX5_names, Cond.instanceMethod yX5_names, Cond.selects RX5 yX5_names yX5_names, Cond.initialized RX5, Cond.code yX5_names cX5_names 3 none, Cond.methodLink RX5 101 yX5_keys, Cond.instanceMethod yX5_keys, Cond.selects RX5 yX5_keys yX5_keys, Cond.code yX5_keys cX5_keys 5 none, Cond.fieldLink RX5 54 "CrashBucketsModel" "key" "[I", Cond.fieldLink RX5 22 "CrashBucketsModel" "ignored" "[Z", Cond.fieldLink RX5 29 "CrashBucketsModel" "depth" "I", Cond.methodLink RX5 94 yX5_frameOf, Cond.instanceMethod yX5_frameOf, Cond.selects RX5 yX5_frameOf yX5_frameOf, Cond.code yX5_frameOf cX5_frameOf 6 (some .int), Cond.fieldLink RX5 39 "CrashBucketsModel" "stack" "[I", Cond.fieldLink RX5 33 "CrashBucketsModel" "version" "[I", Cond.fieldLink RX5 7 "CrashBucketsModel" "ranges" "[I", Cond.fieldLink RX5 13 "CrashBucketsModel" "from" "[I", Cond.fieldLink RX5 16 "CrashBucketsModel" "to" "[I"]
def wsX5_buckets_r2 : List Cond := [Cond.fieldLink RX5 19 "CrashBucketsModel" "of" "[I", Cond.methodLink RX5 98 yX5_root, Cond.instanceMethod yX5_root, Cond.selects RX5 yX5_root yX5_root, Cond.code yX5_root cX5_root 3 (some .int), Cond.fieldLink RX5 26 "CrashBucketsModel" "stands" "[I", Cond.methodLink RX5 105 yX5_isSame, Cond.instanceMethod yX5_isSame, Cond.selects RX5 yX5_isSame yX5_isSame, Cond.code yX5_isSame cX5_isSame 5 (some .boolean)]
def wsX5_buckets : List Cond := .code yX5_buckets cX5_buckets 3 (some .int) :: ((wsX5_buckets_r1 ++ wsX5_buckets_r2) ++ wsX50)
def wsX5_size_r1 : List Cond := [Cond.fieldLink RX5 60 "CrashBucketsModel" "thrown" "I", Cond.fieldLink RX5 67 "CrashBucketsModel" "reports" "I", Cond.fieldLink RX5 51 "CrashBucketsModel" "name" "[I", Cond.methodLink RX5 91 yX5_isReport, Cond.instanceMethod yX5_isReport, Cond.selects RX5 yX5_isReport yX5_isReport, Cond.initialized RX5, Cond.code yX5_isReport cX5_isReport 2 (some .boolean), Cond.methodLink RX5 63 yX5_in, Cond.static yX5_in, Cond.code yX5_in cX5_in 3 (some .boolean), Cond.methodLink RX5 80 yX5_fails, Cond.instanceMethod yX5_fails, Cond.selects RX5 yX5_fails yX5_fails, Cond.code yX5_fails cX5_fails 2 (some .int), Cond.methodLink RX5 108 yX5_names, Cond.instanceMethod yX5_names, Cond.selects RX5 yX5_names yX5_names, Cond.code yX5_names cX5_names 3 none, Cond.methodLink RX5 101 yX5_keys, Cond.instanceMethod yX5_keys, Cond.selects RX5 yX5_keys yX5_keys, Cond.code yX5_keys cX5_keys 5 none, Cond.fieldLink RX5 54 "CrashBucketsModel" "key" "[I"]
def wsX5_size_r2 : List Cond := [Cond.fieldLink RX5 22 "CrashBucketsModel" "ignored" "[Z", Cond.fieldLink RX5 29 "CrashBucketsModel" "depth" "I", Cond.methodLink RX5 94 yX5_frameOf, Cond.instanceMethod yX5_frameOf, Cond.selects RX5 yX5_frameOf yX5_frameOf, Cond.code yX5_frameOf cX5_frameOf 6 (some .int), Cond.fieldLink RX5 39 "CrashBucketsModel" "stack" "[I", Cond.fieldLink RX5 33 "CrashBucketsModel" "version" "[I", Cond.fieldLink RX5 7 "CrashBucketsModel" "ranges" "[I", Cond.fieldLink RX5 13 "CrashBucketsModel" "from" "[I", Cond.fieldLink RX5 16 "CrashBucketsModel" "to" "[I", Cond.fieldLink RX5 19 "CrashBucketsModel" "of" "[I", Cond.methodLink RX5 98 yX5_root, Cond.instanceMethod yX5_root, Cond.selects RX5 yX5_root yX5_root, Cond.code yX5_root cX5_root 3 (some .int), Cond.fieldLink RX5 26 "CrashBucketsModel" "stands" "[I", Cond.methodLink RX5 105 yX5_isSame, Cond.instanceMethod yX5_isSame, Cond.selects RX5 yX5_isSame yX5_isSame, Cond.code yX5_isSame cX5_isSame 5 (some .boolean)]
def wsX5_size : List Cond := .code yX5_size cX5_size 4 (some .int) :: ((wsX5_size_r1 ++ wsX5_size_r2) ++ wsX50)
def wsX5_setSessions : List Cond := .code yX5_setSessions cX5_setSessions 4 (some .int) :: ([.fieldLink RX5 60 "CrashBucketsModel" "thrown" "I", .constant RX5 111 (1000000), .fieldLink RX5 45 "CrashBucketsModel" "sessions" "[I", .methodLink RX5 70 yX5_isVersion, .static yX5_isVersion, .initialized RX5, .code yX5_isVersion cX5_isVersion 1 (some .boolean), .methodLink RX5 63 yX5_in, .static yX5_in, .code yX5_in cX5_in 3 (some .boolean), .methodLink RX5 80 yX5_fails, .instanceMethod yX5_fails, .selects RX5 yX5_fails yX5_fails, .code yX5_fails cX5_fails 2 (some .int)] ++ wsX50)
def wsX5_setLimit : List Cond := .code yX5_setLimit cX5_setLimit 3 (some .int) :: ([.fieldLink RX5 60 "CrashBucketsModel" "thrown" "I", .fieldLink RX5 48 "CrashBucketsModel" "limit" "I", .methodLink RX5 63 yX5_in, .static yX5_in, .initialized RX5, .code yX5_in cX5_in 3 (some .boolean), .methodLink RX5 80 yX5_fails, .instanceMethod yX5_fails, .selects RX5 yX5_fails yX5_fails, .code yX5_fails cX5_fails 2 (some .int)] ++ wsX50)
def wsX5_rateOf : List Cond := .code yX5_rateOf cX5_rateOf 5 (some .int) :: ([.fieldLink RX5 67 "CrashBucketsModel" "reports" "I", .fieldLink RX5 51 "CrashBucketsModel" "name" "[I", .fieldLink RX5 33 "CrashBucketsModel" "version" "[I", .fieldLink RX5 45 "CrashBucketsModel" "sessions" "[I"] ++ wsX50)
def wsX5_usersOf : List Cond := .code yX5_usersOf cX5_usersOf 6 (some .int) :: ([.fieldLink RX5 57 "CrashBucketsModel" "seen" "[Z", .fieldLink RX5 67 "CrashBucketsModel" "reports" "I", .fieldLink RX5 51 "CrashBucketsModel" "name" "[I", .fieldLink RX5 33 "CrashBucketsModel" "version" "[I", .fieldLink RX5 36 "CrashBucketsModel" "user" "[I"] ++ wsX50)
def wsX5_rate_r1 : List Cond := [Cond.fieldLink RX5 60 "CrashBucketsModel" "thrown" "I", Cond.fieldLink RX5 51 "CrashBucketsModel" "name" "[I", Cond.methodLink RX5 91 yX5_isReport, Cond.instanceMethod yX5_isReport, Cond.selects RX5 yX5_isReport yX5_isReport, Cond.initialized RX5, Cond.code yX5_isReport cX5_isReport 2 (some .boolean), Cond.fieldLink RX5 67 "CrashBucketsModel" "reports" "I", Cond.methodLink RX5 63 yX5_in, Cond.static yX5_in, Cond.code yX5_in cX5_in 3 (some .boolean), Cond.methodLink RX5 80 yX5_fails, Cond.instanceMethod yX5_fails, Cond.selects RX5 yX5_fails yX5_fails, Cond.code yX5_fails cX5_fails 2 (some .int), Cond.methodLink RX5 70 yX5_isVersion, Cond.static yX5_isVersion, Cond.code yX5_isVersion cX5_isVersion 1 (some .boolean), Cond.methodLink RX5 108 yX5_names, Cond.instanceMethod yX5_names, Cond.selects RX5 yX5_names yX5_names, Cond.code yX5_names cX5_names 3 none, Cond.methodLink RX5 101 yX5_keys, Cond.instanceMethod yX5_keys]
def wsX5_rate_r2 : List Cond := [Cond.selects RX5 yX5_keys yX5_keys, Cond.code yX5_keys cX5_keys 5 none, Cond.fieldLink RX5 54 "CrashBucketsModel" "key" "[I", Cond.fieldLink RX5 22 "CrashBucketsModel" "ignored" "[Z", Cond.fieldLink RX5 29 "CrashBucketsModel" "depth" "I", Cond.methodLink RX5 94 yX5_frameOf, Cond.instanceMethod yX5_frameOf, Cond.selects RX5 yX5_frameOf yX5_frameOf, Cond.code yX5_frameOf cX5_frameOf 6 (some .int), Cond.fieldLink RX5 39 "CrashBucketsModel" "stack" "[I", Cond.fieldLink RX5 33 "CrashBucketsModel" "version" "[I", Cond.fieldLink RX5 7 "CrashBucketsModel" "ranges" "[I", Cond.fieldLink RX5 13 "CrashBucketsModel" "from" "[I", Cond.fieldLink RX5 16 "CrashBucketsModel" "to" "[I", Cond.fieldLink RX5 19 "CrashBucketsModel" "of" "[I", Cond.methodLink RX5 98 yX5_root, Cond.instanceMethod yX5_root, Cond.selects RX5 yX5_root yX5_root, Cond.code yX5_root cX5_root 3 (some .int), Cond.fieldLink RX5 26 "CrashBucketsModel" "stands" "[I", Cond.methodLink RX5 105 yX5_isSame, Cond.instanceMethod yX5_isSame, Cond.selects RX5 yX5_isSame yX5_isSame, Cond.code yX5_isSame cX5_isSame 5 (some .boolean)]
def wsX5_rate_r3 : List Cond := [Cond.methodLink RX5 112 yX5_rateOf, Cond.instanceMethod yX5_rateOf, Cond.selects RX5 yX5_rateOf yX5_rateOf, Cond.code yX5_rateOf cX5_rateOf 5 (some .int), Cond.fieldLink RX5 45 "CrashBucketsModel" "sessions" "[I"]
def wsX5_rate : List Cond := .code yX5_rate cX5_rate 3 (some .int) :: ((wsX5_rate_r1 ++ (wsX5_rate_r2 ++ wsX5_rate_r3)) ++ wsX50)
def wsX5_users_r1 : List Cond := [Cond.fieldLink RX5 60 "CrashBucketsModel" "thrown" "I", Cond.fieldLink RX5 51 "CrashBucketsModel" "name" "[I", Cond.methodLink RX5 91 yX5_isReport, Cond.instanceMethod yX5_isReport, Cond.selects RX5 yX5_isReport yX5_isReport, Cond.initialized RX5, Cond.code yX5_isReport cX5_isReport 2 (some .boolean), Cond.fieldLink RX5 67 "CrashBucketsModel" "reports" "I", Cond.methodLink RX5 63 yX5_in, Cond.static yX5_in, Cond.code yX5_in cX5_in 3 (some .boolean), Cond.methodLink RX5 80 yX5_fails, Cond.instanceMethod yX5_fails, Cond.selects RX5 yX5_fails yX5_fails, Cond.code yX5_fails cX5_fails 2 (some .int), Cond.methodLink RX5 70 yX5_isVersion, Cond.static yX5_isVersion, Cond.code yX5_isVersion cX5_isVersion 1 (some .boolean), Cond.methodLink RX5 108 yX5_names, Cond.instanceMethod yX5_names, Cond.selects RX5 yX5_names yX5_names, Cond.code yX5_names cX5_names 3 none, Cond.methodLink RX5 101 yX5_keys, Cond.instanceMethod yX5_keys]
def wsX5_users_r2 : List Cond := [Cond.selects RX5 yX5_keys yX5_keys, Cond.code yX5_keys cX5_keys 5 none, Cond.fieldLink RX5 54 "CrashBucketsModel" "key" "[I", Cond.fieldLink RX5 22 "CrashBucketsModel" "ignored" "[Z", Cond.fieldLink RX5 29 "CrashBucketsModel" "depth" "I", Cond.methodLink RX5 94 yX5_frameOf, Cond.instanceMethod yX5_frameOf, Cond.selects RX5 yX5_frameOf yX5_frameOf, Cond.code yX5_frameOf cX5_frameOf 6 (some .int), Cond.fieldLink RX5 39 "CrashBucketsModel" "stack" "[I", Cond.fieldLink RX5 33 "CrashBucketsModel" "version" "[I", Cond.fieldLink RX5 7 "CrashBucketsModel" "ranges" "[I", Cond.fieldLink RX5 13 "CrashBucketsModel" "from" "[I", Cond.fieldLink RX5 16 "CrashBucketsModel" "to" "[I", Cond.fieldLink RX5 19 "CrashBucketsModel" "of" "[I", Cond.methodLink RX5 98 yX5_root, Cond.instanceMethod yX5_root, Cond.selects RX5 yX5_root yX5_root, Cond.code yX5_root cX5_root 3 (some .int), Cond.fieldLink RX5 26 "CrashBucketsModel" "stands" "[I", Cond.methodLink RX5 105 yX5_isSame, Cond.instanceMethod yX5_isSame, Cond.selects RX5 yX5_isSame yX5_isSame, Cond.code yX5_isSame cX5_isSame 5 (some .boolean)]
def wsX5_users_r3 : List Cond := [Cond.methodLink RX5 115 yX5_usersOf, Cond.instanceMethod yX5_usersOf, Cond.selects RX5 yX5_usersOf yX5_usersOf, Cond.code yX5_usersOf cX5_usersOf 6 (some .int), Cond.fieldLink RX5 57 "CrashBucketsModel" "seen" "[Z", Cond.fieldLink RX5 36 "CrashBucketsModel" "user" "[I"]
def wsX5_users : List Cond := .code yX5_users cX5_users 3 (some .int) :: ((wsX5_users_r1 ++ (wsX5_users_r2 ++ wsX5_users_r3)) ++ wsX50)
def wsX5_gate_r1 : List Cond := [Cond.fieldLink RX5 60 "CrashBucketsModel" "thrown" "I", Cond.fieldLink RX5 45 "CrashBucketsModel" "sessions" "[I", Cond.fieldLink RX5 67 "CrashBucketsModel" "reports" "I", Cond.fieldLink RX5 51 "CrashBucketsModel" "name" "[I", Cond.fieldLink RX5 48 "CrashBucketsModel" "limit" "I", Cond.methodLink RX5 70 yX5_isVersion, Cond.static yX5_isVersion, Cond.initialized RX5, Cond.code yX5_isVersion cX5_isVersion 1 (some .boolean), Cond.methodLink RX5 63 yX5_in, Cond.static yX5_in, Cond.code yX5_in cX5_in 3 (some .boolean), Cond.methodLink RX5 80 yX5_fails, Cond.instanceMethod yX5_fails, Cond.selects RX5 yX5_fails yX5_fails, Cond.code yX5_fails cX5_fails 2 (some .int), Cond.methodLink RX5 108 yX5_names, Cond.instanceMethod yX5_names, Cond.selects RX5 yX5_names yX5_names, Cond.code yX5_names cX5_names 3 none, Cond.methodLink RX5 101 yX5_keys, Cond.instanceMethod yX5_keys, Cond.selects RX5 yX5_keys yX5_keys, Cond.code yX5_keys cX5_keys 5 none]
def wsX5_gate_r2 : List Cond := [Cond.fieldLink RX5 54 "CrashBucketsModel" "key" "[I", Cond.fieldLink RX5 22 "CrashBucketsModel" "ignored" "[Z", Cond.fieldLink RX5 29 "CrashBucketsModel" "depth" "I", Cond.methodLink RX5 94 yX5_frameOf, Cond.instanceMethod yX5_frameOf, Cond.selects RX5 yX5_frameOf yX5_frameOf, Cond.code yX5_frameOf cX5_frameOf 6 (some .int), Cond.fieldLink RX5 39 "CrashBucketsModel" "stack" "[I", Cond.fieldLink RX5 33 "CrashBucketsModel" "version" "[I", Cond.fieldLink RX5 7 "CrashBucketsModel" "ranges" "[I", Cond.fieldLink RX5 13 "CrashBucketsModel" "from" "[I", Cond.fieldLink RX5 16 "CrashBucketsModel" "to" "[I", Cond.fieldLink RX5 19 "CrashBucketsModel" "of" "[I", Cond.methodLink RX5 98 yX5_root, Cond.instanceMethod yX5_root, Cond.selects RX5 yX5_root yX5_root, Cond.code yX5_root cX5_root 3 (some .int), Cond.fieldLink RX5 26 "CrashBucketsModel" "stands" "[I", Cond.methodLink RX5 105 yX5_isSame, Cond.instanceMethod yX5_isSame, Cond.selects RX5 yX5_isSame yX5_isSame, Cond.code yX5_isSame cX5_isSame 5 (some .boolean), Cond.methodLink RX5 112 yX5_rateOf, Cond.instanceMethod yX5_rateOf]
def wsX5_gate_r3 : List Cond := [Cond.selects RX5 yX5_rateOf yX5_rateOf, Cond.code yX5_rateOf cX5_rateOf 5 (some .int), Cond.methodLink RX5 115 yX5_usersOf, Cond.instanceMethod yX5_usersOf, Cond.selects RX5 yX5_usersOf yX5_usersOf, Cond.code yX5_usersOf cX5_usersOf 6 (some .int), Cond.fieldLink RX5 57 "CrashBucketsModel" "seen" "[Z", Cond.fieldLink RX5 36 "CrashBucketsModel" "user" "[I"]
def wsX5_gate : List Cond := .code yX5_gate cX5_gate 6 (some .int) :: ((wsX5_gate_r1 ++ (wsX5_gate_r2 ++ wsX5_gate_r3)) ++ wsX50)
def wsX5_worst_r1 : List Cond := [Cond.fieldLink RX5 60 "CrashBucketsModel" "thrown" "I", Cond.fieldLink RX5 67 "CrashBucketsModel" "reports" "I", Cond.fieldLink RX5 51 "CrashBucketsModel" "name" "[I", Cond.methodLink RX5 70 yX5_isVersion, Cond.static yX5_isVersion, Cond.initialized RX5, Cond.code yX5_isVersion cX5_isVersion 1 (some .boolean), Cond.methodLink RX5 63 yX5_in, Cond.static yX5_in, Cond.code yX5_in cX5_in 3 (some .boolean), Cond.methodLink RX5 80 yX5_fails, Cond.instanceMethod yX5_fails, Cond.selects RX5 yX5_fails yX5_fails, Cond.code yX5_fails cX5_fails 2 (some .int), Cond.methodLink RX5 108 yX5_names, Cond.instanceMethod yX5_names, Cond.selects RX5 yX5_names yX5_names, Cond.code yX5_names cX5_names 3 none, Cond.methodLink RX5 101 yX5_keys, Cond.instanceMethod yX5_keys, Cond.selects RX5 yX5_keys yX5_keys, Cond.code yX5_keys cX5_keys 5 none, Cond.fieldLink RX5 54 "CrashBucketsModel" "key" "[I", Cond.fieldLink RX5 22 "CrashBucketsModel" "ignored" "[Z"]
def wsX5_worst_r2 : List Cond := [Cond.fieldLink RX5 29 "CrashBucketsModel" "depth" "I", Cond.methodLink RX5 94 yX5_frameOf, Cond.instanceMethod yX5_frameOf, Cond.selects RX5 yX5_frameOf yX5_frameOf, Cond.code yX5_frameOf cX5_frameOf 6 (some .int), Cond.fieldLink RX5 39 "CrashBucketsModel" "stack" "[I", Cond.fieldLink RX5 33 "CrashBucketsModel" "version" "[I", Cond.fieldLink RX5 7 "CrashBucketsModel" "ranges" "[I", Cond.fieldLink RX5 13 "CrashBucketsModel" "from" "[I", Cond.fieldLink RX5 16 "CrashBucketsModel" "to" "[I", Cond.fieldLink RX5 19 "CrashBucketsModel" "of" "[I", Cond.methodLink RX5 98 yX5_root, Cond.instanceMethod yX5_root, Cond.selects RX5 yX5_root yX5_root, Cond.code yX5_root cX5_root 3 (some .int), Cond.fieldLink RX5 26 "CrashBucketsModel" "stands" "[I", Cond.methodLink RX5 105 yX5_isSame, Cond.instanceMethod yX5_isSame, Cond.selects RX5 yX5_isSame yX5_isSame, Cond.code yX5_isSame cX5_isSame 5 (some .boolean), Cond.methodLink RX5 112 yX5_rateOf, Cond.instanceMethod yX5_rateOf, Cond.selects RX5 yX5_rateOf yX5_rateOf, Cond.code yX5_rateOf cX5_rateOf 5 (some .int)]
def wsX5_worst_r3 : List Cond := [Cond.fieldLink RX5 45 "CrashBucketsModel" "sessions" "[I"]
def wsX5_worst : List Cond := .code yX5_worst cX5_worst 6 (some .int) :: ((wsX5_worst_r1 ++ (wsX5_worst_r2 ++ wsX5_worst_r3)) ++ wsX50)
def wsX5_fix : List Cond := .code yX5_fix cX5_fix 4 (some .int) :: ([.fieldLink RX5 60 "CrashBucketsModel" "thrown" "I", .fieldLink RX5 42 "CrashBucketsModel" "fixed" "[I", .methodLink RX5 91 yX5_isReport, .instanceMethod yX5_isReport, .selects RX5 yX5_isReport yX5_isReport, .initialized RX5, .code yX5_isReport cX5_isReport 2 (some .boolean), .fieldLink RX5 67 "CrashBucketsModel" "reports" "I", .methodLink RX5 63 yX5_in, .static yX5_in, .code yX5_in cX5_in 3 (some .boolean), .methodLink RX5 80 yX5_fails, .instanceMethod yX5_fails, .selects RX5 yX5_fails yX5_fails, .code yX5_fails cX5_fails 2 (some .int)] ++ wsX50)
def wsX5_holds_r1 : List Cond := [Cond.fieldLink RX5 42 "CrashBucketsModel" "fixed" "[I", Cond.fieldLink RX5 60 "CrashBucketsModel" "thrown" "I", Cond.fieldLink RX5 51 "CrashBucketsModel" "name" "[I", Cond.fieldLink RX5 45 "CrashBucketsModel" "sessions" "[I", Cond.methodLink RX5 91 yX5_isReport, Cond.instanceMethod yX5_isReport, Cond.selects RX5 yX5_isReport yX5_isReport, Cond.initialized RX5, Cond.code yX5_isReport cX5_isReport 2 (some .boolean), Cond.fieldLink RX5 67 "CrashBucketsModel" "reports" "I", Cond.methodLink RX5 63 yX5_in, Cond.static yX5_in, Cond.code yX5_in cX5_in 3 (some .boolean), Cond.methodLink RX5 108 yX5_names, Cond.instanceMethod yX5_names, Cond.selects RX5 yX5_names yX5_names, Cond.code yX5_names cX5_names 3 none, Cond.methodLink RX5 101 yX5_keys, Cond.instanceMethod yX5_keys, Cond.selects RX5 yX5_keys yX5_keys, Cond.code yX5_keys cX5_keys 5 none, Cond.fieldLink RX5 54 "CrashBucketsModel" "key" "[I", Cond.fieldLink RX5 22 "CrashBucketsModel" "ignored" "[Z", Cond.fieldLink RX5 29 "CrashBucketsModel" "depth" "I"]
def wsX5_holds_r2 : List Cond := [Cond.methodLink RX5 94 yX5_frameOf, Cond.instanceMethod yX5_frameOf, Cond.selects RX5 yX5_frameOf yX5_frameOf, Cond.code yX5_frameOf cX5_frameOf 6 (some .int), Cond.fieldLink RX5 39 "CrashBucketsModel" "stack" "[I", Cond.fieldLink RX5 33 "CrashBucketsModel" "version" "[I", Cond.fieldLink RX5 7 "CrashBucketsModel" "ranges" "[I", Cond.fieldLink RX5 13 "CrashBucketsModel" "from" "[I", Cond.fieldLink RX5 16 "CrashBucketsModel" "to" "[I", Cond.fieldLink RX5 19 "CrashBucketsModel" "of" "[I", Cond.methodLink RX5 98 yX5_root, Cond.instanceMethod yX5_root, Cond.selects RX5 yX5_root yX5_root, Cond.code yX5_root cX5_root 3 (some .int), Cond.fieldLink RX5 26 "CrashBucketsModel" "stands" "[I", Cond.methodLink RX5 105 yX5_isSame, Cond.instanceMethod yX5_isSame, Cond.selects RX5 yX5_isSame yX5_isSame, Cond.code yX5_isSame cX5_isSame 5 (some .boolean), Cond.methodLink RX5 112 yX5_rateOf, Cond.instanceMethod yX5_rateOf, Cond.selects RX5 yX5_rateOf yX5_rateOf, Cond.code yX5_rateOf cX5_rateOf 5 (some .int)]
def wsX5_holds : List Cond := .code yX5_holds cX5_holds 6 (some .boolean) :: ((wsX5_holds_r1 ++ wsX5_holds_r2) ++ wsX50)
def wsJ9_max_7cf53 : List Cond := .code yJ9_max_7cf53 cJ9_max_7cf53 2 (some .int) :: ([])
def wsL_addRange_r1 : List Cond := [Cond.classLink RL 13 "java/lang/IllegalArgumentException", Cond.classLink RL 15 "java/lang/IllegalStateException", Cond.methodLink RL 7 yX4_addRange, Cond.instanceMethod yX4_addRange, Cond.selects RX4 yX4_addRange yX4_addRange, Cond.initialized RX4, Cond.code yX4_addRange cX4_addRange 5 (some .int), Cond.classLink RX4 57 "java/lang/IllegalStateException", Cond.initialized "java/lang/IllegalStateException", Cond.fieldLink RX4 10 "CrashBuckets" "maps" "LCrashBuckets$AddressMaps;", Cond.fieldLink RX4 33 "CrashBuckets" "sorted" "LCrashBuckets$Buckets;", Cond.fieldLink RX4 26 "CrashBuckets" "told" "LCrashBuckets$Reports;", Cond.fieldLink RX4 19 "CrashBuckets" "rules" "LCrashBuckets$Rules;", Cond.methodLink RX4 45 yX4_isBelow, Cond.static yX4_isBelow, Cond.code yX4_isBelow cX4_isBelow 2 (some .boolean), Cond.methodLink RX4 49 yX4_checkArgument, Cond.static yX4_checkArgument, Cond.code yX4_checkArgument cX4_checkArgument 1 none, Cond.classLink RX4 157 "java/lang/IllegalArgumentException", Cond.initialized "java/lang/IllegalArgumentException", Cond.instanceMethod yX0_isFull, Cond.initialized RX0, Cond.selects RX0 yX0_isFull yX0_isFull]
def wsL_addRange_r2 : List Cond := [Cond.code yX0_isFull cX0_isFull 2 (some .boolean), Cond.fieldLink RX0 9 "CrashBuckets$AddressMaps" "counts" "[I", Cond.instanceMethod yX0_overlaps, Cond.selects RX0 yX0_overlaps yX0_overlaps, Cond.code yX0_overlaps cX0_overlaps 5 (some .boolean), Cond.fieldLink RX0 17 "CrashBuckets$AddressMaps" "froms" "[[I", Cond.fieldLink RX0 20 "CrashBuckets$AddressMaps" "tos" "[[I", Cond.instanceMethod yX0_add, Cond.selects RX0 yX0_add yX0_add, Cond.code yX0_add cX0_add 6 none, Cond.fieldLink RX0 23 "CrashBuckets$AddressMaps" "functions" "[[I", Cond.instanceMethod yX1_readStacksOf, Cond.initialized RX1, Cond.selects RX1 yX1_readStacksOf yX1_readStacksOf, Cond.code yX1_readStacksOf cX1_readStacksOf 5 none, Cond.methodLink RX1 35 yX1_readStack, Cond.instanceMethod yX1_readStack, Cond.selects RX1 yX1_readStack yX1_readStack, Cond.code yX1_readStack cX1_readStack 5 none, Cond.fieldLink RX1 11 "CrashBuckets$Buckets" "frames" "[[I", Cond.instanceMethod yX0_functionAt, Cond.selects RX0 yX0_functionAt yX0_functionAt, Cond.code yX0_functionAt cX0_functionAt 4 (some .int), Cond.instanceMethod yX1_sortAll]
def wsL_addRange_r3 : List Cond := [Cond.selects RX1 yX1_sortAll yX1_sortAll, Cond.code yX1_sortAll cX1_sortAll 4 none, Cond.methodLink RX1 48 yX1_sort, Cond.instanceMethod yX1_sort, Cond.selects RX1 yX1_sort yX1_sort, Cond.code yX1_sort cX1_sort 5 none, Cond.fieldLink RX1 19 "CrashBuckets$Buckets" "signatures" "[I", Cond.fieldLink RX1 23 "CrashBuckets$Buckets" "names" "[I", Cond.methodLink RX1 52 yX1_pickMattering, Cond.instanceMethod yX1_pickMattering, Cond.selects RX1 yX1_pickMattering yX1_pickMattering, Cond.code yX1_pickMattering cX1_pickMattering 6 none, Cond.fieldLink RX1 16 "CrashBuckets$Buckets" "mattering" "[[I", Cond.instanceMethod yX3_inTheEnd, Cond.initialized RX3, Cond.selects RX3 yX3_inTheEnd yX3_inTheEnd, Cond.code yX3_inTheEnd cX3_inTheEnd 4 (some .int), Cond.fieldLink RX3 15 "CrashBuckets$Rules" "standsFor" "[I", Cond.methodLink RX1 56 yX1_signatureOf, Cond.instanceMethod yX1_signatureOf, Cond.selects RX1 yX1_signatureOf yX1_signatureOf, Cond.code yX1_signatureOf cX1_signatureOf 5 (some .int)]
def wsL_addRange : List Cond := .codeWith yL_addRange cL_addRange 7 (some .int) [(0, 14, 17, 13), (0, 14, 21, 15)] :: ((wsL_addRange_r1 ++ (wsL_addRange_r2 ++ wsL_addRange_r3)) ++ wsX40 ++ wsX00 ++ wsX20 ++ wsX10 ++ wsX30 ++ (vx_atS RX4 61 "java/lang/IllegalStateException" ["java/lang/RuntimeException", "java/lang/Exception"]).filter goodWord ++ (vx_atS RX4 161 "java/lang/IllegalArgumentException" ["java/lang/RuntimeException", "java/lang/Exception"]).filter goodWord)
def wsL_ignore_r1 : List Cond := [Cond.classLink RL 13 "java/lang/IllegalArgumentException", Cond.methodLink RL 17 yX4_ignore, Cond.instanceMethod yX4_ignore, Cond.selects RX4 yX4_ignore yX4_ignore, Cond.initialized RX4, Cond.code yX4_ignore cX4_ignore 4 (some .boolean), Cond.fieldLink RX4 19 "CrashBuckets" "rules" "LCrashBuckets$Rules;", Cond.fieldLink RX4 33 "CrashBuckets" "sorted" "LCrashBuckets$Buckets;", Cond.fieldLink RX4 26 "CrashBuckets" "told" "LCrashBuckets$Reports;", Cond.methodLink RX4 45 yX4_isBelow, Cond.static yX4_isBelow, Cond.code yX4_isBelow cX4_isBelow 2 (some .boolean), Cond.methodLink RX4 49 yX4_checkArgument, Cond.static yX4_checkArgument, Cond.code yX4_checkArgument cX4_checkArgument 1 none, Cond.classLink RX4 157 "java/lang/IllegalArgumentException", Cond.initialized "java/lang/IllegalArgumentException", Cond.instanceMethod yX1_sortAll, Cond.initialized RX1, Cond.selects RX1 yX1_sortAll yX1_sortAll, Cond.code yX1_sortAll cX1_sortAll 4 none, Cond.methodLink RX1 48 yX1_sort, Cond.instanceMethod yX1_sort, Cond.selects RX1 yX1_sort yX1_sort]
def wsL_ignore_r2 : List Cond := [Cond.code yX1_sort cX1_sort 5 none, Cond.fieldLink RX1 19 "CrashBuckets$Buckets" "signatures" "[I", Cond.fieldLink RX1 23 "CrashBuckets$Buckets" "names" "[I", Cond.methodLink RX1 52 yX1_pickMattering, Cond.instanceMethod yX1_pickMattering, Cond.selects RX1 yX1_pickMattering yX1_pickMattering, Cond.code yX1_pickMattering cX1_pickMattering 6 none, Cond.fieldLink RX1 11 "CrashBuckets$Buckets" "frames" "[[I", Cond.fieldLink RX1 16 "CrashBuckets$Buckets" "mattering" "[[I", Cond.instanceMethod yX3_inTheEnd, Cond.initialized RX3, Cond.selects RX3 yX3_inTheEnd yX3_inTheEnd, Cond.code yX3_inTheEnd cX3_inTheEnd 4 (some .int), Cond.fieldLink RX3 15 "CrashBuckets$Rules" "standsFor" "[I", Cond.methodLink RX1 56 yX1_signatureOf, Cond.instanceMethod yX1_signatureOf, Cond.selects RX1 yX1_signatureOf yX1_signatureOf, Cond.code yX1_signatureOf cX1_signatureOf 5 (some .int)]
def wsL_ignore : List Cond := .codeWith yL_ignore cL_ignore 5 (some .int) [(0, 17, 20, 13)] :: ((wsL_ignore_r1 ++ wsL_ignore_r2) ++ wsX40 ++ wsX30 ++ wsX20 ++ wsX10 ++ (vx_atS RX4 161 "java/lang/IllegalArgumentException" ["java/lang/RuntimeException", "java/lang/Exception"]).filter goodWord)
def wsL_standFor_r1 : List Cond := [Cond.classLink RL 13 "java/lang/IllegalArgumentException", Cond.classLink RL 15 "java/lang/IllegalStateException", Cond.methodLink RL 21 yX4_standFor, Cond.instanceMethod yX4_standFor, Cond.selects RX4 yX4_standFor yX4_standFor, Cond.initialized RX4, Cond.code yX4_standFor cX4_standFor 4 (some .int), Cond.classLink RX4 57 "java/lang/IllegalStateException", Cond.initialized "java/lang/IllegalStateException", Cond.fieldLink RX4 19 "CrashBuckets" "rules" "LCrashBuckets$Rules;", Cond.fieldLink RX4 33 "CrashBuckets" "sorted" "LCrashBuckets$Buckets;", Cond.fieldLink RX4 26 "CrashBuckets" "told" "LCrashBuckets$Reports;", Cond.methodLink RX4 45 yX4_isBelow, Cond.static yX4_isBelow, Cond.code yX4_isBelow cX4_isBelow 2 (some .boolean), Cond.methodLink RX4 49 yX4_checkArgument, Cond.static yX4_checkArgument, Cond.code yX4_checkArgument cX4_checkArgument 1 none, Cond.classLink RX4 157 "java/lang/IllegalArgumentException", Cond.initialized "java/lang/IllegalArgumentException", Cond.instanceMethod yX3_leadsTo, Cond.initialized RX3, Cond.selects RX3 yX3_leadsTo yX3_leadsTo, Cond.code yX3_leadsTo cX3_leadsTo 5 (some .boolean)]
def wsL_standFor_r2 : List Cond := [Cond.fieldLink RX3 15 "CrashBuckets$Rules" "standsFor" "[I", Cond.instanceMethod yX1_sortAll, Cond.initialized RX1, Cond.selects RX1 yX1_sortAll yX1_sortAll, Cond.code yX1_sortAll cX1_sortAll 4 none, Cond.methodLink RX1 48 yX1_sort, Cond.instanceMethod yX1_sort, Cond.selects RX1 yX1_sort yX1_sort, Cond.code yX1_sort cX1_sort 5 none, Cond.fieldLink RX1 19 "CrashBuckets$Buckets" "signatures" "[I", Cond.fieldLink RX1 23 "CrashBuckets$Buckets" "names" "[I", Cond.methodLink RX1 52 yX1_pickMattering, Cond.instanceMethod yX1_pickMattering, Cond.selects RX1 yX1_pickMattering yX1_pickMattering, Cond.code yX1_pickMattering cX1_pickMattering 6 none, Cond.fieldLink RX1 11 "CrashBuckets$Buckets" "frames" "[[I", Cond.fieldLink RX1 16 "CrashBuckets$Buckets" "mattering" "[[I", Cond.instanceMethod yX3_inTheEnd, Cond.selects RX3 yX3_inTheEnd yX3_inTheEnd, Cond.code yX3_inTheEnd cX3_inTheEnd 4 (some .int), Cond.methodLink RX1 56 yX1_signatureOf, Cond.instanceMethod yX1_signatureOf, Cond.selects RX1 yX1_signatureOf yX1_signatureOf, Cond.code yX1_signatureOf cX1_signatureOf 5 (some .int)]
def wsL_standFor : List Cond := .codeWith yL_standFor cL_standFor 5 (some .int) [(0, 10, 13, 13), (0, 10, 17, 15)] :: ((wsL_standFor_r1 ++ wsL_standFor_r2) ++ wsX40 ++ wsX30 ++ wsX20 ++ wsX10 ++ (vx_atS RX4 61 "java/lang/IllegalStateException" ["java/lang/RuntimeException", "java/lang/Exception"]).filter goodWord ++ (vx_atS RX4 161 "java/lang/IllegalArgumentException" ["java/lang/RuntimeException", "java/lang/Exception"]).filter goodWord)
def wsL_setDepth_r1 : List Cond := [Cond.classLink RL 13 "java/lang/IllegalArgumentException", Cond.methodLink RL 25 yX4_setDepth, Cond.instanceMethod yX4_setDepth, Cond.selects RX4 yX4_setDepth yX4_setDepth, Cond.initialized RX4, Cond.code yX4_setDepth cX4_setDepth 3 (some .int), Cond.fieldLink RX4 19 "CrashBuckets" "rules" "LCrashBuckets$Rules;", Cond.fieldLink RX4 33 "CrashBuckets" "sorted" "LCrashBuckets$Buckets;", Cond.fieldLink RX4 26 "CrashBuckets" "told" "LCrashBuckets$Reports;", Cond.methodLink RX4 49 yX4_checkArgument, Cond.static yX4_checkArgument, Cond.code yX4_checkArgument cX4_checkArgument 1 none, Cond.classLink RX4 157 "java/lang/IllegalArgumentException", Cond.initialized "java/lang/IllegalArgumentException", Cond.instanceMethod yX1_sortAll, Cond.initialized RX1, Cond.selects RX1 yX1_sortAll yX1_sortAll, Cond.code yX1_sortAll cX1_sortAll 4 none, Cond.methodLink RX1 48 yX1_sort, Cond.instanceMethod yX1_sort, Cond.selects RX1 yX1_sort yX1_sort, Cond.code yX1_sort cX1_sort 5 none, Cond.fieldLink RX1 19 "CrashBuckets$Buckets" "signatures" "[I", Cond.fieldLink RX1 23 "CrashBuckets$Buckets" "names" "[I"]
def wsL_setDepth_r2 : List Cond := [Cond.methodLink RX1 52 yX1_pickMattering, Cond.instanceMethod yX1_pickMattering, Cond.selects RX1 yX1_pickMattering yX1_pickMattering, Cond.code yX1_pickMattering cX1_pickMattering 6 none, Cond.fieldLink RX1 11 "CrashBuckets$Buckets" "frames" "[[I", Cond.fieldLink RX1 16 "CrashBuckets$Buckets" "mattering" "[[I", Cond.instanceMethod yX3_inTheEnd, Cond.initialized RX3, Cond.selects RX3 yX3_inTheEnd yX3_inTheEnd, Cond.code yX3_inTheEnd cX3_inTheEnd 4 (some .int), Cond.fieldLink RX3 15 "CrashBuckets$Rules" "standsFor" "[I", Cond.methodLink RX1 56 yX1_signatureOf, Cond.instanceMethod yX1_signatureOf, Cond.selects RX1 yX1_signatureOf yX1_signatureOf, Cond.code yX1_signatureOf cX1_signatureOf 5 (some .int)]
def wsL_setDepth : List Cond := .codeWith yL_setDepth cL_setDepth 4 (some .int) [(0, 9, 12, 13)] :: ((wsL_setDepth_r1 ++ wsL_setDepth_r2) ++ wsX40 ++ wsX30 ++ wsX20 ++ wsX10 ++ (vx_atS RX4 161 "java/lang/IllegalArgumentException" ["java/lang/RuntimeException", "java/lang/Exception"]).filter goodWord)
def wsL_report_r1 : List Cond := [Cond.classLink RL 13 "java/lang/IllegalArgumentException", Cond.classLink RL 15 "java/lang/IllegalStateException", Cond.methodLink RL 29 yX4_report, Cond.instanceMethod yX4_report, Cond.selects RX4 yX4_report yX4_report, Cond.initialized RX4, Cond.code yX4_report cX4_report 8 (some .int), Cond.classLink RX4 57 "java/lang/IllegalStateException", Cond.initialized "java/lang/IllegalStateException", Cond.fieldLink RX4 26 "CrashBuckets" "told" "LCrashBuckets$Reports;", Cond.fieldLink RX4 33 "CrashBuckets" "sorted" "LCrashBuckets$Buckets;", Cond.fieldLink RX4 10 "CrashBuckets" "maps" "LCrashBuckets$AddressMaps;", Cond.fieldLink RX4 19 "CrashBuckets" "rules" "LCrashBuckets$Rules;", Cond.methodLink RX4 45 yX4_isBelow, Cond.static yX4_isBelow, Cond.code yX4_isBelow cX4_isBelow 2 (some .boolean), Cond.methodLink RX4 49 yX4_checkArgument, Cond.static yX4_checkArgument, Cond.code yX4_checkArgument cX4_checkArgument 1 none, Cond.classLink RX4 157 "java/lang/IllegalArgumentException", Cond.initialized "java/lang/IllegalArgumentException", Cond.methodLink RX4 100 yX4_mayFollow, Cond.static yX4_mayFollow, Cond.code yX4_mayFollow cX4_mayFollow 2 (some .boolean)]
def wsL_report_r2 : List Cond := [Cond.instanceMethod yX2_add, Cond.initialized RX2, Cond.selects RX2 yX2_add yX2_add, Cond.code yX2_add cX2_add 4 (some .int), Cond.fieldLink RX2 9 "CrashBuckets$Reports" "count" "I", Cond.fieldLink RX2 15 "CrashBuckets$Reports" "versions" "[I", Cond.fieldLink RX2 19 "CrashBuckets$Reports" "reporters" "[I", Cond.fieldLink RX2 27 "CrashBuckets$Reports" "fixedFrom" "[I", Cond.instanceMethod yX2_setStack, Cond.selects RX2 yX2_setStack yX2_setStack, Cond.code yX2_setStack cX2_setStack 6 none, Cond.fieldLink RX2 24 "CrashBuckets$Reports" "stacks" "[[I", Cond.instanceMethod yX1_readStack, Cond.initialized RX1, Cond.selects RX1 yX1_readStack yX1_readStack, Cond.code yX1_readStack cX1_readStack 5 none, Cond.fieldLink RX1 11 "CrashBuckets$Buckets" "frames" "[[I", Cond.instanceMethod yX0_functionAt, Cond.initialized RX0, Cond.selects RX0 yX0_functionAt yX0_functionAt, Cond.code yX0_functionAt cX0_functionAt 4 (some .int), Cond.fieldLink RX0 9 "CrashBuckets$AddressMaps" "counts" "[I", Cond.fieldLink RX0 17 "CrashBuckets$AddressMaps" "froms" "[[I", Cond.fieldLink RX0 20 "CrashBuckets$AddressMaps" "tos" "[[I"]
def wsL_report_r3 : List Cond := [Cond.fieldLink RX0 23 "CrashBuckets$AddressMaps" "functions" "[[I", Cond.instanceMethod yX1_sort, Cond.selects RX1 yX1_sort yX1_sort, Cond.code yX1_sort cX1_sort 5 none, Cond.fieldLink RX1 19 "CrashBuckets$Buckets" "signatures" "[I", Cond.fieldLink RX1 23 "CrashBuckets$Buckets" "names" "[I", Cond.methodLink RX1 52 yX1_pickMattering, Cond.instanceMethod yX1_pickMattering, Cond.selects RX1 yX1_pickMattering yX1_pickMattering, Cond.code yX1_pickMattering cX1_pickMattering 6 none, Cond.fieldLink RX1 16 "CrashBuckets$Buckets" "mattering" "[[I", Cond.instanceMethod yX3_inTheEnd, Cond.initialized RX3, Cond.selects RX3 yX3_inTheEnd yX3_inTheEnd, Cond.code yX3_inTheEnd cX3_inTheEnd 4 (some .int), Cond.fieldLink RX3 15 "CrashBuckets$Rules" "standsFor" "[I", Cond.methodLink RX1 56 yX1_signatureOf, Cond.instanceMethod yX1_signatureOf, Cond.selects RX1 yX1_signatureOf yX1_signatureOf, Cond.code yX1_signatureOf cX1_signatureOf 5 (some .int)]
def wsL_report : List Cond := .codeWith yL_report cL_report 9 (some .int) [(0, 18, 21, 13), (0, 18, 25, 15)] :: ((wsL_report_r1 ++ (wsL_report_r2 ++ wsL_report_r3)) ++ wsX40 ++ wsX20 ++ wsX10 ++ wsX00 ++ wsX30 ++ (vx_atS RX4 61 "java/lang/IllegalStateException" ["java/lang/RuntimeException", "java/lang/Exception"]).filter goodWord ++ (vx_atS RX4 161 "java/lang/IllegalArgumentException" ["java/lang/RuntimeException", "java/lang/Exception"]).filter goodWord)
def wsL_frame : List Cond := .codeWith yL_frame cL_frame 5 (some .int) [(0, 10, 13, 36), (0, 10, 17, 13)] :: ([.classLink RL 36 "java/lang/IndexOutOfBoundsException", .classLink RL 13 "java/lang/IllegalArgumentException", .methodLink RL 33 yX4_frame, .instanceMethod yX4_frame, .selects RX4 yX4_frame yX4_frame, .initialized RX4, .code yX4_frame cX4_frame 3 (some .int), .fieldLink RX4 33 "CrashBuckets" "sorted" "LCrashBuckets$Buckets;", .methodLink RX4 122 yX4_checkReport, .instanceMethod yX4_checkReport, .selects RX4 yX4_checkReport yX4_checkReport, .code yX4_checkReport cX4_checkReport 2 none, .classLink RX4 162 "java/lang/IndexOutOfBoundsException", .initialized "java/lang/IndexOutOfBoundsException", .fieldLink RX4 26 "CrashBuckets" "told" "LCrashBuckets$Reports;", .methodLink RX4 45 yX4_isBelow, .static yX4_isBelow, .code yX4_isBelow cX4_isBelow 2 (some .boolean), .methodLink RX4 49 yX4_checkArgument, .static yX4_checkArgument, .code yX4_checkArgument cX4_checkArgument 1 none, .classLink RX4 157 "java/lang/IllegalArgumentException", .initialized "java/lang/IllegalArgumentException"] ++ wsX40 ++ wsX10 ++ wsX20 ++ (vx_atS RX4 166 "java/lang/IndexOutOfBoundsException" ["java/lang/RuntimeException", "java/lang/Exception"]).filter goodWord ++ (vx_atS RX4 161 "java/lang/IllegalArgumentException" ["java/lang/RuntimeException", "java/lang/Exception"]).filter goodWord)
def wsL_matters : List Cond := .codeWith yL_matters cL_matters 5 (some .int) [(0, 10, 13, 36), (0, 10, 17, 13)] :: ([.classLink RL 36 "java/lang/IndexOutOfBoundsException", .classLink RL 13 "java/lang/IllegalArgumentException", .methodLink RL 38 yX4_matters, .instanceMethod yX4_matters, .selects RX4 yX4_matters yX4_matters, .initialized RX4, .code yX4_matters cX4_matters 3 (some .int), .fieldLink RX4 33 "CrashBuckets" "sorted" "LCrashBuckets$Buckets;", .methodLink RX4 122 yX4_checkReport, .instanceMethod yX4_checkReport, .selects RX4 yX4_checkReport yX4_checkReport, .code yX4_checkReport cX4_checkReport 2 none, .classLink RX4 162 "java/lang/IndexOutOfBoundsException", .initialized "java/lang/IndexOutOfBoundsException", .fieldLink RX4 26 "CrashBuckets" "told" "LCrashBuckets$Reports;", .methodLink RX4 45 yX4_isBelow, .static yX4_isBelow, .code yX4_isBelow cX4_isBelow 2 (some .boolean), .methodLink RX4 49 yX4_checkArgument, .static yX4_checkArgument, .code yX4_checkArgument cX4_checkArgument 1 none, .classLink RX4 157 "java/lang/IllegalArgumentException", .initialized "java/lang/IllegalArgumentException"] ++ wsX40 ++ wsX10 ++ wsX20 ++ (vx_atS RX4 166 "java/lang/IndexOutOfBoundsException" ["java/lang/RuntimeException", "java/lang/Exception"]).filter goodWord ++ (vx_atS RX4 161 "java/lang/IllegalArgumentException" ["java/lang/RuntimeException", "java/lang/Exception"]).filter goodWord)
def wsL_bucket : List Cond := .codeWith yL_bucket cL_bucket 4 (some .int) [(0, 9, 12, 36)] :: ([.classLink RL 36 "java/lang/IndexOutOfBoundsException", .methodLink RL 41 yX4_bucket, .instanceMethod yX4_bucket, .selects RX4 yX4_bucket yX4_bucket, .initialized RX4, .code yX4_bucket cX4_bucket 2 (some .int), .fieldLink RX4 33 "CrashBuckets" "sorted" "LCrashBuckets$Buckets;", .methodLink RX4 122 yX4_checkReport, .instanceMethod yX4_checkReport, .selects RX4 yX4_checkReport yX4_checkReport, .code yX4_checkReport cX4_checkReport 2 none, .classLink RX4 162 "java/lang/IndexOutOfBoundsException", .initialized "java/lang/IndexOutOfBoundsException", .fieldLink RX4 26 "CrashBuckets" "told" "LCrashBuckets$Reports;", .methodLink RX4 45 yX4_isBelow, .static yX4_isBelow, .code yX4_isBelow cX4_isBelow 2 (some .boolean)] ++ wsX40 ++ wsX10 ++ wsX20 ++ (vx_atS RX4 166 "java/lang/IndexOutOfBoundsException" ["java/lang/RuntimeException", "java/lang/Exception"]).filter goodWord)
def wsL_size_r1 : List Cond := [Cond.classLink RL 36 "java/lang/IndexOutOfBoundsException", Cond.methodLink RL 44 yX4_size, Cond.instanceMethod yX4_size, Cond.selects RX4 yX4_size yX4_size, Cond.initialized RX4, Cond.code yX4_size cX4_size 4 (some .int), Cond.fieldLink RX4 33 "CrashBuckets" "sorted" "LCrashBuckets$Buckets;", Cond.methodLink RX4 122 yX4_checkReport, Cond.instanceMethod yX4_checkReport, Cond.selects RX4 yX4_checkReport yX4_checkReport, Cond.code yX4_checkReport cX4_checkReport 2 none, Cond.classLink RX4 162 "java/lang/IndexOutOfBoundsException", Cond.initialized "java/lang/IndexOutOfBoundsException", Cond.fieldLink RX4 26 "CrashBuckets" "told" "LCrashBuckets$Reports;", Cond.methodLink RX4 45 yX4_isBelow, Cond.static yX4_isBelow, Cond.code yX4_isBelow cX4_isBelow 2 (some .boolean), Cond.methodLink RX4 139 yX4_countIn, Cond.instanceMethod yX4_countIn, Cond.selects RX4 yX4_countIn yX4_countIn, Cond.code yX4_countIn cX4_countIn 5 (some .int), Cond.methodLink RX4 170 yX4_isOf, Cond.instanceMethod yX4_isOf, Cond.selects RX4 yX4_isOf yX4_isOf]
def wsL_size_r2 : List Cond := [Cond.code yX4_isOf cX4_isOf 4 (some .boolean)]
def wsL_size : List Cond := .codeWith yL_size cL_size 4 (some .int) [(0, 9, 12, 36)] :: ((wsL_size_r1 ++ wsL_size_r2) ++ wsX40 ++ wsX10 ++ wsX20 ++ (vx_atS RX4 166 "java/lang/IndexOutOfBoundsException" ["java/lang/RuntimeException", "java/lang/Exception"]).filter goodWord)
def wsL_setSessions : List Cond := .codeWith yL_setSessions cL_setSessions 5 (some .int) [(0, 10, 13, 13)] :: ([.classLink RL 13 "java/lang/IllegalArgumentException", .methodLink RL 47 yX4_setSessions, .instanceMethod yX4_setSessions, .selects RX4 yX4_setSessions yX4_setSessions, .initialized RX4, .code yX4_setSessions cX4_setSessions 4 (some .int), .constant RX4 142 (1000000), .fieldLink RX4 37 "CrashBuckets" "sessions" "[I", .methodLink RX4 45 yX4_isBelow, .static yX4_isBelow, .code yX4_isBelow cX4_isBelow 2 (some .boolean), .methodLink RX4 49 yX4_checkArgument, .static yX4_checkArgument, .code yX4_checkArgument cX4_checkArgument 1 none, .classLink RX4 157 "java/lang/IllegalArgumentException", .initialized "java/lang/IllegalArgumentException"] ++ wsX40 ++ (vx_atS RX4 161 "java/lang/IllegalArgumentException" ["java/lang/RuntimeException", "java/lang/Exception"]).filter goodWord)
def wsL_setLimit : List Cond := .codeWith yL_setLimit cL_setLimit 4 (some .int) [(0, 9, 12, 13)] :: ([.classLink RL 13 "java/lang/IllegalArgumentException", .methodLink RL 50 yX4_setLimit, .instanceMethod yX4_setLimit, .selects RX4 yX4_setLimit yX4_setLimit, .initialized RX4, .code yX4_setLimit cX4_setLimit 3 (some .int), .fieldLink RX4 41 "CrashBuckets" "limit" "I", .methodLink RX4 49 yX4_checkArgument, .static yX4_checkArgument, .code yX4_checkArgument cX4_checkArgument 1 none, .classLink RX4 157 "java/lang/IllegalArgumentException", .initialized "java/lang/IllegalArgumentException"] ++ wsX40 ++ (vx_atS RX4 161 "java/lang/IllegalArgumentException" ["java/lang/RuntimeException", "java/lang/Exception"]).filter goodWord)
def wsL_rate_r1 : List Cond := [Cond.classLink RL 36 "java/lang/IndexOutOfBoundsException", Cond.classLink RL 13 "java/lang/IllegalArgumentException", Cond.methodLink RL 53 yX4_rate, Cond.instanceMethod yX4_rate, Cond.selects RX4 yX4_rate yX4_rate, Cond.initialized RX4, Cond.code yX4_rate cX4_rate 3 (some .int), Cond.fieldLink RX4 33 "CrashBuckets" "sorted" "LCrashBuckets$Buckets;", Cond.methodLink RX4 122 yX4_checkReport, Cond.instanceMethod yX4_checkReport, Cond.selects RX4 yX4_checkReport yX4_checkReport, Cond.code yX4_checkReport cX4_checkReport 2 none, Cond.classLink RX4 162 "java/lang/IndexOutOfBoundsException", Cond.initialized "java/lang/IndexOutOfBoundsException", Cond.fieldLink RX4 26 "CrashBuckets" "told" "LCrashBuckets$Reports;", Cond.methodLink RX4 45 yX4_isBelow, Cond.static yX4_isBelow, Cond.code yX4_isBelow cX4_isBelow 2 (some .boolean), Cond.methodLink RX4 49 yX4_checkArgument, Cond.static yX4_checkArgument, Cond.code yX4_checkArgument cX4_checkArgument 1 none, Cond.classLink RX4 157 "java/lang/IllegalArgumentException", Cond.initialized "java/lang/IllegalArgumentException", Cond.methodLink RX4 143 yX4_rateOf]
def wsL_rate_r2 : List Cond := [Cond.instanceMethod yX4_rateOf, Cond.selects RX4 yX4_rateOf yX4_rateOf, Cond.code yX4_rateOf cX4_rateOf 4 (some .int), Cond.fieldLink RX4 37 "CrashBuckets" "sessions" "[I", Cond.methodLink RX4 139 yX4_countIn, Cond.instanceMethod yX4_countIn, Cond.selects RX4 yX4_countIn yX4_countIn, Cond.code yX4_countIn cX4_countIn 5 (some .int), Cond.methodLink RX4 170 yX4_isOf, Cond.instanceMethod yX4_isOf, Cond.selects RX4 yX4_isOf yX4_isOf, Cond.code yX4_isOf cX4_isOf 4 (some .boolean)]
def wsL_rate : List Cond := .codeWith yL_rate cL_rate 5 (some .int) [(0, 10, 13, 36), (0, 10, 17, 13)] :: ((wsL_rate_r1 ++ wsL_rate_r2) ++ wsX40 ++ wsX10 ++ wsX20 ++ (vx_atS RX4 166 "java/lang/IndexOutOfBoundsException" ["java/lang/RuntimeException", "java/lang/Exception"]).filter goodWord ++ (vx_atS RX4 161 "java/lang/IllegalArgumentException" ["java/lang/RuntimeException", "java/lang/Exception"]).filter goodWord)
def wsL_users_r1 : List Cond := [Cond.classLink RL 36 "java/lang/IndexOutOfBoundsException", Cond.classLink RL 13 "java/lang/IllegalArgumentException", Cond.methodLink RL 56 yX4_users, Cond.instanceMethod yX4_users, Cond.selects RX4 yX4_users yX4_users, Cond.initialized RX4, Cond.code yX4_users cX4_users 3 (some .int), Cond.fieldLink RX4 33 "CrashBuckets" "sorted" "LCrashBuckets$Buckets;", Cond.methodLink RX4 122 yX4_checkReport, Cond.instanceMethod yX4_checkReport, Cond.selects RX4 yX4_checkReport yX4_checkReport, Cond.code yX4_checkReport cX4_checkReport 2 none, Cond.classLink RX4 162 "java/lang/IndexOutOfBoundsException", Cond.initialized "java/lang/IndexOutOfBoundsException", Cond.fieldLink RX4 26 "CrashBuckets" "told" "LCrashBuckets$Reports;", Cond.methodLink RX4 45 yX4_isBelow, Cond.static yX4_isBelow, Cond.code yX4_isBelow cX4_isBelow 2 (some .boolean), Cond.methodLink RX4 49 yX4_checkArgument, Cond.static yX4_checkArgument, Cond.code yX4_checkArgument cX4_checkArgument 1 none, Cond.classLink RX4 157 "java/lang/IllegalArgumentException", Cond.initialized "java/lang/IllegalArgumentException", Cond.methodLink RX4 146 yX4_usersOf]
def wsL_users_r2 : List Cond := [Cond.instanceMethod yX4_usersOf, Cond.selects RX4 yX4_usersOf yX4_usersOf, Cond.code yX4_usersOf cX4_usersOf 5 (some .int), Cond.methodLink RX4 170 yX4_isOf, Cond.instanceMethod yX4_isOf, Cond.selects RX4 yX4_isOf yX4_isOf, Cond.code yX4_isOf cX4_isOf 4 (some .boolean), Cond.methodLink RX4 176 yJ6_bitCount_0f7a4, Cond.static yJ6_bitCount_0f7a4, Cond.initialized RJ6, Cond.code yJ6_bitCount_0f7a4 cJ6_bitCount_0f7a4 1 (some .int), Cond.constant RJ6 265 (1431655765), Cond.constant RJ6 266 (858993459), Cond.constant RJ6 267 (252645135)]
def wsL_users : List Cond := .codeWith yL_users cL_users 5 (some .int) [(0, 10, 13, 36), (0, 10, 17, 13)] :: ((wsL_users_r1 ++ wsL_users_r2) ++ wsX40 ++ wsX10 ++ wsX20 ++ (vx_atS RX4 166 "java/lang/IndexOutOfBoundsException" ["java/lang/RuntimeException", "java/lang/Exception"]).filter goodWord ++ (vx_atS RX4 161 "java/lang/IllegalArgumentException" ["java/lang/RuntimeException", "java/lang/Exception"]).filter goodWord)
def wsL_gate_r1 : List Cond := [Cond.classLink RL 13 "java/lang/IllegalArgumentException", Cond.methodLink RL 59 yX4_gate, Cond.instanceMethod yX4_gate, Cond.selects RX4 yX4_gate yX4_gate, Cond.initialized RX4, Cond.code yX4_gate cX4_gate 6 (some .int), Cond.fieldLink RX4 37 "CrashBuckets" "sessions" "[I", Cond.fieldLink RX4 26 "CrashBuckets" "told" "LCrashBuckets$Reports;", Cond.fieldLink RX4 33 "CrashBuckets" "sorted" "LCrashBuckets$Buckets;", Cond.fieldLink RX4 41 "CrashBuckets" "limit" "I", Cond.methodLink RX4 45 yX4_isBelow, Cond.static yX4_isBelow, Cond.code yX4_isBelow cX4_isBelow 2 (some .boolean), Cond.methodLink RX4 49 yX4_checkArgument, Cond.static yX4_checkArgument, Cond.code yX4_checkArgument cX4_checkArgument 1 none, Cond.classLink RX4 157 "java/lang/IllegalArgumentException", Cond.initialized "java/lang/IllegalArgumentException", Cond.instanceMethod yX1_isName, Cond.initialized RX1, Cond.selects RX1 yX1_isName yX1_isName, Cond.code yX1_isName cX1_isName 2 (some .boolean), Cond.fieldLink RX1 23 "CrashBuckets$Buckets" "names" "[I", Cond.methodLink RX4 143 yX4_rateOf]
def wsL_gate_r2 : List Cond := [Cond.instanceMethod yX4_rateOf, Cond.selects RX4 yX4_rateOf yX4_rateOf, Cond.code yX4_rateOf cX4_rateOf 4 (some .int), Cond.methodLink RX4 139 yX4_countIn, Cond.instanceMethod yX4_countIn, Cond.selects RX4 yX4_countIn yX4_countIn, Cond.code yX4_countIn cX4_countIn 5 (some .int), Cond.methodLink RX4 170 yX4_isOf, Cond.instanceMethod yX4_isOf, Cond.selects RX4 yX4_isOf yX4_isOf, Cond.code yX4_isOf cX4_isOf 4 (some .boolean), Cond.methodLink RX4 146 yX4_usersOf, Cond.instanceMethod yX4_usersOf, Cond.selects RX4 yX4_usersOf yX4_usersOf, Cond.code yX4_usersOf cX4_usersOf 5 (some .int), Cond.methodLink RX4 176 yJ6_bitCount_0f7a4, Cond.static yJ6_bitCount_0f7a4, Cond.initialized RJ6, Cond.code yJ6_bitCount_0f7a4 cJ6_bitCount_0f7a4 1 (some .int), Cond.constant RJ6 265 (1431655765), Cond.constant RJ6 266 (858993459), Cond.constant RJ6 267 (252645135)]
def wsL_gate : List Cond := .codeWith yL_gate cL_gate 4 (some .int) [(0, 9, 12, 13)] :: ((wsL_gate_r1 ++ wsL_gate_r2) ++ wsX40 ++ wsX20 ++ wsX10 ++ (vx_atS RX4 161 "java/lang/IllegalArgumentException" ["java/lang/RuntimeException", "java/lang/Exception"]).filter goodWord)
def wsL_worst_r1 : List Cond := [Cond.classLink RL 13 "java/lang/IllegalArgumentException", Cond.methodLink RL 62 yX4_worst, Cond.instanceMethod yX4_worst, Cond.selects RX4 yX4_worst yX4_worst, Cond.initialized RX4, Cond.code yX4_worst cX4_worst 6 (some .int), Cond.fieldLink RX4 26 "CrashBuckets" "told" "LCrashBuckets$Reports;", Cond.fieldLink RX4 33 "CrashBuckets" "sorted" "LCrashBuckets$Buckets;", Cond.methodLink RX4 45 yX4_isBelow, Cond.static yX4_isBelow, Cond.code yX4_isBelow cX4_isBelow 2 (some .boolean), Cond.methodLink RX4 49 yX4_checkArgument, Cond.static yX4_checkArgument, Cond.code yX4_checkArgument cX4_checkArgument 1 none, Cond.classLink RX4 157 "java/lang/IllegalArgumentException", Cond.initialized "java/lang/IllegalArgumentException", Cond.instanceMethod yX1_isName, Cond.initialized RX1, Cond.selects RX1 yX1_isName yX1_isName, Cond.code yX1_isName cX1_isName 2 (some .boolean), Cond.fieldLink RX1 23 "CrashBuckets$Buckets" "names" "[I", Cond.methodLink RX4 143 yX4_rateOf, Cond.instanceMethod yX4_rateOf, Cond.selects RX4 yX4_rateOf yX4_rateOf]
def wsL_worst_r2 : List Cond := [Cond.code yX4_rateOf cX4_rateOf 4 (some .int), Cond.fieldLink RX4 37 "CrashBuckets" "sessions" "[I", Cond.methodLink RX4 139 yX4_countIn, Cond.instanceMethod yX4_countIn, Cond.selects RX4 yX4_countIn yX4_countIn, Cond.code yX4_countIn cX4_countIn 5 (some .int), Cond.methodLink RX4 170 yX4_isOf, Cond.instanceMethod yX4_isOf, Cond.selects RX4 yX4_isOf yX4_isOf, Cond.code yX4_isOf cX4_isOf 4 (some .boolean)]
def wsL_worst : List Cond := .codeWith yL_worst cL_worst 4 (some .int) [(0, 9, 12, 13)] :: ((wsL_worst_r1 ++ wsL_worst_r2) ++ wsX40 ++ wsX20 ++ wsX10 ++ (vx_atS RX4 161 "java/lang/IllegalArgumentException" ["java/lang/RuntimeException", "java/lang/Exception"]).filter goodWord)
def wsL_fix : List Cond := .codeWith yL_fix cL_fix 5 (some .int) [(0, 10, 13, 36), (0, 10, 17, 13)] :: ([.classLink RL 36 "java/lang/IndexOutOfBoundsException", .classLink RL 13 "java/lang/IllegalArgumentException", .methodLink RL 65 yX4_fix, .instanceMethod yX4_fix, .selects RX4 yX4_fix yX4_fix, .initialized RX4, .code yX4_fix cX4_fix 4 (some .int), .fieldLink RX4 26 "CrashBuckets" "told" "LCrashBuckets$Reports;", .methodLink RX4 122 yX4_checkReport, .instanceMethod yX4_checkReport, .selects RX4 yX4_checkReport yX4_checkReport, .code yX4_checkReport cX4_checkReport 2 none, .classLink RX4 162 "java/lang/IndexOutOfBoundsException", .initialized "java/lang/IndexOutOfBoundsException", .methodLink RX4 45 yX4_isBelow, .static yX4_isBelow, .code yX4_isBelow cX4_isBelow 2 (some .boolean), .methodLink RX4 49 yX4_checkArgument, .static yX4_checkArgument, .code yX4_checkArgument cX4_checkArgument 1 none, .classLink RX4 157 "java/lang/IllegalArgumentException", .initialized "java/lang/IllegalArgumentException"] ++ wsX40 ++ wsX20 ++ (vx_atS RX4 166 "java/lang/IndexOutOfBoundsException" ["java/lang/RuntimeException", "java/lang/Exception"]).filter goodWord ++ (vx_atS RX4 161 "java/lang/IllegalArgumentException" ["java/lang/RuntimeException", "java/lang/Exception"]).filter goodWord)
def wsL_holds_r1 : List Cond := [Cond.classLink RL 36 "java/lang/IndexOutOfBoundsException", Cond.classLink RL 15 "java/lang/IllegalStateException", Cond.methodLink RL 68 yX4_holds, Cond.instanceMethod yX4_holds, Cond.selects RX4 yX4_holds yX4_holds, Cond.initialized RX4, Cond.code yX4_holds cX4_holds 6 (some .boolean), Cond.classLink RX4 57 "java/lang/IllegalStateException", Cond.initialized "java/lang/IllegalStateException", Cond.fieldLink RX4 26 "CrashBuckets" "told" "LCrashBuckets$Reports;", Cond.fieldLink RX4 33 "CrashBuckets" "sorted" "LCrashBuckets$Buckets;", Cond.fieldLink RX4 37 "CrashBuckets" "sessions" "[I", Cond.methodLink RX4 122 yX4_checkReport, Cond.instanceMethod yX4_checkReport, Cond.selects RX4 yX4_checkReport yX4_checkReport, Cond.code yX4_checkReport cX4_checkReport 2 none, Cond.classLink RX4 162 "java/lang/IndexOutOfBoundsException", Cond.initialized "java/lang/IndexOutOfBoundsException", Cond.methodLink RX4 45 yX4_isBelow, Cond.static yX4_isBelow, Cond.code yX4_isBelow cX4_isBelow 2 (some .boolean), Cond.methodLink RX4 154 yX4_greatestRateBefore, Cond.instanceMethod yX4_greatestRateBefore, Cond.selects RX4 yX4_greatestRateBefore yX4_greatestRateBefore]
def wsL_holds_r2 : List Cond := [Cond.code yX4_greatestRateBefore cX4_greatestRateBefore 5 (some .int), Cond.methodLink RX4 182 Lib.Math.max.name, Cond.static Lib.Math.max.name, Cond.initialized "java/lang/Math", Cond.code Lib.Math.max.name Lib.Math.max.code 2 (some .int), Cond.methodLink RX4 143 yX4_rateOf, Cond.instanceMethod yX4_rateOf, Cond.selects RX4 yX4_rateOf yX4_rateOf, Cond.code yX4_rateOf cX4_rateOf 4 (some .int), Cond.methodLink RX4 139 yX4_countIn, Cond.instanceMethod yX4_countIn, Cond.selects RX4 yX4_countIn yX4_countIn, Cond.code yX4_countIn cX4_countIn 5 (some .int), Cond.methodLink RX4 170 yX4_isOf, Cond.instanceMethod yX4_isOf, Cond.selects RX4 yX4_isOf yX4_isOf, Cond.code yX4_isOf cX4_isOf 4 (some .boolean)]
def wsL_holds : List Cond := .codeWith yL_holds cL_holds 4 (some .int) [(0, 16, 19, 36), (0, 16, 22, 15)] :: ((wsL_holds_r1 ++ wsL_holds_r2) ++ wsX40 ++ wsX20 ++ wsX10 ++ (vx_atS RX4 61 "java/lang/IllegalStateException" ["java/lang/RuntimeException", "java/lang/Exception"]).filter goodWord ++ (vx_atS RX4 166 "java/lang/IndexOutOfBoundsException" ["java/lang/RuntimeException", "java/lang/Exception"]).filter goodWord)
def wsL_law0_r1 : List Cond := [Cond.classLink RL 8 RX4, Cond.instantiable RX4 6, Cond.initialized RX4, Cond.classLink RL 73 RX5, Cond.instantiable RX5 18, Cond.initialized RX5, Cond.arrayClass .long, Cond.methodLink RL 72 yX4_init, Cond.instanceMethod yX4_init, Cond.code yX4_init cX4_init 1 none, Cond.methodLink RX4 1 objectInit, Cond.instanceMethod objectInit, Cond.code objectInit ⟨#[0xb1]⟩ 1 none, Cond.classLink RX4 7 RX0, Cond.instantiable RX0 4, Cond.initialized RX0, Cond.fieldLink RX4 10 "CrashBuckets" "maps" "LCrashBuckets$AddressMaps;", Cond.classLink RX4 16 RX3, Cond.instantiable RX3 3, Cond.initialized RX3, Cond.fieldLink RX4 19 "CrashBuckets" "rules" "LCrashBuckets$Rules;", Cond.classLink RX4 23 RX2, Cond.instantiable RX2 5, Cond.initialized RX2]
def wsL_law0_r2 : List Cond := [Cond.fieldLink RX4 26 "CrashBuckets" "told" "LCrashBuckets$Reports;", Cond.classLink RX4 30 RX1, Cond.instantiable RX1 4, Cond.initialized RX1, Cond.fieldLink RX4 33 "CrashBuckets" "sorted" "LCrashBuckets$Buckets;", Cond.arrayClass .int, Cond.fieldLink RX4 37 "CrashBuckets" "sessions" "[I", Cond.fieldLink RX4 41 "CrashBuckets" "limit" "I", Cond.instanceMethod yX0_init, Cond.code yX0_init cX0_init 1 none, Cond.methodLink RX0 3 objectInit, Cond.fieldLink RX0 9 "CrashBuckets$AddressMaps" "counts" "[I", Cond.classLink RX0 15 "[[I", Cond.fieldLink RX0 17 "CrashBuckets$AddressMaps" "froms" "[[I", Cond.fieldLink RX0 20 "CrashBuckets$AddressMaps" "tos" "[[I", Cond.fieldLink RX0 23 "CrashBuckets$AddressMaps" "functions" "[[I", Cond.instanceMethod yX3_init, Cond.code yX3_init cX3_init 2 none, Cond.methodLink RX3 3 objectInit, Cond.arrayClass .boolean, Cond.fieldLink RX3 9 "CrashBuckets$Rules" "ignored" "[Z", Cond.fieldLink RX3 15 "CrashBuckets$Rules" "standsFor" "[I", Cond.fieldLink RX3 19 "CrashBuckets$Rules" "depth" "I", Cond.instanceMethod yX2_init]
def wsL_law0_r3 : List Cond := [Cond.code yX2_init cX2_init 1 none, Cond.methodLink RX2 3 objectInit, Cond.fieldLink RX2 9 "CrashBuckets$Reports" "count" "I", Cond.fieldLink RX2 15 "CrashBuckets$Reports" "versions" "[I", Cond.fieldLink RX2 19 "CrashBuckets$Reports" "reporters" "[I", Cond.classLink RX2 22 "[[I", Cond.fieldLink RX2 24 "CrashBuckets$Reports" "stacks" "[[I", Cond.fieldLink RX2 27 "CrashBuckets$Reports" "fixedFrom" "[I", Cond.instanceMethod yX1_init, Cond.code yX1_init cX1_init 1 none, Cond.methodLink RX1 3 objectInit, Cond.classLink RX1 9 "[[I", Cond.fieldLink RX1 11 "CrashBuckets$Buckets" "frames" "[[I", Cond.fieldLink RX1 16 "CrashBuckets$Buckets" "mattering" "[[I", Cond.fieldLink RX1 19 "CrashBuckets$Buckets" "signatures" "[I", Cond.fieldLink RX1 23 "CrashBuckets$Buckets" "names" "[I", Cond.methodLink RL 75 yX5_init, Cond.instanceMethod yX5_init, Cond.code yX5_init cX5_init 2 none, Cond.methodLink RX5 1 objectInit, Cond.fieldLink RX5 7 "CrashBucketsModel" "ranges" "[I", Cond.fieldLink RX5 13 "CrashBucketsModel" "from" "[I", Cond.fieldLink RX5 16 "CrashBucketsModel" "to" "[I", Cond.fieldLink RX5 19 "CrashBucketsModel" "of" "[I"]
def wsL_law0_r4 : List Cond := [Cond.fieldLink RX5 22 "CrashBucketsModel" "ignored" "[Z", Cond.fieldLink RX5 26 "CrashBucketsModel" "stands" "[I", Cond.fieldLink RX5 29 "CrashBucketsModel" "depth" "I", Cond.fieldLink RX5 33 "CrashBucketsModel" "version" "[I", Cond.fieldLink RX5 36 "CrashBucketsModel" "user" "[I", Cond.fieldLink RX5 39 "CrashBucketsModel" "stack" "[I", Cond.fieldLink RX5 42 "CrashBucketsModel" "fixed" "[I", Cond.fieldLink RX5 45 "CrashBucketsModel" "sessions" "[I", Cond.fieldLink RX5 48 "CrashBucketsModel" "limit" "I", Cond.fieldLink RX5 51 "CrashBucketsModel" "name" "[I", Cond.fieldLink RX5 54 "CrashBucketsModel" "key" "[I", Cond.fieldLink RX5 57 "CrashBucketsModel" "seen" "[Z", Cond.methodLink RL 76 yL_addRange, Cond.static yL_addRange, Cond.initialized RL, Cond.codeWith yL_addRange cL_addRange 7 (some .int) [(0, 14, 17, 13), (0, 14, 21, 15)], Cond.classLink RL 13 "java/lang/IllegalArgumentException", Cond.classLink RL 15 "java/lang/IllegalStateException", Cond.methodLink RL 7 yX4_addRange, Cond.instanceMethod yX4_addRange, Cond.selects RX4 yX4_addRange yX4_addRange, Cond.code yX4_addRange cX4_addRange 5 (some .int), Cond.classLink RX4 57 "java/lang/IllegalStateException", Cond.initialized "java/lang/IllegalStateException"]
def wsL_law0_r5 : List Cond := [Cond.methodLink RX4 45 yX4_isBelow, Cond.static yX4_isBelow, Cond.code yX4_isBelow cX4_isBelow 2 (some .boolean), Cond.methodLink RX4 49 yX4_checkArgument, Cond.static yX4_checkArgument, Cond.code yX4_checkArgument cX4_checkArgument 1 none, Cond.classLink RX4 157 "java/lang/IllegalArgumentException", Cond.initialized "java/lang/IllegalArgumentException", Cond.instanceMethod yX0_isFull, Cond.selects RX0 yX0_isFull yX0_isFull, Cond.code yX0_isFull cX0_isFull 2 (some .boolean), Cond.instanceMethod yX0_overlaps, Cond.selects RX0 yX0_overlaps yX0_overlaps, Cond.code yX0_overlaps cX0_overlaps 5 (some .boolean), Cond.instanceMethod yX0_add, Cond.selects RX0 yX0_add yX0_add, Cond.code yX0_add cX0_add 6 none, Cond.instanceMethod yX1_readStacksOf, Cond.selects RX1 yX1_readStacksOf yX1_readStacksOf, Cond.code yX1_readStacksOf cX1_readStacksOf 5 none, Cond.methodLink RX1 35 yX1_readStack, Cond.instanceMethod yX1_readStack, Cond.selects RX1 yX1_readStack yX1_readStack, Cond.code yX1_readStack cX1_readStack 5 none]
def wsL_law0_r6 : List Cond := [Cond.instanceMethod yX0_functionAt, Cond.selects RX0 yX0_functionAt yX0_functionAt, Cond.code yX0_functionAt cX0_functionAt 4 (some .int), Cond.instanceMethod yX1_sortAll, Cond.selects RX1 yX1_sortAll yX1_sortAll, Cond.code yX1_sortAll cX1_sortAll 4 none, Cond.methodLink RX1 48 yX1_sort, Cond.instanceMethod yX1_sort, Cond.selects RX1 yX1_sort yX1_sort, Cond.code yX1_sort cX1_sort 5 none, Cond.methodLink RX1 52 yX1_pickMattering, Cond.instanceMethod yX1_pickMattering, Cond.selects RX1 yX1_pickMattering yX1_pickMattering, Cond.code yX1_pickMattering cX1_pickMattering 6 none, Cond.instanceMethod yX3_inTheEnd, Cond.selects RX3 yX3_inTheEnd yX3_inTheEnd, Cond.code yX3_inTheEnd cX3_inTheEnd 4 (some .int), Cond.methodLink RX1 56 yX1_signatureOf, Cond.instanceMethod yX1_signatureOf, Cond.selects RX1 yX1_signatureOf yX1_signatureOf, Cond.code yX1_signatureOf cX1_signatureOf 5 (some .int), Cond.methodLink RL 81 yX5_addRange, Cond.instanceMethod yX5_addRange, Cond.selects RX5 yX5_addRange yX5_addRange]
def wsL_law0_r7 : List Cond := [Cond.code yX5_addRange cX5_addRange 7 (some .int), Cond.fieldLink RX5 60 "CrashBucketsModel" "thrown" "I", Cond.methodLink RX5 70 yX5_isVersion, Cond.static yX5_isVersion, Cond.code yX5_isVersion cX5_isVersion 1 (some .boolean), Cond.methodLink RX5 63 yX5_in, Cond.static yX5_in, Cond.code yX5_in cX5_in 3 (some .boolean), Cond.methodLink RX5 74 yX5_isAddress, Cond.static yX5_isAddress, Cond.code yX5_isAddress cX5_isAddress 1 (some .boolean), Cond.methodLink RX5 77 yX5_isFunction, Cond.static yX5_isFunction, Cond.code yX5_isFunction cX5_isFunction 1 (some .boolean), Cond.methodLink RX5 80 yX5_fails, Cond.instanceMethod yX5_fails, Cond.selects RX5 yX5_fails yX5_fails, Cond.code yX5_fails cX5_fails 2 (some .int), Cond.methodLink RL 82 yX5_thrown, Cond.instanceMethod yX5_thrown, Cond.selects RX5 yX5_thrown yX5_thrown, Cond.code yX5_thrown cX5_thrown 1 (some .int), Cond.methodLink RL 86 yL_ignore, Cond.static yL_ignore]
def wsL_law0_r8 : List Cond := [Cond.codeWith yL_ignore cL_ignore 5 (some .int) [(0, 17, 20, 13)], Cond.methodLink RL 17 yX4_ignore, Cond.instanceMethod yX4_ignore, Cond.selects RX4 yX4_ignore yX4_ignore, Cond.code yX4_ignore cX4_ignore 4 (some .boolean), Cond.methodLink RL 89 yX5_ignore, Cond.instanceMethod yX5_ignore, Cond.selects RX5 yX5_ignore yX5_ignore, Cond.code yX5_ignore cX5_ignore 4 (some .boolean), Cond.methodLink RL 90 yL_standFor, Cond.static yL_standFor, Cond.codeWith yL_standFor cL_standFor 5 (some .int) [(0, 10, 13, 13), (0, 10, 17, 15)], Cond.methodLink RL 21 yX4_standFor, Cond.instanceMethod yX4_standFor, Cond.selects RX4 yX4_standFor yX4_standFor, Cond.code yX4_standFor cX4_standFor 4 (some .int), Cond.instanceMethod yX3_leadsTo, Cond.selects RX3 yX3_leadsTo yX3_leadsTo, Cond.code yX3_leadsTo cX3_leadsTo 5 (some .boolean), Cond.methodLink RL 93 yX5_standFor, Cond.instanceMethod yX5_standFor, Cond.selects RX5 yX5_standFor yX5_standFor, Cond.code yX5_standFor cX5_standFor 4 (some .int), Cond.methodLink RX5 84 yX5_leads]
def wsL_law0_r9 : List Cond := [Cond.instanceMethod yX5_leads, Cond.selects RX5 yX5_leads yX5_leads, Cond.code yX5_leads cX5_leads 6 (some .boolean), Cond.methodLink RL 94 yL_setDepth, Cond.static yL_setDepth, Cond.codeWith yL_setDepth cL_setDepth 4 (some .int) [(0, 9, 12, 13)], Cond.methodLink RL 25 yX4_setDepth, Cond.instanceMethod yX4_setDepth, Cond.selects RX4 yX4_setDepth yX4_setDepth, Cond.code yX4_setDepth cX4_setDepth 3 (some .int), Cond.methodLink RL 97 yX5_setDepth, Cond.instanceMethod yX5_setDepth, Cond.selects RX5 yX5_setDepth yX5_setDepth, Cond.code yX5_setDepth cX5_setDepth 3 (some .int), Cond.methodLink RL 98 yL_report, Cond.static yL_report, Cond.codeWith yL_report cL_report 9 (some .int) [(0, 18, 21, 13), (0, 18, 25, 15)], Cond.methodLink RL 29 yX4_report, Cond.instanceMethod yX4_report, Cond.selects RX4 yX4_report yX4_report, Cond.code yX4_report cX4_report 8 (some .int), Cond.methodLink RX4 100 yX4_mayFollow, Cond.static yX4_mayFollow, Cond.code yX4_mayFollow cX4_mayFollow 2 (some .boolean)]
def wsL_law0_r10 : List Cond := [Cond.instanceMethod yX2_add, Cond.selects RX2 yX2_add yX2_add, Cond.code yX2_add cX2_add 4 (some .int), Cond.instanceMethod yX2_setStack, Cond.selects RX2 yX2_setStack yX2_setStack, Cond.code yX2_setStack cX2_setStack 6 none, Cond.methodLink RL 101 yX5_report, Cond.instanceMethod yX5_report, Cond.selects RX5 yX5_report yX5_report, Cond.code yX5_report cX5_report 7 (some .int), Cond.fieldLink RX5 67 "CrashBucketsModel" "reports" "I", Cond.methodLink RX5 88 yX5_isNext, Cond.static yX5_isNext, Cond.code yX5_isNext cX5_isNext 2 (some .boolean), Cond.methodLink RL 102 yX4_reports, Cond.instanceMethod yX4_reports, Cond.selects RX4 yX4_reports yX4_reports, Cond.code yX4_reports cX4_reports 1 (some .int), Cond.methodLink RL 105 yX5_reports, Cond.instanceMethod yX5_reports, Cond.selects RX5 yX5_reports yX5_reports, Cond.code yX5_reports cX5_reports 1 (some .int), Cond.methodLink RL 106 yL_frame, Cond.static yL_frame]
def wsL_law0_r11 : List Cond := [Cond.codeWith yL_frame cL_frame 5 (some .int) [(0, 10, 13, 36), (0, 10, 17, 13)], Cond.classLink RL 36 "java/lang/IndexOutOfBoundsException", Cond.methodLink RL 33 yX4_frame, Cond.instanceMethod yX4_frame, Cond.selects RX4 yX4_frame yX4_frame, Cond.code yX4_frame cX4_frame 3 (some .int), Cond.methodLink RX4 122 yX4_checkReport, Cond.instanceMethod yX4_checkReport, Cond.selects RX4 yX4_checkReport yX4_checkReport, Cond.code yX4_checkReport cX4_checkReport 2 none, Cond.classLink RX4 162 "java/lang/IndexOutOfBoundsException", Cond.initialized "java/lang/IndexOutOfBoundsException", Cond.methodLink RL 108 yX5_frame, Cond.instanceMethod yX5_frame, Cond.selects RX5 yX5_frame yX5_frame, Cond.code yX5_frame cX5_frame 3 (some .int), Cond.methodLink RX5 91 yX5_isReport, Cond.instanceMethod yX5_isReport, Cond.selects RX5 yX5_isReport yX5_isReport, Cond.code yX5_isReport cX5_isReport 2 (some .boolean), Cond.methodLink RX5 94 yX5_frameOf, Cond.instanceMethod yX5_frameOf, Cond.selects RX5 yX5_frameOf yX5_frameOf, Cond.code yX5_frameOf cX5_frameOf 6 (some .int)]
def wsL_law0_r12 : List Cond := [Cond.methodLink RL 109 yL_matters, Cond.static yL_matters, Cond.codeWith yL_matters cL_matters 5 (some .int) [(0, 10, 13, 36), (0, 10, 17, 13)], Cond.methodLink RL 38 yX4_matters, Cond.instanceMethod yX4_matters, Cond.selects RX4 yX4_matters yX4_matters, Cond.code yX4_matters cX4_matters 3 (some .int), Cond.methodLink RL 111 yX5_matters, Cond.instanceMethod yX5_matters, Cond.selects RX5 yX5_matters yX5_matters, Cond.code yX5_matters cX5_matters 3 (some .int), Cond.methodLink RX5 101 yX5_keys, Cond.instanceMethod yX5_keys, Cond.selects RX5 yX5_keys yX5_keys, Cond.code yX5_keys cX5_keys 5 none, Cond.methodLink RX5 98 yX5_root, Cond.instanceMethod yX5_root, Cond.selects RX5 yX5_root yX5_root, Cond.code yX5_root cX5_root 3 (some .int), Cond.methodLink RL 112 yL_bucket, Cond.static yL_bucket, Cond.codeWith yL_bucket cL_bucket 4 (some .int) [(0, 9, 12, 36)], Cond.methodLink RL 41 yX4_bucket, Cond.instanceMethod yX4_bucket]
def wsL_law0_r13 : List Cond := [Cond.selects RX4 yX4_bucket yX4_bucket, Cond.code yX4_bucket cX4_bucket 2 (some .int), Cond.methodLink RL 114 yX5_bucket, Cond.instanceMethod yX5_bucket, Cond.selects RX5 yX5_bucket yX5_bucket, Cond.code yX5_bucket cX5_bucket 2 (some .int), Cond.methodLink RX5 108 yX5_names, Cond.instanceMethod yX5_names, Cond.selects RX5 yX5_names yX5_names, Cond.code yX5_names cX5_names 3 none, Cond.methodLink RX5 105 yX5_isSame, Cond.instanceMethod yX5_isSame, Cond.selects RX5 yX5_isSame yX5_isSame, Cond.code yX5_isSame cX5_isSame 5 (some .boolean), Cond.methodLink RL 115 yX4_buckets, Cond.instanceMethod yX4_buckets, Cond.selects RX4 yX4_buckets yX4_buckets, Cond.code yX4_buckets cX4_buckets 3 (some .int), Cond.instanceMethod yX1_isName, Cond.selects RX1 yX1_isName yX1_isName, Cond.code yX1_isName cX1_isName 2 (some .boolean), Cond.methodLink RL 118 yX5_buckets, Cond.instanceMethod yX5_buckets, Cond.selects RX5 yX5_buckets yX5_buckets]
def wsL_law0_r14 : List Cond := [Cond.code yX5_buckets cX5_buckets 3 (some .int), Cond.methodLink RL 119 yL_size, Cond.static yL_size, Cond.codeWith yL_size cL_size 4 (some .int) [(0, 9, 12, 36)], Cond.methodLink RL 44 yX4_size, Cond.instanceMethod yX4_size, Cond.selects RX4 yX4_size yX4_size, Cond.code yX4_size cX4_size 4 (some .int), Cond.methodLink RX4 139 yX4_countIn, Cond.instanceMethod yX4_countIn, Cond.selects RX4 yX4_countIn yX4_countIn, Cond.code yX4_countIn cX4_countIn 5 (some .int), Cond.methodLink RX4 170 yX4_isOf, Cond.instanceMethod yX4_isOf, Cond.selects RX4 yX4_isOf yX4_isOf, Cond.code yX4_isOf cX4_isOf 4 (some .boolean), Cond.methodLink RL 121 yX5_size, Cond.instanceMethod yX5_size, Cond.selects RX5 yX5_size yX5_size, Cond.code yX5_size cX5_size 4 (some .int), Cond.methodLink RL 122 yL_setSessions, Cond.static yL_setSessions, Cond.codeWith yL_setSessions cL_setSessions 5 (some .int) [(0, 10, 13, 13)], Cond.methodLink RL 47 yX4_setSessions]
def wsL_law0_r15 : List Cond := [Cond.instanceMethod yX4_setSessions, Cond.selects RX4 yX4_setSessions yX4_setSessions, Cond.code yX4_setSessions cX4_setSessions 4 (some .int), Cond.constant RX4 142 (1000000), Cond.methodLink RL 124 yX5_setSessions, Cond.instanceMethod yX5_setSessions, Cond.selects RX5 yX5_setSessions yX5_setSessions, Cond.code yX5_setSessions cX5_setSessions 4 (some .int), Cond.constant RX5 111 (1000000), Cond.methodLink RL 125 yL_setLimit, Cond.static yL_setLimit, Cond.codeWith yL_setLimit cL_setLimit 4 (some .int) [(0, 9, 12, 13)], Cond.methodLink RL 50 yX4_setLimit, Cond.instanceMethod yX4_setLimit, Cond.selects RX4 yX4_setLimit yX4_setLimit, Cond.code yX4_setLimit cX4_setLimit 3 (some .int), Cond.methodLink RL 127 yX5_setLimit, Cond.instanceMethod yX5_setLimit, Cond.selects RX5 yX5_setLimit yX5_setLimit, Cond.code yX5_setLimit cX5_setLimit 3 (some .int), Cond.methodLink RL 128 yL_rate, Cond.static yL_rate, Cond.codeWith yL_rate cL_rate 5 (some .int) [(0, 10, 13, 36), (0, 10, 17, 13)], Cond.methodLink RL 53 yX4_rate]
def wsL_law0_r16 : List Cond := [Cond.instanceMethod yX4_rate, Cond.selects RX4 yX4_rate yX4_rate, Cond.code yX4_rate cX4_rate 3 (some .int), Cond.methodLink RX4 143 yX4_rateOf, Cond.instanceMethod yX4_rateOf, Cond.selects RX4 yX4_rateOf yX4_rateOf, Cond.code yX4_rateOf cX4_rateOf 4 (some .int), Cond.methodLink RL 130 yX5_rate, Cond.instanceMethod yX5_rate, Cond.selects RX5 yX5_rate yX5_rate, Cond.code yX5_rate cX5_rate 3 (some .int), Cond.methodLink RX5 112 yX5_rateOf, Cond.instanceMethod yX5_rateOf, Cond.selects RX5 yX5_rateOf yX5_rateOf, Cond.code yX5_rateOf cX5_rateOf 5 (some .int), Cond.methodLink RL 131 yL_users, Cond.static yL_users, Cond.codeWith yL_users cL_users 5 (some .int) [(0, 10, 13, 36), (0, 10, 17, 13)], Cond.methodLink RL 56 yX4_users, Cond.instanceMethod yX4_users, Cond.selects RX4 yX4_users yX4_users, Cond.code yX4_users cX4_users 3 (some .int), Cond.methodLink RX4 146 yX4_usersOf, Cond.instanceMethod yX4_usersOf]
def wsL_law0_r17 : List Cond := [Cond.selects RX4 yX4_usersOf yX4_usersOf, Cond.code yX4_usersOf cX4_usersOf 5 (some .int), Cond.methodLink RX4 176 yJ6_bitCount_0f7a4, Cond.static yJ6_bitCount_0f7a4, Cond.initialized RJ6, Cond.code yJ6_bitCount_0f7a4 cJ6_bitCount_0f7a4 1 (some .int), Cond.constant RJ6 265 (1431655765), Cond.constant RJ6 266 (858993459), Cond.constant RJ6 267 (252645135), Cond.methodLink RL 133 yX5_users, Cond.instanceMethod yX5_users, Cond.selects RX5 yX5_users yX5_users, Cond.code yX5_users cX5_users 3 (some .int), Cond.methodLink RX5 115 yX5_usersOf, Cond.instanceMethod yX5_usersOf, Cond.selects RX5 yX5_usersOf yX5_usersOf, Cond.code yX5_usersOf cX5_usersOf 6 (some .int), Cond.methodLink RL 134 yL_gate, Cond.static yL_gate, Cond.codeWith yL_gate cL_gate 4 (some .int) [(0, 9, 12, 13)], Cond.methodLink RL 59 yX4_gate, Cond.instanceMethod yX4_gate, Cond.selects RX4 yX4_gate yX4_gate, Cond.code yX4_gate cX4_gate 6 (some .int)]
def wsL_law0_r18 : List Cond := [Cond.methodLink RL 136 yX5_gate, Cond.instanceMethod yX5_gate, Cond.selects RX5 yX5_gate yX5_gate, Cond.code yX5_gate cX5_gate 6 (some .int), Cond.methodLink RL 137 yL_worst, Cond.static yL_worst, Cond.codeWith yL_worst cL_worst 4 (some .int) [(0, 9, 12, 13)], Cond.methodLink RL 62 yX4_worst, Cond.instanceMethod yX4_worst, Cond.selects RX4 yX4_worst yX4_worst, Cond.code yX4_worst cX4_worst 6 (some .int), Cond.methodLink RL 139 yX5_worst, Cond.instanceMethod yX5_worst, Cond.selects RX5 yX5_worst yX5_worst, Cond.code yX5_worst cX5_worst 6 (some .int), Cond.methodLink RL 140 yL_fix, Cond.static yL_fix, Cond.codeWith yL_fix cL_fix 5 (some .int) [(0, 10, 13, 36), (0, 10, 17, 13)], Cond.methodLink RL 65 yX4_fix, Cond.instanceMethod yX4_fix, Cond.selects RX4 yX4_fix yX4_fix, Cond.code yX4_fix cX4_fix 4 (some .int), Cond.methodLink RL 142 yX5_fix, Cond.instanceMethod yX5_fix]
def wsL_law0_r19 : List Cond := [Cond.selects RX5 yX5_fix yX5_fix, Cond.code yX5_fix cX5_fix 4 (some .int), Cond.methodLink RL 143 yL_holds, Cond.static yL_holds, Cond.codeWith yL_holds cL_holds 4 (some .int) [(0, 16, 19, 36), (0, 16, 22, 15)], Cond.methodLink RL 68 yX4_holds, Cond.instanceMethod yX4_holds, Cond.selects RX4 yX4_holds yX4_holds, Cond.code yX4_holds cX4_holds 6 (some .boolean), Cond.methodLink RX4 154 yX4_greatestRateBefore, Cond.instanceMethod yX4_greatestRateBefore, Cond.selects RX4 yX4_greatestRateBefore yX4_greatestRateBefore, Cond.code yX4_greatestRateBefore cX4_greatestRateBefore 5 (some .int), Cond.methodLink RX4 182 Lib.Math.max.name, Cond.static Lib.Math.max.name, Cond.initialized "java/lang/Math", Cond.code Lib.Math.max.name Lib.Math.max.code 2 (some .int), Cond.methodLink RL 145 yX5_holds, Cond.instanceMethod yX5_holds, Cond.selects RX5 yX5_holds yX5_holds, Cond.code yX5_holds cX5_holds 6 (some .boolean)]
def wsL_law0 : List Cond := (wsL_law0_r1 ++ (wsL_law0_r2 ++ (wsL_law0_r3 ++ (wsL_law0_r4 ++ (wsL_law0_r5 ++ (wsL_law0_r6 ++ (wsL_law0_r7 ++ (wsL_law0_r8 ++ (wsL_law0_r9 ++ (wsL_law0_r10 ++ (wsL_law0_r11 ++ (wsL_law0_r12 ++ (wsL_law0_r13 ++ (wsL_law0_r14 ++ (wsL_law0_r15 ++ (wsL_law0_r16 ++ (wsL_law0_r17 ++ (wsL_law0_r18 ++ wsL_law0_r19)))))))))))))))))) ++ wsX40 ++ wsX50 ++ wsX00 ++ wsX30 ++ wsX20 ++ wsX10 ++ ([] : List Cond)
def wsL_law : List Cond := wsL_law0 ++ (vx_atS RX4 61 "java/lang/IllegalStateException" ["java/lang/RuntimeException", "java/lang/Exception"]).filter goodWord ++ (vx_atS RX4 161 "java/lang/IllegalArgumentException" ["java/lang/RuntimeException", "java/lang/Exception"]).filter goodWord ++ (vx_atS RX4 166 "java/lang/IndexOutOfBoundsException" ["java/lang/RuntimeException", "java/lang/Exception"]).filter goodWord
abbrev vwCl : List vw_C := [(RX0, TX0, 4), (RX1, TX1, 4), (RX2, TX2, 5), (RX3, TX3, 3), (RX4, TX4, 6), (RX5, TX5, 18)]
end
section
/-! ===== the heap in my words: a value tau tag row place : Int32 for every int field and array; tags 0 to 25 the class, 30 to 44 the reference, 50 the law's out ===== -/
abbrev xG : Type := va_G × ClassId × ClassId × ClassId × ClassId
abbrev xS : Type := Nat → Nat → Nat → Int32
abbrev xAd : Type := Nat → Nat → Nat
abbrev xNL : Type := List (Nat × Nat)
def xT (g : xG) : List (ClassId × FieldType) := [(g.2.1, .int), (g.2.2.1, .boolean), (g.2.2.2.1, .array .int), (g.2.2.2.2, .long)]
def xIa (g : xG) (n : Nat) (r : Nat → Int32) : va_E := .inl (g.2.1, n, .inl r)
def xZa (g : xG) (n : Nat) (r : Nat → Int32) : va_E := .inl (g.2.2.1, n, .inl r)
def xRa (g : xG) (n : Nat) (f : Nat → Nat) : va_E := .inl (g.2.2.2.1, n, .inr (.inr (.inr (.inr (fun j => some (f j))))))
def xLa (g : xG) (n : Nat) (r : Nat → Int32) : va_E := .inl (g.2.2.2.2, n, .inr (.inl (fun j => (r j).toInt64)))
def xB (g : xG) (a : xAd) (t : Nat) (r : Nat → Int32) : va_E := match t with
  | 0 => .inr (4, [.ref (a 1 0), .ref (a 2 0), .ref (a 3 0), .ref (a 4 0), .ref (a 5 0), .int (r 0)])
  | 1 => .inr (0, [.ref (a 6 0), .ref (a 7 0), .ref (a 8 0), .ref (a 9 0)])
  | 2 => .inr (3, [.ref (a 10 0), .ref (a 11 0), .int (r 0)])
  | 3 => .inr (2, [.int (r 0), .ref (a 12 0), .ref (a 13 0), .ref (a 14 0), .ref (a 15 0)])
  | 4 => .inr (1, [.ref (a 16 0), .ref (a 17 0), .ref (a 18 0), .ref (a 19 0)])
  | 5 => xIa g 4 r
  | 6 => xIa g 4 r
  | 7 => xRa g 4 (a 20)
  | 8 => xRa g 4 (a 21)
  | 9 => xRa g 4 (a 22)
  | 10 => xZa g 30 r
  | 11 => xIa g 30 r
  | 12 => xIa g 60 r
  | 13 => xIa g 60 r
  | 14 => xRa g 60 (a 23)
  | 15 => xIa g 60 r
  | 16 => xRa g 60 (a 24)
  | 17 => xRa g 60 (a 25)
  | 18 => xIa g 60 r
  | 19 => xIa g 60 r
  | 20 => xIa g 30 r
  | 21 => xIa g 30 r
  | 22 => xIa g 30 r
  | 23 => xIa g 4 r
  | 24 => xIa g 4 r
  | 25 => xIa g 4 r
  | 30 => .inr (5, [.int (r 0), .ref (a 31 0), .ref (a 32 0), .ref (a 33 0), .ref (a 34 0), .ref (a 35 0), .ref (a 36 0), .int (r 1), .int (r 2), .ref (a 37 0), .ref (a 38 0), .ref (a 39 0), .ref (a 40 0), .ref (a 41 0), .int (r 3), .ref (a 42 0), .ref (a 43 0), .ref (a 44 0)])
  | 31 => xIa g 4 r
  | 32 => xIa g 120 r
  | 33 => xIa g 120 r
  | 34 => xIa g 120 r
  | 35 => xZa g 30 r
  | 36 => xIa g 30 r
  | 37 => xIa g 60 r
  | 38 => xIa g 60 r
  | 39 => xIa g 240 r
  | 40 => xIa g 60 r
  | 41 => xIa g 4 r
  | 42 => xIa g 60 r
  | 43 => xIa g 240 r
  | 44 => xZa g 20 r
  | _ => xLa g 1 r
def xwf (f : Nat → (Nat → Int32) → va_E) (NL : xNL) (a : xAd) (σ : xS) : va_W := NL.map (fun n => (a n.1 n.2, f n.1 (σ n.1 n.2)))
abbrev xw (NL : xNL) (g : xG) (a : xAd) (σ : xS) : va_W := xwf (xB g a) NL a σ
def upR (σ : xS) (t i : Nat) (r : Nat → Int32) : xS := fun t' i' => if t' = t ∧ i' = i then r else σ t' i'
def up3 (σ : xS) (t i j : Nat) (v : Int32) : xS := upR σ t i (upd (σ t i) j v)
theorem upR_self {σ : xS} {t i : Nat} {r : Nat → Int32} : upR σ t i r t i = r := by simp [upR]
theorem upR_ne {σ : xS} {t i t' i' : Nat} {r : Nat → Int32} (h : ¬ (t' = t ∧ i' = i)) : upR σ t i r t' i' = σ t' i' := by simp [upR, h]
theorem up3_self {σ : xS} {t i j : Nat} {v : Int32} : up3 σ t i j v t i j = v := by simp [up3, upR, upd]
theorem up3_ne {σ : xS} {t i j t' i' j' : Nat} {v : Int32} (h : ¬ (t' = t ∧ i' = i ∧ j' = j)) : up3 σ t i j v t' i' j' = σ t' i' j' := by
  unfold up3 upR
  by_cases h1 : t' = t ∧ i' = i
  · have h2 : j' ≠ j := fun e => h ⟨h1.1, h1.2, e⟩
    obtain ⟨rfl, rfl⟩ := h1
    simp [upd, h2]
  · simp [h1]
theorem up3_at (σ : xS) (t i j : Nat) (v : Int32) (t' i' j' : Nat) : up3 σ t i j v t' i' j' = if t' = t ∧ i' = i ∧ j' = j then v else σ t' i' j' := by
  by_cases h : t' = t ∧ i' = i ∧ j' = j
  · obtain ⟨rfl, rfl, rfl⟩ := h
    simp [up3_self]
  · rw [up3_ne h, if_neg h]
/-- the addresses are apart -/
def xDj (NL : xNL) (a : xAd) : Prop := ∀ (i j : Nat) (p q : Nat × Nat), NL[i]? = some p → NL[j]? = some q → a p.1 p.2 = a q.1 q.2 → i = j
def xA (NL : xNL) (a : xAd) (sz : Nat) : Nat → Prop := fun q => (∃ n ∈ NL, a n.1 n.2 = q) ∨ sz ≤ q
section XWF
variable {f : Nat → (Nat → Int32) → va_E} {NL NL' : xNL} {a : xAd} {σ τ : xS} {cl : List vw_C} {D : va_G} {H H1 : Heap}
theorem xwf_at {k : Nat} {n : Nat × Nat} (h : NL[k]? = some n) : (xwf f NL a σ)[k]? = some (a n.1 n.2, f n.1 (σ n.1 n.2)) := by
  unfold xwf
  rw [List.getElem?_map, h]
  rfl
theorem xwf_of {k : Nat} {q : Nat × va_E} (h : (xwf f NL a σ)[k]? = some q) : ∃ n, NL[k]? = some n ∧ q = (a n.1 n.2, f n.1 (σ n.1 n.2)) := by
  unfold xwf at h
  rw [List.getElem?_map] at h
  cases hn : NL[k]? with
  | none => rw [hn] at h; cases h
  | some n => rw [hn] at h; cases h; exact ⟨n, rfl, rfl⟩
theorem xwf_get {t i : Nat} (f : Nat → (Nat → Int32) → va_E) (a : xAd) (σ : xS) (h : (t, i) ∈ NL) : ∃ k : Nat, NL[k]? = some (t, i) ∧ (xwf f NL a σ)[k]? = some (a t i, f t (σ t i)) := by
  obtain ⟨k, hk⟩ := List.getElem?_of_mem h
  exact ⟨k, hk, xwf_at hk⟩
theorem xwf_D {A : Nat → Prop} (hj : xDj NL a) (hA : ∀ n ∈ NL, A (a n.1 n.2)) : va_D A (xwf f NL a σ) := by
  refine ⟨fun i j p q hp hq e => ?_, fun k q hk => ?_⟩
  · obtain ⟨n, h1, rfl⟩ := xwf_of hp
    obtain ⟨n', h2, rfl⟩ := xwf_of hq
    exact hj i j n n' h1 h2 e
  · obtain ⟨n, h1, rfl⟩ := xwf_of hk
    exact hA n (List.mem_of_getElem? h1)
theorem xwf_set {k t i : Nat} {r : Nat → Int32} (hj : xDj NL a) (hk : NL[k]? = some (t, i)) : (xwf f NL a σ).set k (a t i, f t r) = xwf f NL a (upR σ t i r) := by
  apply List.ext_getElem?
  intro k'
  by_cases hkk : k' = k
  · subst hkk
    have h1 : (xwf f NL a σ)[k']? = some (a t i, f t (σ t i)) := xwf_at hk
    have hl : k' < (xwf f NL a σ).length := (List.getElem?_eq_some_iff.mp h1).1
    have h2 : (xwf f NL a (upR σ t i r))[k']? = some (a t i, f t (upR σ t i r t i)) := xwf_at hk
    rw [List.getElem?_set_self hl, h2, upR_self]
  · rw [List.getElem?_set_ne (Ne.symm hkk)]
    cases hn : NL[k']? with
    | none =>
      unfold xwf
      rw [List.getElem?_map, List.getElem?_map, hn]
      rfl
    | some n =>
      rw [xwf_at hn, xwf_at hn]
      have hne : ¬ (n.1 = t ∧ n.2 = i) := fun e => hkk (by
        obtain ⟨e1, e2⟩ := e
        exact hj k' k n (t, i) hn hk (by rw [e1, e2]))
      rw [upR_ne hne]
theorem xwf_sub (hP : va_P D cl (xwf f NL a σ) H) (h : ∀ n ∈ NL', n ∈ NL) : va_P D cl (xwf f NL' a σ) H := by
  intro k q hk
  obtain ⟨n, h1, rfl⟩ := xwf_of hk
  obtain ⟨k', -, h3⟩ := xwf_get (t := n.1) (i := n.2) f a σ (h n (List.mem_of_getElem? h1))
  exact hP k' _ h3
theorem xwf_congr (h : ∀ n ∈ NL, σ n.1 n.2 = τ n.1 n.2) : xwf f NL a σ = xwf f NL a τ := by
  unfold xwf
  apply List.map_congr_left
  intro n hn
  rw [h n hn]
theorem xwf_kept (hP : va_P D cl (xwf f NL a σ) H) (hk : ∀ q : Nat, q < H.size → ¬ xA NL' a H.size q → H1[q]? = H[q]?) (hd : ∀ n ∈ NL, ∀ n' ∈ NL', a n.1 n.2 ≠ a n'.1 n'.2) : va_P D cl (xwf f NL a σ) H1 := by
  refine hP.kept (fun k q hq => ?_)
  have hl := (hP k q hq).lt
  obtain ⟨n, h1, rfl⟩ := xwf_of hq
  refine hk _ hl (fun h => ?_)
  rcases h with ⟨n', h2, e⟩ | h
  · exact hd n (List.mem_of_getElem? h1) n' h2 e.symm
  · have : a n.1 n.2 < H.size := hl
    omega
end XWF
/-- the words of nest mates' fields and methods: premises of every contract -/
def xNs : List Cond := [.fieldLinkNest RX4 82 RX0 "counts" "[I" RX4, .fieldLinkNest RX4 85 RX3 "ignored" "[Z" RX4, .fieldLinkNest RX1 65 RX3 "ignored" "[Z" RX4, .fieldLinkNest RX4 94 RX3 "standsFor" "[I" RX4, .fieldLinkNest RX4 97 RX3 "depth" "I" RX4, .fieldLinkNest RX1 60 RX3 "depth" "I" RX4, .fieldLinkNest RX1 26 RX2 "count" "I" RX4, .fieldLinkNest RX4 103 RX2 "count" "I" RX4, .fieldLinkNest RX1 32 RX2 "versions" "[I" RX4, .fieldLinkNest RX4 167 RX2 "versions" "[I" RX4, .fieldLinkNest RX4 173 RX2 "reporters" "[I" RX4, .fieldLinkNest RX1 39 RX2 "stacks" "[[I" RX4, .fieldLinkNest RX4 149 RX2 "fixedFrom" "[I" RX4, .fieldLinkNest RX4 126 RX1 "frames" "[[I" RX4, .fieldLinkNest RX4 130 RX1 "mattering" "[[I" RX4, .fieldLinkNest RX4 133 RX1 "names" "[I" RX4]
def xMs : List (String × Nat × MethodName) := [(RX4, 136, yX1_isName), (RX4, 53, yX0_isFull), (RX4, 64, yX0_overlaps), (RX4, 70, yX0_add), (RX4, 74, yX1_readStacksOf), (RX1, 42, yX0_functionAt), (RX4, 78, yX1_sortAll), (RX1, 69, yX3_inTheEnd), (RX4, 89, yX3_leadsTo), (RX4, 108, yX2_add), (RX4, 111, yX2_setStack), (RX4, 115, yX1_readStack), (RX4, 118, yX1_sort), (RX4, 9, yX0_init), (RX4, 18, yX3_init), (RX4, 25, yX2_init), (RX4, 32, yX1_init)]
def xN (U : State) : Prop := (∀ w ∈ xNs, va_Nw w U) ∧ ∀ q ∈ xMs, va_Nw (.methodLinkNest q.1 q.2.1 q.2.2 RX4) U
theorem xN.warm {s U : State} (hW : s.WarmedH U.vm) (h : xN s) : xN U := by
  refine ⟨?_, fun q hq => va_Nw.warmM hW (h.2 q hq)⟩
  unfold xNs
  simp only [List.forall_mem_cons]
  have h1 := h.1
  unfold xNs at h1
  simp only [List.forall_mem_cons] at h1
  obtain ⟨a1, a2, a3, a4, a5, a6, a7, a8, a9, b1, b2, b3, b4, b5, b6, b7, -⟩ := h1
  exact ⟨va_Nw.warmF hW a1, va_Nw.warmF hW a2, va_Nw.warmF hW a3, va_Nw.warmF hW a4, va_Nw.warmF hW a5, va_Nw.warmF hW a6, va_Nw.warmF hW a7, va_Nw.warmF hW a8, va_Nw.warmF hW a9, va_Nw.warmF hW b1, va_Nw.warmF hW b2, va_Nw.warmF hW b3, va_Nw.warmF hW b4, va_Nw.warmF hW b5, va_Nw.warmF hW b6, va_Nw.warmF hW b7, fun _ h => nomatch h⟩
theorem xN.same {s U : State} (hv : s.vm = U.vm) (h : xN s) : xN U := by
  refine ⟨?_, fun q hq => va_Nw.same rfl hv (h.2 q hq)⟩
  unfold xNs
  simp only [List.forall_mem_cons]
  have h1 := h.1
  unfold xNs at h1
  simp only [List.forall_mem_cons] at h1
  obtain ⟨a1, a2, a3, a4, a5, a6, a7, a8, a9, b1, b2, b3, b4, b5, b6, b7, -⟩ := h1
  exact ⟨va_Nw.same rfl hv a1, va_Nw.same rfl hv a2, va_Nw.same rfl hv a3, va_Nw.same rfl hv a4, va_Nw.same rfl hv a5, va_Nw.same rfl hv a6, va_Nw.same rfl hv a7, va_Nw.same rfl hv a8, va_Nw.same rfl hv a9, va_Nw.same rfl hv b1, va_Nw.same rfl hv b2, va_Nw.same rfl hv b3, va_Nw.same rfl hv b4, va_Nw.same rfl hv b5, va_Nw.same rfl hv b6, va_Nw.same rfl hv b7, fun _ h => nomatch h⟩
/-- what a method is called in -/
def xPre (NL : xNL) (g : xG) (a : xAd) (σ : xS) (U : State) : Prop := va_P g.1 vwCl (xw NL g a σ) U.heap ∧ va_K g.1 vwCl (xT g) U ∧ xN U ∧ xDj NL a
/-- what stands through a method's body -/
def xC (p : Program) (s : State) (m : MethodId) (args : Array Value) (c : Code) (cc : ByteArray) (nL : Nat) (Ts : List Cond) (own : String) (NL : xNL) (g : xG) (a : xAd) (A : Nat → Prop) : Prop :=
  CallFix p m c cc nL s args Ts own ∧ va_K g.1 vwCl (xT g) s ∧ xN s ∧ xDj NL a ∧ (∀ n ∈ NL, A (a n.1 n.2)) ∧ ∀ q, s.heap.size ≤ q → A q
theorem xFB {As : List Value} {NL : xNL} {g : xG} {a : xAd} {σ : xS} : FrameBlind (va_Pc As (xPre NL g a σ)) := fun v U g' mk q => by
  obtain ⟨q0, q1, q2, q3, q4⟩ := q
  exact ⟨q0, q1, va_K.moved (u := U) (U := U.calling g' mk v) (Vm.Alike.refl U.vm) q2, xN.same (s := U) (U := U.calling g' mk v) rfl q3, q4⟩
theorem xFBs {As : List Value} {NL : xNL} {g : xG} {a : xAd} {σ : xS} {sz : Nat} : FrameBlind (va_Pc As (fun U => U.heap.size = sz ∧ xPre NL g a σ U)) := fun v U g' mk q => by
  obtain ⟨q0, q9, q1, q2, q3, q4⟩ := q
  exact ⟨q0, q9, q1, va_K.moved (u := U) (U := U.calling g' mk v) (Vm.Alike.refl U.vm) q2, xN.same (s := U) (U := U.calling g' mk v) rfl q3, q4⟩
end
section
section XROWS
variable {p : Program} {l : Launch} {e : Env} {R : Room} {s : State} {m : MethodId} {args : Array Value} {below : List Frame} {meth : Method} {c : Code} {H : Heap} {locs : List Loc} {cells slots : Nat} {Q : State → Prop}
variable {cc : ByteArray} {pc nL : Nat} {ls : Array Slot} {rest : List Value} {Ts : List Cond} {own : String} {NL : xNL} {g : xG} {a : xAd} {A : Nat → Prop} {σ : xS}
theorem xC.hx (C0 : xC p s m args c cc nL Ts own NL g a A) : p.tables.exec = Jvm.exec := C0.1.1
theorem xC.hb (C0 : xC p s m args c cc nL Ts own NL g a A) : c.code = cc := C0.1.2.1
theorem xC.hts (C0 : xC p s m args c cc nL Ts own NL g a A) : ∀ w ∈ Ts, w.before args s = true := C0.1.2.2.2.2
theorem xC.hK (C0 : xC p s m args c cc nL Ts own NL g a A) : va_K g.1 vwCl (xT g) s := C0.2.1
theorem xC.hD (C0 : xC p s m args c cc nL Ts own NL g a A) (σ : xS) : va_D A (xw NL g a σ) := xwf_D C0.2.2.2.1 C0.2.2.2.2.1
/-- a field is read -/
theorem x_get (C0 : xC p s m args c cc nL Ts own NL g a A) (hP : va_P g.1 vwCl (xw NL g a σ) H) (t : Nat) {i : Nat} (hm : (t, i) ∈ NL) {ci N : Nat} {T : u_T} {C : String} {fs : List Value} (he : xB g a t (σ t i) = .inr (ci, fs)) (hc : vwCl[ci]? = some (C, T, N)) (k : Nat) (hk : k < N) (hin : ∀ w ∈ u_ws C T N, w ∈ Ts) {index : Nat} (hlink : Cond.fieldLink own index C (T k).2.1 (T k).2.2.1 ∈ Ts) (hdecl : (T k).1 = C) {v : Value} (hv : fs[k]? = some v) (hdg : decode cc pc = .ok (.getfield index, 3))
    (kk : W p l e R s m args below meth c H locs cells slots Q (F0 m (pc + 3) ls (v :: rest))) : W p l e R s m args below meth c H locs cells slots Q (F0 m pc ls (.ref (a t i) :: rest)) := by
  obtain ⟨q0, -, h2⟩ := xwf_get (xB g a) a σ hm
  rw [he] at h2
  exact va_get C0.hx C0.hb C0.hts hin C0.1.2.2.2.1 C0.hK hP q0 h2 hc k hk (C0.hts _ hlink) (fun x h => by rw [hdecl] at h; exact h) hv hdg kk
theorem x_getN (C0 : xC p s m args c cc nL Ts own NL g a A) (hP : va_P g.1 vwCl (xw NL g a σ) H) (t : Nat) {i : Nat} (hm : (t, i) ∈ NL) {ci N : Nat} {T : u_T} {C : String} {fs : List Value} (he : xB g a t (σ t i) = .inr (ci, fs)) (hc : vwCl[ci]? = some (C, T, N)) (k : Nat) (hk : k < N) (hin : ∀ w ∈ u_ws C T N, w ∈ Ts) {index : Nat} (hlink : Cond.fieldLinkNest own index C (T k).2.1 (T k).2.2.1 RX4 ∈ xNs) (hdecl : (T k).1 = C) {v : Value} (hv : fs[k]? = some v) (hdg : decode cc pc = .ok (.getfield index, 3))
    (kk : W p l e R s m args below meth c H locs cells slots Q (F0 m (pc + 3) ls (v :: rest))) : W p l e R s m args below meth c H locs cells slots Q (F0 m pc ls (.ref (a t i) :: rest)) := by
  obtain ⟨q0, -, h2⟩ := xwf_get (xB g a) a σ hm
  rw [he] at h2
  exact va_getN C0.hx C0.hb C0.hts hin C0.1.2.2.2.1 C0.hK hP q0 h2 hc k hk (va_Nw.use rfl (C0.2.2.1.1 _ hlink)) (fun x h => by rw [hdecl] at h; exact h) hv hdg kk
/-- an int field is written -/
theorem x_put (C0 : xC p s m args c cc nL Ts own NL g a A) (hP : va_P g.1 vwCl (xw NL g a σ) H) (hS : va_S A s.heap H locs) (t : Nat) {i : Nat} (hm : (t, i) ∈ NL) {ci N : Nat} {T : u_T} {C : String} {fs : List Value} (he : xB g a t (σ t i) = .inr (ci, fs)) (hc : vwCl[ci]? = some (C, T, N)) (ty0 : Nat → FieldType) (hty : ∀ k, k < N → parseFieldDescriptor (T k).2.2.1 = some (ty0 k)) (hnm : ∀ a, a < N → ∀ b, b < N → a ≠ b → (T a).2.1 ≠ (T b).2.1) (k : Nat) (hk : k < N) (hin : ∀ w ∈ u_ws C T N, w ∈ Ts) {index : Nat} (hlink : Cond.fieldLink own index C (T k).2.1 (T k).2.2.1 ∈ Ts) (hdecl : (T k).1 = C) (hfin : (T k).2.2.2 = false) (j : Nat) {v : Int32} (hd : parseFieldDescriptor (T k).2.2.1 = some .int) (hl : k < fs.length) (hup : (.inr (ci, fs.set k (.int v)) : va_E) = xB g a t (upd (σ t i) j v)) (hdg : decode cc pc = .ok (.putfield index, 3))
    (kk : ∀ (H1 : Heap) (locs1 : List Loc), va_P g.1 vwCl (xw NL g a (up3 σ t i j v)) H1 → va_S A s.heap H1 locs1 → W p l e R s m args below meth c H1 locs1 cells slots Q (F0 m (pc + 3) ls rest)) : W p l e R s m args below meth c H locs cells slots Q (F0 m pc ls (.int v :: .ref (a t i) :: rest)) := by
  obtain ⟨q0, h1, h2⟩ := xwf_get (xB g a) a σ hm
  rw [he] at h2
  refine va_put C0.hx C0.hb C0.hts hin ty0 hty hnm C0.1.2.2.2.1 C0.hK hP (C0.hD σ) hS q0 h2 hc k hk (C0.hts _ hlink) (fun x h => by rw [hdecl] at h; exact h) hfin hd rfl rfl hl hdg (fun H1 locs1 q1 q2 q3 => ?_)
  rw [hup, xwf_set C0.2.2.2.1 h1] at q1
  exact kk H1 locs1 q1 q3
theorem x_putN (C0 : xC p s m args c cc nL Ts own NL g a A) (hP : va_P g.1 vwCl (xw NL g a σ) H) (hS : va_S A s.heap H locs) (t : Nat) {i : Nat} (hm : (t, i) ∈ NL) {ci N : Nat} {T : u_T} {C : String} {fs : List Value} (he : xB g a t (σ t i) = .inr (ci, fs)) (hc : vwCl[ci]? = some (C, T, N)) (ty0 : Nat → FieldType) (hty : ∀ k, k < N → parseFieldDescriptor (T k).2.2.1 = some (ty0 k)) (hnm : ∀ a, a < N → ∀ b, b < N → a ≠ b → (T a).2.1 ≠ (T b).2.1) (k : Nat) (hk : k < N) (hin : ∀ w ∈ u_ws C T N, w ∈ Ts) {index : Nat} (hlink : Cond.fieldLinkNest own index C (T k).2.1 (T k).2.2.1 RX4 ∈ xNs) (hdecl : (T k).1 = C) (hfin : (T k).2.2.2 = false) (j : Nat) {v : Int32} (hd : parseFieldDescriptor (T k).2.2.1 = some .int) (hl : k < fs.length) (hup : (.inr (ci, fs.set k (.int v)) : va_E) = xB g a t (upd (σ t i) j v)) (hdg : decode cc pc = .ok (.putfield index, 3))
    (kk : ∀ (H1 : Heap) (locs1 : List Loc), va_P g.1 vwCl (xw NL g a (up3 σ t i j v)) H1 → va_S A s.heap H1 locs1 → W p l e R s m args below meth c H1 locs1 cells slots Q (F0 m (pc + 3) ls rest)) : W p l e R s m args below meth c H locs cells slots Q (F0 m pc ls (.int v :: .ref (a t i) :: rest)) := by
  obtain ⟨q0, h1, h2⟩ := xwf_get (xB g a) a σ hm
  rw [he] at h2
  refine va_putN C0.hx C0.hb C0.hts hin ty0 hty hnm C0.1.2.2.2.1 C0.hK hP (C0.hD σ) hS q0 h2 hc k hk (va_Nw.use rfl (C0.2.2.1.1 _ hlink)) (fun x h => by rw [hdecl] at h; exact h) hfin hd rfl rfl hl hdg (fun H1 locs1 q1 q2 q3 => ?_)
  rw [hup, xwf_set C0.2.2.2.1 h1] at q1
  exact kk H1 locs1 q1 q3
theorem x_vpin {j n : Nat} (hj : j < n) (hn : n < 2 ^ 31) : vp_in (nI j) n := vp_in_nI hj hn
/-- a place of an array of ints, by its number -/
theorem x_iald (C0 : xC p s m args c cc nL Ts own NL g a A) (hP : va_P g.1 vwCl (xw NL g a σ) H) (t : Nat) {i : Nat} (j n : Nat) (hm : (t, i) ∈ NL) (he : xB g a t (σ t i) = xIa g n (σ t i)) (hj : j < n) (hn : n < 2 ^ 31) (hdg : decode cc pc = .ok (.iaload, 1))
    (kk : W p l e R s m args below meth c H locs cells slots Q (F0 m (pc + 1) ls (.int (σ t i j) :: rest))) : W p l e R s m args below meth c H locs cells slots Q (F0 m pc ls (.int (nI j) :: .ref (a t i) :: rest)) := by
  obtain ⟨q0, -, h2⟩ := xwf_get (xB g a) a σ hm
  rw [he] at h2
  refine va_iald C0.hx C0.hb C0.hK hP q0 0 h2 rfl (x_vpin hj hn) hdg ?_
  rw [nI_clamp (Nat.lt_trans hj hn)]
  exact kk
theorem x_zald (C0 : xC p s m args c cc nL Ts own NL g a A) (hP : va_P g.1 vwCl (xw NL g a σ) H) (t : Nat) {i : Nat} (j n : Nat) (hm : (t, i) ∈ NL) (he : xB g a t (σ t i) = xZa g n (σ t i)) (hj : j < n) (hn : n < 2 ^ 31) (hdg : decode cc pc = .ok (.baload, 1))
    (kk : W p l e R s m args below meth c H locs cells slots Q (F0 m (pc + 1) ls (.int (σ t i j) :: rest))) : W p l e R s m args below meth c H locs cells slots Q (F0 m pc ls (.int (nI j) :: .ref (a t i) :: rest)) := by
  obtain ⟨q0, -, h2⟩ := xwf_get (xB g a) a σ hm
  rw [he] at h2
  refine va_zald C0.hx C0.hb C0.hK hP q0 1 h2 rfl (x_vpin hj hn) hdg ?_
  rw [nI_clamp (Nat.lt_trans hj hn)]
  exact kk
/-- a row of an array of arrays -/
theorem x_aald (C0 : xC p s m args c cc nL Ts own NL g a A) (hP : va_P g.1 vwCl (xw NL g a σ) H) (t : Nat) {i : Nat} (j n u : Nat) (hm : (t, i) ∈ NL) (he : xB g a t (σ t i) = xRa g n (a u)) (hj : j < n) (hn : n < 2 ^ 31) (hdg : decode cc pc = .ok (.aaload, 1))
    (kk : W p l e R s m args below meth c H locs cells slots Q (F0 m (pc + 1) ls (.ref (a u j) :: rest))) : W p l e R s m args below meth c H locs cells slots Q (F0 m pc ls (.int (nI j) :: .ref (a t i) :: rest)) := by
  obtain ⟨q0, -, h2⟩ := xwf_get (xB g a) a σ hm
  rw [he] at h2
  have hin := x_vpin hj hn
  have hcl : (nI j).toNatClampNeg = j := nI_clamp (Nat.lt_trans hj hn)
  have hlt : (nI j).toNatClampNeg < n := by rw [hcl]; exact hj
  exact W.aald (v := .ref (a u j)) (ty := .array .int) C0.hx C0.hb (hP q0 _ h2) ((C0.hK.2 2 _ rfl).1 n (fun j => va_rf (some (a u j)))) rfl (fun q => by cases q) (by show ¬ (nI j < 0 ∨ (arrV _ _ _).slots.size ≤ _); rw [arrV_size]; exact hin) (by show (arrV _ _ _).slots[_]? = _; rw [arrV_read _ _ hlt, hcl]; rfl) rfl rfl hdg kk
theorem x_iast (C0 : xC p s m args c cc nL Ts own NL g a A) (hP : va_P g.1 vwCl (xw NL g a σ) H) (hS : va_S A s.heap H locs) (t : Nat) {i : Nat} (j n : Nat) {v : Int32} (hm : (t, i) ∈ NL) (he : ∀ r, xB g a t r = xIa g n r) (hj : j < n) (hn : n < 2 ^ 31) (hdg : decode cc pc = .ok (.iastore, 1))
    (kk : ∀ (H1 : Heap) (locs1 : List Loc), va_P g.1 vwCl (xw NL g a (up3 σ t i j v)) H1 → va_S A s.heap H1 locs1 → W p l e R s m args below meth c H1 locs1 cells slots Q (F0 m (pc + 1) ls rest)) : W p l e R s m args below meth c H locs cells slots Q (F0 m pc ls (.int v :: .int (nI j) :: .ref (a t i) :: rest)) := by
  obtain ⟨q0, h1, h2⟩ := xwf_get (xB g a) a σ hm
  rw [he] at h2
  refine va_iast C0.hx C0.hb C0.hK hP (C0.hD σ) hS q0 0 h2 rfl (x_vpin hj hn) hdg (fun H1 locs1 q1 q2 q3 => ?_)
  rw [nI_clamp (Nat.lt_trans hj hn)] at q1
  have e9 : (Sum.inl (g.2.1, n, Sum.inl (upd (σ t i) j v)) : va_E) = xB g a t (upd (σ t i) j v) := (he _).symm
  first
    | rw [e9, xwf_set C0.2.2.2.1 h1] at q1
      exact kk H1 locs1 q1 q3
    | (have e8 : vp_nar .int v = v := rfl
       rw [e8, e9, xwf_set C0.2.2.2.1 h1] at q1
       exact kk H1 locs1 q1 q3)
theorem x_zast (C0 : xC p s m args c cc nL Ts own NL g a A) (hP : va_P g.1 vwCl (xw NL g a σ) H) (hS : va_S A s.heap H locs) (t : Nat) {i : Nat} (j n : Nat) {v : Int32} (hv : v = 0 ∨ v = 1) (hm : (t, i) ∈ NL) (he : ∀ r, xB g a t r = xZa g n r) (hj : j < n) (hn : n < 2 ^ 31) (hdg : decode cc pc = .ok (.bastore, 1))
    (kk : ∀ (H1 : Heap) (locs1 : List Loc), va_P g.1 vwCl (xw NL g a (up3 σ t i j v)) H1 → va_S A s.heap H1 locs1 → W p l e R s m args below meth c H1 locs1 cells slots Q (F0 m (pc + 1) ls rest)) : W p l e R s m args below meth c H locs cells slots Q (F0 m pc ls (.int v :: .int (nI j) :: .ref (a t i) :: rest)) := by
  obtain ⟨q0, h1, h2⟩ := xwf_get (xB g a) a σ hm
  rw [he] at h2
  refine va_zast C0.hx C0.hb C0.hK hP (C0.hD σ) hS q0 1 h2 rfl (x_vpin hj hn) hdg (fun H1 locs1 q1 q2 q3 => ?_)
  rw [nI_clamp (Nat.lt_trans hj hn)] at q1
  have e8 : vp_nar .boolean v = v := by rcases hv with rfl | rfl <;> rfl
  have e9 : (Sum.inl (g.2.2.1, n, Sum.inl (upd (σ t i) j v)) : va_E) = xB g a t (upd (σ t i) j v) := (he _).symm
  rw [e8, e9, xwf_set C0.2.2.2.1 h1] at q1
  exact kk H1 locs1 q1 q3
/-- the top of the stack by another name -/
theorem x_top {x y : Int32} (h : x = y) (k : W p l e R s m args below meth c H locs cells slots Q (F0 m pc ls (.int y :: rest))) : W p l e R s m args below meth c H locs cells slots Q (F0 m pc ls (.int x :: rest)) := h ▸ k
/-- compares of two numbers that are small -/
theorem x_icmp_lt (hexec : p.tables.exec = Jvm.exec) (hb : c.code = cc) {x y : Nat} {off : Int} {tgt : Nat} (hx : x < 2 ^ 31) (hy : y < 2 ^ 31) (hdg : decode cc pc = .ok (.if_icmp .lt off, 3)) (ht : (pc : Int) + off = (tgt : Int))
    (kt : x < y → W p l e R s m args below meth c H locs cells slots Q (F0 m tgt ls rest)) (kf : y ≤ x → W p l e R s m args below meth c H locs cells slots Q (F0 m (pc + 3) ls rest)) : W p l e R s m args below meth c H locs cells slots Q (F0 m pc ls (.int (nI y) :: .int (nI x) :: rest)) :=
  lv_icmp_lt hexec hb hdg ht (fun h => kt ((nI_ltI hx hy).mp h)) (fun h => kf (Nat.le_of_not_lt (fun h2 => h ((nI_ltI hx hy).mpr h2))))
theorem x_icmp_ge (hexec : p.tables.exec = Jvm.exec) (hb : c.code = cc) {x y : Nat} {off : Int} {tgt : Nat} (hx : x < 2 ^ 31) (hy : y < 2 ^ 31) (hdg : decode cc pc = .ok (.if_icmp .ge off, 3)) (ht : (pc : Int) + off = (tgt : Int))
    (kt : y ≤ x → W p l e R s m args below meth c H locs cells slots Q (F0 m tgt ls rest)) (kf : x < y → W p l e R s m args below meth c H locs cells slots Q (F0 m (pc + 3) ls rest)) : W p l e R s m args below meth c H locs cells slots Q (F0 m pc ls (.int (nI y) :: .int (nI x) :: rest)) :=
  lv_icmp_ge hexec hb hdg ht (fun h => kt ((nI_leI hy hx).mp h)) (fun h => kf (Nat.lt_of_not_le (fun h2 => h ((nI_leI hy hx).mpr h2))))
theorem x_icmp_gt (hexec : p.tables.exec = Jvm.exec) (hb : c.code = cc) {x y : Nat} {off : Int} {tgt : Nat} (hx : x < 2 ^ 31) (hy : y < 2 ^ 31) (hdg : decode cc pc = .ok (.if_icmp .gt off, 3)) (ht : (pc : Int) + off = (tgt : Int))
    (kt : y < x → W p l e R s m args below meth c H locs cells slots Q (F0 m tgt ls rest)) (kf : x ≤ y → W p l e R s m args below meth c H locs cells slots Q (F0 m (pc + 3) ls rest)) : W p l e R s m args below meth c H locs cells slots Q (F0 m pc ls (.int (nI y) :: .int (nI x) :: rest)) :=
  lv_icmp_gt hexec hb hdg ht (fun h => kt ((nI_ltI hy hx).mp h)) (fun h => kf (Nat.le_of_not_lt (fun h2 => h ((nI_ltI hy hx).mpr h2))))
theorem x_icmp_le (hexec : p.tables.exec = Jvm.exec) (hb : c.code = cc) {x y : Nat} {off : Int} {tgt : Nat} (hx : x < 2 ^ 31) (hy : y < 2 ^ 31) (hdg : decode cc pc = .ok (.if_icmp .le off, 3)) (ht : (pc : Int) + off = (tgt : Int))
    (kt : x ≤ y → W p l e R s m args below meth c H locs cells slots Q (F0 m tgt ls rest)) (kf : y < x → W p l e R s m args below meth c H locs cells slots Q (F0 m (pc + 3) ls rest)) : W p l e R s m args below meth c H locs cells slots Q (F0 m pc ls (.int (nI y) :: .int (nI x) :: rest)) :=
  lv_icmp_le hexec hb hdg ht (fun h => kt ((nI_leI hx hy).mp h)) (fun h => kf (Nat.lt_of_not_le (fun h2 => h ((nI_leI hx hy).mpr h2))))
theorem x_icmp_eq (hexec : p.tables.exec = Jvm.exec) (hb : c.code = cc) {x y : Nat} {off : Int} {tgt : Nat} (hx : x < 2 ^ 31) (hy : y < 2 ^ 31) (hdg : decode cc pc = .ok (.if_icmp .eq off, 3)) (ht : (pc : Int) + off = (tgt : Int))
    (kt : x = y → W p l e R s m args below meth c H locs cells slots Q (F0 m tgt ls rest)) (kf : x ≠ y → W p l e R s m args below meth c H locs cells slots Q (F0 m (pc + 3) ls rest)) : W p l e R s m args below meth c H locs cells slots Q (F0 m pc ls (.int (nI y) :: .int (nI x) :: rest)) :=
  lv_icmp_eq hexec hb hdg ht (fun h => kt ((nI_eq hx hy).mp h)) (fun h => kf (fun h2 => h ((nI_eq hx hy).mpr h2)))
theorem x_icmp_ne (hexec : p.tables.exec = Jvm.exec) (hb : c.code = cc) {x y : Nat} {off : Int} {tgt : Nat} (hx : x < 2 ^ 31) (hy : y < 2 ^ 31) (hdg : decode cc pc = .ok (.if_icmp .ne off, 3)) (ht : (pc : Int) + off = (tgt : Int))
    (kt : x ≠ y → W p l e R s m args below meth c H locs cells slots Q (F0 m tgt ls rest)) (kf : x = y → W p l e R s m args below meth c H locs cells slots Q (F0 m (pc + 3) ls rest)) : W p l e R s m args below meth c H locs cells slots Q (F0 m pc ls (.int (nI y) :: .int (nI x) :: rest)) :=
  lv_icmp_ne hexec hb hdg ht (fun h => kt (fun h2 => h ((nI_eq hx hy).mpr h2))) (fun h => kf ((nI_eq hx hy).mp h))
end XROWS
/-- a boolean as the machine holds it -/
def bI (b : Bool) : Int32 := if b = true then 1 else 0
theorem bI_01 (b : Bool) : bI b = 0 ∨ bI b = 1 := by cases b <;> simp [bI]
theorem bI_t {b : Bool} (h : b = true) : bI b = 1 := by rw [h]; rfl
theorem bI_f {b : Bool} (h : b = false) : bI b = 0 := by rw [h]; rfl
theorem bI_nar (b : Bool) : narrow .boolean (.int (bI b)) = .int (bI b) := by cases b <;> rfl
section XROWS2
variable {p : Program} {l : Launch} {e : Env} {R : Room} {s : State} {m : MethodId} {args : Array Value} {below : List Frame} {meth : Method} {c : Code} {H : Heap} {locs : List Loc} {cells slots : Nat} {Q : State → Prop}
variable {cc : ByteArray} {pc nL : Nat} {ls : Array Slot} {rest : List Value} {Ts : List Cond} {own : String} {NL : xNL} {g : xG} {a : xAd} {A : Nat → Prop} {σ : xS}
theorem x_ifeq (hexec : p.tables.exec = Jvm.exec) (hb : c.code = cc) {b : Bool} {off : Int} {tgt : Nat} (hdg : decode cc pc = .ok (.ifCond .eq off, 3)) (ht : (pc : Int) + off = (tgt : Int))
    (kt : b = false → W p l e R s m args below meth c H locs cells slots Q (F0 m tgt ls rest)) (kf : b = true → W p l e R s m args below meth c H locs cells slots Q (F0 m (pc + 3) ls rest)) : W p l e R s m args below meth c H locs cells slots Q (F0 m pc ls (.int (bI b) :: rest)) :=
  lv_if_eq hexec hb hdg ht (fun h => kt (by cases b <;> simp_all [bI])) (fun h => kf (by cases b <;> simp_all [bI]))
theorem x_ifne (hexec : p.tables.exec = Jvm.exec) (hb : c.code = cc) {b : Bool} {off : Int} {tgt : Nat} (hdg : decode cc pc = .ok (.ifCond .ne off, 3)) (ht : (pc : Int) + off = (tgt : Int))
    (kt : b = true → W p l e R s m args below meth c H locs cells slots Q (F0 m tgt ls rest)) (kf : b = false → W p l e R s m args below meth c H locs cells slots Q (F0 m (pc + 3) ls rest)) : W p l e R s m args below meth c H locs cells slots Q (F0 m pc ls (.int (bI b) :: rest)) :=
  lv_if_ne hexec hb hdg ht (fun h => kt (by cases b <;> simp_all [bI])) (fun h => kf (by cases b <;> simp_all [bI]))
/-- a method that only reads, and answers an int -/
def xMi (l : Launch) (y : MethodName) (ws : List Cond) (rm : Room) (NL : xNL) (g : xG) (a : xAd) (σ : xS) (As : List Value) (r : Int32) : Prop := Met l y ws rm (va_Pc As (xPre NL g a σ)) (vp_Si (fun q => q = r)) 0 0 (fun _ => False)
/-- a method that writes, and answers nothing -/
def xMv (l : Launch) (y : MethodName) (ws : List Cond) (rm : Room) (NL : xNL) (g : xG) (a : xAd) (σ : xS) (As : List Value) (τ : xS) : Prop := ∀ sz : Nat, Met l y ws rm (va_Pc As (fun U => U.heap.size = sz ∧ xPre NL g a σ U)) (va_Qv (fun u : xS => u = τ) (fun u t => va_P g.1 vwCl (xw NL g a u) t.heap) (xA NL a sz)) 0 0 (xA NL a sz)
/-- .. and answers an int -/
def xMw (l : Launch) (y : MethodName) (ws : List Cond) (rm : Room) (NL : xNL) (g : xG) (a : xAd) (σ : xS) (As : List Value) (r : Int32) (τ : xS) : Prop := ∀ sz : Nat, Met l y ws rm (va_Pc As (fun U => U.heap.size = sz ∧ xPre NL g a σ U)) (va_Qi (fun (q : Int32) (u : xS) => q = r ∧ u = τ) (fun u t => va_P g.1 vwCl (xw NL g a u) t.heap) (xA NL a sz)) 0 0 (xA NL a sz)
variable {mc ms n index maxL : Nat} {y : MethodName} {bytes : ByteArray} {ret : Option FieldType} {ws : List Cond} {rm : Room} {C : String} {b : Nat} {As : List Value} {st0 : List Value} {NL' : xNL} {σ' : xS} {τ : xS} {r : Int32}
theorem x_pre (C0 : xC p s m args c cc nL Ts own NL g a A) (hP : va_P g.1 vwCl (xw NL' g a σ') H) (hj : xDj NL' a) : ∀ U : State, U.heap = H → s.WarmedH U.vm → va_Pc As (xPre NL' g a σ') As.toArray U := fun U hU hW => ⟨rfl, by rw [hU]; exact hP, va_K.moved hW.alike C0.hK, xN.warm hW C0.2.2.1, hj⟩
theorem x_pres (C0 : xC p s m args c cc nL Ts own NL g a A) (hP : va_P g.1 vwCl (xw NL' g a σ') H) (hj : xDj NL' a) : ∀ U : State, U.heap = H → s.WarmedH U.vm → va_Pc As (fun U => U.heap.size = H.size ∧ xPre NL' g a σ' U) As.toArray U := fun U hU hW => ⟨rfl, by rw [hU], by rw [hU]; exact hP, va_K.moved hW.alike C0.hK, xN.warm hW C0.2.2.1, hj⟩
/-- the receiver of a class of ours -/
theorem x_recv (C0 : xC p s m args c cc nL Ts own NL g a A) (hP : va_P g.1 vwCl (xw NL g a σ) H) (t : Nat) {i : Nat} (hm : (t, i) ∈ NL) {ci N : Nat} {T : u_T} {C : String} {fs : List Value} (he : xB g a t (σ t i) = .inr (ci, fs)) (hc : vwCl[ci]? = some (C, T, N)) : ∃ cell : Cell, H[a t i]? = some cell ∧ cell.vm.isStatics = false ∧ s.vm.findClass C = some cell.cls := by
  obtain ⟨q0, -, h2⟩ := xwf_get (xB g a) a σ hm
  rw [he] at h2
  exact va_recv C0.hK hP hc h2
/-- calls: virtual (private or not) of the same class; a nest mate's; static -/
theorem x_Vi (C0 : xC p s m args c cc nL Ts own NL g a A) (hM : xMi l y ws rm NL' g a σ' (.ref b :: As) r) (hP : va_P g.1 vwCl (xw NL' g a σ') H) (hj : xDj NL' a) (cw : CallW R s args own C index y bytes maxL ret ws rm 0 0 n) (hrecv : ∃ cell : Cell, H[b]? = some cell ∧ cell.vm.isStatics = false ∧ s.vm.findClass C = some cell.cls) (hn : As.length = n) {lv : List (Nat × Value)} (hl : lv_has ls nL lv) (hst : st0 = As.reverse ++ .ref b :: rest) (hW : (rest.map fun v => v.category).sum ≤ 8) (hc1 : cells ≤ R.cells) (hs1 : slots ≤ R.slots) (hdg : decode cc pc = .ok (.invokevirtual index, 3))
    (kk : W p l e R s m args below meth c H locs cells slots Q (F0 m (pc + 3) ls (.int r :: rest))) : W p l e R s m args below meth c H locs cells slots Q (F0 m pc ls st0) := by
  have hU : xMi l y ws rm NL' g a σ' (.ref b :: As) r := hM
  unfold xMi at hU
  refine vp_callSi ((va_runV (g := F0 m pc ls st0) (As := As) (rest := rest) C0.1 hU cw ⟨xFB, hrecv, x_pre C0 hP hj⟩ rfl hn hl.1 hst (lv_room hW) hdg ⟨hc1, hs1⟩).run) (fun q hq => ?_)
  rw [hq]
  exact kk
theorem x_VNi (C0 : xC p s m args c cc nL Ts own NL g a A) (hM : xMi l y ws rm NL' g a σ' (.ref b :: As) r) (hP : va_P g.1 vwCl (xw NL' g a σ') H) (hj : xDj NL' a) {host : String} (cw : va_CN R s args own index y host bytes maxL ret ws rm 0 0 n) (hin : (Cond.instanceMethod y).before args s = true) (hsel : (Cond.selects C y y).before args s = true) (hrecv : ∃ cell : Cell, H[b]? = some cell ∧ cell.vm.isStatics = false ∧ s.vm.findClass C = some cell.cls) (hn : As.length = n) {lv : List (Nat × Value)} (hl : lv_has ls nL lv) (hst : st0 = As.reverse ++ .ref b :: rest) (hW : (rest.map fun v => v.category).sum ≤ 8) (hc1 : cells ≤ R.cells) (hs1 : slots ≤ R.slots) (hdg : decode cc pc = .ok (.invokevirtual index, 3))
    (kk : W p l e R s m args below meth c H locs cells slots Q (F0 m (pc + 3) ls (.int r :: rest))) : W p l e R s m args below meth c H locs cells slots Q (F0 m pc ls st0) := by
  have hU : xMi l y ws rm NL' g a σ' (.ref b :: As) r := hM
  unfold xMi at hU
  refine vp_callSi ((va_runVN (g := F0 m pc ls st0) (As := As) (rest := rest) C0.1 hU ⟨cw, hin, hsel⟩ ⟨xFB, hrecv, x_pre C0 hP hj⟩ rfl hn hl.1 hst (lv_room hW) hdg ⟨hc1, hs1⟩).run) (fun q hq => ?_)
  rw [hq]
  exact kk
theorem x_Si (C0 : xC p s m args c cc nL Ts own NL g a A) (hM : xMi l y ws rm NL' g a σ' As r) (hP : va_P g.1 vwCl (xw NL' g a σ') H) (hj : xDj NL' a) (cw : CallB R s args own index y bytes maxL ret ws rm 0 0 n ∧ (Cond.static y).before args s = true) (hn : As.length = n) {lv : List (Nat × Value)} (hl : lv_has ls nL lv) (hst : st0 = As.reverse ++ rest) (hW : (rest.map fun v => v.category).sum ≤ 8) (hc1 : cells ≤ R.cells) (hs1 : slots ≤ R.slots) (hdg : decode cc pc = .ok (.invokestatic index, 3))
    (kk : W p l e R s m args below meth c H locs cells slots Q (F0 m (pc + 3) ls (.int r :: rest))) : W p l e R s m args below meth c H locs cells slots Q (F0 m pc ls st0) := by
  have hU : xMi l y ws rm NL' g a σ' As r := hM
  unfold xMi at hU
  refine vp_callSi ((va_runS (g := F0 m pc ls st0) (As := As) (rest := rest) C0.1 hU cw ⟨xFB, x_pre C0 hP hj⟩ rfl hn hl.1 hst (lv_room hW) hdg ⟨hc1, hs1⟩).run) (fun q hq => ?_)
  rw [hq]
  exact kk
theorem x_AA (C0 : xC p s m args c cc nL Ts own NL g a A) (hS : va_S A s.heap H locs) : (∀ q, q < H.size → xA NL a H.size q → A q) ∧ ∀ q, xA NL a H.size q → A q := by
  have h2 : ∀ q, xA NL a H.size q → A q := by
    intro q h
    rcases h with ⟨n, h1, rfl⟩ | h
    · exact C0.2.2.2.2.1 n h1
    · exact C0.2.2.2.2.2 q (Nat.le_trans hS.1 h)
  exact ⟨fun q _ h => h2 q h, h2⟩
theorem x_Vv (C0 : xC p s m args c cc nL Ts own NL g a A) (hM : xMv l y ws rm NL g a σ (.ref b :: As) τ) (hP : va_P g.1 vwCl (xw NL g a σ) H) (hS : va_S A s.heap H locs) (cw : CallW R s args own C index y bytes maxL ret ws rm 0 0 n) (hrecv : ∃ cell : Cell, H[b]? = some cell ∧ cell.vm.isStatics = false ∧ s.vm.findClass C = some cell.cls) (hn : As.length = n) {lv : List (Nat × Value)} (hl : lv_has ls nL lv) (hst : st0 = As.reverse ++ .ref b :: rest) (hW : (rest.map fun v => v.category).sum ≤ 8) (hc1 : cells ≤ R.cells) (hs1 : slots ≤ R.slots) (hdg : decode cc pc = .ok (.invokevirtual index, 3))
    (kk : ∀ (H1 : Heap) (locs1 : List Loc), va_P g.1 vwCl (xw NL g a τ) H1 → va_S A s.heap H1 locs1 → W p l e R s m args below meth c H1 locs1 cells slots Q (F0 m (pc + 3) ls rest)) : W p l e R s m args below meth c H locs cells slots Q (F0 m pc ls st0) := by
  obtain ⟨h1, h2⟩ := x_AA C0 hS
  refine va_callv (va_runV (g := F0 m pc ls st0) (As := As) (rest := rest) C0.1 (hM H.size) cw ⟨xFBs, hrecv, x_pres C0 hP C0.2.2.2.1⟩ rfl hn hl.1 hst (lv_room hW) hdg ⟨hc1, hs1⟩) hS h1 h2 (fun u t H1 locs1 ht hvm hw hB hz hk hS1 => ?_)
  subst hw
  rw [ht] at hB
  exact kk H1 locs1 hB hS1
theorem x_VNv (C0 : xC p s m args c cc nL Ts own NL g a A) (hM : xMv l y ws rm NL g a σ (.ref b :: As) τ) (hP : va_P g.1 vwCl (xw NL g a σ) H) (hS : va_S A s.heap H locs) {host : String} (cw : va_CN R s args own index y host bytes maxL ret ws rm 0 0 n) (hin : (Cond.instanceMethod y).before args s = true) (hsel : (Cond.selects C y y).before args s = true) (hrecv : ∃ cell : Cell, H[b]? = some cell ∧ cell.vm.isStatics = false ∧ s.vm.findClass C = some cell.cls) (hn : As.length = n) {lv : List (Nat × Value)} (hl : lv_has ls nL lv) (hst : st0 = As.reverse ++ .ref b :: rest) (hW : (rest.map fun v => v.category).sum ≤ 8) (hc1 : cells ≤ R.cells) (hs1 : slots ≤ R.slots) (hdg : decode cc pc = .ok (.invokevirtual index, 3))
    (kk : ∀ (H1 : Heap) (locs1 : List Loc), va_P g.1 vwCl (xw NL g a τ) H1 → va_S A s.heap H1 locs1 → W p l e R s m args below meth c H1 locs1 cells slots Q (F0 m (pc + 3) ls rest)) : W p l e R s m args below meth c H locs cells slots Q (F0 m pc ls st0) := by
  obtain ⟨h1, h2⟩ := x_AA C0 hS
  refine va_callv (va_runVN (g := F0 m pc ls st0) (As := As) (rest := rest) C0.1 (hM H.size) ⟨cw, hin, hsel⟩ ⟨xFBs, hrecv, x_pres C0 hP C0.2.2.2.1⟩ rfl hn hl.1 hst (lv_room hW) hdg ⟨hc1, hs1⟩) hS h1 h2 (fun u t H1 locs1 ht hvm hw hB hz hk hS1 => ?_)
  subst hw
  rw [ht] at hB
  exact kk H1 locs1 hB hS1
theorem x_Vw (C0 : xC p s m args c cc nL Ts own NL g a A) (hM : xMw l y ws rm NL g a σ (.ref b :: As) r τ) (hP : va_P g.1 vwCl (xw NL g a σ) H) (hS : va_S A s.heap H locs) (cw : CallW R s args own C index y bytes maxL ret ws rm 0 0 n) (hrecv : ∃ cell : Cell, H[b]? = some cell ∧ cell.vm.isStatics = false ∧ s.vm.findClass C = some cell.cls) (hn : As.length = n) {lv : List (Nat × Value)} (hl : lv_has ls nL lv) (hst : st0 = As.reverse ++ .ref b :: rest) (hW : (rest.map fun v => v.category).sum ≤ 8) (hc1 : cells ≤ R.cells) (hs1 : slots ≤ R.slots) (hdg : decode cc pc = .ok (.invokevirtual index, 3))
    (kk : ∀ (H1 : Heap) (locs1 : List Loc), va_P g.1 vwCl (xw NL g a τ) H1 → va_S A s.heap H1 locs1 → W p l e R s m args below meth c H1 locs1 cells slots Q (F0 m (pc + 3) ls (.int r :: rest))) : W p l e R s m args below meth c H locs cells slots Q (F0 m pc ls st0) := by
  obtain ⟨h1, h2⟩ := x_AA C0 hS
  refine va_calli (va_runV (g := F0 m pc ls st0) (As := As) (rest := rest) C0.1 (hM H.size) cw ⟨xFBs, hrecv, x_pres C0 hP C0.2.2.2.1⟩ rfl hn hl.1 hst (lv_room hW) hdg ⟨hc1, hs1⟩) hS h1 h2 (fun q u t H1 locs1 ht hvm hw hB hz hk hS1 => ?_)
  obtain ⟨rfl, rfl⟩ := hw
  rw [ht] at hB
  exact kk H1 locs1 hB hS1
theorem x_VNw (C0 : xC p s m args c cc nL Ts own NL g a A) (hM : xMw l y ws rm NL g a σ (.ref b :: As) r τ) (hP : va_P g.1 vwCl (xw NL g a σ) H) (hS : va_S A s.heap H locs) {host : String} (cw : va_CN R s args own index y host bytes maxL ret ws rm 0 0 n) (hin : (Cond.instanceMethod y).before args s = true) (hsel : (Cond.selects C y y).before args s = true) (hrecv : ∃ cell : Cell, H[b]? = some cell ∧ cell.vm.isStatics = false ∧ s.vm.findClass C = some cell.cls) (hn : As.length = n) {lv : List (Nat × Value)} (hl : lv_has ls nL lv) (hst : st0 = As.reverse ++ .ref b :: rest) (hW : (rest.map fun v => v.category).sum ≤ 8) (hc1 : cells ≤ R.cells) (hs1 : slots ≤ R.slots) (hdg : decode cc pc = .ok (.invokevirtual index, 3))
    (kk : ∀ (H1 : Heap) (locs1 : List Loc), va_P g.1 vwCl (xw NL g a τ) H1 → va_S A s.heap H1 locs1 → W p l e R s m args below meth c H1 locs1 cells slots Q (F0 m (pc + 3) ls (.int r :: rest))) : W p l e R s m args below meth c H locs cells slots Q (F0 m pc ls st0) := by
  obtain ⟨h1, h2⟩ := x_AA C0 hS
  refine va_calli (va_runVN (g := F0 m pc ls st0) (As := As) (rest := rest) C0.1 (hM H.size) ⟨cw, hin, hsel⟩ ⟨xFBs, hrecv, x_pres C0 hP C0.2.2.2.1⟩ rfl hn hl.1 hst (lv_room hW) hdg ⟨hc1, hs1⟩) hS h1 h2 (fun q u t H1 locs1 ht hvm hw hB hz hk hS1 => ?_)
  obtain ⟨rfl, rfl⟩ := hw
  rw [ht] at hB
  exact kk H1 locs1 hB hS1
end XROWS2
section XLOOPS
variable {p : Program} {l : Launch} {e : Env} {R : Room} {s : State} {m : MethodId} {args : Array Value} {below : List Frame} {meth : Method} {c : Code} {H : Heap} {locs : List Loc} {cells slots : Nat} {Q : State → Prop}
variable {pc : Nat} {ls : Array Slot} {st : List Value}
/-- a loop that writes nothing -/
theorem x_loopR {α : Type} (μ : α → Nat) (I : α → Array Slot → Prop) (hs : ∀ (x : α) (ls : Array Slot), I x ls → (∀ (y : α) (ls : Array Slot), I y ls → μ y < μ x → W p l e R s m args below meth c H locs cells slots Q (F0 m pc ls st)) → W p l e R s m args below meth c H locs cells slots Q (F0 m pc ls st)) (x0 : α) (h0 : I x0 ls) : W p l e R s m args below meth c H locs cells slots Q (F0 m pc ls st) := by
  have key : ∀ (n : Nat) (x : α) (ls : Array Slot), μ x < n → I x ls → W p l e R s m args below meth c H locs cells slots Q (F0 m pc ls st) := by
    intro n
    induction n with
    | zero => intro x ls h; exact absurd h (Nat.not_lt_zero _)
    | succ n ih => intro x ls h hi; exact hs x ls hi (fun y ls hy hlt => ih y ls (by omega) hy)
  exact key (μ x0 + 1) x0 ls (Nat.lt_succ_self _) h0
theorem x_loopW {α : Type} (μ : α → Nat) (I : α → Heap → List Loc → Array Slot → Prop) (hs : ∀ (x : α) (H : Heap) (locs : List Loc) (ls : Array Slot), I x H locs ls → (∀ (y : α) (H : Heap) (locs : List Loc) (ls : Array Slot), I y H locs ls → μ y < μ x → W p l e R s m args below meth c H locs cells slots Q (F0 m pc ls st)) → W p l e R s m args below meth c H locs cells slots Q (F0 m pc ls st)) (x0 : α) (h0 : I x0 H locs ls) : W p l e R s m args below meth c H locs cells slots Q (F0 m pc ls st) := by
  have key : ∀ (n : Nat) (x : α) (H : Heap) (locs : List Loc) (ls : Array Slot), μ x < n → I x H locs ls → W p l e R s m args below meth c H locs cells slots Q (F0 m pc ls st) := by
    intro n
    induction n with
    | zero => intro x H locs ls h; exact absurd h (Nat.not_lt_zero _)
    | succ n ih => intro x H locs ls h hi; exact hs x H locs ls hi (fun y H locs ls hy hlt => ih y H locs ls (by omega) hy)
  exact key (μ x0 + 1) x0 H locs ls (Nat.lt_succ_self _) h0
/-- roads that meet at tgt -/
theorem x_join {α : Type} (tgt : Nat) (I : α → Heap → List Loc → Array Slot → Prop) (stk : α → List Value) (hk : ∀ (x : α) (H : Heap) (locs : List Loc) (ls : Array Slot), I x H locs ls → W p l e R s m args below meth c H locs cells slots Q (F0 m tgt ls (stk x))) (hb : (∀ (x : α) (H : Heap) (locs : List Loc) (ls : Array Slot), I x H locs ls → W p l e R s m args below meth c H locs cells slots Q (F0 m tgt ls (stk x))) → W p l e R s m args below meth c H locs cells slots Q (F0 m pc ls st)) : W p l e R s m args below meth c H locs cells slots Q (F0 m pc ls st) := hb hk
end XLOOPS
abbrev nv (x : Int32) : Nat := x.toNatClampNeg
def NLX : xNL := (List.range 20).map (fun t => (t, 0)) ++ ((List.range 4).map (fun i => (20, i)) ++ ((List.range 4).map (fun i => (21, i)) ++ ((List.range 4).map (fun i => (22, i)) ++ ((List.range 60).map (fun i => (23, i)) ++ ((List.range 60).map (fun i => (24, i)) ++ (List.range 60).map (fun i => (25, i)))))))
def NLM : xNL := (List.range 15).map (fun t => (30 + t, 0))
theorem mX {t : Nat} (h : t < 20) : (t, 0) ∈ NLX := List.mem_append_left _ (List.mem_map.mpr ⟨t, List.mem_range.mpr h, rfl⟩)
theorem mXr (t n : Nat) {i : Nat} (h : i < n) : (t, i) ∈ (List.range n).map (fun i => (t, i)) := List.mem_map.mpr ⟨i, List.mem_range.mpr h, rfl⟩
theorem mX20 {i : Nat} (h : i < 4) : (20, i) ∈ NLX := List.mem_append_right _ (List.mem_append_left _ (mXr 20 4 h))
theorem mX21 {i : Nat} (h : i < 4) : (21, i) ∈ NLX := List.mem_append_right _ (List.mem_append_right _ (List.mem_append_left _ (mXr 21 4 h)))
theorem mX22 {i : Nat} (h : i < 4) : (22, i) ∈ NLX := List.mem_append_right _ (List.mem_append_right _ (List.mem_append_right _ (List.mem_append_left _ (mXr 22 4 h))))
theorem mX23 {i : Nat} (h : i < 60) : (23, i) ∈ NLX := List.mem_append_right _ (List.mem_append_right _ (List.mem_append_right _ (List.mem_append_right _ (List.mem_append_left _ (mXr 23 60 h)))))
theorem mX24 {i : Nat} (h : i < 60) : (24, i) ∈ NLX := List.mem_append_right _ (List.mem_append_right _ (List.mem_append_right _ (List.mem_append_right _ (List.mem_append_right _ (List.mem_append_left _ (mXr 24 60 h))))))
theorem mX25 {i : Nat} (h : i < 60) : (25, i) ∈ NLX := List.mem_append_right _ (List.mem_append_right _ (List.mem_append_right _ (List.mem_append_right _ (List.mem_append_right _ (List.mem_append_right _ (mXr 25 60 h))))))
theorem mM {t : Nat} (h : t < 15) : (30 + t, 0) ∈ NLM := List.mem_map.mpr ⟨t, List.mem_range.mpr h, rfl⟩
theorem mX_n {t : Nat} (h : Nat.blt t 20 = true) : (t, 0) ∈ NLX := mX (by simpa using h)
theorem mM_n {t : Nat} (h1 : Nat.ble 30 t = true) (h2 : Nat.blt t 45 = true) : (t, 0) ∈ NLM := by
  have e1 : 30 ≤ t := Nat.le_of_ble_eq_true h1
  have e2 : t < 45 := by simpa using h2
  have := mM (t := t - 30) (by omega)
  rwa [show 30 + (t - 30) = t by omega] at this
/-- selects, instance, initialized of private methods out of a list of words -/
theorem x_nV {s : State} {args : Array Value} {Ts : List Cond} {w : Cond} (hts : ∀ w ∈ Ts, w.before args s = true) (h : w ∈ Ts) : w.before args s = true := hts w h
end

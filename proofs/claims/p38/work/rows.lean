section
-- ===== PART A: goes FIRST, ahead of the names: the tables' words, and 'selects' of the private methods out of them =====
/-- a private method of a class that the tables say can be made, by its rows of tables_1 -/
def lw_okq (q : MethodName × Nat) : Prop := (q.1.cls ≠ "java/lang/invoke/MethodHandle" ∧ q.1.cls ≠ "java/lang/invoke/VarHandle") ∧ Cond.instantiable q.1.cls q.2 ∈ tables_1 ∧ Cond.privateMethod q.1 ∈ tables_1 ∧ Cond.instanceMethod q.1 ∈ tables_1
theorem lw_p0 : lw_okq (⟨"java/lang/Throwable", "fillInStackTrace", "(I)Ljava/lang/Throwable;"⟩, 6) := ⟨⟨by decide +kernel, by decide +kernel⟩, List.mem_of_getElem? (i := 330) (by decide +kernel), List.mem_of_getElem? (i := 328) (by decide +kernel), List.mem_of_getElem? (i := 329) (by decide +kernel)⟩
theorem lw_p1 : lw_okq (⟨"NotchedKeys", "lostKeys", "()I"⟩, 9) := ⟨⟨by decide +kernel, by decide +kernel⟩, List.mem_of_getElem? (i := 19) (by decide +kernel), List.mem_of_getElem? (i := 388) (by decide +kernel), List.mem_of_getElem? (i := 389) (by decide +kernel)⟩
theorem lw_p2 : lw_okq (⟨"NotchedKeys", "lockCount", "()I"⟩, 9) := ⟨⟨by decide +kernel, by decide +kernel⟩, List.mem_of_getElem? (i := 19) (by decide +kernel), List.mem_of_getElem? (i := 392) (by decide +kernel), List.mem_of_getElem? (i := 393) (by decide +kernel)⟩
theorem lw_p3 : lw_okq (⟨"NotchedKeys", "isLock", "(I)Z"⟩, 9) := ⟨⟨by decide +kernel, by decide +kernel⟩, List.mem_of_getElem? (i := 19) (by decide +kernel), List.mem_of_getElem? (i := 396) (by decide +kernel), List.mem_of_getElem? (i := 397) (by decide +kernel)⟩
theorem lw_p4 : lw_okq (⟨"NotchedKeys", "crossedPairs", "()I"⟩, 9) := ⟨⟨by decide +kernel, by decide +kernel⟩, List.mem_of_getElem? (i := 19) (by decide +kernel), List.mem_of_getElem? (i := 403) (by decide +kernel), List.mem_of_getElem? (i := 404) (by decide +kernel)⟩
theorem lw_p5 : lw_okq (⟨"NotchedKeys", "soundCodes", "()I"⟩, 9) := ⟨⟨by decide +kernel, by decide +kernel⟩, List.mem_of_getElem? (i := 19) (by decide +kernel), List.mem_of_getElem? (i := 411) (by decide +kernel), List.mem_of_getElem? (i := 412) (by decide +kernel)⟩
theorem lw_p6 : lw_okq (⟨"NotchedKeys", "isSound", "(I)Z"⟩, 9) := ⟨⟨by decide +kernel, by decide +kernel⟩, List.mem_of_getElem? (i := 19) (by decide +kernel), List.mem_of_getElem? (i := 415) (by decide +kernel), List.mem_of_getElem? (i := 416) (by decide +kernel)⟩
theorem lw_p7 : lw_okq (⟨"NotchedKeys", "freeCodes", "()I"⟩, 9) := ⟨⟨by decide +kernel, by decide +kernel⟩, List.mem_of_getElem? (i := 19) (by decide +kernel), List.mem_of_getElem? (i := 419) (by decide +kernel), List.mem_of_getElem? (i := 420) (by decide +kernel)⟩
theorem lw_p8 : lw_okq (⟨"NotchedKeys", "isFree", "(I)Z"⟩, 9) := ⟨⟨by decide +kernel, by decide +kernel⟩, List.mem_of_getElem? (i := 19) (by decide +kernel), List.mem_of_getElem? (i := 423) (by decide +kernel), List.mem_of_getElem? (i := 424) (by decide +kernel)⟩
theorem lw_p9 : lw_okq (⟨"NotchedKeys", "reasonByKeys", "(II)I"⟩, 9) := ⟨⟨by decide +kernel, by decide +kernel⟩, List.mem_of_getElem? (i := 19) (by decide +kernel), List.mem_of_getElem? (i := 427) (by decide +kernel), List.mem_of_getElem? (i := 428) (by decide +kernel)⟩
theorem lw_p10 : lw_okq (⟨"NotchedKeys", "isKey", "(I)Z"⟩, 9) := ⟨⟨by decide +kernel, by decide +kernel⟩, List.mem_of_getElem? (i := 19) (by decide +kernel), List.mem_of_getElem? (i := 459) (by decide +kernel), List.mem_of_getElem? (i := 460) (by decide +kernel)⟩
theorem lw_p11 : lw_okq (⟨"NotchedKeys", "locksOpenedBy", "(I)I"⟩, 9) := ⟨⟨by decide +kernel, by decide +kernel⟩, List.mem_of_getElem? (i := 19) (by decide +kernel), List.mem_of_getElem? (i := 479) (by decide +kernel), List.mem_of_getElem? (i := 480) (by decide +kernel)⟩
theorem lw_p12 : lw_okq (⟨"NotchedKeys", "opens", "(II)Z"⟩, 9) := ⟨⟨by decide +kernel, by decide +kernel⟩, List.mem_of_getElem? (i := 19) (by decide +kernel), List.mem_of_getElem? (i := 483) (by decide +kernel), List.mem_of_getElem? (i := 484) (by decide +kernel)⟩
theorem lw_p13 : lw_okq (⟨"NotchedKeys", "keysOver", "(I)I"⟩, 9) := ⟨⟨by decide +kernel, by decide +kernel⟩, List.mem_of_getElem? (i := 19) (by decide +kernel), List.mem_of_getElem? (i := 491) (by decide +kernel), List.mem_of_getElem? (i := 492) (by decide +kernel)⟩
theorem lw_p14 : lw_okq (⟨"NotchedKeys", "keysUnder", "(I)I"⟩, 9) := ⟨⟨by decide +kernel, by decide +kernel⟩, List.mem_of_getElem? (i := 19) (by decide +kernel), List.mem_of_getElem? (i := 495) (by decide +kernel), List.mem_of_getElem? (i := 496) (by decide +kernel)⟩
theorem lw_p15 : lw_okq (⟨"NotchedKeys", "keysOpening", "(I)I"⟩, 9) := ⟨⟨by decide +kernel, by decide +kernel⟩, List.mem_of_getElem? (i := 19) (by decide +kernel), List.mem_of_getElem? (i := 511) (by decide +kernel), List.mem_of_getElem? (i := 512) (by decide +kernel)⟩
def lw_privs_1 : List (MethodName × Nat) := [(⟨"java/lang/Throwable", "fillInStackTrace", "(I)Ljava/lang/Throwable;"⟩, 6), (⟨"NotchedKeys", "lostKeys", "()I"⟩, 9), (⟨"NotchedKeys", "lockCount", "()I"⟩, 9), (⟨"NotchedKeys", "isLock", "(I)Z"⟩, 9), (⟨"NotchedKeys", "crossedPairs", "()I"⟩, 9), (⟨"NotchedKeys", "soundCodes", "()I"⟩, 9), (⟨"NotchedKeys", "isSound", "(I)Z"⟩, 9), (⟨"NotchedKeys", "freeCodes", "()I"⟩, 9), (⟨"NotchedKeys", "isFree", "(I)Z"⟩, 9), (⟨"NotchedKeys", "reasonByKeys", "(II)I"⟩, 9), (⟨"NotchedKeys", "isKey", "(I)Z"⟩, 9), (⟨"NotchedKeys", "locksOpenedBy", "(I)I"⟩, 9), (⟨"NotchedKeys", "opens", "(II)Z"⟩, 9), (⟨"NotchedKeys", "keysOver", "(I)I"⟩, 9), (⟨"NotchedKeys", "keysUnder", "(I)I"⟩, 9), (⟨"NotchedKeys", "keysOpening", "(I)I"⟩, 9)]
theorem lw_r1 : ∀ q ∈ lw_privs_1, lw_okq q := List.forall_mem_cons.mpr ⟨lw_p0, List.forall_mem_cons.mpr ⟨lw_p1, List.forall_mem_cons.mpr ⟨lw_p2, List.forall_mem_cons.mpr ⟨lw_p3, List.forall_mem_cons.mpr ⟨lw_p4, List.forall_mem_cons.mpr ⟨lw_p5, List.forall_mem_cons.mpr ⟨lw_p6, List.forall_mem_cons.mpr ⟨lw_p7, List.forall_mem_cons.mpr ⟨lw_p8, List.forall_mem_cons.mpr ⟨lw_p9, List.forall_mem_cons.mpr ⟨lw_p10, List.forall_mem_cons.mpr ⟨lw_p11, List.forall_mem_cons.mpr ⟨lw_p12, List.forall_mem_cons.mpr ⟨lw_p13, List.forall_mem_cons.mpr ⟨lw_p14, List.forall_mem_cons.mpr ⟨lw_p15, fun _ h => absurd h List.not_mem_nil⟩⟩⟩⟩⟩⟩⟩⟩⟩⟩⟩⟩⟩⟩⟩⟩
theorem lw_p16 : lw_okq (⟨"NotchedKeys", "whoCouldOpen", "(I)I"⟩, 9) := ⟨⟨by decide +kernel, by decide +kernel⟩, List.mem_of_getElem? (i := 19) (by decide +kernel), List.mem_of_getElem? (i := 515) (by decide +kernel), List.mem_of_getElem? (i := 516) (by decide +kernel)⟩
theorem lw_p17 : lw_okq (⟨"NotchedKeys", "keysOf", "(I)I"⟩, 9) := ⟨⟨by decide +kernel, by decide +kernel⟩, List.mem_of_getElem? (i := 19) (by decide +kernel), List.mem_of_getElem? (i := 530) (by decide +kernel), List.mem_of_getElem? (i := 531) (by decide +kernel)⟩
theorem lw_p18 : lw_okq (⟨"NotchedKeys", "locksFor", "(I)I"⟩, 9) := ⟨⟨by decide +kernel, by decide +kernel⟩, List.mem_of_getElem? (i := 19) (by decide +kernel), List.mem_of_getElem? (i := 534) (by decide +kernel), List.mem_of_getElem? (i := 535) (by decide +kernel)⟩
theorem lw_p19 : lw_okq (⟨"NotchedKeys", "reasonAgainstCut", "(I)I"⟩, 9) := ⟨⟨by decide +kernel, by decide +kernel⟩, List.mem_of_getElem? (i := 19) (by decide +kernel), List.mem_of_getElem? (i := 553) (by decide +kernel), List.mem_of_getElem? (i := 554) (by decide +kernel)⟩
theorem lw_p20 : lw_okq (⟨"NotchedKeys", "save", "()V"⟩, 9) := ⟨⟨by decide +kernel, by decide +kernel⟩, List.mem_of_getElem? (i := 19) (by decide +kernel), List.mem_of_getElem? (i := 558) (by decide +kernel), List.mem_of_getElem? (i := 559) (by decide +kernel)⟩
theorem lw_p21 : lw_okq (⟨"NotchedKeys", "addKey", "(II)V"⟩, 9) := ⟨⟨by decide +kernel, by decide +kernel⟩, List.mem_of_getElem? (i := 19) (by decide +kernel), List.mem_of_getElem? (i := 562) (by decide +kernel), List.mem_of_getElem? (i := 563) (by decide +kernel)⟩
theorem lw_p22 : lw_okq (⟨"NotchedKeys", "reasonAgainstDeeper", "(II)I"⟩, 9) := ⟨⟨by decide +kernel, by decide +kernel⟩, List.mem_of_getElem? (i := 19) (by decide +kernel), List.mem_of_getElem? (i := 581) (by decide +kernel), List.mem_of_getElem? (i := 582) (by decide +kernel)⟩
theorem lw_p23 : lw_okq (⟨"NotchedKeys", "cutDeeper", "(II)V"⟩, 9) := ⟨⟨by decide +kernel, by decide +kernel⟩, List.mem_of_getElem? (i := 19) (by decide +kernel), List.mem_of_getElem? (i := 588) (by decide +kernel), List.mem_of_getElem? (i := 589) (by decide +kernel)⟩
theorem lw_p24 : lw_okq (⟨"NotchedKeys", "tryKey", "(II)Z"⟩, 9) := ⟨⟨by decide +kernel, by decide +kernel⟩, List.mem_of_getElem? (i := 19) (by decide +kernel), List.mem_of_getElem? (i := 666) (by decide +kernel), List.mem_of_getElem? (i := 667) (by decide +kernel)⟩
theorem lw_p25 : lw_okq (⟨"NotchedKeys", "codeBehindUse", "(II)I"⟩, 9) := ⟨⟨by decide +kernel, by decide +kernel⟩, List.mem_of_getElem? (i := 19) (by decide +kernel), List.mem_of_getElem? (i := 670) (by decide +kernel), List.mem_of_getElem? (i := 671) (by decide +kernel)⟩
theorem lw_p26 : lw_okq (⟨"NotchedKeys", "soundCodesOver", "(I)I"⟩, 9) := ⟨⟨by decide +kernel, by decide +kernel⟩, List.mem_of_getElem? (i := 19) (by decide +kernel), List.mem_of_getElem? (i := 755) (by decide +kernel), List.mem_of_getElem? (i := 756) (by decide +kernel)⟩
theorem lw_p27 : lw_okq (⟨"NotchedKeys", "soundCodesUnder", "(I)I"⟩, 9) := ⟨⟨by decide +kernel, by decide +kernel⟩, List.mem_of_getElem? (i := 19) (by decide +kernel), List.mem_of_getElem? (i := 759) (by decide +kernel), List.mem_of_getElem? (i := 760) (by decide +kernel)⟩
theorem lw_p28 : lw_okq (⟨"NotchedKeys", "hasAllLocks", "(I)Z"⟩, 9) := ⟨⟨by decide +kernel, by decide +kernel⟩, List.mem_of_getElem? (i := 19) (by decide +kernel), List.mem_of_getElem? (i := 770) (by decide +kernel), List.mem_of_getElem? (i := 771) (by decide +kernel)⟩
theorem lw_p29 : lw_okq (⟨"NotchedKeys", "opensAll", "(II)Z"⟩, 9) := ⟨⟨by decide +kernel, by decide +kernel⟩, List.mem_of_getElem? (i := 19) (by decide +kernel), List.mem_of_getElem? (i := 775) (by decide +kernel), List.mem_of_getElem? (i := 776) (by decide +kernel)⟩
theorem lw_p30 : lw_okq (⟨"NotchedKeys", "findMost", "()V"⟩, 9) := ⟨⟨by decide +kernel, by decide +kernel⟩, List.mem_of_getElem? (i := 19) (by decide +kernel), List.mem_of_getElem? (i := 800) (by decide +kernel), List.mem_of_getElem? (i := 801) (by decide +kernel)⟩
theorem lw_p31 : lw_okq (⟨"NotchedKeys$ApartCodes", "findNext", "(I)V"⟩, 13) := ⟨⟨by decide +kernel, by decide +kernel⟩, List.mem_of_getElem? (i := 197) (by decide +kernel), List.mem_of_getElem? (i := 811) (by decide +kernel), List.mem_of_getElem? (i := 812) (by decide +kernel)⟩
def lw_privs_2 : List (MethodName × Nat) := [(⟨"NotchedKeys", "whoCouldOpen", "(I)I"⟩, 9), (⟨"NotchedKeys", "keysOf", "(I)I"⟩, 9), (⟨"NotchedKeys", "locksFor", "(I)I"⟩, 9), (⟨"NotchedKeys", "reasonAgainstCut", "(I)I"⟩, 9), (⟨"NotchedKeys", "save", "()V"⟩, 9), (⟨"NotchedKeys", "addKey", "(II)V"⟩, 9), (⟨"NotchedKeys", "reasonAgainstDeeper", "(II)I"⟩, 9), (⟨"NotchedKeys", "cutDeeper", "(II)V"⟩, 9), (⟨"NotchedKeys", "tryKey", "(II)Z"⟩, 9), (⟨"NotchedKeys", "codeBehindUse", "(II)I"⟩, 9), (⟨"NotchedKeys", "soundCodesOver", "(I)I"⟩, 9), (⟨"NotchedKeys", "soundCodesUnder", "(I)I"⟩, 9), (⟨"NotchedKeys", "hasAllLocks", "(I)Z"⟩, 9), (⟨"NotchedKeys", "opensAll", "(II)Z"⟩, 9), (⟨"NotchedKeys", "findMost", "()V"⟩, 9), (⟨"NotchedKeys$ApartCodes", "findNext", "(I)V"⟩, 13)]
theorem lw_r2 : ∀ q ∈ lw_privs_2, lw_okq q := List.forall_mem_cons.mpr ⟨lw_p16, List.forall_mem_cons.mpr ⟨lw_p17, List.forall_mem_cons.mpr ⟨lw_p18, List.forall_mem_cons.mpr ⟨lw_p19, List.forall_mem_cons.mpr ⟨lw_p20, List.forall_mem_cons.mpr ⟨lw_p21, List.forall_mem_cons.mpr ⟨lw_p22, List.forall_mem_cons.mpr ⟨lw_p23, List.forall_mem_cons.mpr ⟨lw_p24, List.forall_mem_cons.mpr ⟨lw_p25, List.forall_mem_cons.mpr ⟨lw_p26, List.forall_mem_cons.mpr ⟨lw_p27, List.forall_mem_cons.mpr ⟨lw_p28, List.forall_mem_cons.mpr ⟨lw_p29, List.forall_mem_cons.mpr ⟨lw_p30, List.forall_mem_cons.mpr ⟨lw_p31, fun _ h => absurd h List.not_mem_nil⟩⟩⟩⟩⟩⟩⟩⟩⟩⟩⟩⟩⟩⟩⟩⟩
theorem lw_p32 : lw_okq (⟨"NotchedKeys$ApartCodes", "swapBack", "(I)V"⟩, 13) := ⟨⟨by decide +kernel, by decide +kernel⟩, List.mem_of_getElem? (i := 197) (by decide +kernel), List.mem_of_getElem? (i := 816) (by decide +kernel), List.mem_of_getElem? (i := 817) (by decide +kernel)⟩
theorem lw_p33 : lw_okq (⟨"NotchedKeys$ApartCodes", "leavesFullSet", "(I)Z"⟩, 13) := ⟨⟨by decide +kernel, by decide +kernel⟩, List.mem_of_getElem? (i := 197) (by decide +kernel), List.mem_of_getElem? (i := 824) (by decide +kernel), List.mem_of_getElem? (i := 825) (by decide +kernel)⟩
theorem lw_p34 : lw_okq (⟨"NotchedKeys$ApartCodes", "leftFrom", "(I)I"⟩, 13) := ⟨⟨by decide +kernel, by decide +kernel⟩, List.mem_of_getElem? (i := 197) (by decide +kernel), List.mem_of_getElem? (i := 829) (by decide +kernel), List.mem_of_getElem? (i := 830) (by decide +kernel)⟩
theorem lw_p35 : lw_okq (⟨"NotchedKeys$ApartCodes", "canBeApart", "(I)Z"⟩, 13) := ⟨⟨by decide +kernel, by decide +kernel⟩, List.mem_of_getElem? (i := 197) (by decide +kernel), List.mem_of_getElem? (i := 833) (by decide +kernel), List.mem_of_getElem? (i := 834) (by decide +kernel)⟩
theorem lw_p36 : lw_okq (⟨"NotchedKeys$ApartCodes", "add", "(I)V"⟩, 13) := ⟨⟨by decide +kernel, by decide +kernel⟩, List.mem_of_getElem? (i := 197) (by decide +kernel), List.mem_of_getElem? (i := 837) (by decide +kernel), List.mem_of_getElem? (i := 838) (by decide +kernel)⟩
def lw_privs_3 : List (MethodName × Nat) := [(⟨"NotchedKeys$ApartCodes", "swapBack", "(I)V"⟩, 13), (⟨"NotchedKeys$ApartCodes", "leavesFullSet", "(I)Z"⟩, 13), (⟨"NotchedKeys$ApartCodes", "leftFrom", "(I)I"⟩, 13), (⟨"NotchedKeys$ApartCodes", "canBeApart", "(I)Z"⟩, 13), (⟨"NotchedKeys$ApartCodes", "add", "(I)V"⟩, 13)]
theorem lw_r3 : ∀ q ∈ lw_privs_3, lw_okq q := List.forall_mem_cons.mpr ⟨lw_p32, List.forall_mem_cons.mpr ⟨lw_p33, List.forall_mem_cons.mpr ⟨lw_p34, List.forall_mem_cons.mpr ⟨lw_p35, List.forall_mem_cons.mpr ⟨lw_p36, fun _ h => absurd h List.not_mem_nil⟩⟩⟩⟩⟩
def lw_privs : List (MethodName × Nat) := lw_privs_1 ++ (lw_privs_2 ++ (lw_privs_3))
def lw_tbl : List Cond := k2_sels lw_privs ++ tables_1
theorem lw_privs_ok : ∀ q ∈ lw_privs, lw_okq q := by
  show ∀ q ∈ lw_privs_1 ++ (lw_privs_2 ++ (lw_privs_3)), lw_okq q
  exact List.forall_mem_append.mpr ⟨lw_r1, List.forall_mem_append.mpr ⟨lw_r2, lw_r3⟩⟩
/-- the streams that the claim lets the run draw from -/
abbrev lw_cs : List Choice := [Jvm.Choice.named "NaN.bits"]
theorem lw_bits : nanBits ∈ lw_cs := by first | decide | exact List.mem_cons_self | simp [lw_cs, nanBits]
end
section
/-! ===== BEGIN words of one list among another's, by their places ===== -/
theorem goodIn_r {big : List Cond} (ws : List Cond) (ps : List Nat) (hp : ws = ps.filterMap (fun i => big[i]?)) (h : ws.all goodWord = true) : GoodIn big ws := by
  intro w hw
  have h1 := List.all_eq_true.mp h w hw
  rw [hp] at hw
  obtain ⟨i, -, hi⟩ := List.mem_filterMap.mp hw
  have hm : w ∈ big := by first | exact List.mem_of_getElem? hi | exact List.getElem?_mem hi
  exact ⟨hm, good_of_word h1⟩
theorem goodIn_app {big a b : List Cond} (ha : GoodIn big a) (hb : GoodIn big b) : GoodIn big (a ++ b) := fun w h => (List.mem_append.mp h).elim (ha w) (hb w)
theorem goodIn_ca {big a b : List Cond} {c : Cond} (ha : GoodIn big (c :: a)) (hb : GoodIn big b) : GoodIn big (c :: (a ++ b)) := fun w h => (List.mem_cons.mp h).elim (fun e => ha w (List.mem_cons.mpr (Or.inl e))) (fun h => (List.mem_append.mp h).elim (fun h => ha w (List.mem_cons.mpr (Or.inr h))) (hb w))
theorem goodIn_sub {big ws : List Cond} (hm : ∀ w ∈ ws, w ∈ big) (h : ws.all goodWord = true) : GoodIn big ws := fun w hw => ⟨hm w hw, good_of_word (List.all_eq_true.mp h w hw)⟩
/-! ===== END ===== -/

/-! ===== BEGIN exceptions that leave a method, and their catching by the caller (launches without stack traces) ===== -/
section VXA
/-! The laws vx_back, vx_callV, vx_callS, vx_callSW, vx_throw0, vx_throwS follow proofs of the library, with one case more: JvmDerived/Free/Laws.lean (Back.of_free), Shelf42/LK1.lean (callV, callS), Shelf/KitTraced.lean (throwNew0V, throwNewS). -/
/-- where a method has thrown q: the class by its name, the cell, what was written, the world -/
def vx_T (XC : String → State → State → Prop) (st : State) (q : Addr) (t : State) (mc ms : Nat) (free : Addr → Prop) : Prop :=
  ∃ (E : String) (ce : Cell) (L : List Loc), XC E st t ∧ t.heap[q]? = some ce ∧ ce.vm = .none ∧ st.vm.findClass E = some ce.cls ∧ st.WarmedH t.vm ∧ st.sameButNew ({ t with vm := st.vm } : State) L mc ms ∧ ∀ z ∈ L, free z.base
def vx_Q (Qc : Array Value → State → Outcome → State → Prop) (XC : String → State → State → Prop) (mc ms : Nat) (free : Addr → Prop) : Array Value → State → Outcome → State → Prop := fun a st o t =>
  (Qc a st o t ∧ ∃ L, FrameEnd st o t L mc ms ∧ ∀ q ∈ L, free q.base) ∨ ∃ q, o = .threw q ∧ vx_T XC st q t mc ms free
/-- a callee that returns or throws -/
def vx_Met (l : Launch) (y : MethodName) (ws : List Cond) (rm : Room) (Pc : Array Value → State → Prop) (Qc : Array Value → State → Outcome → State → Prop) (XC : String → State → State → Prop) (mc ms : Nat) (free : Addr → Prop) : Prop :=
  MetFree l y (headSpec ws rm) Pc (fun _ _ _ _ _ => True) (vx_Q Qc XC mc ms free)
def vx_Post (XC : String → State → State → Prop) (mc ms : Nat) (free : Addr → Prop) : Pt → Array Value → Addr → Pt → Prop := fun A a q B =>
  ∃ (g : JFrame) (mk : MethodId) (t : State) (L : List Loc) (E : String) (ce : Cell), B.U.heap = t.heap ∧ B.U.vm = t.vm ∧ XC E (A.U.calling g mk a) t ∧ t.heap[q]? = some ce ∧ ce.vm = .none ∧ A.U.vm.findClass E = some ce.cls ∧ B.locs = A.locs ++ L ∧ (∀ z ∈ L, free z.base) ∧ B.cells = A.cells + mc ∧ B.slots = A.slots + ms
def vx_Back (l : Launch) (R : Room) (p : Program) (e : Env) (below : List Frame) (s : State) (sargs : Array Value) (y : MethodName) (len W9 : Nat)
    (Pre : Pt → Array Value → Prop) (Post : Pt → Array Value → Option Value → Pt → Prop) (PostX : Pt → Array Value → Addr → Pt → Prop) : Prop :=
  ∀ (m : MethodId) (meth : Method) (c : Code) (A : Pt) (g : JFrame) (ig : Instr) (mk : MethodId) (a : Array Value),
    Stand p l e R s m sargs below meth c A.U A.locs A.cells A.slots → g.method = m → g.locals.size = c.maxLocals → decode c.code g.pc = .ok (ig, len) →
    2 * g.monitorRoom + (g.stack.map fun v => v.category).sum ≤ W9 → A.U.methodNamed? y = some mk → Pre A a →
    (∃ (v : Option Value) (B : Pt), Stand p l e R s m sargs below meth c B.U B.locs B.cells B.slots ∧ Post A a v B ∧
      Steps p.tables e below (doInvoke e (A.U.setTop g) [] mk a).1 (B.U.setTop { g with pc := g.pc + len, stack := v.toList ++ g.stack })) ∨
    (∃ (q : Addr) (B : Pt), Stand p l e R s m sargs below meth c B.U B.locs B.cells B.slots ∧ PostX A a q B ∧
      Steps p.tables e below (doInvoke e (A.U.setTop g) [] mk a).1 ((B.U.setTop g).pushFrame (.throwing q)))
section Payer
variable {l : Launch} {R : Room} {p : Program} {e : Env} {below : List Frame} {s : State} {sargs : Array Value} {y : MethodName} {len W9 : Nat}
theorem vx_back {ws : List Cond} {rm : Room} {Pc : Array Value → State → Prop} {Qc : Array Value → State → Outcome → State → Prop} {XC : String → State → State → Prop} {mc ms : Nat} {free : Addr → Prop} {bytes : ByteArray} {maxL : Nat} {ret : Option FieldType}
    (hM : vx_Met l y ws rm Pc Qc XC mc ms free) (hblind : FrameBlind Pc) (hrc : rm.cells = mc) (hrs : rm.slots = ms)
    (hframes : rm.frames + 1 ≤ R.frames) (hlocals : W9 + (maxL + 11) + rm.locals ≤ R.locals)
    (hws : ∀ w ∈ ws, ∀ a' U, s.WarmedH U.vm → w.before a' U = true) (hcode : Cond.code y bytes maxL ret ∈ ws) (hinit : ∀ a' U, s.WarmedH U.vm → (Cond.initialized y.cls).before a' U = true) :
    vx_Back l R p e below s sargs y len W9 (PreOf R mc ms Pc) (PostOf Qc mc ms free) (vx_Post XC mc ms free) := by
  intro m meth c A g ig mk a X hg hsize hdg hW hn hp
  have h1 : (headSpec ws rm).pre.before a A.U = true := atoms_intro fun w hw => hws w hw _ _ X.warmed
  have h2 : (Cond.code y bytes maxL ret).before a A.U = true := hws _ hcode _ _ X.warmed
  have h3 : (Cond.initialized y.cls).before a A.U = true := hinit _ _ X.warmed
  have h4 : A.cells + (headSpec ws rm).room.cells ≤ R.cells := by rw [show (headSpec ws rm).room.cells = mc from hrc]; exact hp.1
  have h5 : A.slots + (headSpec ws rm).room.slots ≤ R.slots := by rw [show (headSpec ws rm).room.slots = ms from hrs]; exact hp.2.1
  have hPc : Pc a (A.U.calling g mk a) := hblind _ _ _ _ hp.2.2
  obtain ⟨U, Ls, c0, s0⟩ := A
  dsimp only [Pt.U, Pt.locs, Pt.cells, Pt.slots] at h1 h2 h3 h4 h5 X hn hPc ⊢
  obtain ⟨methY, cY, hmY, hcY, -, hlY, -, -, -, -⟩ := Cond.code_spec hn h2
  obtain ⟨kY, hkY, -⟩ := className_of_methodNamed hn
  have hinitY : kY.init = .initialized := Cond.initialized_spec (findClass_of_methodNamed hn) hkY h3
  have h : At U g.method c below := by rw [hg]; exact X.here
  have hlocals9 : W9 + (maxL + 11) + (headSpec ws rm).room.locals ≤ R.locals := hlocals
  have happ : (headSpec ws rm).appliesLoose y e.platform (U.calling g mk a) = true :=
    Spec.appliesLoose_calling (g := g) h hdg hn hkY hinitY
      (X.room_calling (g := g) (R' := (headSpec ws rm).room) hsize hmY hcY hframes (by rw [hlY]; omega) h4 h5) h1
  obtain ⟨mid, hmid⟩ := h.above
  have hfr : (U.setTop g).frames = (.java g :: mid) ++ below := by rw [State.frames_setTop' g h.top, hmid]; rfl
  obtain ⟨o, s₂, hsteps, -, hend, hq⟩ := Steps.callFree hM p X.admits X.cas X.clock (acts := []) hfr happ hPc trivial
  have hq' : vx_Q Qc XC mc ms free a (U.calling g mk a) o s₂ := hq
  rw [State.frames_setTop' g h.top] at hend
  obtain ⟨g₀, hg0⟩ := Option.isSome_iff_exists.mp h.top
  obtain ⟨r, hr⟩ := State.topJava?_eq_some.mp hg0
  have hr' : (({ U with heap := s₂.heap, slotsUsed := s₂.slotsUsed } : State).setVm s₂.vm).frames = .java g₀ :: r := hr
  rcases hq' with ⟨hqc, L, hfe, hL⟩ | ⟨q, rfl, E, ce, L, hx, hce, hcv, hcl, hW₂, hsm, hL⟩
  · obtain ⟨⟨v, rfl⟩, hW₂, e2, q2, q3, q4, q5, q6⟩ := id hfe
    have e3 : s₂ = ({ (U.calling g mk a).setFrames s₂.frames with heap := s₂.heap, slotsUsed := s₂.slotsUsed } : State).setVm s₂.vm := by
      have : s₂ = ({ s₂ with vm := (U.calling g mk a).vm } : State).setVm s₂.vm := rfl
      rw [e2] at this
      exact this
    obtain ⟨c₂, i₂, len₂, hc₂, hd₂, hf₂⟩ := hend
    have hW' : U.WarmedH s₂.vm := hW₂
    have hcc : c₂ = c := by
      have h1 : s₂.code? g.method = U.code? g.method := by
        rw [State.code?_eq, State.code?_eq, hW'.alike.method?]
      exact Option.some.inj (hc₂.symm.trans (h1.trans h.code))
    subst hcc
    have hlen : len₂ = len := by rw [hdg] at hd₂; cases hd₂; rfl
    subst hlen
    have hs₂ : s₂ = (({ U with heap := s₂.heap, slotsUsed := s₂.slotsUsed } : State).setVm s₂.vm).setTop { g with pc := g.pc + len₂, stack := v.toList ++ g.stack } := by
      refine e3.trans ?_
      rw [hf₂, State.calling_eq h.top, State.setFrames_setFrames, State.setTop_of_frames _ hr', hr]
      rfl
    have hsame : U.sameButNew ({ U with heap := s₂.heap, slotsUsed := s₂.slotsUsed } : State) L mc ms := by
      refine ⟨?_, q2, q3, q4, q5, q6⟩
      obtain ⟨t, ht, -⟩ := State.frames_cons hr
      show ({ U with heap := s₂.heap, slotsUsed := s₂.slotsUsed } : State) = { U.setFrames U.frames with heap := s₂.heap, slotsUsed := s₂.slotsUsed }
      rw [State.setFrames_self ht]
    subst hg
    refine Or.inl ⟨v, ⟨(({ U with heap := s₂.heap, slotsUsed := s₂.slotsUsed } : State).setVm s₂.vm), Ls ++ L, c0 + mc, s0 + ms⟩,
      ⟨X.admits, X.cas, X.clock, X.frames, X.room, X.hears, X.method, X.code, (X.here.setHeapUsed s₂.heap s₂.slotsUsed).setVm hW'.alike, X.tail, State.WarmedH.trans X.warmed hW', X.limits, X.bytes, X.same.trans (hsame.setVm s.vm)⟩,
      ⟨g, mk, s₂, L, rfl, rfl, hqc, rfl, hL, rfl, rfl⟩, ?_⟩
    show Steps p.tables e below _ ((({ U with heap := s₂.heap, slotsUsed := s₂.slotsUsed } : State).setVm s₂.vm).setTop { g with pc := g.pc + len₂, stack := v.toList ++ g.stack })
    rw [← hs₂]
    exact hsteps
  · obtain ⟨e2, q2, q3, q4, q5, q6⟩ := id hsm
    have e3 : s₂ = ({ (U.calling g mk a).setFrames s₂.frames with heap := s₂.heap, slotsUsed := s₂.slotsUsed } : State).setVm s₂.vm := by
      have : s₂ = ({ s₂ with vm := (U.calling g mk a).vm } : State).setVm s₂.vm := rfl
      rw [e2] at this
      exact this
    have hf₂ : s₂.frames = .throwing q :: .java g :: U.frames.tail := hend
    have hW' : U.WarmedH s₂.vm := hW₂
    have hs₂ : s₂ = ((({ U with heap := s₂.heap, slotsUsed := s₂.slotsUsed } : State).setVm s₂.vm).setTop g).pushFrame (.throwing q) := by
      refine e3.trans ?_
      rw [hf₂, State.calling_eq h.top, State.setFrames_setFrames, State.pushFrame, State.frames_setTop _ hr', State.setTop_of_frames _ hr', State.setFrames_setFrames, hr]
      rfl
    have hsame : U.sameButNew ({ U with heap := s₂.heap, slotsUsed := s₂.slotsUsed } : State) L mc ms := by
      refine ⟨?_, q2, q3, q4, q5, q6⟩
      obtain ⟨t, ht, -⟩ := State.frames_cons hr
      show ({ U with heap := s₂.heap, slotsUsed := s₂.slotsUsed } : State) = { U.setFrames U.frames with heap := s₂.heap, slotsUsed := s₂.slotsUsed }
      rw [State.setFrames_self ht]
    subst hg
    refine Or.inr ⟨q, ⟨(({ U with heap := s₂.heap, slotsUsed := s₂.slotsUsed } : State).setVm s₂.vm), Ls ++ L, c0 + mc, s0 + ms⟩,
      ⟨X.admits, X.cas, X.clock, X.frames, X.room, X.hears, X.method, X.code, (X.here.setHeapUsed s₂.heap s₂.slotsUsed).setVm hW'.alike, X.tail, State.WarmedH.trans X.warmed hW', X.limits, X.bytes, X.same.trans (hsame.setVm s.vm)⟩,
      ⟨g, mk, s₂, L, E, ce, rfl, rfl, hx, hce, hcv, hcl, rfl, hL, rfl, rfl⟩, ?_⟩
    show Steps p.tables e below _ (((({ U with heap := s₂.heap, slotsUsed := s₂.slotsUsed } : State).setVm s₂.vm).setTop g).pushFrame (.throwing q))
    rw [← hs₂]
    exact hsteps
end Payer
section Calls
variable {p : Program} {l : Launch} {e : Env} {R : Room} {s : State} {m : MethodId} {args : Array Value} {below : List Frame} {meth : Method} {c : Code} {T : State} {locs : List Loc} {cells slots : Nat}
theorem vx_callV (X : Stand p l e R s m args below meth c T locs cells slots) (hexec : p.tables.exec = Jvm.exec) {own C : String} {index : Nat} {y : MethodName} {bytes : ByteArray} {maxL : Nat} {ret : Option FieldType}
    (hown : s.vm.findClass own = some m.cls) (hlink : (Cond.methodLink own index y).before args s = true) (hinst : (Cond.instanceMethod y).before args s = true) (hsel : (Cond.selects C y y).before args s = true)
    (hcode : (Cond.code y bytes maxL ret).before args s = true) (hy : y.cls ≠ "java/lang/invoke/MethodHandle" ∧ y.cls ≠ "java/lang/invoke/VarHandle")
    {W9 : Nat} {Pre : Pt → Array Value → Prop} {Post : Pt → Array Value → Option Value → Pt → Prop} {PostX : Pt → Array Value → Addr → Pt → Prop} (hK : vx_Back l R p e below s args y 3 W9 Pre Post PostX)
    {b : Addr} {cellB : Cell} (hcell : T.heap[b]? = some cellB) (hobj : cellB.vm.isStatics = false) (hcls : s.vm.findClass C = some cellB.cls)
    {g : JFrame} (hg : g.method = m) (hsize : g.locals.size = c.maxLocals) {argsL rest : List Value} (hlen : ∀ sig, parseMethodDescriptor y.desc = some sig → argsL.length = sig.parameters.length)
    (hstack : g.stack = argsL.reverse ++ .ref b :: rest) (hW : 2 * g.monitorRoom + (rest.map fun v => v.category).sum ≤ W9) (hdg : decode c.code g.pc = .ok (.invokevirtual index, 3))
    (hpre : ∀ vm₁, s.WarmedH vm₁ → Pre ⟨T.setVm vm₁, locs, cells, slots⟩ (Value.ref b :: argsL).toArray) :
    (∃ (v : Option Value) (vm₁ : Vm) (B : Pt), s.WarmedH vm₁ ∧ Stand p l e R s m args below meth c B.U B.locs B.cells B.slots ∧ Post ⟨T.setVm vm₁, locs, cells, slots⟩ (Value.ref b :: argsL).toArray v B ∧
      ∀ target, Steps p.tables e below (B.U.setTop { g with pc := g.pc + 3, stack := v.toList ++ rest }) target → Steps p.tables e below (T.setTop g) target) ∨
    (∃ (q : Addr) (vm₁ : Vm) (B : Pt), s.WarmedH vm₁ ∧ Stand p l e R s m args below meth c B.U B.locs B.cells B.slots ∧ PostX ⟨T.setVm vm₁, locs, cells, slots⟩ (Value.ref b :: argsL).toArray q B ∧
      Steps p.tables e below (T.setTop g) ((B.U.setTop { g with stack := rest }).pushFrame (.throwing q))) := by
  obtain ⟨mk, methM, hnamed, hmethM, hstM, habM⟩ := Cond.instanceMethod_spec hinst
  obtain ⟨methM', cM, hmethM', -, -, -, -, -, -, hsigM⟩ := Cond.code_spec hnamed hcode
  cases hmethM.symm.trans hmethM'
  obtain ⟨c2, r2, m2, q1, q2, q3, q4, kP, hkP, hkPi⟩ := Cond.selects_spec hsel
  cases hcls.symm.trans q1
  cases (State.methodFound?_of_named hnamed hy).symm.trans q2
  cases hnamed.symm.trans q3
  have hselP : selectMethod e.platform s.vm cellB.cls mk = .method mk := by rw [Launch.admits_selectMethod X.admits]; exact q4
  obtain ⟨vm₁, X₁, hstep₁⟩ := X.invokevirtual hexec hown hlink hnamed hmethM hstM hkP hkPi hy (a := b) (cell := cellB) hcell
    (fun z h => by rw [h] at hobj; cases hobj) hselP hmethM habM hkP hkPi (g := g) hg (argsL := argsL) (rest := rest) (hlen _ hsigM) hstack hdg
  rcases hK m meth c ⟨T.setVm vm₁, locs, cells, slots⟩ { g with stack := rest } (.invokevirtual index) mk (Value.ref b :: argsL).toArray X₁ hg hsize hdg hW (X₁.named hnamed) (hpre vm₁ X₁.warmed) with ⟨v, B, X', hpost, hsteps⟩ | ⟨q, B, X', hpost, hsteps⟩
  · exact Or.inl ⟨v, vm₁, B, X₁.warmed, X', hpost, fun target h => hstep₁ _ fun acts => by rw [doInvoke_state]; exact hsteps.trans h⟩
  · exact Or.inr ⟨q, vm₁, B, X₁.warmed, X', hpost, hstep₁ _ fun acts => by rw [doInvoke_state]; exact hsteps⟩
theorem vx_callS (X : Stand p l e R s m args below meth c T locs cells slots) (hexec : p.tables.exec = Jvm.exec) {own : String} {index : Nat} {y : MethodName} {bytes : ByteArray} {maxL : Nat} {ret : Option FieldType}
    (hown : s.vm.findClass own = some m.cls) (hlink : (Cond.methodLink own index y).before args s = true) (hstat : (Cond.static y).before args s = true) (hinit : (Cond.initialized y.cls).before args s = true)
    (hcode : (Cond.code y bytes maxL ret).before args s = true) (hy : y.cls ≠ "java/lang/invoke/MethodHandle" ∧ y.cls ≠ "java/lang/invoke/VarHandle")
    {W9 : Nat} {Pre : Pt → Array Value → Prop} {Post : Pt → Array Value → Option Value → Pt → Prop} {PostX : Pt → Array Value → Addr → Pt → Prop} (hK : vx_Back l R p e below s args y 3 W9 Pre Post PostX)
    {g : JFrame} (hg : g.method = m) (hsize : g.locals.size = c.maxLocals) {argsL rest : List Value} (hlen : ∀ sig, parseMethodDescriptor y.desc = some sig → argsL.length = sig.parameters.length)
    (hstack : g.stack = argsL.reverse ++ rest) (hW : 2 * g.monitorRoom + (rest.map fun v => v.category).sum ≤ W9) (hdg : decode c.code g.pc = .ok (.invokestatic index, 3))
    (hpre : ∀ vm₁, s.WarmedH vm₁ → Pre ⟨T.setVm vm₁, locs, cells, slots⟩ argsL.toArray) :
    (∃ (v : Option Value) (vm₁ : Vm) (B : Pt), s.WarmedH vm₁ ∧ Stand p l e R s m args below meth c B.U B.locs B.cells B.slots ∧ Post ⟨T.setVm vm₁, locs, cells, slots⟩ argsL.toArray v B ∧
      ∀ target, Steps p.tables e below (B.U.setTop { g with pc := g.pc + 3, stack := v.toList ++ rest }) target → Steps p.tables e below (T.setTop g) target) ∨
    (∃ (q : Addr) (vm₁ : Vm) (B : Pt), s.WarmedH vm₁ ∧ Stand p l e R s m args below meth c B.U B.locs B.cells B.slots ∧ PostX ⟨T.setVm vm₁, locs, cells, slots⟩ argsL.toArray q B ∧
      Steps p.tables e below (T.setTop g) ((B.U.setTop { g with stack := rest }).pushFrame (.throwing q))) := by
  obtain ⟨mk, hnamed⟩ := Cond.code_named hcode
  obtain ⟨methM, cM, hmethM, -, -, -, -, -, -, hsigM⟩ := Cond.code_spec hnamed hcode
  have hstatic : methM.isStatic = true := Cond.static_spec hnamed hmethM hstat
  obtain ⟨kP, hkP, -⟩ := className_of_methodNamed hnamed
  have hinitP : kP.init = .initialized := Cond.initialized_spec (findClass_of_methodNamed hnamed) hkP hinit
  obtain ⟨vm₁, X₁, hstep₁⟩ := X.invokestatic hexec hown hlink hnamed hmethM hstatic hkP hinitP hy (g := g) hg (argsL := argsL) (rest := rest) (hlen _ hsigM) hstack hdg
  rcases hK m meth c ⟨T.setVm vm₁, locs, cells, slots⟩ { g with stack := rest } (.invokestatic index) mk argsL.toArray X₁ hg hsize hdg hW (X₁.named hnamed) (hpre vm₁ X₁.warmed) with ⟨v, B, X', hpost, hsteps⟩ | ⟨q, B, X', hpost, hsteps⟩
  · exact Or.inl ⟨v, vm₁, B, X₁.warmed, X', hpost, fun target h => hstep₁ _ fun acts => by rw [doInvoke_state]; exact hsteps.trans h⟩
  · exact Or.inr ⟨q, vm₁, B, X₁.warmed, X', hpost, hstep₁ _ fun acts => by rw [doInvoke_state]; exact hsteps⟩
end Calls
theorem vx_cls {s : State} {T : State} {vm₁ : Vm} {E : String} {k : ClassId} (hW : s.WarmedH vm₁) (h : (T.setVm vm₁).vm.findClass E = some k) : s.vm.findClass E = some k := by
  have h1 : vm₁.findClass E = some k := h
  rw [hW.alike.findClass] at h1
  exact h1
/-- the method's frame g, with q thrown over it -/
def vx_W (p : Program) (l : Launch) (e : Env) (R : Room) (s : State) (m : MethodId) (args : Array Value) (below : List Frame) (meth : Method) (c : Code) (H : Heap) (locs : List Loc) (cells slots : Nat) (Q : State → Prop) (g : JFrame) (q : Addr) : Prop :=
  ∀ T : State, T.heap = H → Stand p l e R s m args below meth c T locs cells slots → ∃ t, Steps p.tables e below ((T.setTop g).pushFrame (.throwing q)) t ∧ Q t
def vx_Run (p : Program) (l : Launch) (e : Env) (R : Room) (s : State) (m : MethodId) (args : Array Value) (below : List Frame) (meth : Method) (c : Code) (H : Heap) (locs : List Loc) (cells slots mc ms : Nat) (g : JFrame) (rest : List Value) (Qa : State → Outcome → State → Prop) (XC : String → State → State → Prop) (free : Addr → Prop) : Prop :=
  ∀ T : State, T.heap = H → Stand p l e R s m args below meth c T locs cells slots →
    (∃ (v : Option Value) (st₀ t T' : State) (L : List Loc), st₀.heap = H ∧ Stand p l e R s m args below meth c T' (locs ++ L) (cells + mc) (slots + ms) ∧ (∀ q ∈ L, free q.base) ∧ T'.heap = t.heap ∧ T'.vm = t.vm ∧ Qa st₀ (.returned v) t ∧
      Goes p e below T g T' { g with pc := g.pc + 3, stack := v.toList ++ rest }) ∨
    (∃ (q : Addr) (st₀ t T' : State) (L : List Loc) (E : String) (ce : Cell), st₀.heap = H ∧ Stand p l e R s m args below meth c T' (locs ++ L) (cells + mc) (slots + ms) ∧ (∀ z ∈ L, free z.base) ∧ T'.heap = t.heap ∧ T'.vm = t.vm ∧ XC E st₀ t ∧ t.heap[q]? = some ce ∧ ce.vm = .none ∧ s.vm.findClass E = some ce.cls ∧
      Steps p.tables e below (T.setTop g) ((T'.setTop { g with stack := rest }).pushFrame (.throwing q)))
def vx_X {S : Type} (px : S → Prop) (B : String → S → State → Prop) (A : Nat → Prop) : String → State → State → Prop := fun E st t => ∃ u : S, px u ∧ B E u t ∧ va_F A st t
section Runs
variable {p : Program} {l : Launch} {e : Env} {R : Room} {s : State} {m : MethodId} {args : Array Value} {below : List Frame} {meth : Method} {c : Code} {H : Heap} {locs : List Loc} {cells slots : Nat}
variable {y : MethodName} {bytes cc : ByteArray} {maxL nL mc ms n index : Nat} {ret : Option FieldType} {ws : List Cond} {rm : Room} {Pc : Array Value → State → Prop} {Qc : Array Value → State → Outcome → State → Prop} {XC : String → State → State → Prop} {free : Addr → Prop} {Ts : List Cond} {own C : String} {b : Addr} {As rest : List Value} {g : JFrame}
theorem vx_callBack (cb : CallB R s args own index y bytes maxL ret ws rm mc ms n) (hM : vx_Met l y ws rm Pc Qc XC mc ms free) (hbl : FrameBlind Pc) : vx_Back l R p e below s args y 3 8 (PreOf R mc ms Pc) (PostOf Qc mc ms free) (vx_Post XC mc ms free) := by
  obtain ⟨hrc, hrs, hfr, hlo, hws, hcw, -, hini, -⟩ := cb
  exact vx_back (bytes := bytes) (maxL := maxL) (ret := ret) hM hbl hrc hrs hfr hlo hws hcw (fun a' U hW => word_at hW (Or.inl (by first | rfl | simp [Cond.onTables, Cond.keeps, Cond.steady])) hini)
theorem vx_runV (S : CallFix p m c cc nL s args Ts own) (hM : vx_Met l y ws rm Pc Qc XC mc ms free) (cw : CallW R s args own C index y bytes maxL ret ws rm mc ms n) (hp : PreV s H C b Pc As)
    (hg : g.method = m) (hn : As.length = n) (hsize : g.locals.size = nL) (hstack : g.stack = As.reverse ++ .ref b :: rest) (hW : 2 * g.monitorRoom + (rest.map fun v => v.category).sum ≤ 8) (hdg : decode cc g.pc = .ok (.invokevirtual index, 3)) (hf : cells + mc ≤ R.cells ∧ slots + ms ≤ R.slots) :
    vx_Run p l e R s m args below meth c H locs cells slots mc ms g rest (Qc (Value.ref b :: As).toArray) XC free := by
  have hK : vx_Back l R p e below s args y 3 8 (PreOf R mc ms Pc) (PostOf Qc mc ms free) (vx_Post XC mc ms free) := vx_callBack cw.1 hM hp.1
  obtain ⟨⟨-, -, -, -, -, -, hcode, -, hy, hlen, hl⟩, hin, hse⟩ := cw
  obtain ⟨hx, hb, hml, ho, -⟩ := S
  obtain ⟨-, ⟨cellB, hcB, hoB, hclB⟩, hPc⟩ := hp
  intro T hT X
  rcases vx_callV X hx (C := C) (bytes := bytes) (maxL := maxL) (ret := ret) ho hl hin hse hcode hy hK (by rw [hT]; exact hcB) hoB hclB hg (hsize.trans hml.symm) (argsL := As) (rest := rest) (fun sig h => hn.trans (hlen sig h)) hstack hW (by rw [hb]; exact hdg)
    (fun vm₁ hW₁ => ⟨hf.1, hf.2, hPc (T.setVm vm₁) hT hW₁⟩) with ⟨v, vm₁, ⟨U', l2, c2, s2⟩, hW₁, X', ⟨g', mk, t, L, e1, e2, hq, h1, hL, h2, h3⟩, st⟩ | ⟨q, vm₁, ⟨U', l2, c2, s2⟩, hW₁, X', ⟨g', mk, t, L, E, ce, e1, e2, hq, hce, hcv, hcl, h1, hL, h2, h3⟩, st⟩
  · dsimp only [Pt.U, Pt.locs, Pt.cells, Pt.slots] at X' e1 e2 h1 h2 h3 st
    subst h1; subst h2; subst h3
    exact Or.inl ⟨v, (T.setVm vm₁).calling g' mk (Value.ref b :: As).toArray, t, U', L, hT, X', hL, e1, e2, hq, st⟩
  · dsimp only [Pt.U, Pt.locs, Pt.cells, Pt.slots] at X' e1 e2 h1 h2 h3 st hcl
    subst h1; subst h2; subst h3
    exact Or.inr ⟨q, (T.setVm vm₁).calling g' mk (Value.ref b :: As).toArray, t, U', L, E, ce, hT, X', hL, e1, e2, hq, hce, hcv, vx_cls hW₁ hcl, st⟩
theorem vx_runS (S : CallFix p m c cc nL s args Ts own) (hM : vx_Met l y ws rm Pc Qc XC mc ms free) (cw : CallB R s args own index y bytes maxL ret ws rm mc ms n ∧ (Cond.static y).before args s = true) (hp : PreS s H Pc As)
    (hg : g.method = m) (hn : As.length = n) (hsize : g.locals.size = nL) (hstack : g.stack = As.reverse ++ rest) (hW : 2 * g.monitorRoom + (rest.map fun v => v.category).sum ≤ 8) (hdg : decode cc g.pc = .ok (.invokestatic index, 3)) (hf : cells + mc ≤ R.cells ∧ slots + ms ≤ R.slots) :
    vx_Run p l e R s m args below meth c H locs cells slots mc ms g rest (Qc As.toArray) XC free := by
  have hK : vx_Back l R p e below s args y 3 8 (PreOf R mc ms Pc) (PostOf Qc mc ms free) (vx_Post XC mc ms free) := vx_callBack cw.1 hM hp.1
  obtain ⟨⟨-, -, -, -, -, -, hcode, hini, hy, hlen, hl⟩, hstt⟩ := cw
  obtain ⟨hx, hb, hml, ho, -⟩ := S
  intro T hT X
  rcases vx_callS X hx (bytes := bytes) (maxL := maxL) (ret := ret) ho hl hstt hini hcode hy hK hg (hsize.trans hml.symm) (argsL := As) (rest := rest) (fun sig h => hn.trans (hlen sig h)) hstack hW (by rw [hb]; exact hdg)
    (fun vm₁ hW₁ => ⟨hf.1, hf.2, hp.2 (T.setVm vm₁) hT hW₁⟩) with ⟨v, vm₁, ⟨U', l2, c2, s2⟩, hW₁, X', ⟨g', mk, t, L, e1, e2, hq, h1, hL, h2, h3⟩, st⟩ | ⟨q, vm₁, ⟨U', l2, c2, s2⟩, hW₁, X', ⟨g', mk, t, L, E, ce, e1, e2, hq, hce, hcv, hcl, h1, hL, h2, h3⟩, st⟩
  · dsimp only [Pt.U, Pt.locs, Pt.cells, Pt.slots] at X' e1 e2 h1 h2 h3 st
    subst h1; subst h2; subst h3
    exact Or.inl ⟨v, (T.setVm vm₁).calling g' mk As.toArray, t, U', L, hT, X', hL, e1, e2, hq, st⟩
  · dsimp only [Pt.U, Pt.locs, Pt.cells, Pt.slots] at X' e1 e2 h1 h2 h3 st hcl
    subst h1; subst h2; subst h3
    exact Or.inr ⟨q, (T.setVm vm₁).calling g' mk As.toArray, t, U', L, E, ce, hT, X', hL, e1, e2, hq, hce, hcv, vx_cls hW₁ hcl, st⟩
end Runs
section Rows
variable {p : Program} {l : Launch} {e : Env} {R : Room} {s : State} {m : MethodId} {args : Array Value} {below : List Frame} {meth : Method} {c : Code} {H : Heap} {locs : List Loc} {cells slots : Nat} {Q : State → Prop}
variable {mc ms : Nat} {free : Addr → Prop} {A0 A1 : Nat → Prop} {H0 : Heap} {a : Array Value} {pc : Nat} {ls : Array Slot} {st0 rest : List Value}
theorem vx_keep {st₀ t T' : State} {L : List Loc} (h0 : st₀.heap = H) (e1 : T'.heap = t.heap) (hS : va_S A0 H0 H locs) (hA : ∀ q, q < H.size → A1 q → A0 q) (hf : ∀ q, free q → A0 q) (hL : ∀ q ∈ L, free q.base) (hF : va_F A1 st₀ t) :
    H.size ≤ T'.heap.size ∧ (∀ q : Nat, q < H.size → ¬ A1 q → T'.heap[q]? = H[q]?) ∧ va_S A0 H0 T'.heap (locs ++ L) := by
  obtain ⟨hz, hk⟩ := hF
  rw [h0] at hz hk
  exact ⟨by rw [e1]; exact hz, fun q h1 h2 => by rw [e1]; exact hk q h1 h2,
    ⟨Nat.le_trans hS.1 (by rw [e1]; exact hz), fun q h1 h2 => by rw [e1, hk q (Nat.lt_of_lt_of_le h1 hS.1) (fun z => h2 (hA q (Nat.lt_of_lt_of_le h1 hS.1) z))]; exact hS.2.1 q h1 h2, fun q hq => by
      rcases List.mem_append.mp hq with h | h
      · exact hS.2.2 q h
      · exact hf _ (hL q h)⟩⟩
theorem vx_calli {S SX : Type} {post : Int32 → S → Prop} {px : SX → Prop} {B : S → State → Prop} {BX : String → SX → State → Prop} {AX : Nat → Prop} (hr : vx_Run p l e R s m args below meth c H locs cells slots mc ms (F0 m pc ls st0) rest (va_Qi post B A1 a) (vx_X px BX AX) free) (hS : va_S A0 H0 H locs) (hA : ∀ q, q < H.size → A1 q → A0 q) (hf : ∀ q, free q → A0 q) (hAX : ∀ q, q < H.size → AX q → A0 q)
    (kx : ∀ (E : String) (ce : Cell) (q9 : Addr) (u : SX) (t : State) (H1 : Heap) (locs1 : List Loc), t.heap = H1 → s.vm.Alike t.vm → px u → BX E u t → H.size ≤ H1.size → (∀ q : Nat, q < H.size → ¬ AX q → H1[q]? = H[q]?) → va_S A0 H0 H1 locs1 → H1[q9]? = some ce → ce.vm = .none → s.vm.findClass E = some ce.cls → vx_W p l e R s m args below meth c H1 locs1 (cells + mc) (slots + ms) Q (F0 m pc ls rest) q9)
    (kk : ∀ (r : Int32) (u : S) (t : State) (H1 : Heap) (locs1 : List Loc), t.heap = H1 → s.vm.Alike t.vm → post r u → B u t → H.size ≤ H1.size → (∀ q : Nat, q < H.size → ¬ A1 q → H1[q]? = H[q]?) → va_S A0 H0 H1 locs1 → W p l e R s m args below meth c H1 locs1 (cells + mc) (slots + ms) Q (F0 m (pc + 3) ls (.int r :: rest))) : W p l e R s m args below meth c H locs cells slots Q (F0 m pc ls st0) := by
  intro T hT X
  rcases hr T hT X with ⟨v, st₀, t, T', L, h0, X', hL, e1, e2, ⟨⟨r, u, hv, hp, hb⟩, hF⟩, st⟩ | ⟨q, st₀, t, T', L, E, ce, h0, X', hL, e1, e2, ⟨u, hp, hb, hF⟩, hce, hcv, hcl, st⟩
  · cases hv
    obtain ⟨k1, k2, k3⟩ := vx_keep h0 e1 hS hA hf hL hF
    obtain ⟨t2, a1, b1⟩ := kk r u t T'.heap (locs ++ L) e1.symm (by rw [← e2]; exact X'.warmed.alike) hp hb k1 k2 k3 T' rfl X'
    exact ⟨t2, st t2 a1, b1⟩
  · obtain ⟨k1, k2, k3⟩ := vx_keep h0 e1 hS hAX hf hL hF
    obtain ⟨t2, a1, b1⟩ := kx E ce q u t T'.heap (locs ++ L) e1.symm (by rw [← e2]; exact X'.warmed.alike) hp hb k1 k2 k3 (by rw [e1]; exact hce) hcv hcl T' rfl X'
    exact ⟨t2, st.trans a1, b1⟩
theorem vx_calll {S SX : Type} {post : Int64 → S → Prop} {px : SX → Prop} {B : S → State → Prop} {BX : String → SX → State → Prop} {AX : Nat → Prop} (hr : vx_Run p l e R s m args below meth c H locs cells slots mc ms (F0 m pc ls st0) rest (va_Ql post B A1 a) (vx_X px BX AX) free) (hS : va_S A0 H0 H locs) (hA : ∀ q, q < H.size → A1 q → A0 q) (hf : ∀ q, free q → A0 q) (hAX : ∀ q, q < H.size → AX q → A0 q)
    (kx : ∀ (E : String) (ce : Cell) (q9 : Addr) (u : SX) (t : State) (H1 : Heap) (locs1 : List Loc), t.heap = H1 → s.vm.Alike t.vm → px u → BX E u t → H.size ≤ H1.size → (∀ q : Nat, q < H.size → ¬ AX q → H1[q]? = H[q]?) → va_S A0 H0 H1 locs1 → H1[q9]? = some ce → ce.vm = .none → s.vm.findClass E = some ce.cls → vx_W p l e R s m args below meth c H1 locs1 (cells + mc) (slots + ms) Q (F0 m pc ls rest) q9)
    (kk : ∀ (r : Int64) (u : S) (t : State) (H1 : Heap) (locs1 : List Loc), t.heap = H1 → s.vm.Alike t.vm → post r u → B u t → H.size ≤ H1.size → (∀ q : Nat, q < H.size → ¬ A1 q → H1[q]? = H[q]?) → va_S A0 H0 H1 locs1 → W p l e R s m args below meth c H1 locs1 (cells + mc) (slots + ms) Q (F0 m (pc + 3) ls (.long r :: rest))) : W p l e R s m args below meth c H locs cells slots Q (F0 m pc ls st0) := by
  intro T hT X
  rcases hr T hT X with ⟨v, st₀, t, T', L, h0, X', hL, e1, e2, ⟨⟨r, u, hv, hp, hb⟩, hF⟩, st⟩ | ⟨q, st₀, t, T', L, E, ce, h0, X', hL, e1, e2, ⟨u, hp, hb, hF⟩, hce, hcv, hcl, st⟩
  · cases hv
    obtain ⟨k1, k2, k3⟩ := vx_keep h0 e1 hS hA hf hL hF
    obtain ⟨t2, a1, b1⟩ := kk r u t T'.heap (locs ++ L) e1.symm (by rw [← e2]; exact X'.warmed.alike) hp hb k1 k2 k3 T' rfl X'
    exact ⟨t2, st t2 a1, b1⟩
  · obtain ⟨k1, k2, k3⟩ := vx_keep h0 e1 hS hAX hf hL hF
    obtain ⟨t2, a1, b1⟩ := kx E ce q u t T'.heap (locs ++ L) e1.symm (by rw [← e2]; exact X'.warmed.alike) hp hb k1 k2 k3 (by rw [e1]; exact hce) hcv hcl T' rfl X'
    exact ⟨t2, st.trans a1, b1⟩
theorem vx_callf {S SX : Type} {post : UInt32 → S → Prop} {px : SX → Prop} {B : S → State → Prop} {BX : String → SX → State → Prop} {AX : Nat → Prop} (hr : vx_Run p l e R s m args below meth c H locs cells slots mc ms (F0 m pc ls st0) rest (va_Qf post B A1 a) (vx_X px BX AX) free) (hS : va_S A0 H0 H locs) (hA : ∀ q, q < H.size → A1 q → A0 q) (hf : ∀ q, free q → A0 q) (hAX : ∀ q, q < H.size → AX q → A0 q)
    (kx : ∀ (E : String) (ce : Cell) (q9 : Addr) (u : SX) (t : State) (H1 : Heap) (locs1 : List Loc), t.heap = H1 → s.vm.Alike t.vm → px u → BX E u t → H.size ≤ H1.size → (∀ q : Nat, q < H.size → ¬ AX q → H1[q]? = H[q]?) → va_S A0 H0 H1 locs1 → H1[q9]? = some ce → ce.vm = .none → s.vm.findClass E = some ce.cls → vx_W p l e R s m args below meth c H1 locs1 (cells + mc) (slots + ms) Q (F0 m pc ls rest) q9)
    (kk : ∀ (r : UInt32) (u : S) (t : State) (H1 : Heap) (locs1 : List Loc), t.heap = H1 → s.vm.Alike t.vm → post r u → B u t → H.size ≤ H1.size → (∀ q : Nat, q < H.size → ¬ A1 q → H1[q]? = H[q]?) → va_S A0 H0 H1 locs1 → W p l e R s m args below meth c H1 locs1 (cells + mc) (slots + ms) Q (F0 m (pc + 3) ls (.float r :: rest))) : W p l e R s m args below meth c H locs cells slots Q (F0 m pc ls st0) := by
  intro T hT X
  rcases hr T hT X with ⟨v, st₀, t, T', L, h0, X', hL, e1, e2, ⟨⟨r, u, hv, hp, hb⟩, hF⟩, st⟩ | ⟨q, st₀, t, T', L, E, ce, h0, X', hL, e1, e2, ⟨u, hp, hb, hF⟩, hce, hcv, hcl, st⟩
  · cases hv
    obtain ⟨k1, k2, k3⟩ := vx_keep h0 e1 hS hA hf hL hF
    obtain ⟨t2, a1, b1⟩ := kk r u t T'.heap (locs ++ L) e1.symm (by rw [← e2]; exact X'.warmed.alike) hp hb k1 k2 k3 T' rfl X'
    exact ⟨t2, st t2 a1, b1⟩
  · obtain ⟨k1, k2, k3⟩ := vx_keep h0 e1 hS hAX hf hL hF
    obtain ⟨t2, a1, b1⟩ := kx E ce q u t T'.heap (locs ++ L) e1.symm (by rw [← e2]; exact X'.warmed.alike) hp hb k1 k2 k3 (by rw [e1]; exact hce) hcv hcl T' rfl X'
    exact ⟨t2, st.trans a1, b1⟩
theorem vx_calld {S SX : Type} {post : UInt64 → S → Prop} {px : SX → Prop} {B : S → State → Prop} {BX : String → SX → State → Prop} {AX : Nat → Prop} (hr : vx_Run p l e R s m args below meth c H locs cells slots mc ms (F0 m pc ls st0) rest (va_Qd post B A1 a) (vx_X px BX AX) free) (hS : va_S A0 H0 H locs) (hA : ∀ q, q < H.size → A1 q → A0 q) (hf : ∀ q, free q → A0 q) (hAX : ∀ q, q < H.size → AX q → A0 q)
    (kx : ∀ (E : String) (ce : Cell) (q9 : Addr) (u : SX) (t : State) (H1 : Heap) (locs1 : List Loc), t.heap = H1 → s.vm.Alike t.vm → px u → BX E u t → H.size ≤ H1.size → (∀ q : Nat, q < H.size → ¬ AX q → H1[q]? = H[q]?) → va_S A0 H0 H1 locs1 → H1[q9]? = some ce → ce.vm = .none → s.vm.findClass E = some ce.cls → vx_W p l e R s m args below meth c H1 locs1 (cells + mc) (slots + ms) Q (F0 m pc ls rest) q9)
    (kk : ∀ (r : UInt64) (u : S) (t : State) (H1 : Heap) (locs1 : List Loc), t.heap = H1 → s.vm.Alike t.vm → post r u → B u t → H.size ≤ H1.size → (∀ q : Nat, q < H.size → ¬ A1 q → H1[q]? = H[q]?) → va_S A0 H0 H1 locs1 → W p l e R s m args below meth c H1 locs1 (cells + mc) (slots + ms) Q (F0 m (pc + 3) ls (.double r :: rest))) : W p l e R s m args below meth c H locs cells slots Q (F0 m pc ls st0) := by
  intro T hT X
  rcases hr T hT X with ⟨v, st₀, t, T', L, h0, X', hL, e1, e2, ⟨⟨r, u, hv, hp, hb⟩, hF⟩, st⟩ | ⟨q, st₀, t, T', L, E, ce, h0, X', hL, e1, e2, ⟨u, hp, hb, hF⟩, hce, hcv, hcl, st⟩
  · cases hv
    obtain ⟨k1, k2, k3⟩ := vx_keep h0 e1 hS hA hf hL hF
    obtain ⟨t2, a1, b1⟩ := kk r u t T'.heap (locs ++ L) e1.symm (by rw [← e2]; exact X'.warmed.alike) hp hb k1 k2 k3 T' rfl X'
    exact ⟨t2, st t2 a1, b1⟩
  · obtain ⟨k1, k2, k3⟩ := vx_keep h0 e1 hS hAX hf hL hF
    obtain ⟨t2, a1, b1⟩ := kx E ce q u t T'.heap (locs ++ L) e1.symm (by rw [← e2]; exact X'.warmed.alike) hp hb k1 k2 k3 (by rw [e1]; exact hce) hcv hcl T' rfl X'
    exact ⟨t2, st.trans a1, b1⟩
theorem vx_callv {S SX : Type} {post : S → Prop} {px : SX → Prop} {B : S → State → Prop} {BX : String → SX → State → Prop} {AX : Nat → Prop} (hr : vx_Run p l e R s m args below meth c H locs cells slots mc ms (F0 m pc ls st0) rest (va_Qv post B A1 a) (vx_X px BX AX) free) (hS : va_S A0 H0 H locs) (hA : ∀ q, q < H.size → A1 q → A0 q) (hf : ∀ q, free q → A0 q) (hAX : ∀ q, q < H.size → AX q → A0 q)
    (kx : ∀ (E : String) (ce : Cell) (q9 : Addr) (u : SX) (t : State) (H1 : Heap) (locs1 : List Loc), t.heap = H1 → s.vm.Alike t.vm → px u → BX E u t → H.size ≤ H1.size → (∀ q : Nat, q < H.size → ¬ AX q → H1[q]? = H[q]?) → va_S A0 H0 H1 locs1 → H1[q9]? = some ce → ce.vm = .none → s.vm.findClass E = some ce.cls → vx_W p l e R s m args below meth c H1 locs1 (cells + mc) (slots + ms) Q (F0 m pc ls rest) q9)
    (kk : ∀ (u : S) (t : State) (H1 : Heap) (locs1 : List Loc), t.heap = H1 → s.vm.Alike t.vm → post u → B u t → H.size ≤ H1.size → (∀ q : Nat, q < H.size → ¬ A1 q → H1[q]? = H[q]?) → va_S A0 H0 H1 locs1 → W p l e R s m args below meth c H1 locs1 (cells + mc) (slots + ms) Q (F0 m (pc + 3) ls (rest))) : W p l e R s m args below meth c H locs cells slots Q (F0 m pc ls st0) := by
  intro T hT X
  rcases hr T hT X with ⟨v, st₀, t, T', L, h0, X', hL, e1, e2, ⟨⟨u, hv, hp, hb⟩, hF⟩, st⟩ | ⟨q, st₀, t, T', L, E, ce, h0, X', hL, e1, e2, ⟨u, hp, hb, hF⟩, hce, hcv, hcl, st⟩
  · cases hv
    obtain ⟨k1, k2, k3⟩ := vx_keep h0 e1 hS hA hf hL hF
    obtain ⟨t2, a1, b1⟩ := kk u t T'.heap (locs ++ L) e1.symm (by rw [← e2]; exact X'.warmed.alike) hp hb k1 k2 k3 T' rfl X'
    exact ⟨t2, st t2 a1, b1⟩
  · obtain ⟨k1, k2, k3⟩ := vx_keep h0 e1 hS hAX hf hL hF
    obtain ⟨t2, a1, b1⟩ := kx E ce q u t T'.heap (locs ++ L) e1.symm (by rw [← e2]; exact X'.warmed.alike) hp hb k1 k2 k3 (by rw [e1]; exact hce) hcv hcl T' rfl X'
    exact ⟨t2, st.trans a1, b1⟩
/-- caught by the row x of this method's table; the rows ahead don't take it -/
theorem vx_catch {own name : String} {E : String} {ce : Cell} {q : Addr} (hown : s.vm.findClass own = some m.cls) (pre : List ExceptionTableEntry) (x : ExceptionTableEntry) (suf : List ExceptionTableEntry) (hsplit : c.exceptionTable.toList = pre ++ x :: suf)
    (hpass : ∀ z ∈ pre, covers z pc = false ∨ (z.catchType ≠ 0 ∧ ∃ nm : String, (Cond.classLink own z.catchType nm).before args s = true ∧ va_Nc E nm s)) (hx : covers x pc = true) (h0 : x.catchType ≠ 0)
    (hlink : (Cond.classLink own x.catchType name).before args s = true) (hcast : (Cond.castable E name).before args s = true) (hcell : H[q]? = some ce) (hv : ce.vm = .none) (hcl : s.vm.findClass E = some ce.cls)
    (kk : W p l e R s m args below meth c H locs cells slots Q (F0 m x.handlerPc ls [.ref q])) : vx_W p l e R s m args below meth c H locs cells slots Q (F0 m pc ls rest) q := by
  intro T hT X
  have hpl : e.platform.magicAccessors = ({} : Platform).magicAccessors := by rw [X.admits.platform]
  obtain ⟨c3, c4, hc3, hc4, hasg⟩ := Cond.castable_spec hcast
  cases Option.some.inj (hc3.symm.trans hcl)
  obtain ⟨c5, hc5, hcl5⟩ := Cond.classLink_spec hown hlink e.platform hpl
  cases Option.some.inj (hc4.symm.trans hc5)
  obtain ⟨vm', X', st⟩ := X.thenCaughtThrough q (g := F0 m pc ls rest) rfl (Steps.refl _) (by rw [hT]; exact hcell) (by rw [hv]; rfl) (by obtain ⟨k9, h9, -⟩ := Vm.findClass_spec hcl; exact ⟨k9, h9⟩) pre x suf hsplit
    (fun z hz => by
      rcases hpass z hz with h | ⟨hz0, nm, hl1, hn1⟩
      · exact Or.inl h
      · obtain ⟨c6, hc6, hcl6⟩ := Cond.classLink_spec hown hl1 e.platform hpl
        obtain ⟨a8, b8, h1, h2, h3⟩ := hn1
        cases Option.some.inj (h1.symm.trans hcl)
        cases Option.some.inj (h2.symm.trans hc6)
        exact Or.inr ⟨hz0, _, hcl6, h3⟩) hx (Or.inr ⟨h0, c4, hcl5, hasg⟩)
  obtain ⟨t, a1, b1⟩ := kk (T.setVm vm') hT X'
  exact ⟨t, st.trans a1, b1⟩
end Rows
section Ends
variable {p : Program} {l : Launch} {e : Env} {R : Room} {s : State} {m : MethodId} {args : Array Value} {below : List Frame} {meth : Method} {c : Code} {H : Heap} {locs : List Loc} {cells slots : Nat} {Q : State → Prop}
variable {mc ms : Nat} {free : Addr → Prop} {A0 A1 : Nat → Prop} {H0 : Heap} {a : Array Value} {ls : Array Slot} {st0 rest : List Value}
variable {Qc : Array Value → State → Outcome → State → Prop} {XC : String → State → State → Prop}
/-- what a body that may throw owes at its end -/
def vx_MQ (below : List Frame) (Qc : Array Value → State → Outcome → State → Prop) (XC : String → State → State → Prop) (a : Array Value) (s : State) (mc ms : Nat) (free : Addr → Prop) : State → Prop := fun t =>
  ∃ o, t.status = .running ∧ Ended t below o ∧ vx_Q Qc XC mc ms free a s o t
theorem vx_ret {g : JFrame} {mc ms : Nat} (k : W p l e R s m args below meth c H locs cells slots (MQ below Qc args s mc ms free) g) : W p l e R s m args below meth c H locs cells slots (vx_MQ below Qc XC args s mc ms free) g := by
  intro T hT X
  obtain ⟨t, a1, o, b1, b2, b3, b4⟩ := k T hT X
  exact ⟨t, a1, o, b1, b2, Or.inl ⟨b3, b4⟩⟩
/-- not caught here: it goes on to the caller -/
theorem vx_widen {g : JFrame} {q : Addr} {k n : Nat} (h1 : cells ≤ k) (h2 : slots ≤ n) (kk : vx_W p l e R s m args below meth c H locs k n Q g q) : vx_W p l e R s m args below meth c H locs cells slots Q g q := fun T hT X => kk T hT (stand_widen X h1 h2)
theorem vx_out {pc : Nat} {E : String} {ce : Cell} {q : Addr} {mc ms : Nat} (hout : ∀ x ∈ c.exceptionTable.toList, covers x pc = false) (hlocks : meth.locks = false) (hcell : H[q]? = some ce) (hv : ce.vm = .none) (hcl : s.vm.findClass E = some ce.cls)
    (hx : ∀ t : State, t.heap = H → s.vm.Alike t.vm → XC E s t) (hf : ∀ z ∈ locs, free z.base) (hc : cells ≤ mc) (hs : slots ≤ ms) :
    vx_W p l e R s m args below meth c H locs cells slots (vx_MQ below Qc XC args s mc ms free) (F0 m pc ls rest) q := by
  intro T hT X
  obtain ⟨st1, hrun, hend, hW, hsm⟩ := X.leaveThrown q (g := F0 m pc ls rest) rfl rfl rfl hout hlocks
  have hcell9 : (T.setFrames (.throwing q :: below)).heap[q]? = some ce := by
    show T.heap[q]? = some ce
    rw [hT]; exact hcell
  exact ⟨_, st1, .threw q, hrun, hend, Or.inr ⟨q, rfl, E, ce, locs, hx _ hT hW.alike, hcell9, hv, hcl, hW, hsm.mono hc hs, hf⟩⟩
theorem vx_frame {U : State} {k n : Nat} (h : s.sameButNew ({ U with vm := s.vm } : State) locs k n) : s.heap.size ≤ U.heap.size ∧ ∀ q : Nat, q < s.heap.size → (∀ z ∈ locs, z.base ≠ q) → U.heap[q]? = s.heap[q]? := by
  obtain ⟨-, h2, -, -, -, h6⟩ := h
  refine ⟨h2, fun q hq hz => ?_⟩
  obtain ⟨c9, e1, e2, e3, e4⟩ := h6 q _ (Array.getElem?_eq_getElem hq)
  have hs : c9.slots = (s.heap[q]).slots := Array.ext_getElem? fun i => e4 i fun hm => hz _ hm rfl
  have h9 : c9 = s.heap[q] := by
    rw [hs] at e2
    exact e2
  have e5 : U.heap[q]? = some c9 := e1
  rw [e5, h9, Array.getElem?_eq_getElem hq]
/-- the words of a throw but the four that speak of the heap -/
def vx_no (w : Cond) : Bool := decide (w ≠ .isRef (.static Bundle.tN "UNASSIGNED_STACK" Bundle.steD)) && decide (w ≠ .isRef (.static Bundle.tN "SUPPRESSED_SENTINEL" Bundle.listD)) && decide (w ≠ .laysStatic Bundle.tN "UNASSIGNED_STACK" Bundle.steD) && decide (w ≠ .laysStatic Bundle.tN "SUPPRESSED_SENTINEL" Bundle.listD)
def vx_at0 (own : String) (ic : Nat) (X : String) (names : List String) : List Cond := (Bundle.ownAtoms0 own ic X names).filter vx_no
def vx_atS (own : String) (ic : Nat) (X : String) (names : List String) : List Cond := (Bundle.ownAtoms own ic X names).filter vx_no
/-- a word that the tables alone decide, or a good one -/
def vx_ot (w : Cond) : Bool := w.onTables || goodWord w
theorem vx_ot_at {args a' : Array Value} {s U : State} {w : Cond} (hW : s.WarmedH U.vm) (hvm : s.vm = U.vm) (hg : vx_ot w = true) (h : w.before args s = true) : w.before a' U = true := by
  simp only [vx_ot, Bool.or_eq_true] at hg
  rcases hg with hg | hg
  · exact va_tabs hg hvm h
  · exact word_at hW (good_of_word hg) h
/-- a list's words: the good ones out of the method's own list, the others by premises of their own -/
theorem vx_hat {args : Array Value} {s : State} {L B : List Cond} (h1 : ∀ w ∈ L.filter goodWord, w.before args s = true) (h2 : ∀ w ∈ L.filter (fun w => !goodWord w), w ∈ B) (h3 : ∀ w ∈ B, w.before args s = true) : ∀ w ∈ L, w.before args s = true := by
  intro w hw
  by_cases g : goodWord w = true
  · exact h1 w (List.mem_filter.mpr ⟨hw, g⟩)
  · refine h3 w (h2 w (List.mem_filter.mpr ⟨hw, ?_⟩))
    show (!goodWord w) = true
    cases hgw : goodWord w
    · rfl
    · exact absurd hgw g
theorem vx_c {args : Array Value} {s : State} {w : Cond} {B : List Cond} (h : w.before args s = true) (t : ∀ w ∈ B, w.before args s = true) : ∀ w' ∈ w :: B, w'.before args s = true := fun w' h' => (List.mem_cons.mp h').elim (fun e => by rw [e]; exact h) (t w')
theorem vx_n {args : Array Value} {s : State} : ∀ w ∈ ([] : List Cond), w.before args s = true := fun _ h => nomatch h
theorem vx_own {args : Array Value} {s : State} {L : List Cond} (h1 : ∀ w ∈ L.filter vx_no, w.before args s = true)
    (hU : (Cond.isRef (.static Bundle.tN "UNASSIGNED_STACK" Bundle.steD)).before args s = true) (hN : (Cond.isRef (.static Bundle.tN "SUPPRESSED_SENTINEL" Bundle.listD)).before args s = true)
    (lU : (Cond.laysStatic Bundle.tN "UNASSIGNED_STACK" Bundle.steD).before args s = true) (lN : (Cond.laysStatic Bundle.tN "SUPPRESSED_SENTINEL" Bundle.listD).before args s = true) : ∀ w ∈ L, w.before args s = true := by
  intro w hw
  by_cases e1 : w = .isRef (.static Bundle.tN "UNASSIGNED_STACK" Bundle.steD)
  · rw [e1]; exact hU
  · by_cases e2 : w = .isRef (.static Bundle.tN "SUPPRESSED_SENTINEL" Bundle.listD)
    · rw [e2]; exact hN
    · by_cases e3 : w = .laysStatic Bundle.tN "UNASSIGNED_STACK" Bundle.steD
      · rw [e3]; exact lU
      · by_cases e4 : w = .laysStatic Bundle.tN "SUPPRESSED_SENTINEL" Bundle.listD
        · rw [e4]; exact lN
        · exact h1 w (List.mem_filter.mpr ⟨hw, by unfold vx_no; rw [decide_eq_true e1, decide_eq_true e2, decide_eq_true e3, decide_eq_true e4]; rfl⟩)
/-- where a static field lies, its class's statics cell in H -/
def vx_L (C n d : String) (A : Nat → Prop) (U : State) (H : Heap) : Prop := ∃ (c : ClassId) (k : Class) (i : Nat) (f : Field) (a : Nat) (cell : Cell), U.vm.findClass C = some c ∧ U.fieldFound? C n d = some (c, k, i, f) ∧ f.isStatic = true ∧ k.statics = some a ∧ H[a]? = some cell ∧ cell.vm.isStatics = true ∧ cell.cls = c ∧ f.slot < cell.slots.size ∧ k.staticTypes[f.slot]? = some f.type ∧ ¬ A a
theorem vx_L.moved {C n d : String} {A : Nat → Prop} {u U : State} {H : Heap} (hvm : u.vm.Alike U.vm) (h : vx_L C n d A u H) : vx_L C n d A U H := by
  obtain ⟨c, k, i, f, a, cell, h1, h2, h3, h4, h5, h6, h7, h8, h9, h10⟩ := h
  obtain ⟨k', hi', he⟩ := State.fieldFound?_setVm hvm h2
  exact ⟨c, k', i, f, a, cell, by rw [hvm.findClass]; exact h1, hi', h3, by rw [he]; exact h4, h5, h6, h7, h8, by rw [he]; exact h9, h10⟩
theorem vx_L.kept {C n d : String} {A : Nat → Prop} {U : State} {H H1 : Heap} (h : vx_L C n d A U H) (hq : ∀ a : Nat, a < H.size → ¬ A a → H1[a]? = H[a]?) : vx_L C n d A U H1 := by
  obtain ⟨c, k, i, f, a, cell, h1, h2, h3, h4, h5, h6, h7, h8, h9, h10⟩ := h
  exact ⟨c, k, i, f, a, cell, h1, h2, h3, h4, by rw [hq a (Array.getElem?_eq_some_iff.mp h5).1 h10]; exact h5, h6, h7, h8, h9, h10⟩
theorem vx_L.narrow {C n d : String} {A B : Nat → Prop} {U : State} {H : Heap} (h : vx_L C n d A U H) (hAB : ∀ q, B q → A q) : vx_L C n d B U H := by
  obtain ⟨c, k, i, f, a, cell, h1, h2, h3, h4, h5, h6, h7, h8, h9, h10⟩ := h
  exact ⟨c, k, i, f, a, cell, h1, h2, h3, h4, h5, h6, h7, h8, h9, fun z => h10 (hAB _ z)⟩
theorem vx_L.word {C n d : String} {A : Nat → Prop} {s : State} {args : Array Value} (h : vx_L C n d A s s.heap) : (Cond.laysStatic C n d).before args s = true := by
  obtain ⟨c, k, i, f, a, cell, h1, h2, h3, h4, h5, h6, h7, h8, h9, -⟩ := h
  show (Cond.laysStatic C n d).holds args s none s [] = true
  exact Cond.laysStatic_of h1 h2 h3 h4 h5 h6 h7 h8 h9
/-- .. and what it holds: null or some reference -/
def vx_Zq (C n d : String) (A : Nat → Prop) (U : State) (H : Heap) : Prop := va_Zq C n d A U H ∧ vx_L C n d A U H
theorem vx_Zq.moved {C n d : String} {A : Nat → Prop} {u U : State} {H : Heap} (hvm : u.vm.Alike U.vm) (h : vx_Zq C n d A u H) : vx_Zq C n d A U H := ⟨va_Zq.moved hvm h.1, vx_L.moved hvm h.2⟩
theorem vx_Zq.kept {C n d : String} {A : Nat → Prop} {U : State} {H H1 : Heap} (h : vx_Zq C n d A U H) (hq : ∀ a : Nat, a < H.size → ¬ A a → H1[a]? = H[a]?) : vx_Zq C n d A U H1 := ⟨va_Zq.kept h.1 hq, vx_L.kept h.2 hq⟩
theorem vx_Zq.narrow {C n d : String} {A B : Nat → Prop} {U : State} {H : Heap} (h : vx_Zq C n d A U H) (hAB : ∀ q, B q → A q) : vx_Zq C n d B U H := ⟨va_Zq.narrow h.1 hAB, vx_L.narrow h.2 hAB⟩
theorem vx_Zqof {args : Array Value} {s : State} {C n d : String} {A : Nat → Prop} (hl : (Cond.laysStatic C n d).before args s = true) (hini : (Cond.initialized C).before args s = true) (h : (Cond.isRef (.static C n d)).before args s = true) (hA : ∀ a : Nat, a < s.heap.size → ¬ A a) : vx_Zq C n d A s s.heap := by
  refine ⟨va_Zqof hl hini h hA, ?_⟩
  obtain ⟨c, k, i, f, a, cell, h1, h2, h3, h4, h5, h6, h7, h8, h9⟩ := Cond.laysStatic_spec hl
  exact ⟨c, k, i, f, a, cell, h1, h2, h3, h4, h5, h6, h7, h8, h9, hA a (Array.getElem?_eq_some_iff.mp h5).1⟩
theorem vx_isRef {C n d : String} {v : Value} {A : Nat → Prop} {s : State} {args : Array Value} (h : va_Z C n d v A s s.heap) (hv : v.isRef = true) : (Cond.isRef (.static C n d)).before args s = true := by
  obtain ⟨cf, kf, fi, f, a, cell, h1, h2, h3, h4, h5, h6, h7, -⟩ := h
  have he : (Term.static C n d).eval args s none [] s = some v := by
    simp [Term.eval, State.fieldNamed?, h1, h2, h4, h5, h6, h7]
  simp only [Cond.before, Cond.holds, Cond.value, he]
  cases v <;> simp_all [Value.isRef]
theorem vx_isRefq {C n d : String} {A : Nat → Prop} {s : State} {args : Array Value} (h : va_Zq C n d A s s.heap) : (Cond.isRef (.static C n d)).before args s = true := by
  rcases h with h | ⟨t, h⟩
  · exact vx_isRef h rfl
  · exact vx_isRef h rfl
/-- the same frame, seen from here: as if the method were called anew in this heap -/
theorem vx_rebase {T : State} (X : Stand p l e R s m args below meth c T locs cells slots) {R' : Room} (hf : R'.frames ≤ R.frames) (hl : R'.locals ≤ R.locals) (hc : cells + R'.cells ≤ R.cells) (hs : slots + R'.slots ≤ R.slots) :
    Stand p l e R' ((T.setVm s.vm).setFrames (.invoking m args :: below)) m args below meth c T [] 0 0 := by
  have htop : (T.setVm s.vm).topJava?.isSome := X.here.top
  have hF : ((T.setVm s.vm).setFrames (.invoking m args :: below)).frames = .invoking m args :: below := State.frames_setFrames _ (State.cur_lt_of_top htop)
  obtain ⟨g₀, hg0⟩ := Option.isSome_iff_exists.mp htop
  obtain ⟨r, hr⟩ := State.topJava?_eq_some.mp hg0
  have hl9 : e.platform.stackLimits (T.setVm s.vm).me = e.platform.stackLimits s.me := X.limits
  have hb9 : (T.setVm s.vm).me.stackBytes = s.me.stackBytes := X.bytes
  refine ⟨X.admits, X.cas, X.clock, hF, ?_, X.hears, X.method, X.code, X.here, X.tail, X.warmed, ?_, ?_, ?_⟩
  · have h := X.room
    have hU : ((T.setVm s.vm).setFrames (.invoking m args :: below)).localsInUse = s.localsInUse := by
      rw [State.localsInUse_invoking hF (meth := meth) (c := c) X.method X.code, State.localsInUse_invoking X.frames X.method X.code]
    simp only [State.hasRoom, Bool.and_eq_true, decide_eq_true_eq] at h ⊢
    obtain ⟨⟨⟨⟨h1, h2, h3, h4, h5, h6⟩, h7⟩, h8⟩, h9⟩ := h
    rw [X.frames, List.length_cons] at h2 h3
    have q1 := X.heapSize
    have q2 := X.used
    simp only [hF, hU, List.length_cons, State.stackLimits_setFrames, State.stackBytes_setFrames, hl9, hb9]
    refine ⟨⟨⟨⟨by omega, by omega, by omega, by omega, by omega, h6⟩, ?_⟩, ?_⟩, X.book⟩
    · show T.heap.size + R'.cells ≤ e.platform.maxCells
      omega
    · show T.slotsUsed + R'.slots ≤ e.platform.maxSlots
      omega
  · rw [State.stackLimits_setFrames]; rfl
  · rw [State.stackBytes_setFrames]; rfl
  · refine ⟨?_, Nat.le_refl _, Nat.le_refl _, ?_, ?_, fun a c9 h9 => ⟨c9, h9, rfl, rfl, fun _ _ => rfl⟩⟩
    · obtain ⟨t, ht, -⟩ := State.frames_cons hr
      show T.setVm s.vm = { ((T.setVm s.vm).setFrames (.invoking m args :: below)).setFrames (T.setVm s.vm).frames with heap := T.heap, slotsUsed := T.slotsUsed }
      rw [State.setFrames_setFrames, State.setFrames_self ht]
      rfl
    · show T.slotsUsed = T.slotsUsed + ((T.heap.toList.drop T.heap.size).map (·.slots.size)).sum
      rw [List.drop_eq_nil_of_le (Nat.le_of_eq Array.length_toList)]
      rfl
    · show ((T.heap.toList.drop T.heap.size).map (·.slots.size)).sum ≤ 0
      rw [List.drop_eq_nil_of_le (Nat.le_of_eq Array.length_toList)]
      exact Nat.le_refl _
/-- 'throw new E()': new; dup; invokespecial; athrow -/
theorem vx_throw0 {cc : ByteArray} {pc : Nat} (hexec : p.tables.exec = Jvm.exec) (hb : c.code = cc) (hl : l.stackTraces = false) {own cls : String} {names : List String} {ik ic mc ms : Nat} {A : Nat → Prop}
    (hown : s.vm.findClass own = some m.cls) (hcls : Bundle.fit cls = true) (hnames : ∀ n ∈ names, Bundle.fit n = true)
    (hk : (Cond.classLink own ik cls).before args s = true) (hini : (Cond.initialized cls).before args s = true) (hat : ∀ w ∈ vx_at0 own ic cls names, w.before args s = true)
    (hgood : ∀ w ∈ Cond.classLink own ik cls :: Cond.initialized cls :: vx_at0 own ic cls names, vx_ot w = true)
    (hU : vx_Zq Bundle.tN "UNASSIGNED_STACK" Bundle.steD A s s.heap) (hN : vx_Zq Bundle.tN "SUPPRESSED_SENTINEL" Bundle.listD A s s.heap) (hS : va_S A s.heap H locs) (hsize : ls.size = c.maxLocals)
    (d0 : decode cc pc = .ok (.new ik, 3)) (d3 : decode cc (pc + 3) = .ok (.dup, 1)) (d4 : decode cc (pc + 4) = .ok (.invokespecial ic, 3)) (d7 : decode cc (pc + 7) = .ok (.athrow, 1))
    (hout : ∀ x ∈ c.exceptionTable.toList, covers x (pc + 7) = false)
    (hRframes : names.length + 3 < R.frames) (hRlocals : (rest.map fun v => v.category).sum + (13 * (names.length + 1) + 42) ≤ R.locals) (hRcells : cells + 1 ≤ R.cells) (hRslots : slots + 6 ≤ R.slots) (hlocks : meth.locks = false)
    (hx : ∀ t : State, s.vm.Alike t.vm → H.size ≤ t.heap.size → (∀ q : Nat, q < H.size → t.heap[q]? = H[q]?) → XC cls s t)
    (hf : ∀ z ∈ locs, free z.base) (hc : cells + 1 ≤ mc) (hs : slots + 6 ≤ ms) :
    W p l e R s m args below meth c H locs cells slots (vx_MQ below Qc XC args s mc ms free) (F0 m pc ls rest) := by
  intro T hT X
  have htr : e.platform.stackTraces = false := (show e.platform.stackTraces = l.stackTraces by rw [X.admits.platform]).trans hl
  have Y := vx_rebase X (R' := { frames := R.frames, locals := R.locals, cells := 1, slots := 6 }) (Nat.le_refl _) (Nat.le_refl _) hRcells hRslots
  obtain ⟨s', hA⟩ : ∃ z, z = (T.setVm s.vm).setFrames (.invoking m args :: below) := ⟨_, rfl⟩
  rw [← hA] at Y
  have hvm : s'.vm = s.vm := by rw [hA]; rfl
  have hhp : s'.heap = H := by rw [hA]; exact hT
  have hW0 : s.WarmedH s'.vm := by rw [hvm]; exact State.WarmedH.refl s
  have hat' : ∀ w ∈ vx_at0 own ic cls names, w.before args s' = true := fun w hw => vx_ot_at hW0 hvm.symm (hgood w (List.mem_cons_of_mem _ (List.mem_cons_of_mem _ hw))) (hat w hw)
  have hk' : (Cond.classLink own ik cls).before args s' = true := vx_ot_at hW0 hvm.symm (hgood _ List.mem_cons_self) hk
  have hini' : (Cond.initialized cls).before args s' = true := vx_ot_at hW0 hvm.symm (hgood _ (List.mem_cons_of_mem _ List.mem_cons_self)) hini
  have hU' : vx_Zq Bundle.tN "UNASSIGNED_STACK" Bundle.steD A s' s'.heap := by rw [hhp]; exact vx_Zq.moved hW0.alike (hU.kept hS.2.1)
  have hN' : vx_Zq Bundle.tN "SUPPRESSED_SENTINEL" Bundle.listD A s' s'.heap := by rw [hhp]; exact vx_Zq.moved hW0.alike (hN.kept hS.2.1)
  have h : ∀ w ∈ Bundle.ownAtoms0 own ic cls names, w.before args s' = true := vx_own hat' (vx_isRefq hU'.1) (vx_isRefq hN'.1) hU'.2.word hN'.2.word
  have hown' : s'.vm.findClass own = some m.cls := by rw [hvm]; exact hown
  have hins : (Cond.instantiable cls 6).before args s' = true := h _ (by simp [Bundle.ownAtoms0])
  obtain ⟨vm₁, cX, kX, hfX, hkX, -, -, X₁, st1⟩ := Y.newCold hexec (own := own) (C := cls) (index := ik) (n := 6) hown' hk' hins hini'
    (g := F0 m pc ls rest) rfl (by rw [hb]; exact d0) (Nat.le_refl _) (Nat.le_refl _)
  generalize hT1 : (T.setVm vm₁).pushCell { cls := cX, slots := kX.instanceTypes.map defaultValue, vm := .none } = T1 at X₁ st1
  have hcat : (Value.ref T.heap.size).category = 1 := rfl
  have hcellA : T1.heap[T.heap.size]? = some (freshCell cX kX) := by rw [← hT1]; exact State.heap_pushCell_size _ _
  have d3' : decode c.code (pc + 3) = .ok (.dup, 1) := by rw [hb]; exact d3
  obtain ⟨U, hsteps, hrun, hend, hW, hsame, ce, hce, hO⟩ := X₁.ctorThrow0 hexec htr (own := own) (cls := cls) (names := names) (ic := ic) hown' hcls hnames h (fun x hx => nomatch hx) hfX hkX hcellA (by rw [hhp, hT]; exact Nat.le_refl _)
    (g := { method := m, pc := pc + 4, locals := ls, stack := .ref T.heap.size :: .ref T.heap.size :: rest, locked := none }) rfl hsize rfl rfl (rest := rest) rfl
    (by rw [hb]; exact d4) (by rw [hb]; exact d7) hout hRframes (by simp only [List.map_cons, List.sum_cons, hcat]; omega) hlocks
  obtain ⟨f1, f2⟩ := vx_frame hsame
  rw [hhp] at f1 f2
  have hWs : s.WarmedH U.vm := State.WarmedH.trans hW0 hW
  have hcl : s.vm.findClass cls = some ce.cls := by
    have h9 := hO.cls
    rw [hvm] at h9
    exact h9
  have hall : s.sameButNew ({ U with vm := s.vm } : State) locs mc ms := by
    subst hA
    obtain ⟨e1, e2⟩ := hsame
    rw [State.setFrames_setFrames] at e1
    have h2 : (T.setVm s.vm).sameButNew ({ U with vm := s.vm } : State) [] (0 + 1) (0 + 6) := ⟨e1, e2⟩
    have h3 := X.same.trans h2
    rw [List.append_nil] at h3
    exact h3.mono hc hs
  refine ⟨U, ?_, .threw T.heap.size, hrun, hend, Or.inr ⟨T.heap.size, rfl, cls, ce, locs, hx U hWs.alike f1 (fun q hq => f2 q hq (fun z hz => nomatch hz)), hce, hO.vm, hcl, hWs, hall, hf⟩⟩
  refine st1 _ ?_
  show Steps p.tables e below (T1.setTop { method := m, pc := pc + 3, locals := ls, stack := .ref T.heap.size :: rest, locked := none }) _
  jvm_step X₁.here [X₁.here.top, hexec, d3', Value.category]
  exact hsteps
/-- 'throw new E("text")': new; dup; ldc; invokespecial; athrow -/
theorem vx_throwS {cc : ByteArray} {pc : Nat} (hexec : p.tables.exec = Jvm.exec) (hb : c.code = cc) (hl : l.stackTraces = false) {own cls text : String} {names : List String} {ik is ic mc ms sa : Nat} {A : Nat → Prop}
    (hown : s.vm.findClass own = some m.cls) (hcls : Bundle.fit cls = true) (hnames : ∀ n ∈ names, Bundle.fit n = true)
    (hk : (Cond.classLink own ik cls).before args s = true) (hini : (Cond.initialized cls).before args s = true) (hstr : vk_R own is text sa s) (hat : ∀ w ∈ vx_atS own ic cls names, w.before args s = true)
    (hgood : ∀ w ∈ Cond.classLink own ik cls :: Cond.initialized cls :: vx_atS own ic cls names, vx_ot w = true)
    (hU : vx_Zq Bundle.tN "UNASSIGNED_STACK" Bundle.steD A s s.heap) (hN : vx_Zq Bundle.tN "SUPPRESSED_SENTINEL" Bundle.listD A s s.heap) (hS : va_S A s.heap H locs) (hsize : ls.size = c.maxLocals)
    (d0 : decode cc pc = .ok (.new ik, 3)) (d3 : decode cc (pc + 3) = .ok (.dup, 1)) (d4 : decode cc (pc + 4) = .ok (.ldc is, 2)) (d6 : decode cc (pc + 6) = .ok (.invokespecial ic, 3)) (d9 : decode cc (pc + 9) = .ok (.athrow, 1))
    (hout : ∀ x ∈ c.exceptionTable.toList, covers x (pc + 9) = false)
    (hRframes : names.length + 3 < R.frames) (hRlocals : (rest.map fun v => v.category).sum + (13 * (names.length + 1) + 43) ≤ R.locals) (hRcells : cells + 1 ≤ R.cells) (hRslots : slots + 6 ≤ R.slots) (hlocks : meth.locks = false)
    (hx : ∀ t : State, s.vm.Alike t.vm → H.size ≤ t.heap.size → (∀ q : Nat, q < H.size → t.heap[q]? = H[q]?) → XC cls s t)
    (hf : ∀ z ∈ locs, free z.base) (hc : cells + 1 ≤ mc) (hs : slots + 6 ≤ ms) :
    W p l e R s m args below meth c H locs cells slots (vx_MQ below Qc XC args s mc ms free) (F0 m pc ls rest) := by
  intro T hT X
  have htr : e.platform.stackTraces = false := (show e.platform.stackTraces = l.stackTraces by rw [X.admits.platform]).trans hl
  have Y := vx_rebase X (R' := { frames := R.frames, locals := R.locals, cells := 1, slots := 6 }) (Nat.le_refl _) (Nat.le_refl _) hRcells hRslots
  obtain ⟨s', hA⟩ : ∃ z, z = (T.setVm s.vm).setFrames (.invoking m args :: below) := ⟨_, rfl⟩
  rw [← hA] at Y
  have hvm : s'.vm = s.vm := by rw [hA]; rfl
  have hhp : s'.heap = H := by rw [hA]; exact hT
  have hW0 : s.WarmedH s'.vm := by rw [hvm]; exact State.WarmedH.refl s
  have hat' : ∀ w ∈ vx_atS own ic cls names, w.before args s' = true := fun w hw => vx_ot_at hW0 hvm.symm (hgood w (List.mem_cons_of_mem _ (List.mem_cons_of_mem _ hw))) (hat w hw)
  have hk' : (Cond.classLink own ik cls).before args s' = true := vx_ot_at hW0 hvm.symm (hgood _ List.mem_cons_self) hk
  have hini' : (Cond.initialized cls).before args s' = true := vx_ot_at hW0 hvm.symm (hgood _ (List.mem_cons_of_mem _ List.mem_cons_self)) hini
  have hU' : vx_Zq Bundle.tN "UNASSIGNED_STACK" Bundle.steD A s' s'.heap := by rw [hhp]; exact vx_Zq.moved hW0.alike (hU.kept hS.2.1)
  have hN' : vx_Zq Bundle.tN "SUPPRESSED_SENTINEL" Bundle.listD A s' s'.heap := by rw [hhp]; exact vx_Zq.moved hW0.alike (hN.kept hS.2.1)
  have h : ∀ w ∈ Bundle.ownAtoms own ic cls names, w.before args s' = true := vx_own hat' (vx_isRefq hU'.1) (vx_isRefq hN'.1) hU'.2.word hN'.2.word
  have hown' : s'.vm.findClass own = some m.cls := by rw [hvm]; exact hown
  have hins : (Cond.instantiable cls 6).before args s' = true := h _ (by simp [Bundle.ownAtoms])
  obtain ⟨vm₁, cX, kX, hfX, hkX, -, -, X₁, st1⟩ := Y.newCold hexec (own := own) (C := cls) (index := ik) (n := 6) hown' hk' hins hini'
    (g := F0 m pc ls rest) rfl (by rw [hb]; exact d0) (Nat.le_refl _) (Nat.le_refl _)
  generalize hT1 : (T.setVm vm₁).pushCell { cls := cX, slots := kX.instanceTypes.map defaultValue, vm := .none } = T1 at X₁ st1
  have hcat : (Value.ref T.heap.size).category = 1 := rfl
  have hcellA : T1.heap[T.heap.size]? = some (freshCell cX kX) := by rw [← hT1]; exact State.heap_pushCell_size _ _
  have d3' : decode c.code (pc + 3) = .ok (.dup, 1) := by rw [hb]; exact d3
  have d4' : decode c.code (pc + 4) = .ok (.ldc is, 2) := by rw [hb]; exact d4
  have hstr' : vk_R own is text sa s' := vk_R.warm hW0 hstr
  obtain ⟨U, hsteps, hrun, hend, hW, hsame, ce, hce, hO⟩ := X₁.ctorThrowS hexec htr (own := own) (cls := cls) (names := names) (ic := ic) hown' hcls hnames h (fun x hx => nomatch hx) hfX hkX hcellA (by rw [hhp, hT]; exact Nat.le_refl _) (msg := .ref sa) rfl
    (g := { method := m, pc := pc + 6, locals := ls, stack := .ref sa :: .ref T.heap.size :: .ref T.heap.size :: rest, locked := none }) rfl hsize rfl rfl (rest := rest) rfl
    (by rw [hb]; exact d6) (by rw [hb]; exact d9) hout hRframes (by simp only [List.map_cons, List.sum_cons, hcat]; omega) hlocks
  obtain ⟨f1, f2⟩ := vx_frame hsame
  rw [hhp] at f1 f2
  have hWs : s.WarmedH U.vm := State.WarmedH.trans hW0 hW
  have hcl : s.vm.findClass cls = some ce.cls := by
    have h9 := hO.cls
    rw [hvm] at h9
    exact h9
  have hall : s.sameButNew ({ U with vm := s.vm } : State) locs mc ms := by
    subst hA
    obtain ⟨e1, e2⟩ := hsame
    rw [State.setFrames_setFrames] at e1
    have h2 : (T.setVm s.vm).sameButNew ({ U with vm := s.vm } : State) [] (0 + 1) (0 + 6) := ⟨e1, e2⟩
    have h3 := X.same.trans h2
    rw [List.append_nil] at h3
    exact h3.mono hc hs
  refine ⟨U, ?_, .threw T.heap.size, hrun, hend, Or.inr ⟨T.heap.size, rfl, cls, ce, locs, hx U hWs.alike f1 (fun q hq => f2 q hq (fun z hz => nomatch hz)), hce, hO.vm, hcl, hWs, hall, hf⟩⟩
  refine st1 _ ?_
  show Steps p.tables e below (T1.setTop { method := m, pc := pc + 3, locals := ls, stack := .ref T.heap.size :: rest, locked := none }) _
  jvm_step X₁.here [X₁.here.top, hexec, d3', Value.category]
  exact X₁.ldcString hexec (own := own) (text := text) (index := is) (a := sa) hown' hstr'.1 hstr'.2
    (g := { method := m, pc := pc + 4, locals := ls, stack := .ref T.heap.size :: .ref T.heap.size :: rest, locked := none }) rfl d4' _ hsteps
/-- 'throw new E("text")', the text by a wide index -/
theorem vx_throwSW {cc : ByteArray} {pc : Nat} (hexec : p.tables.exec = Jvm.exec) (hb : c.code = cc) (hl : l.stackTraces = false) {own cls text : String} {names : List String} {ik is ic mc ms sa : Nat} {A : Nat → Prop}
    (hown : s.vm.findClass own = some m.cls) (hcls : Bundle.fit cls = true) (hnames : ∀ n ∈ names, Bundle.fit n = true)
    (hk : (Cond.classLink own ik cls).before args s = true) (hini : (Cond.initialized cls).before args s = true) (hstr : vk_R own is text sa s) (hat : ∀ w ∈ vx_atS own ic cls names, w.before args s = true)
    (hgood : ∀ w ∈ Cond.classLink own ik cls :: Cond.initialized cls :: vx_atS own ic cls names, vx_ot w = true)
    (hU : vx_Zq Bundle.tN "UNASSIGNED_STACK" Bundle.steD A s s.heap) (hN : vx_Zq Bundle.tN "SUPPRESSED_SENTINEL" Bundle.listD A s s.heap) (hS : va_S A s.heap H locs) (hsize : ls.size = c.maxLocals)
    (d0 : decode cc pc = .ok (.new ik, 3)) (d3 : decode cc (pc + 3) = .ok (.dup, 1)) (d4 : decode cc (pc + 4) = .ok (.ldc_w is, 3)) (d7 : decode cc (pc + 7) = .ok (.invokespecial ic, 3)) (d10 : decode cc (pc + 10) = .ok (.athrow, 1))
    (hout : ∀ x ∈ c.exceptionTable.toList, covers x (pc + 10) = false)
    (hRframes : names.length + 3 < R.frames) (hRlocals : (rest.map fun v => v.category).sum + (13 * (names.length + 1) + 43) ≤ R.locals) (hRcells : cells + 1 ≤ R.cells) (hRslots : slots + 6 ≤ R.slots) (hlocks : meth.locks = false)
    (hx : ∀ t : State, s.vm.Alike t.vm → H.size ≤ t.heap.size → (∀ q : Nat, q < H.size → t.heap[q]? = H[q]?) → XC cls s t)
    (hf : ∀ z ∈ locs, free z.base) (hc : cells + 1 ≤ mc) (hs : slots + 6 ≤ ms) :
    W p l e R s m args below meth c H locs cells slots (vx_MQ below Qc XC args s mc ms free) (F0 m pc ls rest) := by
  intro T hT X
  have htr : e.platform.stackTraces = false := (show e.platform.stackTraces = l.stackTraces by rw [X.admits.platform]).trans hl
  have Y := vx_rebase X (R' := { frames := R.frames, locals := R.locals, cells := 1, slots := 6 }) (Nat.le_refl _) (Nat.le_refl _) hRcells hRslots
  obtain ⟨s', hA⟩ : ∃ z, z = (T.setVm s.vm).setFrames (.invoking m args :: below) := ⟨_, rfl⟩
  rw [← hA] at Y
  have hvm : s'.vm = s.vm := by rw [hA]; rfl
  have hhp : s'.heap = H := by rw [hA]; exact hT
  have hW0 : s.WarmedH s'.vm := by rw [hvm]; exact State.WarmedH.refl s
  have hat' : ∀ w ∈ vx_atS own ic cls names, w.before args s' = true := fun w hw => vx_ot_at hW0 hvm.symm (hgood w (List.mem_cons_of_mem _ (List.mem_cons_of_mem _ hw))) (hat w hw)
  have hk' : (Cond.classLink own ik cls).before args s' = true := vx_ot_at hW0 hvm.symm (hgood _ List.mem_cons_self) hk
  have hini' : (Cond.initialized cls).before args s' = true := vx_ot_at hW0 hvm.symm (hgood _ (List.mem_cons_of_mem _ List.mem_cons_self)) hini
  have hU' : vx_Zq Bundle.tN "UNASSIGNED_STACK" Bundle.steD A s' s'.heap := by rw [hhp]; exact vx_Zq.moved hW0.alike (hU.kept hS.2.1)
  have hN' : vx_Zq Bundle.tN "SUPPRESSED_SENTINEL" Bundle.listD A s' s'.heap := by rw [hhp]; exact vx_Zq.moved hW0.alike (hN.kept hS.2.1)
  have h : ∀ w ∈ Bundle.ownAtoms own ic cls names, w.before args s' = true := vx_own hat' (vx_isRefq hU'.1) (vx_isRefq hN'.1) hU'.2.word hN'.2.word
  have hown' : s'.vm.findClass own = some m.cls := by rw [hvm]; exact hown
  have hins : (Cond.instantiable cls 6).before args s' = true := h _ (by simp [Bundle.ownAtoms])
  obtain ⟨vm₁, cX, kX, hfX, hkX, -, -, X₁, st1⟩ := Y.newCold hexec (own := own) (C := cls) (index := ik) (n := 6) hown' hk' hins hini'
    (g := F0 m pc ls rest) rfl (by rw [hb]; exact d0) (Nat.le_refl _) (Nat.le_refl _)
  generalize hT1 : (T.setVm vm₁).pushCell { cls := cX, slots := kX.instanceTypes.map defaultValue, vm := .none } = T1 at X₁ st1
  have hcat : (Value.ref T.heap.size).category = 1 := rfl
  have hcellA : T1.heap[T.heap.size]? = some (freshCell cX kX) := by rw [← hT1]; exact State.heap_pushCell_size _ _
  have d3' : decode c.code (pc + 3) = .ok (.dup, 1) := by rw [hb]; exact d3
  have d4' : decode c.code (pc + 4) = .ok (.ldc_w is, 3) := by rw [hb]; exact d4
  have hstr' : vk_R own is text sa s' := vk_R.warm hW0 hstr
  obtain ⟨U, hsteps, hrun, hend, hW, hsame, ce, hce, hO⟩ := X₁.ctorThrowS hexec htr (own := own) (cls := cls) (names := names) (ic := ic) hown' hcls hnames h (fun x hx => nomatch hx) hfX hkX hcellA (by rw [hhp, hT]; exact Nat.le_refl _) (msg := .ref sa) rfl
    (g := { method := m, pc := pc + 7, locals := ls, stack := .ref sa :: .ref T.heap.size :: .ref T.heap.size :: rest, locked := none }) rfl hsize rfl rfl (rest := rest) rfl
    (by rw [hb]; exact d7) (by rw [hb]; exact d10) hout hRframes (by simp only [List.map_cons, List.sum_cons, hcat]; omega) hlocks
  obtain ⟨f1, f2⟩ := vx_frame hsame
  rw [hhp] at f1 f2
  have hWs : s.WarmedH U.vm := State.WarmedH.trans hW0 hW
  have hcl : s.vm.findClass cls = some ce.cls := by
    have h9 := hO.cls
    rw [hvm] at h9
    exact h9
  have hall : s.sameButNew ({ U with vm := s.vm } : State) locs mc ms := by
    subst hA
    obtain ⟨e1, e2⟩ := hsame
    rw [State.setFrames_setFrames] at e1
    have h2 : (T.setVm s.vm).sameButNew ({ U with vm := s.vm } : State) [] (0 + 1) (0 + 6) := ⟨e1, e2⟩
    have h3 := X.same.trans h2
    rw [List.append_nil] at h3
    exact h3.mono hc hs
  refine ⟨U, ?_, .threw T.heap.size, hrun, hend, Or.inr ⟨T.heap.size, rfl, cls, ce, locs, hx U hWs.alike f1 (fun q hq => f2 q hq (fun z hz => nomatch hz)), hce, hO.vm, hcl, hWs, hall, hf⟩⟩
  refine st1 _ ?_
  show Steps p.tables e below (T1.setTop { method := m, pc := pc + 3, locals := ls, stack := .ref T.heap.size :: rest, locked := none }) _
  jvm_step X₁.here [X₁.here.top, hexec, d3', Value.category]
  exact X₁.ldcStringW hexec (own := own) (text := text) (index := is) (a := sa) hown' hstr'.1 hstr'.2
    (g := { method := m, pc := pc + 4, locals := ls, stack := .ref T.heap.size :: .ref T.heap.size :: rest, locked := none }) rfl d4' _ hsteps
end Ends
section Bodies
variable {l : Launch}
theorem vx_ofW {y : MethodName} {ws ws' : List Cond} {rm : Room} {Pc : Array Value → State → Prop} {Qc : Array Value → State → Outcome → State → Prop} {XC : String → State → State → Prop} {mc ms : Nat} {free : Addr → Prop} {cc : ByteArray} {maxL : Nat} {ret : Option FieldType}
    (hy : plainName y.cls = true) (hw : ws = Cond.code y cc maxL ret :: ws')
    (body : ∀ p e s m args below meth c s₁, BodyLoose p l y (headSpec ws rm) cc maxL ret e s m args below meth c s₁ → c.maxLocals = maxL → (∀ x ∈ c.exceptionTable.toList, False) → Pc args s →
      W p l e (headSpec ws rm).room s m args below meth c s.heap [] 0 0 (vx_MQ below Qc XC args s mc ms free) (entryFrame m args maxL)) : vx_Met l y ws rm Pc Qc XC mc ms free := by
  refine MetFree.of_bodyS (code := cc) (maxLocals := maxL) (ret := ret) hy ?_ ?_
  · intro args s m h hn
    obtain ⟨meth, c, h1, h2, h3, h4, h5, h6, -, -⟩ := Cond.code_spec hn (atoms_spec (ws := ws) h _ (by rw [hw]; exact List.mem_cons_self))
    exact ⟨meth, c, h1, h2, h3, h4, h5, h6⟩
  · intro p e s m args below meth c s₁ B hml hP _
    have hh0 : s₁.heap = s.heap := by rw [B.state]; rfl
    have ht : ∀ x ∈ c.exceptionTable.toList, False := by
      obtain ⟨meth9, c9, h1, h2, -, -, -, -, h7, -⟩ := Cond.code_spec B.named (atoms_spec (ws := ws) B.pre _ (by rw [hw]; exact List.mem_cons_self))
      cases Option.some.inj (h1.symm.trans B.method)
      cases Option.some.inj (h2.symm.trans (Stand.of_body B).code)
      intro x hx
      rw [Array.isEmpty_iff.mp h7] at hx
      cases hx
    obtain ⟨t, a1, o, b1, b2, b3⟩ := body p e s m args below meth c s₁ B hml ht hP s₁ hh0 (Stand.of_body B)
    exact ⟨t, o, a1, b1, b2, b3⟩
/-- the table of a body with handlers -/
theorem vx_table {p : Program} {x y : MethodName} {S : Spec} {cc bytes : ByteArray} {maxL maxL' : Nat} {ret ret' : Option FieldType} {e : Env} {s s₁ : State} {m : MethodId} {args : Array Value} {below : List Frame} {meth : Method} {c : Code} {hh : List (Nat × Nat × Nat × Nat)}
    (B : BodyLoose p l y S cc maxL ret e s m args below meth c s₁) (h : (Cond.codeWith y bytes maxL' ret' hh).before args s = true) : c.exceptionTable.toList = tableOf hh := by
  obtain ⟨m9, meth9, c9, hn9, h1, h2, -, -, h6, -⟩ := Cond.codeWith_spec h
  cases Option.some.inj (hn9.symm.trans B.named)
  cases Option.some.inj (h1.symm.trans B.method)
  cases Option.some.inj (h2.symm.trans (Stand.of_body B).code)
  rw [← h6, table_eq]
end Bodies
end VXA
/-! ===== END ===== -/
/-! ===== BEGIN a static call of a method with an exception table ===== -/
section VXS
variable {p : Program} {l : Launch} {e : Env} {R : Room} {s : State} {m : MethodId} {args : Array Value} {below : List Frame} {meth : Method} {c : Code} {T : State} {H : Heap} {locs : List Loc} {cells slots : Nat}
abbrev vx_CSW (R : Room) (s : State) (args : Array Value) (own : String) (index : Nat) (y : MethodName) (bytes : ByteArray) (maxL : Nat) (ret : Option FieldType) (hh : List (Nat × Nat × Nat × Nat)) (ws : List Cond) (rm : Room) (mc ms n : Nat) : Prop :=
  (rm.cells = mc ∧ rm.slots = ms ∧ rm.frames + 1 ≤ R.frames ∧ 8 + (maxL + 11) + rm.locals ≤ R.locals ∧ (∀ w ∈ ws, ∀ (a' : Array Value) (U : State), s.WarmedH U.vm → w.before a' U = true) ∧ Cond.codeWith y bytes maxL ret hh ∈ ws) ∧
  (Cond.codeWith y bytes maxL ret hh).before args s = true ∧ (Cond.initialized y.cls).before args s = true ∧ (y.cls ≠ "java/lang/invoke/MethodHandle" ∧ y.cls ≠ "java/lang/invoke/VarHandle") ∧
  (∀ sig, parseMethodDescriptor y.desc = some sig → n = sig.parameters.length) ∧ (Cond.methodLink own index y).before args s = true ∧ (Cond.static y).before args s = true
theorem vx_cwSW {own : String} {index maxL mc ms : Nat} {y : MethodName} {bytes : ByteArray} {ret : Option FieldType} {hh : List (Nat × Nat × Nat × Nat)} {Ts ws ws' : List Cond} {rm : Room} (n : Nat) (ht : ∀ w ∈ Ts, w.before args s = true) (hT : GoodIn Ts (va_wsS own index y ws)) (hw : ws = Cond.codeWith y bytes maxL ret hh :: ws') (hrc : rm.cells = mc) (hrs : rm.slots = ms)
    (hd : y.cls ≠ "java/lang/invoke/MethodHandle" ∧ y.cls ≠ "java/lang/invoke/VarHandle" ∧ (parseMethodDescriptor y.desc).map (fun d => d.parameters.length) = some n) (hR : rm.frames + 1 ≤ R.frames ∧ 8 + (maxL + 11) + rm.locals ≤ R.locals) :
    vx_CSW R s args own index y bytes maxL ret hh ws rm mc ms n := by
  have ok : ∀ w ∈ va_wsS own index y ws, w.before args s = true := fun w h => ht w (hT w h).1
  have hG : GoodIn Ts ws := fun w h => hT w (by unfold va_wsS; exact List.mem_append_right _ h)
  have hc : Cond.codeWith y bytes maxL ret hh ∈ ws := by rw [hw]; exact List.mem_cons_self
  refine ⟨⟨hrc, hrs, hR.1, hR.2, pay_in ht hG, hc⟩, ht _ (hG _ hc).1, ok _ (by simp [va_wsS]), ⟨hd.1, hd.2.1⟩, fun sig h => ?_, ok _ (by simp [va_wsS]), ok _ (by simp [va_wsS])⟩
  have h2 := hd.2.2
  rw [h] at h2
  exact (Option.some.inj h2).symm
theorem vx_callSW (X : Stand p l e R s m args below meth c T locs cells slots) (hexec : p.tables.exec = Jvm.exec) {own : String} {index : Nat} {y : MethodName} {bytes : ByteArray} {maxL : Nat} {ret : Option FieldType} {hh : List (Nat × Nat × Nat × Nat)}
    (hown : s.vm.findClass own = some m.cls) (hlink : (Cond.methodLink own index y).before args s = true) (hstat : (Cond.static y).before args s = true) (hinit : (Cond.initialized y.cls).before args s = true)
    (hcode : (Cond.codeWith y bytes maxL ret hh).before args s = true) (hy : y.cls ≠ "java/lang/invoke/MethodHandle" ∧ y.cls ≠ "java/lang/invoke/VarHandle")
    {W9 : Nat} {Pre : Pt → Array Value → Prop} {Post : Pt → Array Value → Option Value → Pt → Prop} (hK : Back l R p e below s args y 3 W9 Pre Post)
    {g : JFrame} (hg : g.method = m) (hsize : g.locals.size = c.maxLocals) {argsL rest : List Value} (hlen : ∀ sig, parseMethodDescriptor y.desc = some sig → argsL.length = sig.parameters.length)
    (hstack : g.stack = argsL.reverse ++ rest) (hW : 2 * g.monitorRoom + (rest.map fun v => v.category).sum ≤ W9) (hdg : decode c.code g.pc = .ok (.invokestatic index, 3))
    (hpre : ∀ vm₁, s.WarmedH vm₁ → Pre ⟨T.setVm vm₁, locs, cells, slots⟩ argsL.toArray) :
    ∃ (v : Option Value) (vm₁ : Vm) (B : Pt), s.WarmedH vm₁ ∧ Stand p l e R s m args below meth c B.U B.locs B.cells B.slots ∧ Post ⟨T.setVm vm₁, locs, cells, slots⟩ argsL.toArray v B ∧
      ∀ target, Steps p.tables e below (B.U.setTop { g with pc := g.pc + 3, stack := v.toList ++ rest }) target → Steps p.tables e below (T.setTop g) target := by
  obtain ⟨mk, methM, cM, hnamed, hmethM, -, -, -, -, -, -, hsigM⟩ := Cond.codeWith_spec hcode
  have hstatic : methM.isStatic = true := Cond.static_spec hnamed hmethM hstat
  obtain ⟨kP, hkP, -⟩ := className_of_methodNamed hnamed
  have hinitP : kP.init = .initialized := Cond.initialized_spec (findClass_of_methodNamed hnamed) hkP hinit
  obtain ⟨vm₁, X₁, hstep₁⟩ := X.invokestatic hexec hown hlink hnamed hmethM hstatic hkP hinitP hy (g := g) hg (argsL := argsL) (rest := rest) (hlen _ hsigM) hstack hdg
  obtain ⟨v, B, X', hpost, hsteps⟩ := hK m meth c ⟨T.setVm vm₁, locs, cells, slots⟩ { g with stack := rest } (.invokestatic index) mk argsL.toArray X₁ hg hsize hdg hW (X₁.named hnamed) (hpre vm₁ X₁.warmed)
  exact ⟨v, vm₁, B, X₁.warmed, X', hpost, fun target h => hstep₁ _ fun acts => by rw [doInvoke_state]; exact hsteps.trans h⟩
theorem vx_runSW {y : MethodName} {bytes cc : ByteArray} {maxL nL mc ms n index : Nat} {ret : Option FieldType} {hh : List (Nat × Nat × Nat × Nat)} {ws : List Cond} {rm : Room} {Pc : Array Value → State → Prop} {Qc : Array Value → State → Outcome → State → Prop} {free : Addr → Prop} {Ts : List Cond} {own : String} {As rest : List Value} {g : JFrame}
    (S : CallFix p m c cc nL s args Ts own) (hM : Met l y ws rm Pc Qc mc ms free) (cw : vx_CSW R s args own index y bytes maxL ret hh ws rm mc ms n) (hp : PreS s H Pc As)
    (hg : g.method = m) (hn : As.length = n) (hsize : g.locals.size = nL) (hstack : g.stack = As.reverse ++ rest) (hW : 2 * g.monitorRoom + (rest.map fun v => v.category).sum ≤ 8) (hdg : decode cc g.pc = .ok (.invokestatic index, 3)) (hf : cells + mc ≤ R.cells ∧ slots + ms ≤ R.slots) :
    va_Run p l e R s m args below meth c H locs cells slots mc ms g rest (Qc As.toArray) (free) := by
  obtain ⟨⟨hrc, hrs, hfr, hlo, hws, hcw⟩, hcode, hini, hy, hlen, hl, hstt⟩ := cw
  have hK : Back l R p e below s args y 3 8 (PreOf R mc ms Pc) (PostOf Qc mc ms free) := va_backW (hh := hh) (bytes := bytes) (maxL := maxL) (ret := ret) hM hp.1 hrc hrs hfr hlo hws hcw (fun a' U hW => word_at hW (Or.inl (by first | rfl | simp [Cond.onTables, Cond.keeps, Cond.steady])) hini)
  obtain ⟨hx, hb, hml, ho, -⟩ := S
  intro T hT X
  obtain ⟨v, vm₁, ⟨U', l2, c2, s2⟩, hW₁, X', ⟨g', mk, t, L, e1, e2, hq, h1, hL, h2, h3⟩, st⟩ := vx_callSW X hx (hh := hh) (bytes := bytes) (maxL := maxL) (ret := ret) ho hl hstt hini hcode hy hK hg (hsize.trans hml.symm) (argsL := As) (rest := rest) (fun sig h => hn.trans (hlen sig h)) hstack hW (by rw [hb]; exact hdg)
    (fun vm₁ hW₁ => ⟨hf.1, hf.2, hp.2 (T.setVm vm₁) hT hW₁⟩)
  dsimp only [Pt.U, Pt.locs, Pt.cells, Pt.slots] at X' e1 e2 h1 h2 h3 st
  subst h1; subst h2; subst h3
  exact ⟨v, (T.setVm vm₁).calling g' mk As.toArray, t, U', L, hT, X', hL, e1, e2, hq, st⟩
/-- not caught here, past rows that name other classes: it goes on to the caller -/
theorem vx_outP {p : Program} {l : Launch} {e : Env} {R : Room} {s : State} {m : MethodId} {args : Array Value} {below : List Frame} {meth : Method} {c : Code} {H : Heap} {locs : List Loc} {cells slots : Nat} {free : Addr → Prop} {ls : Array Slot} {rest : List Value} {Qc : Array Value → State → Outcome → State → Prop} {XC : String → State → State → Prop}
    {pc : Nat} {own E : String} {ce : Cell} {q : Addr} {mc ms : Nat} (hown : s.vm.findClass own = some m.cls) (hlocks : meth.locks = false)
    (hpass : ∀ z ∈ c.exceptionTable.toList, covers z pc = false ∨ (z.catchType ≠ 0 ∧ ∃ nm : String, (Cond.classLink own z.catchType nm).before args s = true ∧ va_Nc E nm s)) (hcell : H[q]? = some ce) (hv : ce.vm = .none) (hcl : s.vm.findClass E = some ce.cls)
    (hx : ∀ t : State, t.heap = H → s.vm.Alike t.vm → XC E s t) (hf : ∀ z ∈ locs, free z.base) (hc : cells ≤ mc) (hs : slots ≤ ms) :
    vx_W p l e R s m args below meth c H locs cells slots (vx_MQ below Qc XC args s mc ms free) (F0 m pc ls rest) q := by
  intro T hT X
  have hpl : e.platform.magicAccessors = ({} : Platform).magicAccessors := by rw [X.admits.platform]
  obtain ⟨vm', hW', X', st⟩ := X.outThrough hlocks q (g := F0 m pc ls rest) rfl rfl rfl (cell := ce) (by rw [hT]; exact hcell) (by rw [hv]; rfl)
    (by obtain ⟨k9, h9, -⟩ := Vm.findClass_spec hcl; exact ⟨k9, h9⟩) (fun z hz => by
      rcases hpass z hz with h | ⟨hz0, nm, hl1, hn1⟩
      · exact Or.inl h
      · obtain ⟨c6, hc6, hcl6⟩ := Cond.classLink_spec hown hl1 e.platform hpl
        obtain ⟨a8, b8, h1, h2, h3⟩ := hn1
        cases Option.some.inj (h1.symm.trans hcl)
        cases Option.some.inj (h2.symm.trans hc6)
        exact Or.inr ⟨hz0, _, hcl6, h3⟩)
  obtain ⟨g₀, hfr⟩ := X'.frames_eq
  have hcell9 : ((T.setVm vm').setFrames (.throwing q :: below)).heap[q]? = some ce := by
    show T.heap[q]? = some ce
    rw [hT]; exact hcell
  have hend : Ended ((T.setVm vm').setFrames (.throwing q :: below)) below (.threw q) := State.frames_setFrames _ (State.cur_lt_of_frames hfr)
  refine ⟨(T.setVm vm').setFrames (.throwing q :: below), ?_, .threw q, X'.here.running, hend, Or.inr ⟨q, rfl, E, ce, locs, hx _ hT (X'.ends _).1.alike, hcell9, hv, hcl, (X'.ends _).1, (X'.ends _).2.mono hc hs, hf⟩⟩
  rw [X.pushThrowing_eq]
  exact st
/-- a thing of a world lies in the heap -/
theorem vx_lt {D : va_G} {cl : List vw_C} {ws : va_W} {H1 : Heap} (h : va_P D cl ws H1) {k : Nat} {q : Nat × va_E} (hk : ws[k]? = some q) : q.1 < H1.size := (h k q hk).lt
end VXS
/-! ===== END ===== -/
/-! ===== BEGIN methods with a table of their own: called by a name, returning or throwing ===== -/
section VXH
/-! vx_backW, vx_callVX, vx_callSX, vx_callVW, vx_runVW, vx_runVX, vx_runSX, vx_ofWH follow the same proofs as their sisters above (Free/Laws.lean, Shelf42/LK1.lean); vx_outP calls Shelf42/NT130.lean (outThrough). -/
section
variable {l : Launch} {R : Room} {p : Program} {e : Env} {below : List Frame} {s : State} {sargs : Array Value} {y : MethodName} {len W9 : Nat}
theorem vx_backW {ws : List Cond} {rm : Room} {Pc : Array Value → State → Prop} {Qc : Array Value → State → Outcome → State → Prop} {XC : String → State → State → Prop} {mc ms : Nat} {free : Addr → Prop} {bytes : ByteArray} {maxL : Nat} {ret : Option FieldType} {hh : List (Nat × Nat × Nat × Nat)}
    (hM : vx_Met l y ws rm Pc Qc XC mc ms free) (hblind : FrameBlind Pc) (hrc : rm.cells = mc) (hrs : rm.slots = ms)
    (hframes : rm.frames + 1 ≤ R.frames) (hlocals : W9 + (maxL + 11) + rm.locals ≤ R.locals)
    (hws : ∀ w ∈ ws, ∀ a' U, s.WarmedH U.vm → w.before a' U = true) (hcode : Cond.codeWith y bytes maxL ret hh ∈ ws) (hinit : ∀ a' U, s.WarmedH U.vm → (Cond.initialized y.cls).before a' U = true) :
    vx_Back l R p e below s sargs y len W9 (PreOf R mc ms Pc) (PostOf Qc mc ms free) (vx_Post XC mc ms free) := by
  intro m meth c A g ig mk a X hg hsize hdg hW hn hp
  have h1 : (headSpec ws rm).pre.before a A.U = true := atoms_intro fun w hw => hws w hw _ _ X.warmed
  have h2 : (Cond.codeWith y bytes maxL ret hh).before a A.U = true := hws _ hcode _ _ X.warmed
  have h3 : (Cond.initialized y.cls).before a A.U = true := hinit _ _ X.warmed
  have h4 : A.cells + (headSpec ws rm).room.cells ≤ R.cells := by rw [show (headSpec ws rm).room.cells = mc from hrc]; exact hp.1
  have h5 : A.slots + (headSpec ws rm).room.slots ≤ R.slots := by rw [show (headSpec ws rm).room.slots = ms from hrs]; exact hp.2.1
  have hPc : Pc a (A.U.calling g mk a) := hblind _ _ _ _ hp.2.2
  obtain ⟨U, Ls, c0, s0⟩ := A
  dsimp only [Pt.U, Pt.locs, Pt.cells, Pt.slots] at h1 h2 h3 h4 h5 X hn hPc ⊢
  obtain ⟨m9, methY, cY, hn9, hmY, hcY, -, hlY, -⟩ := Cond.codeWith_spec h2
  cases Option.some.inj (hn9.symm.trans hn)
  obtain ⟨kY, hkY, -⟩ := className_of_methodNamed hn
  have hinitY : kY.init = .initialized := Cond.initialized_spec (findClass_of_methodNamed hn) hkY h3
  have h : At U g.method c below := by rw [hg]; exact X.here
  have hlocals9 : W9 + (maxL + 11) + (headSpec ws rm).room.locals ≤ R.locals := hlocals
  have happ : (headSpec ws rm).appliesLoose y e.platform (U.calling g mk a) = true :=
    Spec.appliesLoose_calling (g := g) h hdg hn hkY hinitY
      (X.room_calling (g := g) (R' := (headSpec ws rm).room) hsize hmY hcY hframes (by rw [hlY]; omega) h4 h5) h1
  obtain ⟨mid, hmid⟩ := h.above
  have hfr : (U.setTop g).frames = (.java g :: mid) ++ below := by rw [State.frames_setTop' g h.top, hmid]; rfl
  obtain ⟨o, s₂, hsteps, -, hend, hq⟩ := Steps.callFree hM p X.admits X.cas X.clock (acts := []) hfr happ hPc trivial
  have hq' : vx_Q Qc XC mc ms free a (U.calling g mk a) o s₂ := hq
  rw [State.frames_setTop' g h.top] at hend
  obtain ⟨g₀, hg0⟩ := Option.isSome_iff_exists.mp h.top
  obtain ⟨r, hr⟩ := State.topJava?_eq_some.mp hg0
  have hr' : (({ U with heap := s₂.heap, slotsUsed := s₂.slotsUsed } : State).setVm s₂.vm).frames = .java g₀ :: r := hr
  rcases hq' with ⟨hqc, L, hfe, hL⟩ | ⟨q, rfl, E, ce, L, hx, hce, hcv, hcl, hW₂, hsm, hL⟩
  · obtain ⟨⟨v, rfl⟩, hW₂, e2, q2, q3, q4, q5, q6⟩ := id hfe
    have e3 : s₂ = ({ (U.calling g mk a).setFrames s₂.frames with heap := s₂.heap, slotsUsed := s₂.slotsUsed } : State).setVm s₂.vm := by
      have : s₂ = ({ s₂ with vm := (U.calling g mk a).vm } : State).setVm s₂.vm := rfl
      rw [e2] at this
      exact this
    obtain ⟨c₂, i₂, len₂, hc₂, hd₂, hf₂⟩ := hend
    have hW' : U.WarmedH s₂.vm := hW₂
    have hcc : c₂ = c := by
      have h1 : s₂.code? g.method = U.code? g.method := by
        rw [State.code?_eq, State.code?_eq, hW'.alike.method?]
      exact Option.some.inj (hc₂.symm.trans (h1.trans h.code))
    subst hcc
    have hlen : len₂ = len := by rw [hdg] at hd₂; cases hd₂; rfl
    subst hlen
    have hs₂ : s₂ = (({ U with heap := s₂.heap, slotsUsed := s₂.slotsUsed } : State).setVm s₂.vm).setTop { g with pc := g.pc + len₂, stack := v.toList ++ g.stack } := by
      refine e3.trans ?_
      rw [hf₂, State.calling_eq h.top, State.setFrames_setFrames, State.setTop_of_frames _ hr', hr]
      rfl
    have hsame : U.sameButNew ({ U with heap := s₂.heap, slotsUsed := s₂.slotsUsed } : State) L mc ms := by
      refine ⟨?_, q2, q3, q4, q5, q6⟩
      obtain ⟨t, ht, -⟩ := State.frames_cons hr
      show ({ U with heap := s₂.heap, slotsUsed := s₂.slotsUsed } : State) = { U.setFrames U.frames with heap := s₂.heap, slotsUsed := s₂.slotsUsed }
      rw [State.setFrames_self ht]
    subst hg
    refine Or.inl ⟨v, ⟨(({ U with heap := s₂.heap, slotsUsed := s₂.slotsUsed } : State).setVm s₂.vm), Ls ++ L, c0 + mc, s0 + ms⟩,
      ⟨X.admits, X.cas, X.clock, X.frames, X.room, X.hears, X.method, X.code, (X.here.setHeapUsed s₂.heap s₂.slotsUsed).setVm hW'.alike, X.tail, State.WarmedH.trans X.warmed hW', X.limits, X.bytes, X.same.trans (hsame.setVm s.vm)⟩,
      ⟨g, mk, s₂, L, rfl, rfl, hqc, rfl, hL, rfl, rfl⟩, ?_⟩
    show Steps p.tables e below _ ((({ U with heap := s₂.heap, slotsUsed := s₂.slotsUsed } : State).setVm s₂.vm).setTop { g with pc := g.pc + len₂, stack := v.toList ++ g.stack })
    rw [← hs₂]
    exact hsteps
  · obtain ⟨e2, q2, q3, q4, q5, q6⟩ := id hsm
    have e3 : s₂ = ({ (U.calling g mk a).setFrames s₂.frames with heap := s₂.heap, slotsUsed := s₂.slotsUsed } : State).setVm s₂.vm := by
      have : s₂ = ({ s₂ with vm := (U.calling g mk a).vm } : State).setVm s₂.vm := rfl
      rw [e2] at this
      exact this
    have hf₂ : s₂.frames = .throwing q :: .java g :: U.frames.tail := hend
    have hW' : U.WarmedH s₂.vm := hW₂
    have hs₂ : s₂ = ((({ U with heap := s₂.heap, slotsUsed := s₂.slotsUsed } : State).setVm s₂.vm).setTop g).pushFrame (.throwing q) := by
      refine e3.trans ?_
      rw [hf₂, State.calling_eq h.top, State.setFrames_setFrames, State.pushFrame, State.frames_setTop _ hr', State.setTop_of_frames _ hr', State.setFrames_setFrames, hr]
      rfl
    have hsame : U.sameButNew ({ U with heap := s₂.heap, slotsUsed := s₂.slotsUsed } : State) L mc ms := by
      refine ⟨?_, q2, q3, q4, q5, q6⟩
      obtain ⟨t, ht, -⟩ := State.frames_cons hr
      show ({ U with heap := s₂.heap, slotsUsed := s₂.slotsUsed } : State) = { U.setFrames U.frames with heap := s₂.heap, slotsUsed := s₂.slotsUsed }
      rw [State.setFrames_self ht]
    subst hg
    refine Or.inr ⟨q, ⟨(({ U with heap := s₂.heap, slotsUsed := s₂.slotsUsed } : State).setVm s₂.vm), Ls ++ L, c0 + mc, s0 + ms⟩,
      ⟨X.admits, X.cas, X.clock, X.frames, X.room, X.hears, X.method, X.code, (X.here.setHeapUsed s₂.heap s₂.slotsUsed).setVm hW'.alike, X.tail, State.WarmedH.trans X.warmed hW', X.limits, X.bytes, X.same.trans (hsame.setVm s.vm)⟩,
      ⟨g, mk, s₂, L, E, ce, rfl, rfl, hx, hce, hcv, hcl, rfl, hL, rfl, rfl⟩, ?_⟩
    show Steps p.tables e below _ (((({ U with heap := s₂.heap, slotsUsed := s₂.slotsUsed } : State).setVm s₂.vm).setTop g).pushFrame (.throwing q))
    rw [← hs₂]
    exact hsteps
end
variable {p : Program} {l : Launch} {e : Env} {R : Room} {s : State} {m : MethodId} {args : Array Value} {below : List Frame} {meth : Method} {c : Code} {T : State} {H : Heap} {locs : List Loc} {cells slots : Nat}
theorem vx_callVX (X : Stand p l e R s m args below meth c T locs cells slots) (hexec : p.tables.exec = Jvm.exec) {own C : String} {index : Nat} {y : MethodName} {bytes : ByteArray} {maxL : Nat} {ret : Option FieldType} {hh : List (Nat × Nat × Nat × Nat)}
    (hown : s.vm.findClass own = some m.cls) (hlink : (Cond.methodLink own index y).before args s = true) (hinst : (Cond.instanceMethod y).before args s = true) (hsel : (Cond.selects C y y).before args s = true)
    (hcode : (Cond.codeWith y bytes maxL ret hh).before args s = true) (hy : y.cls ≠ "java/lang/invoke/MethodHandle" ∧ y.cls ≠ "java/lang/invoke/VarHandle")
    {W9 : Nat} {Pre : Pt → Array Value → Prop} {Post : Pt → Array Value → Option Value → Pt → Prop} {PostX : Pt → Array Value → Addr → Pt → Prop} (hK : vx_Back l R p e below s args y 3 W9 Pre Post PostX)
    {b : Addr} {cellB : Cell} (hcell : T.heap[b]? = some cellB) (hobj : cellB.vm.isStatics = false) (hcls : s.vm.findClass C = some cellB.cls)
    {g : JFrame} (hg : g.method = m) (hsize : g.locals.size = c.maxLocals) {argsL rest : List Value} (hlen : ∀ sig, parseMethodDescriptor y.desc = some sig → argsL.length = sig.parameters.length)
    (hstack : g.stack = argsL.reverse ++ .ref b :: rest) (hW : 2 * g.monitorRoom + (rest.map fun v => v.category).sum ≤ W9) (hdg : decode c.code g.pc = .ok (.invokevirtual index, 3))
    (hpre : ∀ vm₁, s.WarmedH vm₁ → Pre ⟨T.setVm vm₁, locs, cells, slots⟩ (Value.ref b :: argsL).toArray) :
    (∃ (v : Option Value) (vm₁ : Vm) (B : Pt), s.WarmedH vm₁ ∧ Stand p l e R s m args below meth c B.U B.locs B.cells B.slots ∧ Post ⟨T.setVm vm₁, locs, cells, slots⟩ (Value.ref b :: argsL).toArray v B ∧
      ∀ target, Steps p.tables e below (B.U.setTop { g with pc := g.pc + 3, stack := v.toList ++ rest }) target → Steps p.tables e below (T.setTop g) target) ∨
    (∃ (q : Addr) (vm₁ : Vm) (B : Pt), s.WarmedH vm₁ ∧ Stand p l e R s m args below meth c B.U B.locs B.cells B.slots ∧ PostX ⟨T.setVm vm₁, locs, cells, slots⟩ (Value.ref b :: argsL).toArray q B ∧
      Steps p.tables e below (T.setTop g) ((B.U.setTop { g with stack := rest }).pushFrame (.throwing q))) := by
  obtain ⟨mk, methM, hnamed, hmethM, hstM, habM⟩ := Cond.instanceMethod_spec hinst
  obtain ⟨m8, methM', cM, hn8, hmethM', -, -, -, -, -, -, hsigM⟩ := Cond.codeWith_spec hcode
  cases Option.some.inj (hn8.symm.trans hnamed)
  cases hmethM.symm.trans hmethM'
  obtain ⟨c2, r2, m2, q1, q2, q3, q4, kP, hkP, hkPi⟩ := Cond.selects_spec hsel
  cases hcls.symm.trans q1
  cases (State.methodFound?_of_named hnamed hy).symm.trans q2
  cases hnamed.symm.trans q3
  have hselP : selectMethod e.platform s.vm cellB.cls mk = .method mk := by rw [Launch.admits_selectMethod X.admits]; exact q4
  obtain ⟨vm₁, X₁, hstep₁⟩ := X.invokevirtual hexec hown hlink hnamed hmethM hstM hkP hkPi hy (a := b) (cell := cellB) hcell
    (fun z h => by rw [h] at hobj; cases hobj) hselP hmethM habM hkP hkPi (g := g) hg (argsL := argsL) (rest := rest) (hlen _ hsigM) hstack hdg
  rcases hK m meth c ⟨T.setVm vm₁, locs, cells, slots⟩ { g with stack := rest } (.invokevirtual index) mk (Value.ref b :: argsL).toArray X₁ hg hsize hdg hW (X₁.named hnamed) (hpre vm₁ X₁.warmed) with ⟨v, B, X', hpost, hsteps⟩ | ⟨q, B, X', hpost, hsteps⟩
  · exact Or.inl ⟨v, vm₁, B, X₁.warmed, X', hpost, fun target h => hstep₁ _ fun acts => by rw [doInvoke_state]; exact hsteps.trans h⟩
  · exact Or.inr ⟨q, vm₁, B, X₁.warmed, X', hpost, hstep₁ _ fun acts => by rw [doInvoke_state]; exact hsteps⟩
theorem vx_callSX (X : Stand p l e R s m args below meth c T locs cells slots) (hexec : p.tables.exec = Jvm.exec) {own : String} {index : Nat} {y : MethodName} {bytes : ByteArray} {maxL : Nat} {ret : Option FieldType} {hh : List (Nat × Nat × Nat × Nat)}
    (hown : s.vm.findClass own = some m.cls) (hlink : (Cond.methodLink own index y).before args s = true) (hstat : (Cond.static y).before args s = true) (hinit : (Cond.initialized y.cls).before args s = true)
    (hcode : (Cond.codeWith y bytes maxL ret hh).before args s = true) (hy : y.cls ≠ "java/lang/invoke/MethodHandle" ∧ y.cls ≠ "java/lang/invoke/VarHandle")
    {W9 : Nat} {Pre : Pt → Array Value → Prop} {Post : Pt → Array Value → Option Value → Pt → Prop} {PostX : Pt → Array Value → Addr → Pt → Prop} (hK : vx_Back l R p e below s args y 3 W9 Pre Post PostX)
    {g : JFrame} (hg : g.method = m) (hsize : g.locals.size = c.maxLocals) {argsL rest : List Value} (hlen : ∀ sig, parseMethodDescriptor y.desc = some sig → argsL.length = sig.parameters.length)
    (hstack : g.stack = argsL.reverse ++ rest) (hW : 2 * g.monitorRoom + (rest.map fun v => v.category).sum ≤ W9) (hdg : decode c.code g.pc = .ok (.invokestatic index, 3))
    (hpre : ∀ vm₁, s.WarmedH vm₁ → Pre ⟨T.setVm vm₁, locs, cells, slots⟩ argsL.toArray) :
    (∃ (v : Option Value) (vm₁ : Vm) (B : Pt), s.WarmedH vm₁ ∧ Stand p l e R s m args below meth c B.U B.locs B.cells B.slots ∧ Post ⟨T.setVm vm₁, locs, cells, slots⟩ argsL.toArray v B ∧
      ∀ target, Steps p.tables e below (B.U.setTop { g with pc := g.pc + 3, stack := v.toList ++ rest }) target → Steps p.tables e below (T.setTop g) target) ∨
    (∃ (q : Addr) (vm₁ : Vm) (B : Pt), s.WarmedH vm₁ ∧ Stand p l e R s m args below meth c B.U B.locs B.cells B.slots ∧ PostX ⟨T.setVm vm₁, locs, cells, slots⟩ argsL.toArray q B ∧
      Steps p.tables e below (T.setTop g) ((B.U.setTop { g with stack := rest }).pushFrame (.throwing q))) := by
  obtain ⟨mk, methM, cM, hnamed, hmethM, -, -, -, -, -, -, hsigM⟩ := Cond.codeWith_spec hcode
  have hstatic : methM.isStatic = true := Cond.static_spec hnamed hmethM hstat
  obtain ⟨kP, hkP, -⟩ := className_of_methodNamed hnamed
  have hinitP : kP.init = .initialized := Cond.initialized_spec (findClass_of_methodNamed hnamed) hkP hinit
  obtain ⟨vm₁, X₁, hstep₁⟩ := X.invokestatic hexec hown hlink hnamed hmethM hstatic hkP hinitP hy (g := g) hg (argsL := argsL) (rest := rest) (hlen _ hsigM) hstack hdg
  rcases hK m meth c ⟨T.setVm vm₁, locs, cells, slots⟩ { g with stack := rest } (.invokestatic index) mk argsL.toArray X₁ hg hsize hdg hW (X₁.named hnamed) (hpre vm₁ X₁.warmed) with ⟨v, B, X', hpost, hsteps⟩ | ⟨q, B, X', hpost, hsteps⟩
  · exact Or.inl ⟨v, vm₁, B, X₁.warmed, X', hpost, fun target h => hstep₁ _ fun acts => by rw [doInvoke_state]; exact hsteps.trans h⟩
  · exact Or.inr ⟨q, vm₁, B, X₁.warmed, X', hpost, hstep₁ _ fun acts => by rw [doInvoke_state]; exact hsteps⟩
theorem vx_callVW (X : Stand p l e R s m args below meth c T locs cells slots) (hexec : p.tables.exec = Jvm.exec) {own C : String} {index : Nat} {y : MethodName} {bytes : ByteArray} {maxL : Nat} {ret : Option FieldType} {hh : List (Nat × Nat × Nat × Nat)}
    (hown : s.vm.findClass own = some m.cls) (hlink : (Cond.methodLink own index y).before args s = true) (hinst : (Cond.instanceMethod y).before args s = true) (hsel : (Cond.selects C y y).before args s = true)
    (hcode : (Cond.codeWith y bytes maxL ret hh).before args s = true) (hy : y.cls ≠ "java/lang/invoke/MethodHandle" ∧ y.cls ≠ "java/lang/invoke/VarHandle")
    {W9 : Nat} {Pre : Pt → Array Value → Prop} {Post : Pt → Array Value → Option Value → Pt → Prop} (hK : Back l R p e below s args y 3 W9 Pre Post)
    {b : Addr} {cellB : Cell} (hcell : T.heap[b]? = some cellB) (hobj : cellB.vm.isStatics = false) (hcls : s.vm.findClass C = some cellB.cls)
    {g : JFrame} (hg : g.method = m) (hsize : g.locals.size = c.maxLocals) {argsL rest : List Value} (hlen : ∀ sig, parseMethodDescriptor y.desc = some sig → argsL.length = sig.parameters.length)
    (hstack : g.stack = argsL.reverse ++ .ref b :: rest) (hW : 2 * g.monitorRoom + (rest.map fun v => v.category).sum ≤ W9) (hdg : decode c.code g.pc = .ok (.invokevirtual index, 3))
    (hpre : ∀ vm₁, s.WarmedH vm₁ → Pre ⟨T.setVm vm₁, locs, cells, slots⟩ (Value.ref b :: argsL).toArray) :
    ∃ (v : Option Value) (vm₁ : Vm) (B : Pt), s.WarmedH vm₁ ∧ Stand p l e R s m args below meth c B.U B.locs B.cells B.slots ∧ Post ⟨T.setVm vm₁, locs, cells, slots⟩ (Value.ref b :: argsL).toArray v B ∧
      ∀ target, Steps p.tables e below (B.U.setTop { g with pc := g.pc + 3, stack := v.toList ++ rest }) target → Steps p.tables e below (T.setTop g) target := by
  obtain ⟨mk, methM, hnamed, hmethM, hstM, habM⟩ := Cond.instanceMethod_spec hinst
  obtain ⟨m8, methM', cM, hn8, hmethM', -, -, -, -, -, -, hsigM⟩ := Cond.codeWith_spec hcode
  cases Option.some.inj (hn8.symm.trans hnamed)
  cases hmethM.symm.trans hmethM'
  obtain ⟨c2, r2, m2, q1, q2, q3, q4, kP, hkP, hkPi⟩ := Cond.selects_spec hsel
  cases hcls.symm.trans q1
  cases (State.methodFound?_of_named hnamed hy).symm.trans q2
  cases hnamed.symm.trans q3
  have hselP : selectMethod e.platform s.vm cellB.cls mk = .method mk := by rw [Launch.admits_selectMethod X.admits]; exact q4
  obtain ⟨vm₁, X₁, hstep₁⟩ := X.invokevirtual hexec hown hlink hnamed hmethM hstM hkP hkPi hy (a := b) (cell := cellB) hcell
    (fun z h => by rw [h] at hobj; cases hobj) hselP hmethM habM hkP hkPi (g := g) hg (argsL := argsL) (rest := rest) (hlen _ hsigM) hstack hdg
  obtain ⟨v, B, X', hpost, hsteps⟩ := hK m meth c ⟨T.setVm vm₁, locs, cells, slots⟩ { g with stack := rest } (.invokevirtual index) mk (Value.ref b :: argsL).toArray X₁ hg hsize hdg hW (X₁.named hnamed) (hpre vm₁ X₁.warmed)
  exact ⟨v, vm₁, B, X₁.warmed, X', hpost, fun target h => hstep₁ _ fun acts => by rw [doInvoke_state]; exact hsteps.trans h⟩
abbrev vx_CVW (R : Room) (s : State) (args : Array Value) (own C : String) (index : Nat) (y : MethodName) (bytes : ByteArray) (maxL : Nat) (ret : Option FieldType) (hh : List (Nat × Nat × Nat × Nat)) (ws : List Cond) (rm : Room) (mc ms n : Nat) : Prop :=
  (rm.cells = mc ∧ rm.slots = ms ∧ rm.frames + 1 ≤ R.frames ∧ 8 + (maxL + 11) + rm.locals ≤ R.locals ∧ (∀ w ∈ ws, ∀ (a' : Array Value) (U : State), s.WarmedH U.vm → w.before a' U = true) ∧ Cond.codeWith y bytes maxL ret hh ∈ ws) ∧
  (Cond.codeWith y bytes maxL ret hh).before args s = true ∧ (Cond.initialized y.cls).before args s = true ∧ (y.cls ≠ "java/lang/invoke/MethodHandle" ∧ y.cls ≠ "java/lang/invoke/VarHandle") ∧
  (∀ sig, parseMethodDescriptor y.desc = some sig → n = sig.parameters.length) ∧ (Cond.methodLink own index y).before args s = true ∧ (Cond.instanceMethod y).before args s = true ∧ (Cond.selects C y y).before args s = true
theorem vx_cwVW {own C : String} {index maxL mc ms : Nat} {y : MethodName} {bytes : ByteArray} {ret : Option FieldType} {hh : List (Nat × Nat × Nat × Nat)} {Ts ws ws' : List Cond} {rm : Room} (n : Nat) (ht : ∀ w ∈ Ts, w.before args s = true) (hT : GoodIn Ts (wsV own index C y ws)) (hw : ws = Cond.codeWith y bytes maxL ret hh :: ws') (hrc : rm.cells = mc) (hrs : rm.slots = ms)
    (hd : y.cls = C ∧ y.cls ≠ "java/lang/invoke/MethodHandle" ∧ y.cls ≠ "java/lang/invoke/VarHandle" ∧ (parseMethodDescriptor y.desc).map (fun d => d.parameters.length) = some n) (hR : rm.frames + 1 ≤ R.frames ∧ 8 + (maxL + 11) + rm.locals ≤ R.locals) :
    vx_CVW R s args own C index y bytes maxL ret hh ws rm mc ms n := by
  obtain ⟨hC, hd⟩ := hd
  subst hC
  have ok : ∀ w ∈ wsV own index y.cls y ws, w.before args s = true := fun w h => ht w (hT w h).1
  have hG : GoodIn Ts ws := fun w h => hT w (by unfold wsV; exact List.mem_append_right _ h)
  have hc : Cond.codeWith y bytes maxL ret hh ∈ ws := by rw [hw]; exact List.mem_cons_self
  refine ⟨⟨hrc, hrs, hR.1, hR.2, pay_in ht hG, hc⟩, ht _ (hG _ hc).1, ok _ (by simp [wsV]), ⟨hd.1, hd.2.1⟩, fun sig h => ?_, ok _ (by simp [wsV]), ok _ (by simp [wsV]), ok _ (by simp [wsV])⟩
  have h2 := hd.2.2
  rw [h] at h2
  exact (Option.some.inj h2).symm
theorem vx_runVW {y : MethodName} {bytes cc : ByteArray} {maxL nL mc ms n index : Nat} {ret : Option FieldType} {hh : List (Nat × Nat × Nat × Nat)} {ws : List Cond} {rm : Room} {Pc : Array Value → State → Prop} {Qc : Array Value → State → Outcome → State → Prop} {free : Addr → Prop} {Ts : List Cond} {own C : String} {b : Addr} {As rest : List Value} {g : JFrame}
    (S : CallFix p m c cc nL s args Ts own) (hM : Met l y ws rm Pc Qc mc ms free) (cw : vx_CVW R s args own C index y bytes maxL ret hh ws rm mc ms n) (hp : PreV s H C b Pc As)
    (hg : g.method = m) (hn : As.length = n) (hsize : g.locals.size = nL) (hstack : g.stack = As.reverse ++ .ref b :: rest) (hW : 2 * g.monitorRoom + (rest.map fun v => v.category).sum ≤ 8) (hdg : decode cc g.pc = .ok (.invokevirtual index, 3)) (hf : cells + mc ≤ R.cells ∧ slots + ms ≤ R.slots) :
    va_Run p l e R s m args below meth c H locs cells slots mc ms g rest (Qc (Value.ref b :: As).toArray) free := by
  obtain ⟨⟨hrc, hrs, hfr, hlo, hws, hcw⟩, hcode, hini, hy, hlen, hl, hin, hse⟩ := cw
  have hK : Back l R p e below s args y 3 8 (PreOf R mc ms Pc) (PostOf Qc mc ms free) := va_backW (hh := hh) (bytes := bytes) (maxL := maxL) (ret := ret) hM hp.1 hrc hrs hfr hlo hws hcw (fun a' U hW => word_at hW (Or.inl (by first | rfl | simp [Cond.onTables, Cond.keeps, Cond.steady])) hini)
  obtain ⟨hx, hb, hml, ho, -⟩ := S
  obtain ⟨-, ⟨cellB, hcB, hoB, hclB⟩, hPc⟩ := hp
  intro T hT X
  obtain ⟨v, vm₁, ⟨U', l2, c2, s2⟩, hW₁, X', ⟨g', mk, t, L, e1, e2, hq, h1, hL, h2, h3⟩, st⟩ := vx_callVW X hx (C := C) (hh := hh) (bytes := bytes) (maxL := maxL) (ret := ret) ho hl hin hse hcode hy hK (by rw [hT]; exact hcB) hoB hclB hg (hsize.trans hml.symm) (argsL := As) (rest := rest) (fun sig h => hn.trans (hlen sig h)) hstack hW (by rw [hb]; exact hdg)
    (fun vm₁ hW₁ => ⟨hf.1, hf.2, hPc (T.setVm vm₁) hT hW₁⟩)
  dsimp only [Pt.U, Pt.locs, Pt.cells, Pt.slots] at X' e1 e2 h1 h2 h3 st
  subst h1; subst h2; subst h3
  exact ⟨v, (T.setVm vm₁).calling g' mk (Value.ref b :: As).toArray, t, U', L, hT, X', hL, e1, e2, hq, st⟩
section
variable {y : MethodName} {bytes cc : ByteArray} {maxL nL mc ms n index : Nat} {ret : Option FieldType} {ws : List Cond} {rm : Room} {Pc : Array Value → State → Prop} {Qc : Array Value → State → Outcome → State → Prop} {XC : String → State → State → Prop} {free : Addr → Prop} {Ts : List Cond} {own C : String} {b : Addr} {As rest : List Value} {g : JFrame}
theorem vx_runVX {hh : List (Nat × Nat × Nat × Nat)} (S : CallFix p m c cc nL s args Ts own) (hM : vx_Met l y ws rm Pc Qc XC mc ms free) (cw : vx_CVW R s args own C index y bytes maxL ret hh ws rm mc ms n) (hp : PreV s H C b Pc As)
    (hg : g.method = m) (hn : As.length = n) (hsize : g.locals.size = nL) (hstack : g.stack = As.reverse ++ .ref b :: rest) (hW : 2 * g.monitorRoom + (rest.map fun v => v.category).sum ≤ 8) (hdg : decode cc g.pc = .ok (.invokevirtual index, 3)) (hf : cells + mc ≤ R.cells ∧ slots + ms ≤ R.slots) :
    vx_Run p l e R s m args below meth c H locs cells slots mc ms g rest (Qc (Value.ref b :: As).toArray) XC free := by
  obtain ⟨⟨hrc, hrs, hfr, hlo, hws, hcw⟩, hcode, hini, hy, hlen, hl, hin, hse⟩ := cw
  have hK : vx_Back l R p e below s args y 3 8 (PreOf R mc ms Pc) (PostOf Qc mc ms free) (vx_Post XC mc ms free) := vx_backW (hh := hh) (bytes := bytes) (maxL := maxL) (ret := ret) hM hp.1 hrc hrs hfr hlo hws hcw (fun a' U hW => word_at hW (Or.inl (by first | rfl | simp [Cond.onTables, Cond.keeps, Cond.steady])) hini)
  obtain ⟨hx, hb, hml, ho, -⟩ := S
  obtain ⟨-, ⟨cellB, hcB, hoB, hclB⟩, hPc⟩ := hp
  intro T hT X
  rcases vx_callVX X hx (C := C) (hh := hh) (bytes := bytes) (maxL := maxL) (ret := ret) ho hl hin hse hcode hy hK (by rw [hT]; exact hcB) hoB hclB hg (hsize.trans hml.symm) (argsL := As) (rest := rest) (fun sig h => hn.trans (hlen sig h)) hstack hW (by rw [hb]; exact hdg)
    (fun vm₁ hW₁ => ⟨hf.1, hf.2, hPc (T.setVm vm₁) hT hW₁⟩) with ⟨v, vm₁, ⟨U', l2, c2, s2⟩, hW₁, X', ⟨g', mk, t, L, e1, e2, hq, h1, hL, h2, h3⟩, st⟩ | ⟨q, vm₁, ⟨U', l2, c2, s2⟩, hW₁, X', ⟨g', mk, t, L, E, ce, e1, e2, hq, hce, hcv, hcl, h1, hL, h2, h3⟩, st⟩
  · dsimp only [Pt.U, Pt.locs, Pt.cells, Pt.slots] at X' e1 e2 h1 h2 h3 st
    subst h1; subst h2; subst h3
    exact Or.inl ⟨v, (T.setVm vm₁).calling g' mk (Value.ref b :: As).toArray, t, U', L, hT, X', hL, e1, e2, hq, st⟩
  · dsimp only [Pt.U, Pt.locs, Pt.cells, Pt.slots] at X' e1 e2 h1 h2 h3 st hcl
    subst h1; subst h2; subst h3
    exact Or.inr ⟨q, (T.setVm vm₁).calling g' mk (Value.ref b :: As).toArray, t, U', L, E, ce, hT, X', hL, e1, e2, hq, hce, hcv, vx_cls hW₁ hcl, st⟩
theorem vx_runSX {hh : List (Nat × Nat × Nat × Nat)} (S : CallFix p m c cc nL s args Ts own) (hM : vx_Met l y ws rm Pc Qc XC mc ms free) (cw : vx_CSW R s args own index y bytes maxL ret hh ws rm mc ms n) (hp : PreS s H Pc As)
    (hg : g.method = m) (hn : As.length = n) (hsize : g.locals.size = nL) (hstack : g.stack = As.reverse ++ rest) (hW : 2 * g.monitorRoom + (rest.map fun v => v.category).sum ≤ 8) (hdg : decode cc g.pc = .ok (.invokestatic index, 3)) (hf : cells + mc ≤ R.cells ∧ slots + ms ≤ R.slots) :
    vx_Run p l e R s m args below meth c H locs cells slots mc ms g rest (Qc As.toArray) XC free := by
  obtain ⟨⟨hrc, hrs, hfr, hlo, hws, hcw⟩, hcode, hini, hy, hlen, hl, hstt⟩ := cw
  have hK : vx_Back l R p e below s args y 3 8 (PreOf R mc ms Pc) (PostOf Qc mc ms free) (vx_Post XC mc ms free) := vx_backW (hh := hh) (bytes := bytes) (maxL := maxL) (ret := ret) hM hp.1 hrc hrs hfr hlo hws hcw (fun a' U hW => word_at hW (Or.inl (by first | rfl | simp [Cond.onTables, Cond.keeps, Cond.steady])) hini)
  obtain ⟨hx, hb, hml, ho, -⟩ := S
  intro T hT X
  rcases vx_callSX X hx (hh := hh) (bytes := bytes) (maxL := maxL) (ret := ret) ho hl hstt hini hcode hy hK hg (hsize.trans hml.symm) (argsL := As) (rest := rest) (fun sig h => hn.trans (hlen sig h)) hstack hW (by rw [hb]; exact hdg)
    (fun vm₁ hW₁ => ⟨hf.1, hf.2, hp.2 (T.setVm vm₁) hT hW₁⟩) with ⟨v, vm₁, ⟨U', l2, c2, s2⟩, hW₁, X', ⟨g', mk, t, L, e1, e2, hq, h1, hL, h2, h3⟩, st⟩ | ⟨q, vm₁, ⟨U', l2, c2, s2⟩, hW₁, X', ⟨g', mk, t, L, E, ce, e1, e2, hq, hce, hcv, hcl, h1, hL, h2, h3⟩, st⟩
  · dsimp only [Pt.U, Pt.locs, Pt.cells, Pt.slots] at X' e1 e2 h1 h2 h3 st
    subst h1; subst h2; subst h3
    exact Or.inl ⟨v, (T.setVm vm₁).calling g' mk As.toArray, t, U', L, hT, X', hL, e1, e2, hq, st⟩
  · dsimp only [Pt.U, Pt.locs, Pt.cells, Pt.slots] at X' e1 e2 h1 h2 h3 st hcl
    subst h1; subst h2; subst h3
    exact Or.inr ⟨q, (T.setVm vm₁).calling g' mk As.toArray, t, U', L, E, ce, hT, X', hL, e1, e2, hq, hce, hcv, vx_cls hW₁ hcl, st⟩
end
end VXH
theorem vx_ofWH {l : Launch} {y : MethodName} {ws ws' : List Cond} {rm : Room} {Pc : Array Value → State → Prop} {Qc : Array Value → State → Outcome → State → Prop} {XC : String → State → State → Prop} {mc ms : Nat} {free : Addr → Prop} {cc : ByteArray} {maxL : Nat} {ret : Option FieldType} {hh : List (Nat × Nat × Nat × Nat)}
    (hy : plainName y.cls = true) (hw : ws = Cond.codeWith y cc maxL ret hh :: ws')
    (body : ∀ p e s m args below meth c s₁, BodyLoose p l y (headSpec ws rm) cc maxL ret e s m args below meth c s₁ → c.maxLocals = maxL → Pc args s →
      W p l e (headSpec ws rm).room s m args below meth c s.heap [] 0 0 (vx_MQ below Qc XC args s mc ms free) (entryFrame m args maxL)) : vx_Met l y ws rm Pc Qc XC mc ms free := by
  refine MetFree.of_bodyS (code := cc) (maxLocals := maxL) (ret := ret) hy ?_ ?_
  · intro args s m h hn
    obtain ⟨m9, meth, c, hn9, h1, h2, h3, h4, -, h5, h6, -⟩ := Cond.codeWith_spec (atoms_spec (ws := ws) h _ (by rw [hw]; exact List.mem_cons_self))
    cases hn.symm.trans hn9
    exact ⟨meth, c, h1, h2, h3, h4, h5, h6⟩
  · intro p e s m args below meth c s₁ B hml hP _
    have hh0 : s₁.heap = s.heap := by rw [B.state]; rfl
    obtain ⟨t, a1, o, b1, b2, b3⟩ := body p e s m args below meth c s₁ B hml hP s₁ hh0 (Stand.of_body B)
    exact ⟨t, o, a1, b1, b2, b3⟩
/-! ===== END ===== -/
end
section
/-! ===== BEGIN printed: names, fields, word lists, decode rows ===== -/
def RX0 : String := "NotchedKeys$ApartCodes"
def TX0 : u_T := fun k => match k with
  | 0 => ("NotchedKeys$ApartCodes", "codes", "LNotchedKeys$Codes;", true)
  | 1 => ("NotchedKeys$ApartCodes", "free", "[Z", true)
  | 2 => ("NotchedKeys$ApartCodes", "chainCount", "I", false)
  | 3 => ("NotchedKeys$ApartCodes", "chosen", "[I", true)
  | 4 => ("NotchedKeys$ApartCodes", "chosenCount", "I", false)
  | 5 => ("NotchedKeys$ApartCodes", "next", "[I", true)
  | 6 => ("NotchedKeys$ApartCodes", "previous", "[I", true)
  | 7 => ("NotchedKeys$ApartCodes", "starts", "[I", true)
  | 8 => ("NotchedKeys$ApartCodes", "queue", "[I", true)
  | 9 => ("NotchedKeys$ApartCodes", "reachedFrom", "[I", true)
  | 10 => ("NotchedKeys$ApartCodes", "open", "[Z", true)
  | 11 => ("NotchedKeys$ApartCodes", "left", "[Z", true)
  | _ => ("NotchedKeys$ApartCodes", "lowest", "[I", true)
def tyX0 : Nat → FieldType := fun k => match k with
  | 0 => .object "NotchedKeys$Codes"
  | 1 => .array .boolean
  | 2 => .int
  | 3 => .array .int
  | 4 => .int
  | 5 => .array .int
  | 6 => .array .int
  | 7 => .array .int
  | 8 => .array .int
  | 9 => .array .int
  | 10 => .array .boolean
  | 11 => .array .boolean
  | _ => .array .int
abbrev wsX00 : List Cond := u_ws RX0 TX0 13
theorem nmX0 : ∀ a, a < 13 → ∀ b, b < 13 → a ≠ b → (TX0 a).2.1 ≠ (TX0 b).2.1 := by decide +kernel
theorem tyX0_ok : ∀ k, k < 13 → parseFieldDescriptor (TX0 k).2.2.1 = some (tyX0 k) := by decide +kernel
abbrev cX0_init : ByteArray := prog_2_method_1_code
def yX0_init : MethodName := ⟨RX0, "<init>", "(LNotchedKeys$Codes;)V"⟩
abbrev cX0_findChains : ByteArray := prog_2_method_2_code
def yX0_findChains : MethodName := ⟨RX0, "findChains", "()V"⟩
abbrev cX0_findNext : ByteArray := prog_2_method_3_code
def yX0_findNext : MethodName := ⟨RX0, "findNext", "(I)V"⟩
abbrev cX0_swapBack : ByteArray := prog_2_method_4_code
def yX0_swapBack : MethodName := ⟨RX0, "swapBack", "(I)V"⟩
abbrev cX0_choose : ByteArray := prog_2_method_5_code
def yX0_choose : MethodName := ⟨RX0, "choose", "()V"⟩
abbrev cX0_add : ByteArray := prog_2_method_6_code
def yX0_add : MethodName := ⟨RX0, "add", "(I)V"⟩
abbrev cX0_leavesFullSet : ByteArray := prog_2_method_7_code
def yX0_leavesFullSet : MethodName := ⟨RX0, "leavesFullSet", "(I)Z"⟩
abbrev cX0_leftFrom : ByteArray := prog_2_method_8_code
def yX0_leftFrom : MethodName := ⟨RX0, "leftFrom", "(I)I"⟩
abbrev cX0_canBeApart : ByteArray := prog_2_method_9_code
def yX0_canBeApart : MethodName := ⟨RX0, "canBeApart", "(I)Z"⟩
def RX1 : String := "NotchedKeys$Codes"
def TX1 : u_T := fun k => match k with
  | 0 => ("NotchedKeys$Codes", "marks", "[I", true)
  | 1 => ("NotchedKeys$Codes", "levels", "[I", true)
  | 2 => ("NotchedKeys$Codes", "steps", "[I", true)
  | _ => ("NotchedKeys$Codes", "wornTo", "[I", true)
def tyX1 : Nat → FieldType := fun k => match k with
  | 0 => .array .int
  | 1 => .array .int
  | 2 => .array .int
  | _ => .array .int
abbrev wsX10 : List Cond := u_ws RX1 TX1 4
theorem nmX1 : ∀ a, a < 4 → ∀ b, b < 4 → a ≠ b → (TX1 a).2.1 ≠ (TX1 b).2.1 := by decide +kernel
theorem tyX1_ok : ∀ k, k < 4 → parseFieldDescriptor (TX1 k).2.2.1 = some (tyX1 k) := by decide +kernel
abbrev cX1_init : ByteArray := prog_3_method_1_code
def yX1_init : MethodName := ⟨RX1, "<init>", "()V"⟩
abbrev cX1_depthOf : ByteArray := prog_3_method_2_code
def yX1_depthOf : MethodName := ⟨RX1, "depthOf", "(II)I"⟩
abbrev cX1_wornOnce : ByteArray := prog_3_method_3_code
def yX1_wornOnce : MethodName := ⟨RX1, "wornOnce", "(I)I"⟩
abbrev cX1_isUnderOrLike : ByteArray := prog_3_method_4_code
def yX1_isUnderOrLike : MethodName := ⟨RX1, "isUnderOrLike", "(II)Z"⟩
abbrev cX1_liesUnder : ByteArray := prog_3_method_5_code
def yX1_liesUnder : MethodName := ⟨RX1, "liesUnder", "(II)Z"⟩
abbrev cX1_areCrossed : ByteArray := prog_3_method_6_code
def yX1_areCrossed : MethodName := ⟨RX1, "areCrossed", "(II)Z"⟩
def RX2 : String := "NotchedKeys$Key"
def TX2 : u_T := fun k => match k with
  | 0 => ("NotchedKeys$Key", "code", "I", false)
  | 1 => ("NotchedKeys$Key", "firstCode", "I", false)
  | 2 => ("NotchedKeys$Key", "uses", "I", false)
  | 3 => ("NotchedKeys$Key", "owner", "I", false)
  | 4 => ("NotchedKeys$Key", "timesWorn", "I", false)
  | _ => ("NotchedKeys$Key", "lost", "Z", false)
def tyX2 : Nat → FieldType := fun k => match k with
  | 0 => .int
  | 1 => .int
  | 2 => .int
  | 3 => .int
  | 4 => .int
  | _ => .boolean
abbrev wsX20 : List Cond := u_ws RX2 TX2 6
theorem nmX2 : ∀ a, a < 6 → ∀ b, b < 6 → a ≠ b → (TX2 a).2.1 ≠ (TX2 b).2.1 := by decide +kernel
theorem tyX2_ok : ∀ k, k < 6 → parseFieldDescriptor (TX2 k).2.2.1 = some (tyX2 k) := by decide +kernel
abbrev cX2_init : ByteArray := prog_4_method_1_code
def yX2_init : MethodName := ⟨RX2, "<init>", "()V"⟩
abbrev cX2_startWith : ByteArray := prog_4_method_2_code
def yX2_startWith : MethodName := ⟨RX2, "startWith", "(II)V"⟩
abbrev cX2_copyFrom : ByteArray := prog_4_method_3_code
def yX2_copyFrom : MethodName := ⟨RX2, "copyFrom", "(LNotchedKeys$Key;)V"⟩
def RX3 : String := "NotchedKeys$Lock"
def TX3 : u_T := fun k => match k with
  | 0 => ("NotchedKeys$Lock", "ward", "I", false)
  | 1 => ("NotchedKeys$Lock", "guest", "I", false)
  | 2 => ("NotchedKeys$Lock", "uses", "I", false)
  | _ => ("NotchedKeys$Lock", "failedTries", "I", false)
def tyX3 : Nat → FieldType := fun k => match k with
  | 0 => .int
  | 1 => .int
  | 2 => .int
  | _ => .int
abbrev wsX30 : List Cond := u_ws RX3 TX3 4
theorem nmX3 : ∀ a, a < 4 → ∀ b, b < 4 → a ≠ b → (TX3 a).2.1 ≠ (TX3 b).2.1 := by decide +kernel
theorem tyX3_ok : ∀ k, k < 4 → parseFieldDescriptor (TX3 k).2.2.1 = some (tyX3 k) := by decide +kernel
abbrev cX3_init : ByteArray := prog_5_method_1_code
def yX3_init : MethodName := ⟨RX3, "<init>", "()V"⟩
abbrev cX3_clear : ByteArray := prog_5_method_2_code
def yX3_clear : MethodName := ⟨RX3, "clear", "()V"⟩
abbrev cX3_copyFrom : ByteArray := prog_5_method_3_code
def yX3_copyFrom : MethodName := ⟨RX3, "copyFrom", "(LNotchedKeys$Lock;)V"⟩
def RX4 : String := "NotchedKeys$OrderText"
def TX4 : u_T := fun k => match k with
  | 0 => ("NotchedKeys$OrderText", "signs", "[C", true)
  | 1 => ("NotchedKeys$OrderText", "length", "I", false)
  | 2 => ("NotchedKeys$OrderText", "place", "I", false)
  | 3 => ("NotchedKeys$OrderText", "kind", "C", false)
  | 4 => ("NotchedKeys$OrderText", "code", "I", false)
  | 5 => ("NotchedKeys$OrderText", "key", "I", false)
  | _ => ("NotchedKeys$OrderText", "number", "I", false)
def tyX4 : Nat → FieldType := fun k => match k with
  | 0 => .array .char
  | 1 => .int
  | 2 => .int
  | 3 => .char
  | 4 => .int
  | 5 => .int
  | _ => .int
abbrev wsX40 : List Cond := u_ws RX4 TX4 7
theorem nmX4 : ∀ a, a < 7 → ∀ b, b < 7 → a ≠ b → (TX4 a).2.1 ≠ (TX4 b).2.1 := by decide +kernel
theorem tyX4_ok : ∀ k, k < 7 → parseFieldDescriptor (TX4 k).2.2.1 = some (tyX4 k) := by decide +kernel
abbrev cX4_init : ByteArray := prog_6_method_1_code
def yX4_init : MethodName := ⟨RX4, "<init>", "()V"⟩
def RX5 : String := "NotchedKeys$State"
def TX5 : u_T := fun k => match k with
  | 0 => ("NotchedKeys$State", "keys", "[LNotchedKeys$Key;", true)
  | 1 => ("NotchedKeys$State", "keyCount", "I", false)
  | 2 => ("NotchedKeys$State", "locks", "[LNotchedKeys$Lock;", true)
  | 3 => ("NotchedKeys$State", "personUses", "[I", true)
  | 4 => ("NotchedKeys$State", "settings", "[I", true)
  | 5 => ("NotchedKeys$State", "pence", "I", false)
  | 6 => ("NotchedKeys$State", "uses", "I", false)
  | 7 => ("NotchedKeys$State", "failedTries", "I", false)
  | 8 => ("NotchedKeys$State", "timesWorn", "I", false)
  | 9 => ("NotchedKeys$State", "thrownAway", "I", false)
  | 10 => ("NotchedKeys$State", "stopOrder", "I", false)
  | _ => ("NotchedKeys$State", "stopReason", "I", false)
def tyX5 : Nat → FieldType := fun k => match k with
  | 0 => .array (.object "NotchedKeys$Key")
  | 1 => .int
  | 2 => .array (.object "NotchedKeys$Lock")
  | 3 => .array .int
  | 4 => .array .int
  | 5 => .int
  | 6 => .int
  | 7 => .int
  | 8 => .int
  | 9 => .int
  | 10 => .int
  | _ => .int
abbrev wsX50 : List Cond := u_ws RX5 TX5 12
theorem nmX5 : ∀ a, a < 12 → ∀ b, b < 12 → a ≠ b → (TX5 a).2.1 ≠ (TX5 b).2.1 := by decide +kernel
theorem tyX5_ok : ∀ k, k < 12 → parseFieldDescriptor (TX5 k).2.2.1 = some (tyX5 k) := by decide +kernel
abbrev cX5_init : ByteArray := prog_7_method_1_code
def yX5_init : MethodName := ⟨RX5, "<init>", "()V"⟩
abbrev cX5_copyFrom : ByteArray := prog_7_method_2_code
def yX5_copyFrom : MethodName := ⟨RX5, "copyFrom", "(LNotchedKeys$State;)V"⟩
def RX6 : String := "NotchedKeys"
def TX6 : u_T := fun k => match k with
  | 0 => ("NotchedKeys", "codes", "LNotchedKeys$Codes;", true)
  | 1 => ("NotchedKeys", "apart", "LNotchedKeys$ApartCodes;", true)
  | 2 => ("NotchedKeys", "orders", "LNotchedKeys$OrderText;", true)
  | 3 => ("NotchedKeys", "now", "LNotchedKeys$State;", true)
  | 4 => ("NotchedKeys", "snapshot", "LNotchedKeys$State;", true)
  | 5 => ("NotchedKeys", "hasSnapshot", "Z", false)
  | 6 => ("NotchedKeys", "saved", "[LNotchedKeys$State;", true)
  | 7 => ("NotchedKeys", "latest", "I", false)
  | _ => ("NotchedKeys", "savedCount", "I", false)
def tyX6 : Nat → FieldType := fun k => match k with
  | 0 => .object "NotchedKeys$Codes"
  | 1 => .object "NotchedKeys$ApartCodes"
  | 2 => .object "NotchedKeys$OrderText"
  | 3 => .object "NotchedKeys$State"
  | 4 => .object "NotchedKeys$State"
  | 5 => .boolean
  | 6 => .array (.object "NotchedKeys$State")
  | 7 => .int
  | _ => .int
abbrev wsX60 : List Cond := u_ws RX6 TX6 9
theorem nmX6 : ∀ a, a < 9 → ∀ b, b < 9 → a ≠ b → (TX6 a).2.1 ≠ (TX6 b).2.1 := by decide +kernel
theorem tyX6_ok : ∀ k, k < 9 → parseFieldDescriptor (TX6 k).2.2.1 = some (tyX6 k) := by decide +kernel
abbrev cX6_init : ByteArray := prog_1_method_1_code
def yX6_init : MethodName := ⟨RX6, "<init>", "()V"⟩
abbrev cX6_cut : ByteArray := prog_1_method_2_code
def yX6_cut : MethodName := ⟨RX6, "cut", "(II)I"⟩
abbrev cX6_deepen : ByteArray := prog_1_method_3_code
def yX6_deepen : MethodName := ⟨RX6, "deepen", "(II)I"⟩
abbrev cX6_retire : ByteArray := prog_1_method_4_code
def yX6_retire : MethodName := ⟨RX6, "retire", "(I)I"⟩
abbrev cX6_give : ByteArray := prog_1_method_5_code
def yX6_give : MethodName := ⟨RX6, "give", "(II)I"⟩
abbrev cX6_lose : ByteArray := prog_1_method_6_code
def yX6_lose : MethodName := ⟨RX6, "lose", "(I)I"⟩
abbrev cX6_find : ByteArray := prog_1_method_7_code
def yX6_find : MethodName := ⟨RX6, "find", "(I)I"⟩
abbrev cX6_ward : ByteArray := prog_1_method_8_code
def yX6_ward : MethodName := ⟨RX6, "ward", "(II)I"⟩
abbrev cX6_guest : ByteArray := prog_1_method_9_code
def yX6_guest : MethodName := ⟨RX6, "guest", "(II)I"⟩
abbrev cX6_take : ByteArray := prog_1_method_10_code
def yX6_take : MethodName := ⟨RX6, "take", "(I)I"⟩
abbrev cX6_turn : ByteArray := prog_1_method_11_code
def yX6_turn : MethodName := ⟨RX6, "turn", "(II)I"⟩
abbrev cX6_set : ByteArray := prog_1_method_12_code
def yX6_set : MethodName := ⟨RX6, "set", "(II)I"⟩
abbrev cX6_undo : ByteArray := prog_1_method_19_code
def yX6_undo : MethodName := ⟨RX6, "undo", "()I"⟩
abbrev cX6_key : ByteArray := prog_1_method_20_code
def yX6_key : MethodName := ⟨RX6, "key", "(II)I"⟩
abbrev cX6_lock : ByteArray := prog_1_method_21_code
def yX6_lock : MethodName := ⟨RX6, "lock", "(II)I"⟩
abbrev cX6_person : ByteArray := prog_1_method_22_code
def yX6_person : MethodName := ⟨RX6, "person", "(II)I"⟩
abbrev cX6_code : ByteArray := prog_1_method_23_code
def yX6_code : MethodName := ⟨RX6, "code", "(II)I"⟩
abbrev cX6_count : ByteArray := prog_1_method_25_code
def yX6_count : MethodName := ⟨RX6, "count", "(I)I"⟩
abbrev cX6_why : ByteArray := prog_1_method_27_code
def yX6_why : MethodName := ⟨RX6, "why", "(II)I"⟩
abbrev cX6_most : ByteArray := prog_1_method_29_code
def yX6_most : MethodName := ⟨RX6, "most", "(I)I"⟩
abbrev cX6_pick : ByteArray := prog_1_method_30_code
def yX6_pick : MethodName := ⟨RX6, "pick", "(I)I"⟩
abbrev cX6_opener : ByteArray := prog_1_method_31_code
def yX6_opener : MethodName := ⟨RX6, "opener", "(I)I"⟩
abbrev cX6_freeShare : ByteArray := prog_1_method_34_code
def yX6_freeShare : MethodName := ⟨RX6, "freeShare", "()D"⟩
abbrev cX6_isCode : ByteArray := prog_1_method_37_code
def yX6_isCode : MethodName := ⟨RX6, "isCode", "(I)Z"⟩
abbrev cX6_isPerson : ByteArray := prog_1_method_38_code
def yX6_isPerson : MethodName := ⟨RX6, "isPerson", "(I)Z"⟩
abbrev cX6_isNotch : ByteArray := prog_1_method_39_code
def yX6_isNotch : MethodName := ⟨RX6, "isNotch", "(I)Z"⟩
abbrev cX6_isPlace : ByteArray := prog_1_method_40_code
def yX6_isPlace : MethodName := ⟨RX6, "isPlace", "(I)Z"⟩
abbrev cX6_isSetting : ByteArray := prog_1_method_41_code
def yX6_isSetting : MethodName := ⟨RX6, "isSetting", "(I)Z"⟩
abbrev cX6_isKey : ByteArray := prog_1_method_42_code
def yX6_isKey : MethodName := ⟨RX6, "isKey", "(I)Z"⟩
abbrev cX6_isLock : ByteArray := prog_1_method_43_code
def yX6_isLock : MethodName := ⟨RX6, "isLock", "(I)Z"⟩
abbrev cX6_save : ByteArray := prog_1_method_44_code
def yX6_save : MethodName := ⟨RX6, "save", "()V"⟩
abbrev cX6_addKey : ByteArray := prog_1_method_45_code
def yX6_addKey : MethodName := ⟨RX6, "addKey", "(II)V"⟩
abbrev cX6_cutDeeper : ByteArray := prog_1_method_46_code
def yX6_cutDeeper : MethodName := ⟨RX6, "cutDeeper", "(II)V"⟩
abbrev cX6_tryKey : ByteArray := prog_1_method_47_code
def yX6_tryKey : MethodName := ⟨RX6, "tryKey", "(II)Z"⟩
abbrev cX6_codeBehindUse : ByteArray := prog_1_method_48_code
def yX6_codeBehindUse : MethodName := ⟨RX6, "codeBehindUse", "(II)I"⟩
abbrev cX6_isSound : ByteArray := prog_1_method_55_code
def yX6_isSound : MethodName := ⟨RX6, "isSound", "(I)Z"⟩
abbrev cX6_isFree : ByteArray := prog_1_method_56_code
def yX6_isFree : MethodName := ⟨RX6, "isFree", "(I)Z"⟩
abbrev cX6_reasonAgainstCut : ByteArray := prog_1_method_57_code
def yX6_reasonAgainstCut : MethodName := ⟨RX6, "reasonAgainstCut", "(I)I"⟩
abbrev cX6_reasonAgainstDeeper : ByteArray := prog_1_method_58_code
def yX6_reasonAgainstDeeper : MethodName := ⟨RX6, "reasonAgainstDeeper", "(II)I"⟩
abbrev cX6_reasonByKeys : ByteArray := prog_1_method_59_code
def yX6_reasonByKeys : MethodName := ⟨RX6, "reasonByKeys", "(II)I"⟩
abbrev cX6_opens : ByteArray := prog_1_method_60_code
def yX6_opens : MethodName := ⟨RX6, "opens", "(II)Z"⟩
abbrev cX6_opensAll : ByteArray := prog_1_method_61_code
def yX6_opensAll : MethodName := ⟨RX6, "opensAll", "(II)Z"⟩
abbrev cX6_hasAllLocks : ByteArray := prog_1_method_62_code
def yX6_hasAllLocks : MethodName := ⟨RX6, "hasAllLocks", "(I)Z"⟩
abbrev cX6_locksOpenedBy : ByteArray := prog_1_method_63_code
def yX6_locksOpenedBy : MethodName := ⟨RX6, "locksOpenedBy", "(I)I"⟩
abbrev cX6_keysOpening : ByteArray := prog_1_method_64_code
def yX6_keysOpening : MethodName := ⟨RX6, "keysOpening", "(I)I"⟩
abbrev cX6_whoCouldOpen : ByteArray := prog_1_method_65_code
def yX6_whoCouldOpen : MethodName := ⟨RX6, "whoCouldOpen", "(I)I"⟩
abbrev cX6_keysOf : ByteArray := prog_1_method_66_code
def yX6_keysOf : MethodName := ⟨RX6, "keysOf", "(I)I"⟩
abbrev cX6_locksFor : ByteArray := prog_1_method_67_code
def yX6_locksFor : MethodName := ⟨RX6, "locksFor", "(I)I"⟩
abbrev cX6_keysOver : ByteArray := prog_1_method_68_code
def yX6_keysOver : MethodName := ⟨RX6, "keysOver", "(I)I"⟩
abbrev cX6_keysUnder : ByteArray := prog_1_method_69_code
def yX6_keysUnder : MethodName := ⟨RX6, "keysUnder", "(I)I"⟩
abbrev cX6_lostKeys : ByteArray := prog_1_method_71_code
def yX6_lostKeys : MethodName := ⟨RX6, "lostKeys", "()I"⟩
abbrev cX6_lockCount : ByteArray := prog_1_method_72_code
def yX6_lockCount : MethodName := ⟨RX6, "lockCount", "()I"⟩
abbrev cX6_crossedPairs : ByteArray := prog_1_method_73_code
def yX6_crossedPairs : MethodName := ⟨RX6, "crossedPairs", "()I"⟩
abbrev cX6_soundCodes : ByteArray := prog_1_method_75_code
def yX6_soundCodes : MethodName := ⟨RX6, "soundCodes", "()I"⟩
abbrev cX6_freeCodes : ByteArray := prog_1_method_76_code
def yX6_freeCodes : MethodName := ⟨RX6, "freeCodes", "()I"⟩
abbrev cX6_soundCodesOver : ByteArray := prog_1_method_77_code
def yX6_soundCodesOver : MethodName := ⟨RX6, "soundCodesOver", "(I)I"⟩
abbrev cX6_soundCodesUnder : ByteArray := prog_1_method_78_code
def yX6_soundCodesUnder : MethodName := ⟨RX6, "soundCodesUnder", "(I)I"⟩
abbrev cX6_findMost : ByteArray := prog_1_method_82_code
def yX6_findMost : MethodName := ⟨RX6, "findMost", "()V"⟩
def RX7 : String := "NotchedKeysModel"
def TX7 : u_T := fun k => match k with
  | _ => ("", "", "", false)
def tyX7 : Nat → FieldType := fun k => match k with
  | _ => .int
abbrev wsX70 : List Cond := u_ws RX7 TX7 0
theorem nmX7 : ∀ a, a < 0 → ∀ b, b < 0 → a ≠ b → (TX7 a).2.1 ≠ (TX7 b).2.1 := by decide +kernel
theorem tyX7_ok : ∀ k, k < 0 → parseFieldDescriptor (TX7 k).2.2.1 = some (tyX7 k) := by decide +kernel
def RJx145de : String := "java/io/Serializable"
def TJx145de : u_T := fun k => match k with
  | _ => ("", "", "", false)
def tyJx145de : Nat → FieldType := fun k => match k with
  | _ => .int
abbrev wsJx145de0 : List Cond := u_ws RJx145de TJx145de 0
theorem nmJx145de : ∀ a, a < 0 → ∀ b, b < 0 → a ≠ b → (TJx145de a).2.1 ≠ (TJx145de b).2.1 := by decide +kernel
theorem tyJx145de_ok : ∀ k, k < 0 → parseFieldDescriptor (TJx145de k).2.2.1 = some (tyJx145de k) := by decide +kernel
def RJ6 : String := "java/lang/Integer"
def TJ6 : u_T := fun k => match k with
  | _ => ("", "", "", false)
def tyJ6 : Nat → FieldType := fun k => match k with
  | _ => .int
abbrev wsJ60 : List Cond := u_ws RJ6 TJ6 0
theorem nmJ6 : ∀ a, a < 0 → ∀ b, b < 0 → a ≠ b → (TJ6 a).2.1 ≠ (TJ6 b).2.1 := by decide +kernel
theorem tyJ6_ok : ∀ k, k < 0 → parseFieldDescriptor (TJ6 k).2.2.1 = some (tyJ6 k) := by decide +kernel
abbrev cJ6_bitCount_0f7a4 : ByteArray := prog_14_method_49_code
def yJ6_bitCount_0f7a4 : MethodName := ⟨RJ6, "bitCount", "(I)I"⟩
def RJ9 : String := "java/lang/Math"
def TJ9 : u_T := fun k => match k with
  | _ => ("", "", "", false)
def tyJ9 : Nat → FieldType := fun k => match k with
  | _ => .int
abbrev wsJ90 : List Cond := u_ws RJ9 TJ9 0
theorem nmJ9 : ∀ a, a < 0 → ∀ b, b < 0 → a ≠ b → (TJ9 a).2.1 ≠ (TJ9 b).2.1 := by decide +kernel
theorem tyJ9_ok : ∀ k, k < 0 → parseFieldDescriptor (TJ9 k).2.2.1 = some (tyJ9 k) := by decide +kernel
abbrev cJ9_abs_0f7a4 : ByteArray := prog_15_method_59_code
def yJ9_abs_0f7a4 : MethodName := ⟨RJ9, "abs", "(I)I"⟩
abbrev cJ9_max_7cf53 : ByteArray := prog_15_method_65_code
def yJ9_max_7cf53 : MethodName := ⟨RJ9, "max", "(II)I"⟩
def RJ0 : String := "java/lang/String"
def TJ0 : u_T := fun k => match k with
  | _ => ("", "", "", false)
def tyJ0 : Nat → FieldType := fun k => match k with
  | _ => .int
abbrev wsJ00 : List Cond := u_ws RJ0 TJ0 0
theorem nmJ0 : ∀ a, a < 0 → ∀ b, b < 0 → a ≠ b → (TJ0 a).2.1 ≠ (TJ0 b).2.1 := by decide +kernel
theorem tyJ0_ok : ∀ k, k < 0 → parseFieldDescriptor (TJ0 k).2.2.1 = some (tyJ0 k) := by decide +kernel
def RJ10 : String := "java/lang/System"
def TJ10 : u_T := fun k => match k with
  | _ => ("", "", "", false)
def tyJ10 : Nat → FieldType := fun k => match k with
  | _ => .int
abbrev wsJ100 : List Cond := u_ws RJ10 TJ10 0
theorem nmJ10 : ∀ a, a < 0 → ∀ b, b < 0 → a ≠ b → (TJ10 a).2.1 ≠ (TJ10 b).2.1 := by decide +kernel
theorem tyJ10_ok : ∀ k, k < 0 → parseFieldDescriptor (TJ10 k).2.2.1 = some (tyJ10 k) := by decide +kernel
def RJ7 : String := "java/util/Arrays"
def TJ7 : u_T := fun k => match k with
  | _ => ("", "", "", false)
def tyJ7 : Nat → FieldType := fun k => match k with
  | _ => .int
abbrev wsJ70 : List Cond := u_ws RJ7 TJ7 0
theorem nmJ7 : ∀ a, a < 0 → ∀ b, b < 0 → a ≠ b → (TJ7 a).2.1 ≠ (TJ7 b).2.1 := by decide +kernel
theorem tyJ7_ok : ∀ k, k < 0 → parseFieldDescriptor (TJ7 k).2.2.1 = some (tyJ7 k) := by decide +kernel
abbrev cJ7_fill_53178 : ByteArray := prog_20_method_103_code
def yJ7_fill_53178 : MethodName := ⟨RJ7, "fill", "([II)V"⟩
def RL : String := "NotchedKeysLaw"
abbrev cL_cell : ByteArray := method_2_code
def yL_cell : MethodName := ⟨RL, "cell", "([II)I"⟩
abbrev cL_low : ByteArray := method_3_code
def yL_low : MethodName := ⟨RL, "low", "(II)I"⟩
abbrev cL_cut : ByteArray := method_4_code
def yL_cut : MethodName := ⟨RL, "cut", "(LNotchedKeys;II)I"⟩
abbrev cL_deepen : ByteArray := method_5_code
def yL_deepen : MethodName := ⟨RL, "deepen", "(LNotchedKeys;II)I"⟩
abbrev cL_retire : ByteArray := method_6_code
def yL_retire : MethodName := ⟨RL, "retire", "(LNotchedKeys;I)I"⟩
abbrev cL_give : ByteArray := method_7_code
def yL_give : MethodName := ⟨RL, "give", "(LNotchedKeys;II)I"⟩
abbrev cL_lose : ByteArray := method_8_code
def yL_lose : MethodName := ⟨RL, "lose", "(LNotchedKeys;I)I"⟩
abbrev cL_find : ByteArray := method_9_code
def yL_find : MethodName := ⟨RL, "find", "(LNotchedKeys;I)I"⟩
abbrev cL_ward : ByteArray := method_10_code
def yL_ward : MethodName := ⟨RL, "ward", "(LNotchedKeys;II)I"⟩
abbrev cL_guest : ByteArray := method_11_code
def yL_guest : MethodName := ⟨RL, "guest", "(LNotchedKeys;II)I"⟩
abbrev cL_take : ByteArray := method_12_code
def yL_take : MethodName := ⟨RL, "take", "(LNotchedKeys;I)I"⟩
abbrev cL_turn : ByteArray := method_13_code
def yL_turn : MethodName := ⟨RL, "turn", "(LNotchedKeys;II)I"⟩
abbrev cL_set : ByteArray := method_14_code
def yL_set : MethodName := ⟨RL, "set", "(LNotchedKeys;II)I"⟩
abbrev cL_undo : ByteArray := method_15_code
def yL_undo : MethodName := ⟨RL, "undo", "(LNotchedKeys;)I"⟩
abbrev cL_key : ByteArray := method_16_code
def yL_key : MethodName := ⟨RL, "key", "(LNotchedKeys;II)I"⟩
abbrev cL_lock : ByteArray := method_17_code
def yL_lock : MethodName := ⟨RL, "lock", "(LNotchedKeys;II)I"⟩
abbrev cL_person : ByteArray := method_18_code
def yL_person : MethodName := ⟨RL, "person", "(LNotchedKeys;II)I"⟩
abbrev cL_code : ByteArray := method_19_code
def yL_code : MethodName := ⟨RL, "code", "(LNotchedKeys;II)I"⟩
abbrev cL_count : ByteArray := method_21_code
def yL_count : MethodName := ⟨RL, "count", "(LNotchedKeys;I)I"⟩
abbrev cL_why : ByteArray := method_22_code
def yL_why : MethodName := ⟨RL, "why", "(LNotchedKeys;II)I"⟩
abbrev cL_most : ByteArray := method_23_code
def yL_most : MethodName := ⟨RL, "most", "(LNotchedKeys;I)I"⟩
abbrev cL_pick : ByteArray := method_24_code
def yL_pick : MethodName := ⟨RL, "pick", "(LNotchedKeys;I)I"⟩
abbrev cL_opener : ByteArray := method_25_code
def yL_opener : MethodName := ⟨RL, "opener", "(LNotchedKeys;I)I"⟩
abbrev cL_digit : ByteArray := method_26_code
def yL_digit : MethodName := ⟨RL, "digit", "(II)I"⟩
abbrev cL_step : ByteArray := method_27_code
def yL_step : MethodName := ⟨RL, "step", "(I)I"⟩
abbrev cL_levelOf : ByteArray := method_28_code
def yL_levelOf : MethodName := ⟨RL, "levelOf", "(I)I"⟩
abbrev cL_lie : ByteArray := method_29_code
def yL_lie : MethodName := ⟨RL, "lie", "(II)I"⟩
abbrev cL_isSound : ByteArray := method_30_code
def yL_isSound : MethodName := ⟨RL, "isSound", "(I[I)Z"⟩
abbrev cL_clash : ByteArray := method_31_code
def yL_clash : MethodName := ⟨RL, "clash", "(II[I[I)I"⟩
abbrev cL_whyNotCut : ByteArray := method_32_code
def yL_whyNotCut : MethodName := ⟨RL, "whyNotCut", "(I[I[I)I"⟩
abbrev cL_whyNotDeeper : ByteArray := method_33_code
def yL_whyNotDeeper : MethodName := ⟨RL, "whyNotDeeper", "(II[I[I)I"⟩
abbrev cL_opens : ByteArray := method_34_code
def yL_opens : MethodName := ⟨RL, "opens", "(II[I)Z"⟩
abbrev cL_locksOf : ByteArray := method_35_code
def yL_locksOf : MethodName := ⟨RL, "locksOf", "(I[I)I"⟩
abbrev cL_ones : ByteArray := method_36_code
def yL_ones : MethodName := ⟨RL, "ones", "(I)I"⟩
abbrev cL_told : ByteArray := method_37_code
def yL_told : MethodName := ⟨RL, "told", "(LNotchedKeys;)J"⟩
abbrev cL_call : ByteArray := method_38_code
def yL_call : MethodName := ⟨RL, "call", "(LNotchedKeys;III)I"⟩
abbrev cL_turned : ByteArray := method_39_code
def yL_turned : MethodName := ⟨RL, "turned", "(II[I[I[I)I"⟩
abbrev cL_keyDue : ByteArray := method_40_code
def yL_keyDue : MethodName := ⟨RL, "keyDue", "(III[I[I[I)I"⟩
abbrev cL_lockDue : ByteArray := method_41_code
def yL_lockDue : MethodName := ⟨RL, "lockDue", "(III[I[I[I)I"⟩
abbrev cL_isKey : ByteArray := method_42_code
def yL_isKey : MethodName := ⟨RL, "isKey", "(LNotchedKeys;I[I[I[I)Z"⟩
abbrev cL_isLock : ByteArray := method_43_code
def yL_isLock : MethodName := ⟨RL, "isLock", "(LNotchedKeys;I[I[I[I)Z"⟩
abbrev cL_isPerson : ByteArray := method_44_code
def yL_isPerson : MethodName := ⟨RL, "isPerson", "(LNotchedKeys;I[I[I[I)Z"⟩
abbrev cL_areCounts : ByteArray := method_45_code
def yL_areCounts : MethodName := ⟨RL, "areCounts", "(LNotchedKeys;[I[I[I)Z"⟩
abbrev cL_isChosen : ByteArray := method_46_code
def yL_isChosen : MethodName := ⟨RL, "isChosen", "(LNotchedKeys;[I[I)Z"⟩
abbrev cL_isSo : ByteArray := method_47_code
def yL_isSo : MethodName := ⟨RL, "isSo", "(LNotchedKeys;IZ[I[I[I)Z"⟩
abbrev cL_law : ByteArray := code
def yL_law : MethodName := ⟨RL, "law", "([I)Z"⟩
end
section
theorem dX0_init_0 : decode cX0_init 0 = .ok (.aload_n 0, 1) := by decide +kernel
theorem dX0_init_1 : decode cX0_init 1 = .ok (.invokespecial 3, 3) := by decide +kernel
theorem dX0_init_4 : decode cX0_init 4 = .ok (.aload_n 0, 1) := by decide +kernel
theorem dX0_init_5 : decode cX0_init 5 = .ok (.bipush 81, 2) := by decide +kernel
theorem dX0_init_7 : decode cX0_init 7 = .ok (.newarray .boolean, 2) := by decide +kernel
theorem dX0_init_9 : decode cX0_init 9 = .ok (.putfield 9, 3) := by decide +kernel
theorem dX0_init_12 : decode cX0_init 12 = .ok (.aload_n 0, 1) := by decide +kernel
theorem dX0_init_13 : decode cX0_init 13 = .ok (.bipush 81, 2) := by decide +kernel
theorem dX0_init_15 : decode cX0_init 15 = .ok (.newarray .int, 2) := by decide +kernel
theorem dX0_init_17 : decode cX0_init 17 = .ok (.putfield 15, 3) := by decide +kernel
theorem dX0_init_20 : decode cX0_init 20 = .ok (.aload_n 0, 1) := by decide +kernel
theorem dX0_init_21 : decode cX0_init 21 = .ok (.bipush 81, 2) := by decide +kernel
theorem dX0_init_23 : decode cX0_init 23 = .ok (.newarray .int, 2) := by decide +kernel
theorem dX0_init_25 : decode cX0_init 25 = .ok (.putfield 19, 3) := by decide +kernel
theorem dX0_init_28 : decode cX0_init 28 = .ok (.aload_n 0, 1) := by decide +kernel
theorem dX0_init_29 : decode cX0_init 29 = .ok (.bipush 81, 2) := by decide +kernel
theorem dX0_init_31 : decode cX0_init 31 = .ok (.newarray .int, 2) := by decide +kernel
theorem dX0_init_33 : decode cX0_init 33 = .ok (.putfield 22, 3) := by decide +kernel
theorem dX0_init_36 : decode cX0_init 36 = .ok (.aload_n 0, 1) := by decide +kernel
theorem dX0_init_37 : decode cX0_init 37 = .ok (.bipush 81, 2) := by decide +kernel
theorem dX0_init_39 : decode cX0_init 39 = .ok (.newarray .int, 2) := by decide +kernel
theorem dX0_init_41 : decode cX0_init 41 = .ok (.putfield 25, 3) := by decide +kernel
theorem dX0_init_44 : decode cX0_init 44 = .ok (.aload_n 0, 1) := by decide +kernel
theorem dX0_init_45 : decode cX0_init 45 = .ok (.bipush 81, 2) := by decide +kernel
theorem dX0_init_47 : decode cX0_init 47 = .ok (.newarray .int, 2) := by decide +kernel
theorem dX0_init_49 : decode cX0_init 49 = .ok (.putfield 28, 3) := by decide +kernel
theorem dX0_init_52 : decode cX0_init 52 = .ok (.aload_n 0, 1) := by decide +kernel
theorem dX0_init_53 : decode cX0_init 53 = .ok (.bipush 81, 2) := by decide +kernel
theorem dX0_init_55 : decode cX0_init 55 = .ok (.newarray .int, 2) := by decide +kernel
theorem dX0_init_57 : decode cX0_init 57 = .ok (.putfield 31, 3) := by decide +kernel
theorem dX0_init_60 : decode cX0_init 60 = .ok (.aload_n 0, 1) := by decide +kernel
theorem dX0_init_61 : decode cX0_init 61 = .ok (.bipush 81, 2) := by decide +kernel
theorem dX0_init_63 : decode cX0_init 63 = .ok (.newarray .boolean, 2) := by decide +kernel
theorem dX0_init_65 : decode cX0_init 65 = .ok (.putfield 34, 3) := by decide +kernel
theorem dX0_init_68 : decode cX0_init 68 = .ok (.aload_n 0, 1) := by decide +kernel
theorem dX0_init_69 : decode cX0_init 69 = .ok (.bipush 81, 2) := by decide +kernel
theorem dX0_init_71 : decode cX0_init 71 = .ok (.newarray .boolean, 2) := by decide +kernel
theorem dX0_init_73 : decode cX0_init 73 = .ok (.putfield 37, 3) := by decide +kernel
theorem dX0_init_76 : decode cX0_init 76 = .ok (.aload_n 0, 1) := by decide +kernel
theorem dX0_init_77 : decode cX0_init 77 = .ok (.bipush 81, 2) := by decide +kernel
theorem dX0_init_79 : decode cX0_init 79 = .ok (.newarray .int, 2) := by decide +kernel
theorem dX0_init_81 : decode cX0_init 81 = .ok (.putfield 40, 3) := by decide +kernel
theorem dX0_init_84 : decode cX0_init 84 = .ok (.aload_n 0, 1) := by decide +kernel
theorem dX0_init_85 : decode cX0_init 85 = .ok (.aload_n 1, 1) := by decide +kernel
theorem dX0_init_86 : decode cX0_init 86 = .ok (.putfield 43, 3) := by decide +kernel
theorem dX0_init_89 : decode cX0_init 89 = .ok (.return_, 1) := by decide +kernel
theorem dX0_findChains_0 : decode cX0_findChains 0 = .ok (.aload_n 0, 1) := by decide +kernel
theorem dX0_findChains_1 : decode cX0_findChains 1 = .ok (.getfield 19, 3) := by decide +kernel
theorem dX0_findChains_4 : decode cX0_findChains 4 = .ok (.iconst (-1), 1) := by decide +kernel
theorem dX0_findChains_5 : decode cX0_findChains 5 = .ok (.invokestatic 47, 3) := by decide +kernel
theorem dX0_findChains_8 : decode cX0_findChains 8 = .ok (.aload_n 0, 1) := by decide +kernel
theorem dX0_findChains_9 : decode cX0_findChains 9 = .ok (.getfield 22, 3) := by decide +kernel
theorem dX0_findChains_12 : decode cX0_findChains 12 = .ok (.iconst (-1), 1) := by decide +kernel
theorem dX0_findChains_13 : decode cX0_findChains 13 = .ok (.invokestatic 47, 3) := by decide +kernel
theorem dX0_findChains_16 : decode cX0_findChains 16 = .ok (.iconst 0, 1) := by decide +kernel
theorem dX0_findChains_17 : decode cX0_findChains 17 = .ok (.istore_n 1, 1) := by decide +kernel
theorem dX0_findChains_18 : decode cX0_findChains 18 = .ok (.iload_n 1, 1) := by decide +kernel
theorem dX0_findChains_19 : decode cX0_findChains 19 = .ok (.bipush 81, 2) := by decide +kernel
theorem dX0_findChains_21 : decode cX0_findChains 21 = .ok (.if_icmp .ge 23, 3) := by decide +kernel
theorem dX0_findChains_24 : decode cX0_findChains 24 = .ok (.aload_n 0, 1) := by decide +kernel
theorem dX0_findChains_25 : decode cX0_findChains 25 = .ok (.getfield 9, 3) := by decide +kernel
theorem dX0_findChains_28 : decode cX0_findChains 28 = .ok (.iload_n 1, 1) := by decide +kernel
theorem dX0_findChains_29 : decode cX0_findChains 29 = .ok (.baload, 1) := by decide +kernel
theorem dX0_findChains_30 : decode cX0_findChains 30 = .ok (.ifCond .eq 8, 3) := by decide +kernel
theorem dX0_findChains_33 : decode cX0_findChains 33 = .ok (.aload_n 0, 1) := by decide +kernel
theorem dX0_findChains_34 : decode cX0_findChains 34 = .ok (.iload_n 1, 1) := by decide +kernel
theorem dX0_findChains_35 : decode cX0_findChains 35 = .ok (.invokevirtual 53, 3) := by decide +kernel
theorem dX0_findChains_38 : decode cX0_findChains 38 = .ok (.iinc 1 1, 3) := by decide +kernel
theorem dX0_findChains_41 : decode cX0_findChains 41 = .ok (.goto (-23), 3) := by decide +kernel
theorem dX0_findChains_44 : decode cX0_findChains 44 = .ok (.aload_n 0, 1) := by decide +kernel
theorem dX0_findChains_45 : decode cX0_findChains 45 = .ok (.iconst 0, 1) := by decide +kernel
theorem dX0_findChains_46 : decode cX0_findChains 46 = .ok (.putfield 57, 3) := by decide +kernel
theorem dX0_findChains_49 : decode cX0_findChains 49 = .ok (.iconst 0, 1) := by decide +kernel
theorem dX0_findChains_50 : decode cX0_findChains 50 = .ok (.istore_n 1, 1) := by decide +kernel
theorem dX0_findChains_51 : decode cX0_findChains 51 = .ok (.iload_n 1, 1) := by decide +kernel
theorem dX0_findChains_52 : decode cX0_findChains 52 = .ok (.bipush 81, 2) := by decide +kernel
theorem dX0_findChains_54 : decode cX0_findChains 54 = .ok (.if_icmp .ge 48, 3) := by decide +kernel
theorem dX0_findChains_57 : decode cX0_findChains 57 = .ok (.aload_n 0, 1) := by decide +kernel
theorem dX0_findChains_58 : decode cX0_findChains 58 = .ok (.getfield 9, 3) := by decide +kernel
theorem dX0_findChains_61 : decode cX0_findChains 61 = .ok (.iload_n 1, 1) := by decide +kernel
theorem dX0_findChains_62 : decode cX0_findChains 62 = .ok (.baload, 1) := by decide +kernel
theorem dX0_findChains_63 : decode cX0_findChains 63 = .ok (.ifCond .eq 33, 3) := by decide +kernel
theorem dX0_findChains_66 : decode cX0_findChains 66 = .ok (.aload_n 0, 1) := by decide +kernel
theorem dX0_findChains_67 : decode cX0_findChains 67 = .ok (.getfield 22, 3) := by decide +kernel
theorem dX0_findChains_70 : decode cX0_findChains 70 = .ok (.iload_n 1, 1) := by decide +kernel
theorem dX0_findChains_71 : decode cX0_findChains 71 = .ok (.iaload, 1) := by decide +kernel
theorem dX0_findChains_72 : decode cX0_findChains 72 = .ok (.iconst (-1), 1) := by decide +kernel
theorem dX0_findChains_73 : decode cX0_findChains 73 = .ok (.if_icmp .ne 23, 3) := by decide +kernel
theorem dX0_findChains_76 : decode cX0_findChains 76 = .ok (.aload_n 0, 1) := by decide +kernel
theorem dX0_findChains_77 : decode cX0_findChains 77 = .ok (.getfield 25, 3) := by decide +kernel
theorem dX0_findChains_80 : decode cX0_findChains 80 = .ok (.aload_n 0, 1) := by decide +kernel
theorem dX0_findChains_81 : decode cX0_findChains 81 = .ok (.getfield 57, 3) := by decide +kernel
theorem dX0_findChains_84 : decode cX0_findChains 84 = .ok (.iload_n 1, 1) := by decide +kernel
theorem dX0_findChains_85 : decode cX0_findChains 85 = .ok (.iastore, 1) := by decide +kernel
theorem dX0_findChains_86 : decode cX0_findChains 86 = .ok (.aload_n 0, 1) := by decide +kernel
theorem dX0_findChains_87 : decode cX0_findChains 87 = .ok (.dup, 1) := by decide +kernel
theorem dX0_findChains_88 : decode cX0_findChains 88 = .ok (.getfield 57, 3) := by decide +kernel
theorem dX0_findChains_91 : decode cX0_findChains 91 = .ok (.iconst 1, 1) := by decide +kernel
theorem dX0_findChains_92 : decode cX0_findChains 92 = .ok (.iadd, 1) := by decide +kernel
theorem dX0_findChains_93 : decode cX0_findChains 93 = .ok (.putfield 57, 3) := by decide +kernel
theorem dX0_findChains_96 : decode cX0_findChains 96 = .ok (.iinc 1 1, 3) := by decide +kernel
theorem dX0_findChains_99 : decode cX0_findChains 99 = .ok (.goto (-48), 3) := by decide +kernel
theorem dX0_findChains_102 : decode cX0_findChains 102 = .ok (.return_, 1) := by decide +kernel
theorem dX0_findNext_0 : decode cX0_findNext 0 = .ok (.aload_n 0, 1) := by decide +kernel
theorem dX0_findNext_1 : decode cX0_findNext 1 = .ok (.getfield 31, 3) := by decide +kernel
theorem dX0_findNext_4 : decode cX0_findNext 4 = .ok (.iconst (-1), 1) := by decide +kernel
theorem dX0_findNext_5 : decode cX0_findNext 5 = .ok (.invokestatic 47, 3) := by decide +kernel
theorem dX0_findNext_8 : decode cX0_findNext 8 = .ok (.aload_n 0, 1) := by decide +kernel
theorem dX0_findNext_9 : decode cX0_findNext 9 = .ok (.getfield 28, 3) := by decide +kernel
theorem dX0_findNext_12 : decode cX0_findNext 12 = .ok (.iconst 0, 1) := by decide +kernel
theorem dX0_findNext_13 : decode cX0_findNext 13 = .ok (.iload_n 1, 1) := by decide +kernel
theorem dX0_findNext_14 : decode cX0_findNext 14 = .ok (.iastore, 1) := by decide +kernel
theorem dX0_findNext_15 : decode cX0_findNext 15 = .ok (.iconst 1, 1) := by decide +kernel
theorem dX0_findNext_16 : decode cX0_findNext 16 = .ok (.istore_n 2, 1) := by decide +kernel
theorem dX0_findNext_17 : decode cX0_findNext 17 = .ok (.iconst 0, 1) := by decide +kernel
theorem dX0_findNext_18 : decode cX0_findNext 18 = .ok (.istore_n 3, 1) := by decide +kernel
theorem dX0_findNext_19 : decode cX0_findNext 19 = .ok (.iload_n 3, 1) := by decide +kernel
theorem dX0_findNext_20 : decode cX0_findNext 20 = .ok (.iload_n 2, 1) := by decide +kernel
theorem dX0_findNext_21 : decode cX0_findNext 21 = .ok (.if_icmp .ge 126, 3) := by decide +kernel
theorem dX0_findNext_24 : decode cX0_findNext 24 = .ok (.iload_n 3, 1) := by decide +kernel
theorem dX0_findNext_25 : decode cX0_findNext 25 = .ok (.bipush 81, 2) := by decide +kernel
theorem dX0_findNext_27 : decode cX0_findNext 27 = .ok (.if_icmp .ge 120, 3) := by decide +kernel
theorem dX0_findNext_30 : decode cX0_findNext 30 = .ok (.aload_n 0, 1) := by decide +kernel
theorem dX0_findNext_31 : decode cX0_findNext 31 = .ok (.getfield 28, 3) := by decide +kernel
theorem dX0_findNext_34 : decode cX0_findNext 34 = .ok (.iload_n 3, 1) := by decide +kernel
theorem dX0_findNext_35 : decode cX0_findNext 35 = .ok (.iaload, 1) := by decide +kernel
theorem dX0_findNext_36 : decode cX0_findNext 36 = .ok (.istore 4, 2) := by decide +kernel
theorem dX0_findNext_38 : decode cX0_findNext 38 = .ok (.iload 4, 2) := by decide +kernel
theorem dX0_findNext_40 : decode cX0_findNext 40 = .ok (.iconst 1, 1) := by decide +kernel
theorem dX0_findNext_41 : decode cX0_findNext 41 = .ok (.iadd, 1) := by decide +kernel
theorem dX0_findNext_42 : decode cX0_findNext 42 = .ok (.istore 5, 2) := by decide +kernel
theorem dX0_findNext_44 : decode cX0_findNext 44 = .ok (.iload 5, 2) := by decide +kernel
theorem dX0_findNext_46 : decode cX0_findNext 46 = .ok (.bipush 81, 2) := by decide +kernel
theorem dX0_findNext_48 : decode cX0_findNext 48 = .ok (.if_icmp .ge 93, 3) := by decide +kernel
theorem dX0_findNext_51 : decode cX0_findNext 51 = .ok (.aload_n 0, 1) := by decide +kernel
theorem dX0_findNext_52 : decode cX0_findNext 52 = .ok (.getfield 9, 3) := by decide +kernel
theorem dX0_findNext_55 : decode cX0_findNext 55 = .ok (.iload 5, 2) := by decide +kernel
theorem dX0_findNext_57 : decode cX0_findNext 57 = .ok (.baload, 1) := by decide +kernel
theorem dX0_findNext_58 : decode cX0_findNext 58 = .ok (.ifCond .eq 77, 3) := by decide +kernel
theorem dX0_findNext_61 : decode cX0_findNext 61 = .ok (.aload_n 0, 1) := by decide +kernel
theorem dX0_findNext_62 : decode cX0_findNext 62 = .ok (.getfield 31, 3) := by decide +kernel
theorem dX0_findNext_65 : decode cX0_findNext 65 = .ok (.iload 5, 2) := by decide +kernel
theorem dX0_findNext_67 : decode cX0_findNext 67 = .ok (.iaload, 1) := by decide +kernel
theorem dX0_findNext_68 : decode cX0_findNext 68 = .ok (.iconst (-1), 1) := by decide +kernel
theorem dX0_findNext_69 : decode cX0_findNext 69 = .ok (.if_icmp .ne 66, 3) := by decide +kernel
theorem dX0_findNext_72 : decode cX0_findNext 72 = .ok (.aload_n 0, 1) := by decide +kernel
theorem dX0_findNext_73 : decode cX0_findNext 73 = .ok (.getfield 43, 3) := by decide +kernel
theorem dX0_findNext_76 : decode cX0_findNext 76 = .ok (.iload 4, 2) := by decide +kernel
theorem dX0_findNext_78 : decode cX0_findNext 78 = .ok (.iload 5, 2) := by decide +kernel
theorem dX0_findNext_80 : decode cX0_findNext 80 = .ok (.invokevirtual 61, 3) := by decide +kernel
theorem dX0_findNext_83 : decode cX0_findNext 83 = .ok (.ifCond .eq 52, 3) := by decide +kernel
theorem dX0_findNext_86 : decode cX0_findNext 86 = .ok (.aload_n 0, 1) := by decide +kernel
theorem dX0_findNext_87 : decode cX0_findNext 87 = .ok (.getfield 31, 3) := by decide +kernel
theorem dX0_findNext_90 : decode cX0_findNext 90 = .ok (.iload 5, 2) := by decide +kernel
theorem dX0_findNext_92 : decode cX0_findNext 92 = .ok (.iload 4, 2) := by decide +kernel
theorem dX0_findNext_94 : decode cX0_findNext 94 = .ok (.iastore, 1) := by decide +kernel
theorem dX0_findNext_95 : decode cX0_findNext 95 = .ok (.aload_n 0, 1) := by decide +kernel
theorem dX0_findNext_96 : decode cX0_findNext 96 = .ok (.getfield 22, 3) := by decide +kernel
theorem dX0_findNext_99 : decode cX0_findNext 99 = .ok (.iload 5, 2) := by decide +kernel
theorem dX0_findNext_101 : decode cX0_findNext 101 = .ok (.iaload, 1) := by decide +kernel
theorem dX0_findNext_102 : decode cX0_findNext 102 = .ok (.iconst (-1), 1) := by decide +kernel
theorem dX0_findNext_103 : decode cX0_findNext 103 = .ok (.if_icmp .ne 10, 3) := by decide +kernel
theorem dX0_findNext_106 : decode cX0_findNext 106 = .ok (.aload_n 0, 1) := by decide +kernel
theorem dX0_findNext_107 : decode cX0_findNext 107 = .ok (.iload 5, 2) := by decide +kernel
theorem dX0_findNext_109 : decode cX0_findNext 109 = .ok (.invokevirtual 67, 3) := by decide +kernel
theorem dX0_findNext_112 : decode cX0_findNext 112 = .ok (.return_, 1) := by decide +kernel
theorem dX0_findNext_113 : decode cX0_findNext 113 = .ok (.iload_n 2, 1) := by decide +kernel
theorem dX0_findNext_114 : decode cX0_findNext 114 = .ok (.bipush 81, 2) := by decide +kernel
theorem dX0_findNext_116 : decode cX0_findNext 116 = .ok (.if_icmp .ge 19, 3) := by decide +kernel
theorem dX0_findNext_119 : decode cX0_findNext 119 = .ok (.aload_n 0, 1) := by decide +kernel
theorem dX0_findNext_120 : decode cX0_findNext 120 = .ok (.getfield 28, 3) := by decide +kernel
theorem dX0_findNext_123 : decode cX0_findNext 123 = .ok (.iload_n 2, 1) := by decide +kernel
theorem dX0_findNext_124 : decode cX0_findNext 124 = .ok (.aload_n 0, 1) := by decide +kernel
theorem dX0_findNext_125 : decode cX0_findNext 125 = .ok (.getfield 22, 3) := by decide +kernel
theorem dX0_findNext_128 : decode cX0_findNext 128 = .ok (.iload 5, 2) := by decide +kernel
theorem dX0_findNext_130 : decode cX0_findNext 130 = .ok (.iaload, 1) := by decide +kernel
theorem dX0_findNext_131 : decode cX0_findNext 131 = .ok (.iastore, 1) := by decide +kernel
theorem dX0_findNext_132 : decode cX0_findNext 132 = .ok (.iinc 2 1, 3) := by decide +kernel
theorem dX0_findNext_135 : decode cX0_findNext 135 = .ok (.iinc 5 1, 3) := by decide +kernel
theorem dX0_findNext_138 : decode cX0_findNext 138 = .ok (.goto (-94), 3) := by decide +kernel
theorem dX0_findNext_141 : decode cX0_findNext 141 = .ok (.iinc 3 1, 3) := by decide +kernel
theorem dX0_findNext_144 : decode cX0_findNext 144 = .ok (.goto (-125), 3) := by decide +kernel
theorem dX0_findNext_147 : decode cX0_findNext 147 = .ok (.return_, 1) := by decide +kernel
theorem dX0_swapBack_0 : decode cX0_swapBack 0 = .ok (.iload_n 1, 1) := by decide +kernel
theorem dX0_swapBack_1 : decode cX0_swapBack 1 = .ok (.istore_n 2, 1) := by decide +kernel
theorem dX0_swapBack_2 : decode cX0_swapBack 2 = .ok (.iconst 0, 1) := by decide +kernel
theorem dX0_swapBack_3 : decode cX0_swapBack 3 = .ok (.istore_n 3, 1) := by decide +kernel
theorem dX0_swapBack_4 : decode cX0_swapBack 4 = .ok (.iload_n 3, 1) := by decide +kernel
theorem dX0_swapBack_5 : decode cX0_swapBack 5 = .ok (.bipush 81, 2) := by decide +kernel
theorem dX0_swapBack_7 : decode cX0_swapBack 7 = .ok (.if_icmp .ge 57, 3) := by decide +kernel
theorem dX0_swapBack_10 : decode cX0_swapBack 10 = .ok (.iload_n 2, 1) := by decide +kernel
theorem dX0_swapBack_11 : decode cX0_swapBack 11 = .ok (.iconst (-1), 1) := by decide +kernel
theorem dX0_swapBack_12 : decode cX0_swapBack 12 = .ok (.if_icmp .eq 52, 3) := by decide +kernel
theorem dX0_swapBack_15 : decode cX0_swapBack 15 = .ok (.aload_n 0, 1) := by decide +kernel
theorem dX0_swapBack_16 : decode cX0_swapBack 16 = .ok (.getfield 31, 3) := by decide +kernel
theorem dX0_swapBack_19 : decode cX0_swapBack 19 = .ok (.iload_n 2, 1) := by decide +kernel
theorem dX0_swapBack_20 : decode cX0_swapBack 20 = .ok (.iaload, 1) := by decide +kernel
theorem dX0_swapBack_21 : decode cX0_swapBack 21 = .ok (.istore 4, 2) := by decide +kernel
theorem dX0_swapBack_23 : decode cX0_swapBack 23 = .ok (.iload 4, 2) := by decide +kernel
theorem dX0_swapBack_25 : decode cX0_swapBack 25 = .ok (.iconst (-1), 1) := by decide +kernel
theorem dX0_swapBack_26 : decode cX0_swapBack 26 = .ok (.if_icmp .ne 4, 3) := by decide +kernel
theorem dX0_swapBack_29 : decode cX0_swapBack 29 = .ok (.return_, 1) := by decide +kernel
theorem dX0_swapBack_30 : decode cX0_swapBack 30 = .ok (.aload_n 0, 1) := by decide +kernel
theorem dX0_swapBack_31 : decode cX0_swapBack 31 = .ok (.getfield 19, 3) := by decide +kernel
theorem dX0_swapBack_34 : decode cX0_swapBack 34 = .ok (.iload 4, 2) := by decide +kernel
theorem dX0_swapBack_36 : decode cX0_swapBack 36 = .ok (.iaload, 1) := by decide +kernel
theorem dX0_swapBack_37 : decode cX0_swapBack 37 = .ok (.istore 5, 2) := by decide +kernel
theorem dX0_swapBack_39 : decode cX0_swapBack 39 = .ok (.aload_n 0, 1) := by decide +kernel
theorem dX0_swapBack_40 : decode cX0_swapBack 40 = .ok (.getfield 19, 3) := by decide +kernel
theorem dX0_swapBack_43 : decode cX0_swapBack 43 = .ok (.iload 4, 2) := by decide +kernel
theorem dX0_swapBack_45 : decode cX0_swapBack 45 = .ok (.iload_n 2, 1) := by decide +kernel
theorem dX0_swapBack_46 : decode cX0_swapBack 46 = .ok (.iastore, 1) := by decide +kernel
theorem dX0_swapBack_47 : decode cX0_swapBack 47 = .ok (.aload_n 0, 1) := by decide +kernel
theorem dX0_swapBack_48 : decode cX0_swapBack 48 = .ok (.getfield 22, 3) := by decide +kernel
theorem dX0_swapBack_51 : decode cX0_swapBack 51 = .ok (.iload_n 2, 1) := by decide +kernel
theorem dX0_swapBack_52 : decode cX0_swapBack 52 = .ok (.iload 4, 2) := by decide +kernel
theorem dX0_swapBack_54 : decode cX0_swapBack 54 = .ok (.iastore, 1) := by decide +kernel
theorem dX0_swapBack_55 : decode cX0_swapBack 55 = .ok (.iload 5, 2) := by decide +kernel
theorem dX0_swapBack_57 : decode cX0_swapBack 57 = .ok (.istore_n 2, 1) := by decide +kernel
theorem dX0_swapBack_58 : decode cX0_swapBack 58 = .ok (.iinc 3 1, 3) := by decide +kernel
theorem dX0_swapBack_61 : decode cX0_swapBack 61 = .ok (.goto (-57), 3) := by decide +kernel
theorem dX0_swapBack_64 : decode cX0_swapBack 64 = .ok (.return_, 1) := by decide +kernel
theorem dX0_choose_0 : decode cX0_choose 0 = .ok (.aload_n 0, 1) := by decide +kernel
theorem dX0_choose_1 : decode cX0_choose 1 = .ok (.iconst 0, 1) := by decide +kernel
theorem dX0_choose_2 : decode cX0_choose 2 = .ok (.putfield 70, 3) := by decide +kernel
theorem dX0_choose_5 : decode cX0_choose 5 = .ok (.iconst 0, 1) := by decide +kernel
theorem dX0_choose_6 : decode cX0_choose 6 = .ok (.istore_n 1, 1) := by decide +kernel
theorem dX0_choose_7 : decode cX0_choose 7 = .ok (.iload_n 1, 1) := by decide +kernel
theorem dX0_choose_8 : decode cX0_choose 8 = .ok (.bipush 81, 2) := by decide +kernel
theorem dX0_choose_10 : decode cX0_choose 10 = .ok (.if_icmp .ge 21, 3) := by decide +kernel
theorem dX0_choose_13 : decode cX0_choose 13 = .ok (.aload_n 0, 1) := by decide +kernel
theorem dX0_choose_14 : decode cX0_choose 14 = .ok (.getfield 34, 3) := by decide +kernel
theorem dX0_choose_17 : decode cX0_choose 17 = .ok (.iload_n 1, 1) := by decide +kernel
theorem dX0_choose_18 : decode cX0_choose 18 = .ok (.aload_n 0, 1) := by decide +kernel
theorem dX0_choose_19 : decode cX0_choose 19 = .ok (.getfield 9, 3) := by decide +kernel
theorem dX0_choose_22 : decode cX0_choose 22 = .ok (.iload_n 1, 1) := by decide +kernel
theorem dX0_choose_23 : decode cX0_choose 23 = .ok (.baload, 1) := by decide +kernel
theorem dX0_choose_24 : decode cX0_choose 24 = .ok (.bastore, 1) := by decide +kernel
theorem dX0_choose_25 : decode cX0_choose 25 = .ok (.iinc 1 1, 3) := by decide +kernel
theorem dX0_choose_28 : decode cX0_choose 28 = .ok (.goto (-21), 3) := by decide +kernel
theorem dX0_choose_31 : decode cX0_choose 31 = .ok (.iconst 0, 1) := by decide +kernel
theorem dX0_choose_32 : decode cX0_choose 32 = .ok (.istore_n 1, 1) := by decide +kernel
theorem dX0_choose_33 : decode cX0_choose 33 = .ok (.iload_n 1, 1) := by decide +kernel
theorem dX0_choose_34 : decode cX0_choose 34 = .ok (.bipush 81, 2) := by decide +kernel
theorem dX0_choose_36 : decode cX0_choose 36 = .ok (.if_icmp .ge 42, 3) := by decide +kernel
theorem dX0_choose_39 : decode cX0_choose 39 = .ok (.aload_n 0, 1) := by decide +kernel
theorem dX0_choose_40 : decode cX0_choose 40 = .ok (.getfield 70, 3) := by decide +kernel
theorem dX0_choose_43 : decode cX0_choose 43 = .ok (.aload_n 0, 1) := by decide +kernel
theorem dX0_choose_44 : decode cX0_choose 44 = .ok (.getfield 57, 3) := by decide +kernel
theorem dX0_choose_47 : decode cX0_choose 47 = .ok (.if_icmp .ge 31, 3) := by decide +kernel
theorem dX0_choose_50 : decode cX0_choose 50 = .ok (.aload_n 0, 1) := by decide +kernel
theorem dX0_choose_51 : decode cX0_choose 51 = .ok (.getfield 34, 3) := by decide +kernel
theorem dX0_choose_54 : decode cX0_choose 54 = .ok (.iload_n 1, 1) := by decide +kernel
theorem dX0_choose_55 : decode cX0_choose 55 = .ok (.baload, 1) := by decide +kernel
theorem dX0_choose_56 : decode cX0_choose 56 = .ok (.ifCond .eq 16, 3) := by decide +kernel
theorem dX0_choose_59 : decode cX0_choose 59 = .ok (.aload_n 0, 1) := by decide +kernel
theorem dX0_choose_60 : decode cX0_choose 60 = .ok (.iload_n 1, 1) := by decide +kernel
theorem dX0_choose_61 : decode cX0_choose 61 = .ok (.invokevirtual 73, 3) := by decide +kernel
theorem dX0_choose_64 : decode cX0_choose 64 = .ok (.ifCond .eq 8, 3) := by decide +kernel
theorem dX0_choose_67 : decode cX0_choose 67 = .ok (.aload_n 0, 1) := by decide +kernel
theorem dX0_choose_68 : decode cX0_choose 68 = .ok (.iload_n 1, 1) := by decide +kernel
theorem dX0_choose_69 : decode cX0_choose 69 = .ok (.invokevirtual 77, 3) := by decide +kernel
theorem dX0_choose_72 : decode cX0_choose 72 = .ok (.iinc 1 1, 3) := by decide +kernel
theorem dX0_choose_75 : decode cX0_choose 75 = .ok (.goto (-42), 3) := by decide +kernel
theorem dX0_choose_78 : decode cX0_choose 78 = .ok (.return_, 1) := by decide +kernel
theorem dX0_add_0 : decode cX0_add 0 = .ok (.aload_n 0, 1) := by decide +kernel
theorem dX0_add_1 : decode cX0_add 1 = .ok (.getfield 15, 3) := by decide +kernel
theorem dX0_add_4 : decode cX0_add 4 = .ok (.aload_n 0, 1) := by decide +kernel
theorem dX0_add_5 : decode cX0_add 5 = .ok (.getfield 70, 3) := by decide +kernel
theorem dX0_add_8 : decode cX0_add 8 = .ok (.iload_n 1, 1) := by decide +kernel
theorem dX0_add_9 : decode cX0_add 9 = .ok (.iastore, 1) := by decide +kernel
theorem dX0_add_10 : decode cX0_add 10 = .ok (.aload_n 0, 1) := by decide +kernel
theorem dX0_add_11 : decode cX0_add 11 = .ok (.dup, 1) := by decide +kernel
theorem dX0_add_12 : decode cX0_add 12 = .ok (.getfield 70, 3) := by decide +kernel
theorem dX0_add_15 : decode cX0_add 15 = .ok (.iconst 1, 1) := by decide +kernel
theorem dX0_add_16 : decode cX0_add 16 = .ok (.iadd, 1) := by decide +kernel
theorem dX0_add_17 : decode cX0_add 17 = .ok (.putfield 70, 3) := by decide +kernel
theorem dX0_add_20 : decode cX0_add 20 = .ok (.iconst 0, 1) := by decide +kernel
theorem dX0_add_21 : decode cX0_add 21 = .ok (.istore_n 2, 1) := by decide +kernel
theorem dX0_add_22 : decode cX0_add 22 = .ok (.iload_n 2, 1) := by decide +kernel
theorem dX0_add_23 : decode cX0_add 23 = .ok (.bipush 81, 2) := by decide +kernel
theorem dX0_add_25 : decode cX0_add 25 = .ok (.if_icmp .ge 41, 3) := by decide +kernel
theorem dX0_add_28 : decode cX0_add 28 = .ok (.aload_n 0, 1) := by decide +kernel
theorem dX0_add_29 : decode cX0_add 29 = .ok (.getfield 34, 3) := by decide +kernel
theorem dX0_add_32 : decode cX0_add 32 = .ok (.iload_n 2, 1) := by decide +kernel
theorem dX0_add_33 : decode cX0_add 33 = .ok (.aload_n 0, 1) := by decide +kernel
theorem dX0_add_34 : decode cX0_add 34 = .ok (.getfield 34, 3) := by decide +kernel
theorem dX0_add_37 : decode cX0_add 37 = .ok (.iload_n 2, 1) := by decide +kernel
theorem dX0_add_38 : decode cX0_add 38 = .ok (.baload, 1) := by decide +kernel
theorem dX0_add_39 : decode cX0_add 39 = .ok (.ifCond .eq 19, 3) := by decide +kernel
theorem dX0_add_42 : decode cX0_add 42 = .ok (.aload_n 0, 1) := by decide +kernel
theorem dX0_add_43 : decode cX0_add 43 = .ok (.getfield 43, 3) := by decide +kernel
theorem dX0_add_46 : decode cX0_add 46 = .ok (.iload_n 1, 1) := by decide +kernel
theorem dX0_add_47 : decode cX0_add 47 = .ok (.iload_n 2, 1) := by decide +kernel
theorem dX0_add_48 : decode cX0_add 48 = .ok (.invokevirtual 80, 3) := by decide +kernel
theorem dX0_add_51 : decode cX0_add 51 = .ok (.ifCond .ne 7, 3) := by decide +kernel
theorem dX0_add_54 : decode cX0_add 54 = .ok (.iconst 1, 1) := by decide +kernel
theorem dX0_add_55 : decode cX0_add 55 = .ok (.goto 4, 3) := by decide +kernel
theorem dX0_add_58 : decode cX0_add 58 = .ok (.iconst 0, 1) := by decide +kernel
theorem dX0_add_59 : decode cX0_add 59 = .ok (.bastore, 1) := by decide +kernel
theorem dX0_add_60 : decode cX0_add 60 = .ok (.iinc 2 1, 3) := by decide +kernel
theorem dX0_add_63 : decode cX0_add 63 = .ok (.goto (-41), 3) := by decide +kernel
theorem dX0_add_66 : decode cX0_add 66 = .ok (.return_, 1) := by decide +kernel
theorem dX0_leavesFullSet_0 : decode cX0_leavesFullSet 0 = .ok (.iconst 0, 1) := by decide +kernel
theorem dX0_leavesFullSet_1 : decode cX0_leavesFullSet 1 = .ok (.istore_n 2, 1) := by decide +kernel
theorem dX0_leavesFullSet_2 : decode cX0_leavesFullSet 2 = .ok (.iload_n 2, 1) := by decide +kernel
theorem dX0_leavesFullSet_3 : decode cX0_leavesFullSet 3 = .ok (.bipush 81, 2) := by decide +kernel
theorem dX0_leavesFullSet_5 : decode cX0_leavesFullSet 5 = .ok (.if_icmp .ge 41, 3) := by decide +kernel
theorem dX0_leavesFullSet_8 : decode cX0_leavesFullSet 8 = .ok (.aload_n 0, 1) := by decide +kernel
theorem dX0_leavesFullSet_9 : decode cX0_leavesFullSet 9 = .ok (.getfield 37, 3) := by decide +kernel
theorem dX0_leavesFullSet_12 : decode cX0_leavesFullSet 12 = .ok (.iload_n 2, 1) := by decide +kernel
theorem dX0_leavesFullSet_13 : decode cX0_leavesFullSet 13 = .ok (.aload_n 0, 1) := by decide +kernel
theorem dX0_leavesFullSet_14 : decode cX0_leavesFullSet 14 = .ok (.getfield 34, 3) := by decide +kernel
theorem dX0_leavesFullSet_17 : decode cX0_leavesFullSet 17 = .ok (.iload_n 2, 1) := by decide +kernel
theorem dX0_leavesFullSet_18 : decode cX0_leavesFullSet 18 = .ok (.baload, 1) := by decide +kernel
theorem dX0_leavesFullSet_19 : decode cX0_leavesFullSet 19 = .ok (.ifCond .eq 19, 3) := by decide +kernel
theorem dX0_leavesFullSet_22 : decode cX0_leavesFullSet 22 = .ok (.aload_n 0, 1) := by decide +kernel
theorem dX0_leavesFullSet_23 : decode cX0_leavesFullSet 23 = .ok (.getfield 43, 3) := by decide +kernel
theorem dX0_leavesFullSet_26 : decode cX0_leavesFullSet 26 = .ok (.iload_n 1, 1) := by decide +kernel
theorem dX0_leavesFullSet_27 : decode cX0_leavesFullSet 27 = .ok (.iload_n 2, 1) := by decide +kernel
theorem dX0_leavesFullSet_28 : decode cX0_leavesFullSet 28 = .ok (.invokevirtual 80, 3) := by decide +kernel
theorem dX0_leavesFullSet_31 : decode cX0_leavesFullSet 31 = .ok (.ifCond .ne 7, 3) := by decide +kernel
theorem dX0_leavesFullSet_34 : decode cX0_leavesFullSet 34 = .ok (.iconst 1, 1) := by decide +kernel
theorem dX0_leavesFullSet_35 : decode cX0_leavesFullSet 35 = .ok (.goto 4, 3) := by decide +kernel
theorem dX0_leavesFullSet_38 : decode cX0_leavesFullSet 38 = .ok (.iconst 0, 1) := by decide +kernel
theorem dX0_leavesFullSet_39 : decode cX0_leavesFullSet 39 = .ok (.bastore, 1) := by decide +kernel
theorem dX0_leavesFullSet_40 : decode cX0_leavesFullSet 40 = .ok (.iinc 2 1, 3) := by decide +kernel
theorem dX0_leavesFullSet_43 : decode cX0_leavesFullSet 43 = .ok (.goto (-41), 3) := by decide +kernel
theorem dX0_leavesFullSet_46 : decode cX0_leavesFullSet 46 = .ok (.iconst 0, 1) := by decide +kernel
theorem dX0_leavesFullSet_47 : decode cX0_leavesFullSet 47 = .ok (.istore_n 2, 1) := by decide +kernel
theorem dX0_leavesFullSet_48 : decode cX0_leavesFullSet 48 = .ok (.iconst 0, 1) := by decide +kernel
theorem dX0_leavesFullSet_49 : decode cX0_leavesFullSet 49 = .ok (.istore_n 3, 1) := by decide +kernel
theorem dX0_leavesFullSet_50 : decode cX0_leavesFullSet 50 = .ok (.iload_n 3, 1) := by decide +kernel
theorem dX0_leavesFullSet_51 : decode cX0_leavesFullSet 51 = .ok (.aload_n 0, 1) := by decide +kernel
theorem dX0_leavesFullSet_52 : decode cX0_leavesFullSet 52 = .ok (.getfield 57, 3) := by decide +kernel
theorem dX0_leavesFullSet_55 : decode cX0_leavesFullSet 55 = .ok (.if_icmp .ge 44, 3) := by decide +kernel
theorem dX0_leavesFullSet_58 : decode cX0_leavesFullSet 58 = .ok (.iload_n 3, 1) := by decide +kernel
theorem dX0_leavesFullSet_59 : decode cX0_leavesFullSet 59 = .ok (.bipush 81, 2) := by decide +kernel
theorem dX0_leavesFullSet_61 : decode cX0_leavesFullSet 61 = .ok (.if_icmp .ge 38, 3) := by decide +kernel
theorem dX0_leavesFullSet_64 : decode cX0_leavesFullSet 64 = .ok (.aload_n 0, 1) := by decide +kernel
theorem dX0_leavesFullSet_65 : decode cX0_leavesFullSet 65 = .ok (.aload_n 0, 1) := by decide +kernel
theorem dX0_leavesFullSet_66 : decode cX0_leavesFullSet 66 = .ok (.getfield 25, 3) := by decide +kernel
theorem dX0_leavesFullSet_69 : decode cX0_leavesFullSet 69 = .ok (.iload_n 3, 1) := by decide +kernel
theorem dX0_leavesFullSet_70 : decode cX0_leavesFullSet 70 = .ok (.iaload, 1) := by decide +kernel
theorem dX0_leavesFullSet_71 : decode cX0_leavesFullSet 71 = .ok (.invokevirtual 83, 3) := by decide +kernel
theorem dX0_leavesFullSet_74 : decode cX0_leavesFullSet 74 = .ok (.istore 4, 2) := by decide +kernel
theorem dX0_leavesFullSet_76 : decode cX0_leavesFullSet 76 = .ok (.iload 4, 2) := by decide +kernel
theorem dX0_leavesFullSet_78 : decode cX0_leavesFullSet 78 = .ok (.iconst (-1), 1) := by decide +kernel
theorem dX0_leavesFullSet_79 : decode cX0_leavesFullSet 79 = .ok (.if_icmp .eq 14, 3) := by decide +kernel
theorem dX0_leavesFullSet_82 : decode cX0_leavesFullSet 82 = .ok (.aload_n 0, 1) := by decide +kernel
theorem dX0_leavesFullSet_83 : decode cX0_leavesFullSet 83 = .ok (.getfield 40, 3) := by decide +kernel
theorem dX0_leavesFullSet_86 : decode cX0_leavesFullSet 86 = .ok (.iload_n 2, 1) := by decide +kernel
theorem dX0_leavesFullSet_87 : decode cX0_leavesFullSet 87 = .ok (.iload 4, 2) := by decide +kernel
theorem dX0_leavesFullSet_89 : decode cX0_leavesFullSet 89 = .ok (.iastore, 1) := by decide +kernel
theorem dX0_leavesFullSet_90 : decode cX0_leavesFullSet 90 = .ok (.iinc 2 1, 3) := by decide +kernel
theorem dX0_leavesFullSet_93 : decode cX0_leavesFullSet 93 = .ok (.iinc 3 1, 3) := by decide +kernel
theorem dX0_leavesFullSet_96 : decode cX0_leavesFullSet 96 = .ok (.goto (-46), 3) := by decide +kernel
theorem dX0_leavesFullSet_99 : decode cX0_leavesFullSet 99 = .ok (.iload_n 2, 1) := by decide +kernel
theorem dX0_leavesFullSet_100 : decode cX0_leavesFullSet 100 = .ok (.aload_n 0, 1) := by decide +kernel
theorem dX0_leavesFullSet_101 : decode cX0_leavesFullSet 101 = .ok (.getfield 57, 3) := by decide +kernel
theorem dX0_leavesFullSet_104 : decode cX0_leavesFullSet 104 = .ok (.aload_n 0, 1) := by decide +kernel
theorem dX0_leavesFullSet_105 : decode cX0_leavesFullSet 105 = .ok (.getfield 70, 3) := by decide +kernel
theorem dX0_leavesFullSet_108 : decode cX0_leavesFullSet 108 = .ok (.isub, 1) := by decide +kernel
theorem dX0_leavesFullSet_109 : decode cX0_leavesFullSet 109 = .ok (.iconst 1, 1) := by decide +kernel
theorem dX0_leavesFullSet_110 : decode cX0_leavesFullSet 110 = .ok (.isub, 1) := by decide +kernel
theorem dX0_leavesFullSet_111 : decode cX0_leavesFullSet 111 = .ok (.if_icmp .ne 15, 3) := by decide +kernel
theorem dX0_leavesFullSet_114 : decode cX0_leavesFullSet 114 = .ok (.aload_n 0, 1) := by decide +kernel
theorem dX0_leavesFullSet_115 : decode cX0_leavesFullSet 115 = .ok (.iload_n 2, 1) := by decide +kernel
theorem dX0_leavesFullSet_116 : decode cX0_leavesFullSet 116 = .ok (.invokevirtual 87, 3) := by decide +kernel
theorem dX0_leavesFullSet_119 : decode cX0_leavesFullSet 119 = .ok (.ifCond .eq 7, 3) := by decide +kernel
theorem dX0_leavesFullSet_122 : decode cX0_leavesFullSet 122 = .ok (.iconst 1, 1) := by decide +kernel
theorem dX0_leavesFullSet_123 : decode cX0_leavesFullSet 123 = .ok (.goto 4, 3) := by decide +kernel
theorem dX0_leavesFullSet_126 : decode cX0_leavesFullSet 126 = .ok (.iconst 0, 1) := by decide +kernel
theorem dX0_leavesFullSet_127 : decode cX0_leavesFullSet 127 = .ok (.ireturn, 1) := by decide +kernel
theorem dX0_leftFrom_0 : decode cX0_leftFrom 0 = .ok (.iload_n 1, 1) := by decide +kernel
theorem dX0_leftFrom_1 : decode cX0_leftFrom 1 = .ok (.istore_n 2, 1) := by decide +kernel
theorem dX0_leftFrom_2 : decode cX0_leftFrom 2 = .ok (.iconst 0, 1) := by decide +kernel
theorem dX0_leftFrom_3 : decode cX0_leftFrom 3 = .ok (.istore_n 3, 1) := by decide +kernel
theorem dX0_leftFrom_4 : decode cX0_leftFrom 4 = .ok (.iload_n 3, 1) := by decide +kernel
theorem dX0_leftFrom_5 : decode cX0_leftFrom 5 = .ok (.bipush 81, 2) := by decide +kernel
theorem dX0_leftFrom_7 : decode cX0_leftFrom 7 = .ok (.if_icmp .ge 30, 3) := by decide +kernel
theorem dX0_leftFrom_10 : decode cX0_leftFrom 10 = .ok (.iload_n 2, 1) := by decide +kernel
theorem dX0_leftFrom_11 : decode cX0_leftFrom 11 = .ok (.iconst (-1), 1) := by decide +kernel
theorem dX0_leftFrom_12 : decode cX0_leftFrom 12 = .ok (.if_icmp .eq 25, 3) := by decide +kernel
theorem dX0_leftFrom_15 : decode cX0_leftFrom 15 = .ok (.aload_n 0, 1) := by decide +kernel
theorem dX0_leftFrom_16 : decode cX0_leftFrom 16 = .ok (.getfield 37, 3) := by decide +kernel
theorem dX0_leftFrom_19 : decode cX0_leftFrom 19 = .ok (.iload_n 2, 1) := by decide +kernel
theorem dX0_leftFrom_20 : decode cX0_leftFrom 20 = .ok (.baload, 1) := by decide +kernel
theorem dX0_leftFrom_21 : decode cX0_leftFrom 21 = .ok (.ifCond .ne 16, 3) := by decide +kernel
theorem dX0_leftFrom_24 : decode cX0_leftFrom 24 = .ok (.aload_n 0, 1) := by decide +kernel
theorem dX0_leftFrom_25 : decode cX0_leftFrom 25 = .ok (.getfield 19, 3) := by decide +kernel
theorem dX0_leftFrom_28 : decode cX0_leftFrom 28 = .ok (.iload_n 2, 1) := by decide +kernel
theorem dX0_leftFrom_29 : decode cX0_leftFrom 29 = .ok (.iaload, 1) := by decide +kernel
theorem dX0_leftFrom_30 : decode cX0_leftFrom 30 = .ok (.istore_n 2, 1) := by decide +kernel
theorem dX0_leftFrom_31 : decode cX0_leftFrom 31 = .ok (.iinc 3 1, 3) := by decide +kernel
theorem dX0_leftFrom_34 : decode cX0_leftFrom 34 = .ok (.goto (-30), 3) := by decide +kernel
theorem dX0_leftFrom_37 : decode cX0_leftFrom 37 = .ok (.iload_n 2, 1) := by decide +kernel
theorem dX0_leftFrom_38 : decode cX0_leftFrom 38 = .ok (.ireturn, 1) := by decide +kernel
theorem dX0_canBeApart_0 : decode cX0_canBeApart 0 = .ok (.iconst 1, 1) := by decide +kernel
theorem dX0_canBeApart_1 : decode cX0_canBeApart 1 = .ok (.istore_n 2, 1) := by decide +kernel
theorem dX0_canBeApart_2 : decode cX0_canBeApart 2 = .ok (.iconst 0, 1) := by decide +kernel
theorem dX0_canBeApart_3 : decode cX0_canBeApart 3 = .ok (.istore_n 3, 1) := by decide +kernel
theorem dX0_canBeApart_4 : decode cX0_canBeApart 4 = .ok (.iload_n 2, 1) := by decide +kernel
theorem dX0_canBeApart_5 : decode cX0_canBeApart 5 = .ok (.ifCond .eq 108, 3) := by decide +kernel
theorem dX0_canBeApart_8 : decode cX0_canBeApart 8 = .ok (.iload_n 3, 1) := by decide +kernel
theorem dX0_canBeApart_9 : decode cX0_canBeApart 9 = .ok (.bipush 81, 2) := by decide +kernel
theorem dX0_canBeApart_11 : decode cX0_canBeApart 11 = .ok (.if_icmp .gt 102, 3) := by decide +kernel
theorem dX0_canBeApart_14 : decode cX0_canBeApart 14 = .ok (.iconst 0, 1) := by decide +kernel
theorem dX0_canBeApart_15 : decode cX0_canBeApart 15 = .ok (.istore_n 2, 1) := by decide +kernel
theorem dX0_canBeApart_16 : decode cX0_canBeApart 16 = .ok (.iconst 0, 1) := by decide +kernel
theorem dX0_canBeApart_17 : decode cX0_canBeApart 17 = .ok (.istore 4, 2) := by decide +kernel
theorem dX0_canBeApart_19 : decode cX0_canBeApart 19 = .ok (.iload 4, 2) := by decide +kernel
theorem dX0_canBeApart_21 : decode cX0_canBeApart 21 = .ok (.iload_n 1, 1) := by decide +kernel
theorem dX0_canBeApart_22 : decode cX0_canBeApart 22 = .ok (.if_icmp .ge 85, 3) := by decide +kernel
theorem dX0_canBeApart_25 : decode cX0_canBeApart 25 = .ok (.iconst 0, 1) := by decide +kernel
theorem dX0_canBeApart_26 : decode cX0_canBeApart 26 = .ok (.istore 5, 2) := by decide +kernel
theorem dX0_canBeApart_28 : decode cX0_canBeApart 28 = .ok (.iload 5, 2) := by decide +kernel
theorem dX0_canBeApart_30 : decode cX0_canBeApart 30 = .ok (.iload_n 1, 1) := by decide +kernel
theorem dX0_canBeApart_31 : decode cX0_canBeApart 31 = .ok (.if_icmp .ge 70, 3) := by decide +kernel
theorem dX0_canBeApart_34 : decode cX0_canBeApart 34 = .ok (.aload_n 0, 1) := by decide +kernel
theorem dX0_canBeApart_35 : decode cX0_canBeApart 35 = .ok (.getfield 43, 3) := by decide +kernel
theorem dX0_canBeApart_38 : decode cX0_canBeApart 38 = .ok (.aload_n 0, 1) := by decide +kernel
theorem dX0_canBeApart_39 : decode cX0_canBeApart 39 = .ok (.getfield 40, 3) := by decide +kernel
theorem dX0_canBeApart_42 : decode cX0_canBeApart 42 = .ok (.iload 4, 2) := by decide +kernel
theorem dX0_canBeApart_44 : decode cX0_canBeApart 44 = .ok (.iaload, 1) := by decide +kernel
theorem dX0_canBeApart_45 : decode cX0_canBeApart 45 = .ok (.aload_n 0, 1) := by decide +kernel
theorem dX0_canBeApart_46 : decode cX0_canBeApart 46 = .ok (.getfield 40, 3) := by decide +kernel
theorem dX0_canBeApart_49 : decode cX0_canBeApart 49 = .ok (.iload 5, 2) := by decide +kernel
theorem dX0_canBeApart_51 : decode cX0_canBeApart 51 = .ok (.iaload, 1) := by decide +kernel
theorem dX0_canBeApart_52 : decode cX0_canBeApart 52 = .ok (.invokevirtual 61, 3) := by decide +kernel
theorem dX0_canBeApart_55 : decode cX0_canBeApart 55 = .ok (.ifCond .eq 40, 3) := by decide +kernel
theorem dX0_canBeApart_58 : decode cX0_canBeApart 58 = .ok (.aload_n 0, 1) := by decide +kernel
theorem dX0_canBeApart_59 : decode cX0_canBeApart 59 = .ok (.aload_n 0, 1) := by decide +kernel
theorem dX0_canBeApart_60 : decode cX0_canBeApart 60 = .ok (.getfield 19, 3) := by decide +kernel
theorem dX0_canBeApart_63 : decode cX0_canBeApart 63 = .ok (.aload_n 0, 1) := by decide +kernel
theorem dX0_canBeApart_64 : decode cX0_canBeApart 64 = .ok (.getfield 40, 3) := by decide +kernel
theorem dX0_canBeApart_67 : decode cX0_canBeApart 67 = .ok (.iload 4, 2) := by decide +kernel
theorem dX0_canBeApart_69 : decode cX0_canBeApart 69 = .ok (.iaload, 1) := by decide +kernel
theorem dX0_canBeApart_70 : decode cX0_canBeApart 70 = .ok (.iaload, 1) := by decide +kernel
theorem dX0_canBeApart_71 : decode cX0_canBeApart 71 = .ok (.invokevirtual 83, 3) := by decide +kernel
theorem dX0_canBeApart_74 : decode cX0_canBeApart 74 = .ok (.istore 6, 2) := by decide +kernel
theorem dX0_canBeApart_76 : decode cX0_canBeApart 76 = .ok (.iload 6, 2) := by decide +kernel
theorem dX0_canBeApart_78 : decode cX0_canBeApart 78 = .ok (.iconst (-1), 1) := by decide +kernel
theorem dX0_canBeApart_79 : decode cX0_canBeApart 79 = .ok (.if_icmp .ne 5, 3) := by decide +kernel
theorem dX0_canBeApart_82 : decode cX0_canBeApart 82 = .ok (.iconst 0, 1) := by decide +kernel
theorem dX0_canBeApart_83 : decode cX0_canBeApart 83 = .ok (.ireturn, 1) := by decide +kernel
theorem dX0_canBeApart_84 : decode cX0_canBeApart 84 = .ok (.aload_n 0, 1) := by decide +kernel
theorem dX0_canBeApart_85 : decode cX0_canBeApart 85 = .ok (.getfield 40, 3) := by decide +kernel
theorem dX0_canBeApart_88 : decode cX0_canBeApart 88 = .ok (.iload 4, 2) := by decide +kernel
theorem dX0_canBeApart_90 : decode cX0_canBeApart 90 = .ok (.iload 6, 2) := by decide +kernel
theorem dX0_canBeApart_92 : decode cX0_canBeApart 92 = .ok (.iastore, 1) := by decide +kernel
theorem dX0_canBeApart_93 : decode cX0_canBeApart 93 = .ok (.iconst 1, 1) := by decide +kernel
theorem dX0_canBeApart_94 : decode cX0_canBeApart 94 = .ok (.istore_n 2, 1) := by decide +kernel
theorem dX0_canBeApart_95 : decode cX0_canBeApart 95 = .ok (.iinc 5 1, 3) := by decide +kernel
theorem dX0_canBeApart_98 : decode cX0_canBeApart 98 = .ok (.goto (-70), 3) := by decide +kernel
theorem dX0_canBeApart_101 : decode cX0_canBeApart 101 = .ok (.iinc 4 1, 3) := by decide +kernel
theorem dX0_canBeApart_104 : decode cX0_canBeApart 104 = .ok (.goto (-85), 3) := by decide +kernel
theorem dX0_canBeApart_107 : decode cX0_canBeApart 107 = .ok (.iinc 3 1, 3) := by decide +kernel
theorem dX0_canBeApart_110 : decode cX0_canBeApart 110 = .ok (.goto (-106), 3) := by decide +kernel
theorem dX0_canBeApart_113 : decode cX0_canBeApart 113 = .ok (.iload_n 2, 1) := by decide +kernel
theorem dX0_canBeApart_114 : decode cX0_canBeApart 114 = .ok (.ifCond .ne 7, 3) := by decide +kernel
theorem dX0_canBeApart_117 : decode cX0_canBeApart 117 = .ok (.iconst 1, 1) := by decide +kernel
theorem dX0_canBeApart_118 : decode cX0_canBeApart 118 = .ok (.goto 4, 3) := by decide +kernel
theorem dX0_canBeApart_121 : decode cX0_canBeApart 121 = .ok (.iconst 0, 1) := by decide +kernel
theorem dX0_canBeApart_122 : decode cX0_canBeApart 122 = .ok (.ireturn, 1) := by decide +kernel
theorem dX1_init_0 : decode cX1_init 0 = .ok (.aload_n 0, 1) := by decide +kernel
theorem dX1_init_1 : decode cX1_init 1 = .ok (.invokespecial 3, 3) := by decide +kernel
theorem dX1_init_4 : decode cX1_init 4 = .ok (.aload_n 0, 1) := by decide +kernel
theorem dX1_init_5 : decode cX1_init 5 = .ok (.bipush 81, 2) := by decide +kernel
theorem dX1_init_7 : decode cX1_init 7 = .ok (.newarray .int, 2) := by decide +kernel
theorem dX1_init_9 : decode cX1_init 9 = .ok (.putfield 9, 3) := by decide +kernel
theorem dX1_init_12 : decode cX1_init 12 = .ok (.aload_n 0, 1) := by decide +kernel
theorem dX1_init_13 : decode cX1_init 13 = .ok (.bipush 81, 2) := by decide +kernel
theorem dX1_init_15 : decode cX1_init 15 = .ok (.newarray .int, 2) := by decide +kernel
theorem dX1_init_17 : decode cX1_init 17 = .ok (.putfield 15, 3) := by decide +kernel
theorem dX1_init_20 : decode cX1_init 20 = .ok (.aload_n 0, 1) := by decide +kernel
theorem dX1_init_21 : decode cX1_init 21 = .ok (.bipush 81, 2) := by decide +kernel
theorem dX1_init_23 : decode cX1_init 23 = .ok (.newarray .int, 2) := by decide +kernel
theorem dX1_init_25 : decode cX1_init 25 = .ok (.putfield 18, 3) := by decide +kernel
theorem dX1_init_28 : decode cX1_init 28 = .ok (.aload_n 0, 1) := by decide +kernel
theorem dX1_init_29 : decode cX1_init 29 = .ok (.bipush 81, 2) := by decide +kernel
theorem dX1_init_31 : decode cX1_init 31 = .ok (.newarray .int, 2) := by decide +kernel
theorem dX1_init_33 : decode cX1_init 33 = .ok (.putfield 21, 3) := by decide +kernel
theorem dX1_init_36 : decode cX1_init 36 = .ok (.iconst 0, 1) := by decide +kernel
theorem dX1_init_37 : decode cX1_init 37 = .ok (.istore_n 1, 1) := by decide +kernel
theorem dX1_init_38 : decode cX1_init 38 = .ok (.iload_n 1, 1) := by decide +kernel
theorem dX1_init_39 : decode cX1_init 39 = .ok (.bipush 81, 2) := by decide +kernel
theorem dX1_init_41 : decode cX1_init 41 = .ok (.if_icmp .ge 100, 3) := by decide +kernel
theorem dX1_init_44 : decode cX1_init 44 = .ok (.iload_n 1, 1) := by decide +kernel
theorem dX1_init_45 : decode cX1_init 45 = .ok (.iconst 0, 1) := by decide +kernel
theorem dX1_init_46 : decode cX1_init 46 = .ok (.invokestatic 24, 3) := by decide +kernel
theorem dX1_init_49 : decode cX1_init 49 = .ok (.istore_n 2, 1) := by decide +kernel
theorem dX1_init_50 : decode cX1_init 50 = .ok (.iconst 0, 1) := by decide +kernel
theorem dX1_init_51 : decode cX1_init 51 = .ok (.istore_n 3, 1) := by decide +kernel
theorem dX1_init_52 : decode cX1_init 52 = .ok (.iload_n 3, 1) := by decide +kernel
theorem dX1_init_53 : decode cX1_init 53 = .ok (.iconst 4, 1) := by decide +kernel
theorem dX1_init_54 : decode cX1_init 54 = .ok (.if_icmp .ge 71, 3) := by decide +kernel
theorem dX1_init_57 : decode cX1_init 57 = .ok (.iload_n 1, 1) := by decide +kernel
theorem dX1_init_58 : decode cX1_init 58 = .ok (.iload_n 3, 1) := by decide +kernel
theorem dX1_init_59 : decode cX1_init 59 = .ok (.invokestatic 24, 3) := by decide +kernel
theorem dX1_init_62 : decode cX1_init 62 = .ok (.istore 4, 2) := by decide +kernel
theorem dX1_init_64 : decode cX1_init 64 = .ok (.aload_n 0, 1) := by decide +kernel
theorem dX1_init_65 : decode cX1_init 65 = .ok (.getfield 9, 3) := by decide +kernel
theorem dX1_init_68 : decode cX1_init 68 = .ok (.iload_n 1, 1) := by decide +kernel
theorem dX1_init_69 : decode cX1_init 69 = .ok (.dup2, 1) := by decide +kernel
theorem dX1_init_70 : decode cX1_init 70 = .ok (.iaload, 1) := by decide +kernel
theorem dX1_init_71 : decode cX1_init 71 = .ok (.iconst 1, 1) := by decide +kernel
theorem dX1_init_72 : decode cX1_init 72 = .ok (.iload 4, 2) := by decide +kernel
theorem dX1_init_74 : decode cX1_init 74 = .ok (.ishl, 1) := by decide +kernel
theorem dX1_init_75 : decode cX1_init 75 = .ok (.iconst 1, 1) := by decide +kernel
theorem dX1_init_76 : decode cX1_init 76 = .ok (.isub, 1) := by decide +kernel
theorem dX1_init_77 : decode cX1_init 77 = .ok (.iconst 2, 1) := by decide +kernel
theorem dX1_init_78 : decode cX1_init 78 = .ok (.iload_n 3, 1) := by decide +kernel
theorem dX1_init_79 : decode cX1_init 79 = .ok (.imul, 1) := by decide +kernel
theorem dX1_init_80 : decode cX1_init 80 = .ok (.ishl, 1) := by decide +kernel
theorem dX1_init_81 : decode cX1_init 81 = .ok (.ior, 1) := by decide +kernel
theorem dX1_init_82 : decode cX1_init 82 = .ok (.iastore, 1) := by decide +kernel
theorem dX1_init_83 : decode cX1_init 83 = .ok (.aload_n 0, 1) := by decide +kernel
theorem dX1_init_84 : decode cX1_init 84 = .ok (.getfield 15, 3) := by decide +kernel
theorem dX1_init_87 : decode cX1_init 87 = .ok (.iload_n 1, 1) := by decide +kernel
theorem dX1_init_88 : decode cX1_init 88 = .ok (.dup2, 1) := by decide +kernel
theorem dX1_init_89 : decode cX1_init 89 = .ok (.iaload, 1) := by decide +kernel
theorem dX1_init_90 : decode cX1_init 90 = .ok (.iload 4, 2) := by decide +kernel
theorem dX1_init_92 : decode cX1_init 92 = .ok (.iadd, 1) := by decide +kernel
theorem dX1_init_93 : decode cX1_init 93 = .ok (.iastore, 1) := by decide +kernel
theorem dX1_init_94 : decode cX1_init 94 = .ok (.aload_n 0, 1) := by decide +kernel
theorem dX1_init_95 : decode cX1_init 95 = .ok (.getfield 18, 3) := by decide +kernel
theorem dX1_init_98 : decode cX1_init 98 = .ok (.iload_n 1, 1) := by decide +kernel
theorem dX1_init_99 : decode cX1_init 99 = .ok (.aload_n 0, 1) := by decide +kernel
theorem dX1_init_100 : decode cX1_init 100 = .ok (.getfield 18, 3) := by decide +kernel
theorem dX1_init_103 : decode cX1_init 103 = .ok (.iload_n 1, 1) := by decide +kernel
theorem dX1_init_104 : decode cX1_init 104 = .ok (.iaload, 1) := by decide +kernel
theorem dX1_init_105 : decode cX1_init 105 = .ok (.iload 4, 2) := by decide +kernel
theorem dX1_init_107 : decode cX1_init 107 = .ok (.iload_n 2, 1) := by decide +kernel
theorem dX1_init_108 : decode cX1_init 108 = .ok (.isub, 1) := by decide +kernel
theorem dX1_init_109 : decode cX1_init 109 = .ok (.invokestatic 28, 3) := by decide +kernel
theorem dX1_init_112 : decode cX1_init 112 = .ok (.invokestatic 34, 3) := by decide +kernel
theorem dX1_init_115 : decode cX1_init 115 = .ok (.iastore, 1) := by decide +kernel
theorem dX1_init_116 : decode cX1_init 116 = .ok (.iload 4, 2) := by decide +kernel
theorem dX1_init_118 : decode cX1_init 118 = .ok (.istore_n 2, 1) := by decide +kernel
theorem dX1_init_119 : decode cX1_init 119 = .ok (.iinc 3 1, 3) := by decide +kernel
theorem dX1_init_122 : decode cX1_init 122 = .ok (.goto (-70), 3) := by decide +kernel
theorem dX1_init_125 : decode cX1_init 125 = .ok (.aload_n 0, 1) := by decide +kernel
theorem dX1_init_126 : decode cX1_init 126 = .ok (.getfield 21, 3) := by decide +kernel
theorem dX1_init_129 : decode cX1_init 129 = .ok (.iload_n 1, 1) := by decide +kernel
theorem dX1_init_130 : decode cX1_init 130 = .ok (.iload_n 1, 1) := by decide +kernel
theorem dX1_init_131 : decode cX1_init 131 = .ok (.invokestatic 37, 3) := by decide +kernel
theorem dX1_init_134 : decode cX1_init 134 = .ok (.iastore, 1) := by decide +kernel
theorem dX1_init_135 : decode cX1_init 135 = .ok (.iinc 1 1, 3) := by decide +kernel
theorem dX1_init_138 : decode cX1_init 138 = .ok (.goto (-100), 3) := by decide +kernel
theorem dX1_init_141 : decode cX1_init 141 = .ok (.return_, 1) := by decide +kernel
theorem dX1_depthOf_0 : decode cX1_depthOf 0 = .ok (.iload_n 0, 1) := by decide +kernel
theorem dX1_depthOf_1 : decode cX1_depthOf 1 = .ok (.getstatic 40, 3) := by decide +kernel
theorem dX1_depthOf_4 : decode cX1_depthOf 4 = .ok (.iload_n 1, 1) := by decide +kernel
theorem dX1_depthOf_5 : decode cX1_depthOf 5 = .ok (.iaload, 1) := by decide +kernel
theorem dX1_depthOf_6 : decode cX1_depthOf 6 = .ok (.idiv, 1) := by decide +kernel
theorem dX1_depthOf_7 : decode cX1_depthOf 7 = .ok (.iconst 3, 1) := by decide +kernel
theorem dX1_depthOf_8 : decode cX1_depthOf 8 = .ok (.irem, 1) := by decide +kernel
theorem dX1_depthOf_9 : decode cX1_depthOf 9 = .ok (.ireturn, 1) := by decide +kernel
theorem dX1_wornOnce_0 : decode cX1_wornOnce 0 = .ok (.iconst 0, 1) := by decide +kernel
theorem dX1_wornOnce_1 : decode cX1_wornOnce 1 = .ok (.istore_n 1, 1) := by decide +kernel
theorem dX1_wornOnce_2 : decode cX1_wornOnce 2 = .ok (.iconst 1, 1) := by decide +kernel
theorem dX1_wornOnce_3 : decode cX1_wornOnce 3 = .ok (.istore_n 2, 1) := by decide +kernel
theorem dX1_wornOnce_4 : decode cX1_wornOnce 4 = .ok (.iload_n 2, 1) := by decide +kernel
theorem dX1_wornOnce_5 : decode cX1_wornOnce 5 = .ok (.iconst 4, 1) := by decide +kernel
theorem dX1_wornOnce_6 : decode cX1_wornOnce 6 = .ok (.if_icmp .ge 24, 3) := by decide +kernel
theorem dX1_wornOnce_9 : decode cX1_wornOnce 9 = .ok (.iload_n 0, 1) := by decide +kernel
theorem dX1_wornOnce_10 : decode cX1_wornOnce 10 = .ok (.iload_n 2, 1) := by decide +kernel
theorem dX1_wornOnce_11 : decode cX1_wornOnce 11 = .ok (.invokestatic 24, 3) := by decide +kernel
theorem dX1_wornOnce_14 : decode cX1_wornOnce 14 = .ok (.iload_n 0, 1) := by decide +kernel
theorem dX1_wornOnce_15 : decode cX1_wornOnce 15 = .ok (.iload_n 1, 1) := by decide +kernel
theorem dX1_wornOnce_16 : decode cX1_wornOnce 16 = .ok (.invokestatic 24, 3) := by decide +kernel
theorem dX1_wornOnce_19 : decode cX1_wornOnce 19 = .ok (.if_icmp .ge 5, 3) := by decide +kernel
theorem dX1_wornOnce_22 : decode cX1_wornOnce 22 = .ok (.iload_n 2, 1) := by decide +kernel
theorem dX1_wornOnce_23 : decode cX1_wornOnce 23 = .ok (.istore_n 1, 1) := by decide +kernel
theorem dX1_wornOnce_24 : decode cX1_wornOnce 24 = .ok (.iinc 2 1, 3) := by decide +kernel
theorem dX1_wornOnce_27 : decode cX1_wornOnce 27 = .ok (.goto (-23), 3) := by decide +kernel
theorem dX1_wornOnce_30 : decode cX1_wornOnce 30 = .ok (.iload_n 0, 1) := by decide +kernel
theorem dX1_wornOnce_31 : decode cX1_wornOnce 31 = .ok (.iload_n 1, 1) := by decide +kernel
theorem dX1_wornOnce_32 : decode cX1_wornOnce 32 = .ok (.invokestatic 24, 3) := by decide +kernel
theorem dX1_wornOnce_35 : decode cX1_wornOnce 35 = .ok (.iconst 2, 1) := by decide +kernel
theorem dX1_wornOnce_36 : decode cX1_wornOnce 36 = .ok (.if_icmp .ge 7, 3) := by decide +kernel
theorem dX1_wornOnce_39 : decode cX1_wornOnce 39 = .ok (.iconst 1, 1) := by decide +kernel
theorem dX1_wornOnce_40 : decode cX1_wornOnce 40 = .ok (.goto 4, 3) := by decide +kernel
theorem dX1_wornOnce_43 : decode cX1_wornOnce 43 = .ok (.iconst 0, 1) := by decide +kernel
theorem dX1_wornOnce_44 : decode cX1_wornOnce 44 = .ok (.istore_n 2, 1) := by decide +kernel
theorem dX1_wornOnce_45 : decode cX1_wornOnce 45 = .ok (.iload_n 2, 1) := by decide +kernel
theorem dX1_wornOnce_46 : decode cX1_wornOnce 46 = .ok (.ifCond .eq 13, 3) := by decide +kernel
theorem dX1_wornOnce_49 : decode cX1_wornOnce 49 = .ok (.iload_n 0, 1) := by decide +kernel
theorem dX1_wornOnce_50 : decode cX1_wornOnce 50 = .ok (.getstatic 40, 3) := by decide +kernel
theorem dX1_wornOnce_53 : decode cX1_wornOnce 53 = .ok (.iload_n 1, 1) := by decide +kernel
theorem dX1_wornOnce_54 : decode cX1_wornOnce 54 = .ok (.iaload, 1) := by decide +kernel
theorem dX1_wornOnce_55 : decode cX1_wornOnce 55 = .ok (.iadd, 1) := by decide +kernel
theorem dX1_wornOnce_56 : decode cX1_wornOnce 56 = .ok (.goto 4, 3) := by decide +kernel
theorem dX1_wornOnce_59 : decode cX1_wornOnce 59 = .ok (.iload_n 0, 1) := by decide +kernel
theorem dX1_wornOnce_60 : decode cX1_wornOnce 60 = .ok (.ireturn, 1) := by decide +kernel
theorem dX1_isUnderOrLike_0 : decode cX1_isUnderOrLike 0 = .ok (.aload_n 0, 1) := by decide +kernel
theorem dX1_isUnderOrLike_1 : decode cX1_isUnderOrLike 1 = .ok (.getfield 9, 3) := by decide +kernel
theorem dX1_isUnderOrLike_4 : decode cX1_isUnderOrLike 4 = .ok (.iload_n 1, 1) := by decide +kernel
theorem dX1_isUnderOrLike_5 : decode cX1_isUnderOrLike 5 = .ok (.iaload, 1) := by decide +kernel
theorem dX1_isUnderOrLike_6 : decode cX1_isUnderOrLike 6 = .ok (.aload_n 0, 1) := by decide +kernel
theorem dX1_isUnderOrLike_7 : decode cX1_isUnderOrLike 7 = .ok (.getfield 9, 3) := by decide +kernel
theorem dX1_isUnderOrLike_10 : decode cX1_isUnderOrLike 10 = .ok (.iload_n 2, 1) := by decide +kernel
theorem dX1_isUnderOrLike_11 : decode cX1_isUnderOrLike 11 = .ok (.iaload, 1) := by decide +kernel
theorem dX1_isUnderOrLike_12 : decode cX1_isUnderOrLike 12 = .ok (.iconst (-1), 1) := by decide +kernel
theorem dX1_isUnderOrLike_13 : decode cX1_isUnderOrLike 13 = .ok (.ixor, 1) := by decide +kernel
theorem dX1_isUnderOrLike_14 : decode cX1_isUnderOrLike 14 = .ok (.iand, 1) := by decide +kernel
theorem dX1_isUnderOrLike_15 : decode cX1_isUnderOrLike 15 = .ok (.ifCond .ne 7, 3) := by decide +kernel
theorem dX1_isUnderOrLike_18 : decode cX1_isUnderOrLike 18 = .ok (.iconst 1, 1) := by decide +kernel
theorem dX1_isUnderOrLike_19 : decode cX1_isUnderOrLike 19 = .ok (.goto 4, 3) := by decide +kernel
theorem dX1_isUnderOrLike_22 : decode cX1_isUnderOrLike 22 = .ok (.iconst 0, 1) := by decide +kernel
theorem dX1_isUnderOrLike_23 : decode cX1_isUnderOrLike 23 = .ok (.ireturn, 1) := by decide +kernel
theorem dX1_liesUnder_0 : decode cX1_liesUnder 0 = .ok (.iload_n 1, 1) := by decide +kernel
theorem dX1_liesUnder_1 : decode cX1_liesUnder 1 = .ok (.iload_n 2, 1) := by decide +kernel
theorem dX1_liesUnder_2 : decode cX1_liesUnder 2 = .ok (.if_icmp .eq 25, 3) := by decide +kernel
theorem dX1_liesUnder_5 : decode cX1_liesUnder 5 = .ok (.aload_n 0, 1) := by decide +kernel
theorem dX1_liesUnder_6 : decode cX1_liesUnder 6 = .ok (.getfield 9, 3) := by decide +kernel
theorem dX1_liesUnder_9 : decode cX1_liesUnder 9 = .ok (.iload_n 1, 1) := by decide +kernel
theorem dX1_liesUnder_10 : decode cX1_liesUnder 10 = .ok (.iaload, 1) := by decide +kernel
theorem dX1_liesUnder_11 : decode cX1_liesUnder 11 = .ok (.aload_n 0, 1) := by decide +kernel
theorem dX1_liesUnder_12 : decode cX1_liesUnder 12 = .ok (.getfield 9, 3) := by decide +kernel
theorem dX1_liesUnder_15 : decode cX1_liesUnder 15 = .ok (.iload_n 2, 1) := by decide +kernel
theorem dX1_liesUnder_16 : decode cX1_liesUnder 16 = .ok (.iaload, 1) := by decide +kernel
theorem dX1_liesUnder_17 : decode cX1_liesUnder 17 = .ok (.iconst (-1), 1) := by decide +kernel
theorem dX1_liesUnder_18 : decode cX1_liesUnder 18 = .ok (.ixor, 1) := by decide +kernel
theorem dX1_liesUnder_19 : decode cX1_liesUnder 19 = .ok (.iand, 1) := by decide +kernel
theorem dX1_liesUnder_20 : decode cX1_liesUnder 20 = .ok (.ifCond .ne 7, 3) := by decide +kernel
theorem dX1_liesUnder_23 : decode cX1_liesUnder 23 = .ok (.iconst 1, 1) := by decide +kernel
theorem dX1_liesUnder_24 : decode cX1_liesUnder 24 = .ok (.goto 4, 3) := by decide +kernel
theorem dX1_liesUnder_27 : decode cX1_liesUnder 27 = .ok (.iconst 0, 1) := by decide +kernel
theorem dX1_liesUnder_28 : decode cX1_liesUnder 28 = .ok (.ireturn, 1) := by decide +kernel
theorem dX1_areCrossed_0 : decode cX1_areCrossed 0 = .ok (.aload_n 0, 1) := by decide +kernel
theorem dX1_areCrossed_1 : decode cX1_areCrossed 1 = .ok (.getfield 9, 3) := by decide +kernel
theorem dX1_areCrossed_4 : decode cX1_areCrossed 4 = .ok (.iload_n 1, 1) := by decide +kernel
theorem dX1_areCrossed_5 : decode cX1_areCrossed 5 = .ok (.iaload, 1) := by decide +kernel
theorem dX1_areCrossed_6 : decode cX1_areCrossed 6 = .ok (.aload_n 0, 1) := by decide +kernel
theorem dX1_areCrossed_7 : decode cX1_areCrossed 7 = .ok (.getfield 9, 3) := by decide +kernel
theorem dX1_areCrossed_10 : decode cX1_areCrossed 10 = .ok (.iload_n 2, 1) := by decide +kernel
theorem dX1_areCrossed_11 : decode cX1_areCrossed 11 = .ok (.iaload, 1) := by decide +kernel
theorem dX1_areCrossed_12 : decode cX1_areCrossed 12 = .ok (.iand, 1) := by decide +kernel
theorem dX1_areCrossed_13 : decode cX1_areCrossed 13 = .ok (.istore_n 3, 1) := by decide +kernel
theorem dX1_areCrossed_14 : decode cX1_areCrossed 14 = .ok (.iload_n 3, 1) := by decide +kernel
theorem dX1_areCrossed_15 : decode cX1_areCrossed 15 = .ok (.aload_n 0, 1) := by decide +kernel
theorem dX1_areCrossed_16 : decode cX1_areCrossed 16 = .ok (.getfield 9, 3) := by decide +kernel
theorem dX1_areCrossed_19 : decode cX1_areCrossed 19 = .ok (.iload_n 1, 1) := by decide +kernel
theorem dX1_areCrossed_20 : decode cX1_areCrossed 20 = .ok (.iaload, 1) := by decide +kernel
theorem dX1_areCrossed_21 : decode cX1_areCrossed 21 = .ok (.if_icmp .eq 13, 3) := by decide +kernel
theorem dX1_areCrossed_24 : decode cX1_areCrossed 24 = .ok (.iload_n 3, 1) := by decide +kernel
theorem dX1_areCrossed_25 : decode cX1_areCrossed 25 = .ok (.aload_n 0, 1) := by decide +kernel
theorem dX1_areCrossed_26 : decode cX1_areCrossed 26 = .ok (.getfield 9, 3) := by decide +kernel
theorem dX1_areCrossed_29 : decode cX1_areCrossed 29 = .ok (.iload_n 2, 1) := by decide +kernel
theorem dX1_areCrossed_30 : decode cX1_areCrossed 30 = .ok (.iaload, 1) := by decide +kernel
theorem dX1_areCrossed_31 : decode cX1_areCrossed 31 = .ok (.if_icmp .ne 7, 3) := by decide +kernel
theorem dX1_areCrossed_34 : decode cX1_areCrossed 34 = .ok (.iconst 1, 1) := by decide +kernel
theorem dX1_areCrossed_35 : decode cX1_areCrossed 35 = .ok (.goto 4, 3) := by decide +kernel
theorem dX1_areCrossed_38 : decode cX1_areCrossed 38 = .ok (.iconst 0, 1) := by decide +kernel
theorem dX1_areCrossed_39 : decode cX1_areCrossed 39 = .ok (.ireturn, 1) := by decide +kernel
theorem dX2_init_0 : decode cX2_init 0 = .ok (.aload_n 0, 1) := by decide +kernel
theorem dX2_init_1 : decode cX2_init 1 = .ok (.invokespecial 1, 3) := by decide +kernel
theorem dX2_init_4 : decode cX2_init 4 = .ok (.return_, 1) := by decide +kernel
theorem dX2_startWith_0 : decode cX2_startWith 0 = .ok (.aload_n 0, 1) := by decide +kernel
theorem dX2_startWith_1 : decode cX2_startWith 1 = .ok (.iload_n 1, 1) := by decide +kernel
theorem dX2_startWith_2 : decode cX2_startWith 2 = .ok (.putfield 7, 3) := by decide +kernel
theorem dX2_startWith_5 : decode cX2_startWith 5 = .ok (.aload_n 0, 1) := by decide +kernel
theorem dX2_startWith_6 : decode cX2_startWith 6 = .ok (.iload_n 1, 1) := by decide +kernel
theorem dX2_startWith_7 : decode cX2_startWith 7 = .ok (.putfield 13, 3) := by decide +kernel
theorem dX2_startWith_10 : decode cX2_startWith 10 = .ok (.aload_n 0, 1) := by decide +kernel
theorem dX2_startWith_11 : decode cX2_startWith 11 = .ok (.iconst 0, 1) := by decide +kernel
theorem dX2_startWith_12 : decode cX2_startWith 12 = .ok (.putfield 16, 3) := by decide +kernel
theorem dX2_startWith_15 : decode cX2_startWith 15 = .ok (.aload_n 0, 1) := by decide +kernel
theorem dX2_startWith_16 : decode cX2_startWith 16 = .ok (.iload_n 2, 1) := by decide +kernel
theorem dX2_startWith_17 : decode cX2_startWith 17 = .ok (.putfield 19, 3) := by decide +kernel
theorem dX2_startWith_20 : decode cX2_startWith 20 = .ok (.aload_n 0, 1) := by decide +kernel
theorem dX2_startWith_21 : decode cX2_startWith 21 = .ok (.iconst 0, 1) := by decide +kernel
theorem dX2_startWith_22 : decode cX2_startWith 22 = .ok (.putfield 22, 3) := by decide +kernel
theorem dX2_startWith_25 : decode cX2_startWith 25 = .ok (.aload_n 0, 1) := by decide +kernel
theorem dX2_startWith_26 : decode cX2_startWith 26 = .ok (.iconst 0, 1) := by decide +kernel
theorem dX2_startWith_27 : decode cX2_startWith 27 = .ok (.putfield 25, 3) := by decide +kernel
theorem dX2_startWith_30 : decode cX2_startWith 30 = .ok (.return_, 1) := by decide +kernel
theorem dX2_copyFrom_0 : decode cX2_copyFrom 0 = .ok (.aload_n 0, 1) := by decide +kernel
theorem dX2_copyFrom_1 : decode cX2_copyFrom 1 = .ok (.aload_n 1, 1) := by decide +kernel
theorem dX2_copyFrom_2 : decode cX2_copyFrom 2 = .ok (.getfield 7, 3) := by decide +kernel
theorem dX2_copyFrom_5 : decode cX2_copyFrom 5 = .ok (.putfield 7, 3) := by decide +kernel
theorem dX2_copyFrom_8 : decode cX2_copyFrom 8 = .ok (.aload_n 0, 1) := by decide +kernel
theorem dX2_copyFrom_9 : decode cX2_copyFrom 9 = .ok (.aload_n 1, 1) := by decide +kernel
theorem dX2_copyFrom_10 : decode cX2_copyFrom 10 = .ok (.getfield 13, 3) := by decide +kernel
theorem dX2_copyFrom_13 : decode cX2_copyFrom 13 = .ok (.putfield 13, 3) := by decide +kernel
theorem dX2_copyFrom_16 : decode cX2_copyFrom 16 = .ok (.aload_n 0, 1) := by decide +kernel
theorem dX2_copyFrom_17 : decode cX2_copyFrom 17 = .ok (.aload_n 1, 1) := by decide +kernel
theorem dX2_copyFrom_18 : decode cX2_copyFrom 18 = .ok (.getfield 16, 3) := by decide +kernel
theorem dX2_copyFrom_21 : decode cX2_copyFrom 21 = .ok (.putfield 16, 3) := by decide +kernel
theorem dX2_copyFrom_24 : decode cX2_copyFrom 24 = .ok (.aload_n 0, 1) := by decide +kernel
theorem dX2_copyFrom_25 : decode cX2_copyFrom 25 = .ok (.aload_n 1, 1) := by decide +kernel
theorem dX2_copyFrom_26 : decode cX2_copyFrom 26 = .ok (.getfield 19, 3) := by decide +kernel
theorem dX2_copyFrom_29 : decode cX2_copyFrom 29 = .ok (.putfield 19, 3) := by decide +kernel
theorem dX2_copyFrom_32 : decode cX2_copyFrom 32 = .ok (.aload_n 0, 1) := by decide +kernel
theorem dX2_copyFrom_33 : decode cX2_copyFrom 33 = .ok (.aload_n 1, 1) := by decide +kernel
theorem dX2_copyFrom_34 : decode cX2_copyFrom 34 = .ok (.getfield 22, 3) := by decide +kernel
theorem dX2_copyFrom_37 : decode cX2_copyFrom 37 = .ok (.putfield 22, 3) := by decide +kernel
theorem dX2_copyFrom_40 : decode cX2_copyFrom 40 = .ok (.aload_n 0, 1) := by decide +kernel
theorem dX2_copyFrom_41 : decode cX2_copyFrom 41 = .ok (.aload_n 1, 1) := by decide +kernel
theorem dX2_copyFrom_42 : decode cX2_copyFrom 42 = .ok (.getfield 25, 3) := by decide +kernel
theorem dX2_copyFrom_45 : decode cX2_copyFrom 45 = .ok (.putfield 25, 3) := by decide +kernel
theorem dX2_copyFrom_48 : decode cX2_copyFrom 48 = .ok (.return_, 1) := by decide +kernel
theorem dX3_init_0 : decode cX3_init 0 = .ok (.aload_n 0, 1) := by decide +kernel
theorem dX3_init_1 : decode cX3_init 1 = .ok (.invokespecial 3, 3) := by decide +kernel
theorem dX3_init_4 : decode cX3_init 4 = .ok (.aload_n 0, 1) := by decide +kernel
theorem dX3_init_5 : decode cX3_init 5 = .ok (.iconst (-1), 1) := by decide +kernel
theorem dX3_init_6 : decode cX3_init 6 = .ok (.putfield 9, 3) := by decide +kernel
theorem dX3_init_9 : decode cX3_init 9 = .ok (.aload_n 0, 1) := by decide +kernel
theorem dX3_init_10 : decode cX3_init 10 = .ok (.iconst (-1), 1) := by decide +kernel
theorem dX3_init_11 : decode cX3_init 11 = .ok (.putfield 15, 3) := by decide +kernel
theorem dX3_init_14 : decode cX3_init 14 = .ok (.return_, 1) := by decide +kernel
theorem dX3_clear_0 : decode cX3_clear 0 = .ok (.aload_n 0, 1) := by decide +kernel
theorem dX3_clear_1 : decode cX3_clear 1 = .ok (.iconst (-1), 1) := by decide +kernel
theorem dX3_clear_2 : decode cX3_clear 2 = .ok (.putfield 9, 3) := by decide +kernel
theorem dX3_clear_5 : decode cX3_clear 5 = .ok (.aload_n 0, 1) := by decide +kernel
theorem dX3_clear_6 : decode cX3_clear 6 = .ok (.iconst (-1), 1) := by decide +kernel
theorem dX3_clear_7 : decode cX3_clear 7 = .ok (.putfield 15, 3) := by decide +kernel
theorem dX3_clear_10 : decode cX3_clear 10 = .ok (.aload_n 0, 1) := by decide +kernel
theorem dX3_clear_11 : decode cX3_clear 11 = .ok (.iconst 0, 1) := by decide +kernel
theorem dX3_clear_12 : decode cX3_clear 12 = .ok (.putfield 18, 3) := by decide +kernel
theorem dX3_clear_15 : decode cX3_clear 15 = .ok (.aload_n 0, 1) := by decide +kernel
theorem dX3_clear_16 : decode cX3_clear 16 = .ok (.iconst 0, 1) := by decide +kernel
theorem dX3_clear_17 : decode cX3_clear 17 = .ok (.putfield 21, 3) := by decide +kernel
theorem dX3_clear_20 : decode cX3_clear 20 = .ok (.return_, 1) := by decide +kernel
theorem dX3_copyFrom_0 : decode cX3_copyFrom 0 = .ok (.aload_n 0, 1) := by decide +kernel
theorem dX3_copyFrom_1 : decode cX3_copyFrom 1 = .ok (.aload_n 1, 1) := by decide +kernel
theorem dX3_copyFrom_2 : decode cX3_copyFrom 2 = .ok (.getfield 9, 3) := by decide +kernel
theorem dX3_copyFrom_5 : decode cX3_copyFrom 5 = .ok (.putfield 9, 3) := by decide +kernel
theorem dX3_copyFrom_8 : decode cX3_copyFrom 8 = .ok (.aload_n 0, 1) := by decide +kernel
theorem dX3_copyFrom_9 : decode cX3_copyFrom 9 = .ok (.aload_n 1, 1) := by decide +kernel
theorem dX3_copyFrom_10 : decode cX3_copyFrom 10 = .ok (.getfield 15, 3) := by decide +kernel
theorem dX3_copyFrom_13 : decode cX3_copyFrom 13 = .ok (.putfield 15, 3) := by decide +kernel
theorem dX3_copyFrom_16 : decode cX3_copyFrom 16 = .ok (.aload_n 0, 1) := by decide +kernel
theorem dX3_copyFrom_17 : decode cX3_copyFrom 17 = .ok (.aload_n 1, 1) := by decide +kernel
theorem dX3_copyFrom_18 : decode cX3_copyFrom 18 = .ok (.getfield 18, 3) := by decide +kernel
theorem dX3_copyFrom_21 : decode cX3_copyFrom 21 = .ok (.putfield 18, 3) := by decide +kernel
theorem dX3_copyFrom_24 : decode cX3_copyFrom 24 = .ok (.aload_n 0, 1) := by decide +kernel
theorem dX3_copyFrom_25 : decode cX3_copyFrom 25 = .ok (.aload_n 1, 1) := by decide +kernel
theorem dX3_copyFrom_26 : decode cX3_copyFrom 26 = .ok (.getfield 21, 3) := by decide +kernel
theorem dX3_copyFrom_29 : decode cX3_copyFrom 29 = .ok (.putfield 21, 3) := by decide +kernel
theorem dX3_copyFrom_32 : decode cX3_copyFrom 32 = .ok (.return_, 1) := by decide +kernel
theorem dX4_init_0 : decode cX4_init 0 = .ok (.aload_n 0, 1) := by decide +kernel
theorem dX4_init_1 : decode cX4_init 1 = .ok (.invokespecial 3, 3) := by decide +kernel
theorem dX4_init_4 : decode cX4_init 4 = .ok (.aload_n 0, 1) := by decide +kernel
theorem dX4_init_5 : decode cX4_init 5 = .ok (.bipush 60, 2) := by decide +kernel
theorem dX4_init_7 : decode cX4_init 7 = .ok (.newarray .char, 2) := by decide +kernel
theorem dX4_init_9 : decode cX4_init 9 = .ok (.putfield 9, 3) := by decide +kernel
theorem dX4_init_12 : decode cX4_init 12 = .ok (.return_, 1) := by decide +kernel
theorem dX5_init_0 : decode cX5_init 0 = .ok (.aload_n 0, 1) := by decide +kernel
theorem dX5_init_1 : decode cX5_init 1 = .ok (.invokespecial 3, 3) := by decide +kernel
theorem dX5_init_4 : decode cX5_init 4 = .ok (.aload_n 0, 1) := by decide +kernel
theorem dX5_init_5 : decode cX5_init 5 = .ok (.bipush 12, 2) := by decide +kernel
theorem dX5_init_7 : decode cX5_init 7 = .ok (.anewarray 9, 3) := by decide +kernel
theorem dX5_init_10 : decode cX5_init 10 = .ok (.putfield 11, 3) := by decide +kernel
theorem dX5_init_13 : decode cX5_init 13 = .ok (.aload_n 0, 1) := by decide +kernel
theorem dX5_init_14 : decode cX5_init 14 = .ok (.bipush 6, 2) := by decide +kernel
theorem dX5_init_16 : decode cX5_init 16 = .ok (.anewarray 17, 3) := by decide +kernel
theorem dX5_init_19 : decode cX5_init 19 = .ok (.putfield 19, 3) := by decide +kernel
theorem dX5_init_22 : decode cX5_init 22 = .ok (.aload_n 0, 1) := by decide +kernel
theorem dX5_init_23 : decode cX5_init 23 = .ok (.iconst 4, 1) := by decide +kernel
theorem dX5_init_24 : decode cX5_init 24 = .ok (.newarray .int, 2) := by decide +kernel
theorem dX5_init_26 : decode cX5_init 26 = .ok (.putfield 23, 3) := by decide +kernel
theorem dX5_init_29 : decode cX5_init 29 = .ok (.aload_n 0, 1) := by decide +kernel
theorem dX5_init_30 : decode cX5_init 30 = .ok (.iconst 4, 1) := by decide +kernel
theorem dX5_init_31 : decode cX5_init 31 = .ok (.newarray .int, 2) := by decide +kernel
theorem dX5_init_33 : decode cX5_init 33 = .ok (.dup, 1) := by decide +kernel
theorem dX5_init_34 : decode cX5_init 34 = .ok (.iconst 0, 1) := by decide +kernel
theorem dX5_init_35 : decode cX5_init 35 = .ok (.iconst 2, 1) := by decide +kernel
theorem dX5_init_36 : decode cX5_init 36 = .ok (.iastore, 1) := by decide +kernel
theorem dX5_init_37 : decode cX5_init 37 = .ok (.dup, 1) := by decide +kernel
theorem dX5_init_38 : decode cX5_init 38 = .ok (.iconst 1, 1) := by decide +kernel
theorem dX5_init_39 : decode cX5_init 39 = .ok (.iconst 2, 1) := by decide +kernel
theorem dX5_init_40 : decode cX5_init 40 = .ok (.iastore, 1) := by decide +kernel
theorem dX5_init_41 : decode cX5_init 41 = .ok (.dup, 1) := by decide +kernel
theorem dX5_init_42 : decode cX5_init 42 = .ok (.iconst 2, 1) := by decide +kernel
theorem dX5_init_43 : decode cX5_init 43 = .ok (.iconst 4, 1) := by decide +kernel
theorem dX5_init_44 : decode cX5_init 44 = .ok (.iastore, 1) := by decide +kernel
theorem dX5_init_45 : decode cX5_init 45 = .ok (.dup, 1) := by decide +kernel
theorem dX5_init_46 : decode cX5_init 46 = .ok (.iconst 3, 1) := by decide +kernel
theorem dX5_init_47 : decode cX5_init 47 = .ok (.iconst 1, 1) := by decide +kernel
theorem dX5_init_48 : decode cX5_init 48 = .ok (.iastore, 1) := by decide +kernel
theorem dX5_init_49 : decode cX5_init 49 = .ok (.putfield 27, 3) := by decide +kernel
theorem dX5_init_52 : decode cX5_init 52 = .ok (.aload_n 0, 1) := by decide +kernel
theorem dX5_init_53 : decode cX5_init 53 = .ok (.iconst (-1), 1) := by decide +kernel
theorem dX5_init_54 : decode cX5_init 54 = .ok (.putfield 30, 3) := by decide +kernel
theorem dX5_init_57 : decode cX5_init 57 = .ok (.aload_n 0, 1) := by decide +kernel
theorem dX5_init_58 : decode cX5_init 58 = .ok (.iconst (-1), 1) := by decide +kernel
theorem dX5_init_59 : decode cX5_init 59 = .ok (.putfield 34, 3) := by decide +kernel
theorem dX5_init_62 : decode cX5_init 62 = .ok (.iconst 0, 1) := by decide +kernel
theorem dX5_init_63 : decode cX5_init 63 = .ok (.istore_n 1, 1) := by decide +kernel
theorem dX5_init_64 : decode cX5_init 64 = .ok (.iload_n 1, 1) := by decide +kernel
theorem dX5_init_65 : decode cX5_init 65 = .ok (.bipush 12, 2) := by decide +kernel
theorem dX5_init_67 : decode cX5_init 67 = .ok (.if_icmp .ge 22, 3) := by decide +kernel
theorem dX5_init_70 : decode cX5_init 70 = .ok (.aload_n 0, 1) := by decide +kernel
theorem dX5_init_71 : decode cX5_init 71 = .ok (.getfield 11, 3) := by decide +kernel
theorem dX5_init_74 : decode cX5_init 74 = .ok (.iload_n 1, 1) := by decide +kernel
theorem dX5_init_75 : decode cX5_init 75 = .ok (.new 9, 3) := by decide +kernel
theorem dX5_init_78 : decode cX5_init 78 = .ok (.dup, 1) := by decide +kernel
theorem dX5_init_79 : decode cX5_init 79 = .ok (.invokespecial 37, 3) := by decide +kernel
theorem dX5_init_82 : decode cX5_init 82 = .ok (.aastore, 1) := by decide +kernel
theorem dX5_init_83 : decode cX5_init 83 = .ok (.iinc 1 1, 3) := by decide +kernel
theorem dX5_init_86 : decode cX5_init 86 = .ok (.goto (-22), 3) := by decide +kernel
theorem dX5_init_89 : decode cX5_init 89 = .ok (.iconst 0, 1) := by decide +kernel
theorem dX5_init_90 : decode cX5_init 90 = .ok (.istore_n 1, 1) := by decide +kernel
theorem dX5_init_91 : decode cX5_init 91 = .ok (.iload_n 1, 1) := by decide +kernel
theorem dX5_init_92 : decode cX5_init 92 = .ok (.bipush 6, 2) := by decide +kernel
theorem dX5_init_94 : decode cX5_init 94 = .ok (.if_icmp .ge 22, 3) := by decide +kernel
theorem dX5_init_97 : decode cX5_init 97 = .ok (.aload_n 0, 1) := by decide +kernel
theorem dX5_init_98 : decode cX5_init 98 = .ok (.getfield 19, 3) := by decide +kernel
theorem dX5_init_101 : decode cX5_init 101 = .ok (.iload_n 1, 1) := by decide +kernel
theorem dX5_init_102 : decode cX5_init 102 = .ok (.new 17, 3) := by decide +kernel
theorem dX5_init_105 : decode cX5_init 105 = .ok (.dup, 1) := by decide +kernel
theorem dX5_init_106 : decode cX5_init 106 = .ok (.invokespecial 38, 3) := by decide +kernel
theorem dX5_init_109 : decode cX5_init 109 = .ok (.aastore, 1) := by decide +kernel
theorem dX5_init_110 : decode cX5_init 110 = .ok (.iinc 1 1, 3) := by decide +kernel
theorem dX5_init_113 : decode cX5_init 113 = .ok (.goto (-22), 3) := by decide +kernel
theorem dX5_init_116 : decode cX5_init 116 = .ok (.return_, 1) := by decide +kernel
theorem dX5_copyFrom_0 : decode cX5_copyFrom 0 = .ok (.aload_n 0, 1) := by decide +kernel
theorem dX5_copyFrom_1 : decode cX5_copyFrom 1 = .ok (.aload_n 1, 1) := by decide +kernel
theorem dX5_copyFrom_2 : decode cX5_copyFrom 2 = .ok (.getfield 39, 3) := by decide +kernel
theorem dX5_copyFrom_5 : decode cX5_copyFrom 5 = .ok (.putfield 39, 3) := by decide +kernel
theorem dX5_copyFrom_8 : decode cX5_copyFrom 8 = .ok (.iconst 0, 1) := by decide +kernel
theorem dX5_copyFrom_9 : decode cX5_copyFrom 9 = .ok (.istore_n 2, 1) := by decide +kernel
theorem dX5_copyFrom_10 : decode cX5_copyFrom 10 = .ok (.iload_n 2, 1) := by decide +kernel
theorem dX5_copyFrom_11 : decode cX5_copyFrom 11 = .ok (.aload_n 0, 1) := by decide +kernel
theorem dX5_copyFrom_12 : decode cX5_copyFrom 12 = .ok (.getfield 39, 3) := by decide +kernel
theorem dX5_copyFrom_15 : decode cX5_copyFrom 15 = .ok (.if_icmp .ge 30, 3) := by decide +kernel
theorem dX5_copyFrom_18 : decode cX5_copyFrom 18 = .ok (.iload_n 2, 1) := by decide +kernel
theorem dX5_copyFrom_19 : decode cX5_copyFrom 19 = .ok (.bipush 12, 2) := by decide +kernel
theorem dX5_copyFrom_21 : decode cX5_copyFrom 21 = .ok (.if_icmp .ge 24, 3) := by decide +kernel
theorem dX5_copyFrom_24 : decode cX5_copyFrom 24 = .ok (.aload_n 0, 1) := by decide +kernel
theorem dX5_copyFrom_25 : decode cX5_copyFrom 25 = .ok (.getfield 11, 3) := by decide +kernel
theorem dX5_copyFrom_28 : decode cX5_copyFrom 28 = .ok (.iload_n 2, 1) := by decide +kernel
theorem dX5_copyFrom_29 : decode cX5_copyFrom 29 = .ok (.aaload, 1) := by decide +kernel
theorem dX5_copyFrom_30 : decode cX5_copyFrom 30 = .ok (.aload_n 1, 1) := by decide +kernel
theorem dX5_copyFrom_31 : decode cX5_copyFrom 31 = .ok (.getfield 11, 3) := by decide +kernel
theorem dX5_copyFrom_34 : decode cX5_copyFrom 34 = .ok (.iload_n 2, 1) := by decide +kernel
theorem dX5_copyFrom_35 : decode cX5_copyFrom 35 = .ok (.aaload, 1) := by decide +kernel
theorem dX5_copyFrom_36 : decode cX5_copyFrom 36 = .ok (.invokevirtual 42, 3) := by decide +kernel
theorem dX5_copyFrom_39 : decode cX5_copyFrom 39 = .ok (.iinc 2 1, 3) := by decide +kernel
theorem dX5_copyFrom_42 : decode cX5_copyFrom 42 = .ok (.goto (-32), 3) := by decide +kernel
theorem dX5_copyFrom_45 : decode cX5_copyFrom 45 = .ok (.iconst 0, 1) := by decide +kernel
theorem dX5_copyFrom_46 : decode cX5_copyFrom 46 = .ok (.istore_n 2, 1) := by decide +kernel
theorem dX5_copyFrom_47 : decode cX5_copyFrom 47 = .ok (.iload_n 2, 1) := by decide +kernel
theorem dX5_copyFrom_48 : decode cX5_copyFrom 48 = .ok (.bipush 6, 2) := by decide +kernel
theorem dX5_copyFrom_50 : decode cX5_copyFrom 50 = .ok (.if_icmp .ge 24, 3) := by decide +kernel
theorem dX5_copyFrom_53 : decode cX5_copyFrom 53 = .ok (.aload_n 0, 1) := by decide +kernel
theorem dX5_copyFrom_54 : decode cX5_copyFrom 54 = .ok (.getfield 19, 3) := by decide +kernel
theorem dX5_copyFrom_57 : decode cX5_copyFrom 57 = .ok (.iload_n 2, 1) := by decide +kernel
theorem dX5_copyFrom_58 : decode cX5_copyFrom 58 = .ok (.aaload, 1) := by decide +kernel
theorem dX5_copyFrom_59 : decode cX5_copyFrom 59 = .ok (.aload_n 1, 1) := by decide +kernel
theorem dX5_copyFrom_60 : decode cX5_copyFrom 60 = .ok (.getfield 19, 3) := by decide +kernel
theorem dX5_copyFrom_63 : decode cX5_copyFrom 63 = .ok (.iload_n 2, 1) := by decide +kernel
theorem dX5_copyFrom_64 : decode cX5_copyFrom 64 = .ok (.aaload, 1) := by decide +kernel
theorem dX5_copyFrom_65 : decode cX5_copyFrom 65 = .ok (.invokevirtual 46, 3) := by decide +kernel
theorem dX5_copyFrom_68 : decode cX5_copyFrom 68 = .ok (.iinc 2 1, 3) := by decide +kernel
theorem dX5_copyFrom_71 : decode cX5_copyFrom 71 = .ok (.goto (-24), 3) := by decide +kernel
theorem dX5_copyFrom_74 : decode cX5_copyFrom 74 = .ok (.aload_n 1, 1) := by decide +kernel
theorem dX5_copyFrom_75 : decode cX5_copyFrom 75 = .ok (.getfield 23, 3) := by decide +kernel
theorem dX5_copyFrom_78 : decode cX5_copyFrom 78 = .ok (.iconst 0, 1) := by decide +kernel
theorem dX5_copyFrom_79 : decode cX5_copyFrom 79 = .ok (.aload_n 0, 1) := by decide +kernel
theorem dX5_copyFrom_80 : decode cX5_copyFrom 80 = .ok (.getfield 23, 3) := by decide +kernel
theorem dX5_copyFrom_83 : decode cX5_copyFrom 83 = .ok (.iconst 0, 1) := by decide +kernel
theorem dX5_copyFrom_84 : decode cX5_copyFrom 84 = .ok (.iconst 4, 1) := by decide +kernel
theorem dX5_copyFrom_85 : decode cX5_copyFrom 85 = .ok (.invokestatic 49, 3) := by decide +kernel
theorem dX5_copyFrom_88 : decode cX5_copyFrom 88 = .ok (.aload_n 1, 1) := by decide +kernel
theorem dX5_copyFrom_89 : decode cX5_copyFrom 89 = .ok (.getfield 27, 3) := by decide +kernel
theorem dX5_copyFrom_92 : decode cX5_copyFrom 92 = .ok (.iconst 0, 1) := by decide +kernel
theorem dX5_copyFrom_93 : decode cX5_copyFrom 93 = .ok (.aload_n 0, 1) := by decide +kernel
theorem dX5_copyFrom_94 : decode cX5_copyFrom 94 = .ok (.getfield 27, 3) := by decide +kernel
theorem dX5_copyFrom_97 : decode cX5_copyFrom 97 = .ok (.iconst 0, 1) := by decide +kernel
theorem dX5_copyFrom_98 : decode cX5_copyFrom 98 = .ok (.iconst 4, 1) := by decide +kernel
theorem dX5_copyFrom_99 : decode cX5_copyFrom 99 = .ok (.invokestatic 49, 3) := by decide +kernel
theorem dX5_copyFrom_102 : decode cX5_copyFrom 102 = .ok (.aload_n 0, 1) := by decide +kernel
theorem dX5_copyFrom_103 : decode cX5_copyFrom 103 = .ok (.aload_n 1, 1) := by decide +kernel
theorem dX5_copyFrom_104 : decode cX5_copyFrom 104 = .ok (.getfield 55, 3) := by decide +kernel
theorem dX5_copyFrom_107 : decode cX5_copyFrom 107 = .ok (.putfield 55, 3) := by decide +kernel
theorem dX5_copyFrom_110 : decode cX5_copyFrom 110 = .ok (.aload_n 0, 1) := by decide +kernel
theorem dX5_copyFrom_111 : decode cX5_copyFrom 111 = .ok (.aload_n 1, 1) := by decide +kernel
theorem dX5_copyFrom_112 : decode cX5_copyFrom 112 = .ok (.getfield 58, 3) := by decide +kernel
theorem dX5_copyFrom_115 : decode cX5_copyFrom 115 = .ok (.putfield 58, 3) := by decide +kernel
theorem dX5_copyFrom_118 : decode cX5_copyFrom 118 = .ok (.aload_n 0, 1) := by decide +kernel
theorem dX5_copyFrom_119 : decode cX5_copyFrom 119 = .ok (.aload_n 1, 1) := by decide +kernel
theorem dX5_copyFrom_120 : decode cX5_copyFrom 120 = .ok (.getfield 61, 3) := by decide +kernel
theorem dX5_copyFrom_123 : decode cX5_copyFrom 123 = .ok (.putfield 61, 3) := by decide +kernel
theorem dX5_copyFrom_126 : decode cX5_copyFrom 126 = .ok (.aload_n 0, 1) := by decide +kernel
theorem dX5_copyFrom_127 : decode cX5_copyFrom 127 = .ok (.aload_n 1, 1) := by decide +kernel
theorem dX5_copyFrom_128 : decode cX5_copyFrom 128 = .ok (.getfield 64, 3) := by decide +kernel
theorem dX5_copyFrom_131 : decode cX5_copyFrom 131 = .ok (.putfield 64, 3) := by decide +kernel
theorem dX5_copyFrom_134 : decode cX5_copyFrom 134 = .ok (.aload_n 0, 1) := by decide +kernel
theorem dX5_copyFrom_135 : decode cX5_copyFrom 135 = .ok (.aload_n 1, 1) := by decide +kernel
theorem dX5_copyFrom_136 : decode cX5_copyFrom 136 = .ok (.getfield 67, 3) := by decide +kernel
theorem dX5_copyFrom_139 : decode cX5_copyFrom 139 = .ok (.putfield 67, 3) := by decide +kernel
theorem dX5_copyFrom_142 : decode cX5_copyFrom 142 = .ok (.aload_n 0, 1) := by decide +kernel
theorem dX5_copyFrom_143 : decode cX5_copyFrom 143 = .ok (.aload_n 1, 1) := by decide +kernel
theorem dX5_copyFrom_144 : decode cX5_copyFrom 144 = .ok (.getfield 30, 3) := by decide +kernel
theorem dX5_copyFrom_147 : decode cX5_copyFrom 147 = .ok (.putfield 30, 3) := by decide +kernel
theorem dX5_copyFrom_150 : decode cX5_copyFrom 150 = .ok (.aload_n 0, 1) := by decide +kernel
theorem dX5_copyFrom_151 : decode cX5_copyFrom 151 = .ok (.aload_n 1, 1) := by decide +kernel
theorem dX5_copyFrom_152 : decode cX5_copyFrom 152 = .ok (.getfield 34, 3) := by decide +kernel
theorem dX5_copyFrom_155 : decode cX5_copyFrom 155 = .ok (.putfield 34, 3) := by decide +kernel
theorem dX5_copyFrom_158 : decode cX5_copyFrom 158 = .ok (.return_, 1) := by decide +kernel
theorem dJ6_bitCount_0f7a4_0 : decode cJ6_bitCount_0f7a4 0 = .ok (.iload_n 0, 1) := by decide +kernel
theorem dJ6_bitCount_0f7a4_1 : decode cJ6_bitCount_0f7a4 1 = .ok (.iload_n 0, 1) := by decide +kernel
theorem dJ6_bitCount_0f7a4_2 : decode cJ6_bitCount_0f7a4 2 = .ok (.iconst 1, 1) := by decide +kernel
theorem dJ6_bitCount_0f7a4_3 : decode cJ6_bitCount_0f7a4 3 = .ok (.iushr, 1) := by decide +kernel
theorem dJ6_bitCount_0f7a4_4 : decode cJ6_bitCount_0f7a4 4 = .ok (.ldc_w 265, 3) := by decide +kernel
theorem dJ6_bitCount_0f7a4_7 : decode cJ6_bitCount_0f7a4 7 = .ok (.iand, 1) := by decide +kernel
theorem dJ6_bitCount_0f7a4_8 : decode cJ6_bitCount_0f7a4 8 = .ok (.isub, 1) := by decide +kernel
theorem dJ6_bitCount_0f7a4_9 : decode cJ6_bitCount_0f7a4 9 = .ok (.istore_n 0, 1) := by decide +kernel
theorem dJ6_bitCount_0f7a4_10 : decode cJ6_bitCount_0f7a4 10 = .ok (.iload_n 0, 1) := by decide +kernel
theorem dJ6_bitCount_0f7a4_11 : decode cJ6_bitCount_0f7a4 11 = .ok (.ldc_w 266, 3) := by decide +kernel
theorem dJ6_bitCount_0f7a4_14 : decode cJ6_bitCount_0f7a4 14 = .ok (.iand, 1) := by decide +kernel
theorem dJ6_bitCount_0f7a4_15 : decode cJ6_bitCount_0f7a4 15 = .ok (.iload_n 0, 1) := by decide +kernel
theorem dJ6_bitCount_0f7a4_16 : decode cJ6_bitCount_0f7a4 16 = .ok (.iconst 2, 1) := by decide +kernel
theorem dJ6_bitCount_0f7a4_17 : decode cJ6_bitCount_0f7a4 17 = .ok (.iushr, 1) := by decide +kernel
theorem dJ6_bitCount_0f7a4_18 : decode cJ6_bitCount_0f7a4 18 = .ok (.ldc_w 266, 3) := by decide +kernel
theorem dJ6_bitCount_0f7a4_21 : decode cJ6_bitCount_0f7a4 21 = .ok (.iand, 1) := by decide +kernel
theorem dJ6_bitCount_0f7a4_22 : decode cJ6_bitCount_0f7a4 22 = .ok (.iadd, 1) := by decide +kernel
theorem dJ6_bitCount_0f7a4_23 : decode cJ6_bitCount_0f7a4 23 = .ok (.istore_n 0, 1) := by decide +kernel
theorem dJ6_bitCount_0f7a4_24 : decode cJ6_bitCount_0f7a4 24 = .ok (.iload_n 0, 1) := by decide +kernel
theorem dJ6_bitCount_0f7a4_25 : decode cJ6_bitCount_0f7a4 25 = .ok (.iload_n 0, 1) := by decide +kernel
theorem dJ6_bitCount_0f7a4_26 : decode cJ6_bitCount_0f7a4 26 = .ok (.iconst 4, 1) := by decide +kernel
theorem dJ6_bitCount_0f7a4_27 : decode cJ6_bitCount_0f7a4 27 = .ok (.iushr, 1) := by decide +kernel
theorem dJ6_bitCount_0f7a4_28 : decode cJ6_bitCount_0f7a4 28 = .ok (.iadd, 1) := by decide +kernel
theorem dJ6_bitCount_0f7a4_29 : decode cJ6_bitCount_0f7a4 29 = .ok (.ldc_w 267, 3) := by decide +kernel
theorem dJ6_bitCount_0f7a4_32 : decode cJ6_bitCount_0f7a4 32 = .ok (.iand, 1) := by decide +kernel
theorem dJ6_bitCount_0f7a4_33 : decode cJ6_bitCount_0f7a4 33 = .ok (.istore_n 0, 1) := by decide +kernel
theorem dJ6_bitCount_0f7a4_34 : decode cJ6_bitCount_0f7a4 34 = .ok (.iload_n 0, 1) := by decide +kernel
theorem dJ6_bitCount_0f7a4_35 : decode cJ6_bitCount_0f7a4 35 = .ok (.iload_n 0, 1) := by decide +kernel
theorem dJ6_bitCount_0f7a4_36 : decode cJ6_bitCount_0f7a4 36 = .ok (.bipush 8, 2) := by decide +kernel
theorem dJ6_bitCount_0f7a4_38 : decode cJ6_bitCount_0f7a4 38 = .ok (.iushr, 1) := by decide +kernel
theorem dJ6_bitCount_0f7a4_39 : decode cJ6_bitCount_0f7a4 39 = .ok (.iadd, 1) := by decide +kernel
theorem dJ6_bitCount_0f7a4_40 : decode cJ6_bitCount_0f7a4 40 = .ok (.istore_n 0, 1) := by decide +kernel
theorem dJ6_bitCount_0f7a4_41 : decode cJ6_bitCount_0f7a4 41 = .ok (.iload_n 0, 1) := by decide +kernel
theorem dJ6_bitCount_0f7a4_42 : decode cJ6_bitCount_0f7a4 42 = .ok (.iload_n 0, 1) := by decide +kernel
theorem dJ6_bitCount_0f7a4_43 : decode cJ6_bitCount_0f7a4 43 = .ok (.bipush 16, 2) := by decide +kernel
theorem dJ6_bitCount_0f7a4_45 : decode cJ6_bitCount_0f7a4 45 = .ok (.iushr, 1) := by decide +kernel
theorem dJ6_bitCount_0f7a4_46 : decode cJ6_bitCount_0f7a4 46 = .ok (.iadd, 1) := by decide +kernel
theorem dJ6_bitCount_0f7a4_47 : decode cJ6_bitCount_0f7a4 47 = .ok (.istore_n 0, 1) := by decide +kernel
theorem dJ6_bitCount_0f7a4_48 : decode cJ6_bitCount_0f7a4 48 = .ok (.iload_n 0, 1) := by decide +kernel
theorem dJ6_bitCount_0f7a4_49 : decode cJ6_bitCount_0f7a4 49 = .ok (.bipush 63, 2) := by decide +kernel
theorem dJ6_bitCount_0f7a4_51 : decode cJ6_bitCount_0f7a4 51 = .ok (.iand, 1) := by decide +kernel
theorem dJ6_bitCount_0f7a4_52 : decode cJ6_bitCount_0f7a4 52 = .ok (.ireturn, 1) := by decide +kernel
theorem dJ9_abs_0f7a4_0 : decode cJ9_abs_0f7a4 0 = .ok (.iload_n 0, 1) := by decide +kernel
theorem dJ9_abs_0f7a4_1 : decode cJ9_abs_0f7a4 1 = .ok (.ifCond .ge 8, 3) := by decide +kernel
theorem dJ9_abs_0f7a4_4 : decode cJ9_abs_0f7a4 4 = .ok (.iload_n 0, 1) := by decide +kernel
theorem dJ9_abs_0f7a4_5 : decode cJ9_abs_0f7a4 5 = .ok (.ineg, 1) := by decide +kernel
theorem dJ9_abs_0f7a4_6 : decode cJ9_abs_0f7a4 6 = .ok (.goto 4, 3) := by decide +kernel
theorem dJ9_abs_0f7a4_9 : decode cJ9_abs_0f7a4 9 = .ok (.iload_n 0, 1) := by decide +kernel
theorem dJ9_abs_0f7a4_10 : decode cJ9_abs_0f7a4 10 = .ok (.ireturn, 1) := by decide +kernel
theorem dJ9_max_7cf53_0 : decode cJ9_max_7cf53 0 = .ok (.iload_n 0, 1) := by decide +kernel
theorem dJ9_max_7cf53_1 : decode cJ9_max_7cf53 1 = .ok (.iload_n 1, 1) := by decide +kernel
theorem dJ9_max_7cf53_2 : decode cJ9_max_7cf53 2 = .ok (.if_icmp .lt 7, 3) := by decide +kernel
theorem dJ9_max_7cf53_5 : decode cJ9_max_7cf53 5 = .ok (.iload_n 0, 1) := by decide +kernel
theorem dJ9_max_7cf53_6 : decode cJ9_max_7cf53 6 = .ok (.goto 4, 3) := by decide +kernel
theorem dJ9_max_7cf53_9 : decode cJ9_max_7cf53 9 = .ok (.iload_n 1, 1) := by decide +kernel
theorem dJ9_max_7cf53_10 : decode cJ9_max_7cf53 10 = .ok (.ireturn, 1) := by decide +kernel
theorem dJ7_fill_53178_0 : decode cJ7_fill_53178 0 = .ok (.iconst 0, 1) := by decide +kernel
theorem dJ7_fill_53178_1 : decode cJ7_fill_53178 1 = .ok (.istore_n 2, 1) := by decide +kernel
theorem dJ7_fill_53178_2 : decode cJ7_fill_53178 2 = .ok (.aload_n 0, 1) := by decide +kernel
theorem dJ7_fill_53178_3 : decode cJ7_fill_53178 3 = .ok (.arraylength, 1) := by decide +kernel
theorem dJ7_fill_53178_4 : decode cJ7_fill_53178 4 = .ok (.istore_n 3, 1) := by decide +kernel
theorem dJ7_fill_53178_5 : decode cJ7_fill_53178 5 = .ok (.iload_n 2, 1) := by decide +kernel
theorem dJ7_fill_53178_6 : decode cJ7_fill_53178 6 = .ok (.iload_n 3, 1) := by decide +kernel
theorem dJ7_fill_53178_7 : decode cJ7_fill_53178 7 = .ok (.if_icmp .ge 13, 3) := by decide +kernel
theorem dJ7_fill_53178_10 : decode cJ7_fill_53178 10 = .ok (.aload_n 0, 1) := by decide +kernel
theorem dJ7_fill_53178_11 : decode cJ7_fill_53178 11 = .ok (.iload_n 2, 1) := by decide +kernel
theorem dJ7_fill_53178_12 : decode cJ7_fill_53178 12 = .ok (.iload_n 1, 1) := by decide +kernel
theorem dJ7_fill_53178_13 : decode cJ7_fill_53178 13 = .ok (.iastore, 1) := by decide +kernel
theorem dJ7_fill_53178_14 : decode cJ7_fill_53178 14 = .ok (.iinc 2 1, 3) := by decide +kernel
theorem dJ7_fill_53178_17 : decode cJ7_fill_53178 17 = .ok (.goto (-12), 3) := by decide +kernel
theorem dJ7_fill_53178_20 : decode cJ7_fill_53178 20 = .ok (.return_, 1) := by decide +kernel
end
section
theorem dX6_init_0 : decode cX6_init 0 = .ok (.aload_n 0, 1) := by decide +kernel
theorem dX6_init_1 : decode cX6_init 1 = .ok (.invokespecial 1, 3) := by decide +kernel
theorem dX6_init_4 : decode cX6_init 4 = .ok (.aload_n 0, 1) := by decide +kernel
theorem dX6_init_5 : decode cX6_init 5 = .ok (.new 7, 3) := by decide +kernel
theorem dX6_init_8 : decode cX6_init 8 = .ok (.dup, 1) := by decide +kernel
theorem dX6_init_9 : decode cX6_init 9 = .ok (.invokespecial 9, 3) := by decide +kernel
theorem dX6_init_12 : decode cX6_init 12 = .ok (.putfield 10, 3) := by decide +kernel
theorem dX6_init_15 : decode cX6_init 15 = .ok (.aload_n 0, 1) := by decide +kernel
theorem dX6_init_16 : decode cX6_init 16 = .ok (.new 16, 3) := by decide +kernel
theorem dX6_init_19 : decode cX6_init 19 = .ok (.dup, 1) := by decide +kernel
theorem dX6_init_20 : decode cX6_init 20 = .ok (.invokespecial 18, 3) := by decide +kernel
theorem dX6_init_23 : decode cX6_init 23 = .ok (.putfield 19, 3) := by decide +kernel
theorem dX6_init_26 : decode cX6_init 26 = .ok (.aload_n 0, 1) := by decide +kernel
theorem dX6_init_27 : decode cX6_init 27 = .ok (.new 16, 3) := by decide +kernel
theorem dX6_init_30 : decode cX6_init 30 = .ok (.dup, 1) := by decide +kernel
theorem dX6_init_31 : decode cX6_init 31 = .ok (.invokespecial 18, 3) := by decide +kernel
theorem dX6_init_34 : decode cX6_init 34 = .ok (.putfield 23, 3) := by decide +kernel
theorem dX6_init_37 : decode cX6_init 37 = .ok (.aload_n 0, 1) := by decide +kernel
theorem dX6_init_38 : decode cX6_init 38 = .ok (.bipush 6, 2) := by decide +kernel
theorem dX6_init_40 : decode cX6_init 40 = .ok (.anewarray 16, 3) := by decide +kernel
theorem dX6_init_43 : decode cX6_init 43 = .ok (.putfield 26, 3) := by decide +kernel
theorem dX6_init_46 : decode cX6_init 46 = .ok (.aload_n 0, 1) := by decide +kernel
theorem dX6_init_47 : decode cX6_init 47 = .ok (.iconst 5, 1) := by decide +kernel
theorem dX6_init_48 : decode cX6_init 48 = .ok (.putfield 30, 3) := by decide +kernel
theorem dX6_init_51 : decode cX6_init 51 = .ok (.aload_n 0, 1) := by decide +kernel
theorem dX6_init_52 : decode cX6_init 52 = .ok (.new 34, 3) := by decide +kernel
theorem dX6_init_55 : decode cX6_init 55 = .ok (.dup, 1) := by decide +kernel
theorem dX6_init_56 : decode cX6_init 56 = .ok (.invokespecial 36, 3) := by decide +kernel
theorem dX6_init_59 : decode cX6_init 59 = .ok (.putfield 37, 3) := by decide +kernel
theorem dX6_init_62 : decode cX6_init 62 = .ok (.aload_n 0, 1) := by decide +kernel
theorem dX6_init_63 : decode cX6_init 63 = .ok (.new 41, 3) := by decide +kernel
theorem dX6_init_66 : decode cX6_init 66 = .ok (.dup, 1) := by decide +kernel
theorem dX6_init_67 : decode cX6_init 67 = .ok (.aload_n 0, 1) := by decide +kernel
theorem dX6_init_68 : decode cX6_init 68 = .ok (.getfield 37, 3) := by decide +kernel
theorem dX6_init_71 : decode cX6_init 71 = .ok (.invokespecial 43, 3) := by decide +kernel
theorem dX6_init_74 : decode cX6_init 74 = .ok (.putfield 46, 3) := by decide +kernel
theorem dX6_init_77 : decode cX6_init 77 = .ok (.iconst 0, 1) := by decide +kernel
theorem dX6_init_78 : decode cX6_init 78 = .ok (.istore_n 1, 1) := by decide +kernel
theorem dX6_init_79 : decode cX6_init 79 = .ok (.iload_n 1, 1) := by decide +kernel
theorem dX6_init_80 : decode cX6_init 80 = .ok (.bipush 6, 2) := by decide +kernel
theorem dX6_init_82 : decode cX6_init 82 = .ok (.if_icmp .ge 22, 3) := by decide +kernel
theorem dX6_init_85 : decode cX6_init 85 = .ok (.aload_n 0, 1) := by decide +kernel
theorem dX6_init_86 : decode cX6_init 86 = .ok (.getfield 26, 3) := by decide +kernel
theorem dX6_init_89 : decode cX6_init 89 = .ok (.iload_n 1, 1) := by decide +kernel
theorem dX6_init_90 : decode cX6_init 90 = .ok (.new 16, 3) := by decide +kernel
theorem dX6_init_93 : decode cX6_init 93 = .ok (.dup, 1) := by decide +kernel
theorem dX6_init_94 : decode cX6_init 94 = .ok (.invokespecial 18, 3) := by decide +kernel
theorem dX6_init_97 : decode cX6_init 97 = .ok (.aastore, 1) := by decide +kernel
theorem dX6_init_98 : decode cX6_init 98 = .ok (.iinc 1 1, 3) := by decide +kernel
theorem dX6_init_101 : decode cX6_init 101 = .ok (.goto (-22), 3) := by decide +kernel
theorem dX6_init_104 : decode cX6_init 104 = .ok (.return_, 1) := by decide +kernel
theorem dX6_cut_0 : decode cX6_cut 0 = .ok (.iload_n 1, 1) := by decide +kernel
theorem dX6_cut_1 : decode cX6_cut 1 = .ok (.invokestatic 50, 3) := by decide +kernel
theorem dX6_cut_4 : decode cX6_cut 4 = .ok (.ifCond .eq 10, 3) := by decide +kernel
theorem dX6_cut_7 : decode cX6_cut 7 = .ok (.iload_n 2, 1) := by decide +kernel
theorem dX6_cut_8 : decode cX6_cut 8 = .ok (.invokestatic 54, 3) := by decide +kernel
theorem dX6_cut_11 : decode cX6_cut 11 = .ok (.ifCond .ne 13, 3) := by decide +kernel
theorem dX6_cut_14 : decode cX6_cut 14 = .ok (.new 57, 3) := by decide +kernel
theorem dX6_cut_17 : decode cX6_cut 17 = .ok (.dup, 1) := by decide +kernel
theorem dX6_cut_18 : decode cX6_cut 18 = .ok (.ldc 59, 2) := by decide +kernel
theorem dX6_cut_20 : decode cX6_cut 20 = .ok (.invokespecial 61, 3) := by decide +kernel
theorem dX6_cut_23 : decode cX6_cut 23 = .ok (.athrow, 1) := by decide +kernel
theorem dX6_cut_24 : decode cX6_cut 24 = .ok (.aload_n 0, 1) := by decide +kernel
theorem dX6_cut_25 : decode cX6_cut 25 = .ok (.iload_n 1, 1) := by decide +kernel
theorem dX6_cut_26 : decode cX6_cut 26 = .ok (.invokevirtual 64, 3) := by decide +kernel
theorem dX6_cut_29 : decode cX6_cut 29 = .ok (.ifCond .eq 13, 3) := by decide +kernel
theorem dX6_cut_32 : decode cX6_cut 32 = .ok (.new 68, 3) := by decide +kernel
theorem dX6_cut_35 : decode cX6_cut 35 = .ok (.dup, 1) := by decide +kernel
theorem dX6_cut_36 : decode cX6_cut 36 = .ok (.ldc 70, 2) := by decide +kernel
theorem dX6_cut_38 : decode cX6_cut 38 = .ok (.invokespecial 72, 3) := by decide +kernel
theorem dX6_cut_41 : decode cX6_cut 41 = .ok (.athrow, 1) := by decide +kernel
theorem dX6_cut_42 : decode cX6_cut 42 = .ok (.aload_n 0, 1) := by decide +kernel
theorem dX6_cut_43 : decode cX6_cut 43 = .ok (.invokevirtual 73, 3) := by decide +kernel
theorem dX6_cut_46 : decode cX6_cut 46 = .ok (.aload_n 0, 1) := by decide +kernel
theorem dX6_cut_47 : decode cX6_cut 47 = .ok (.iload_n 1, 1) := by decide +kernel
theorem dX6_cut_48 : decode cX6_cut 48 = .ok (.iload_n 2, 1) := by decide +kernel
theorem dX6_cut_49 : decode cX6_cut 49 = .ok (.invokevirtual 76, 3) := by decide +kernel
theorem dX6_cut_52 : decode cX6_cut 52 = .ok (.aload_n 0, 1) := by decide +kernel
theorem dX6_cut_53 : decode cX6_cut 53 = .ok (.getfield 19, 3) := by decide +kernel
theorem dX6_cut_56 : decode cX6_cut 56 = .ok (.getfield 80, 3) := by decide +kernel
theorem dX6_cut_59 : decode cX6_cut 59 = .ok (.iconst 1, 1) := by decide +kernel
theorem dX6_cut_60 : decode cX6_cut 60 = .ok (.isub, 1) := by decide +kernel
theorem dX6_cut_61 : decode cX6_cut 61 = .ok (.ireturn, 1) := by decide +kernel
theorem dX6_deepen_0 : decode cX6_deepen 0 = .ok (.aload_n 0, 1) := by decide +kernel
theorem dX6_deepen_1 : decode cX6_deepen 1 = .ok (.iload_n 1, 1) := by decide +kernel
theorem dX6_deepen_2 : decode cX6_deepen 2 = .ok (.invokevirtual 83, 3) := by decide +kernel
theorem dX6_deepen_5 : decode cX6_deepen 5 = .ok (.ifCond .eq 10, 3) := by decide +kernel
theorem dX6_deepen_8 : decode cX6_deepen 8 = .ok (.iload_n 2, 1) := by decide +kernel
theorem dX6_deepen_9 : decode cX6_deepen 9 = .ok (.invokestatic 86, 3) := by decide +kernel
theorem dX6_deepen_12 : decode cX6_deepen 12 = .ok (.ifCond .ne 13, 3) := by decide +kernel
theorem dX6_deepen_15 : decode cX6_deepen 15 = .ok (.new 89, 3) := by decide +kernel
theorem dX6_deepen_18 : decode cX6_deepen 18 = .ok (.dup, 1) := by decide +kernel
theorem dX6_deepen_19 : decode cX6_deepen 19 = .ok (.ldc 91, 2) := by decide +kernel
theorem dX6_deepen_21 : decode cX6_deepen 21 = .ok (.invokespecial 93, 3) := by decide +kernel
theorem dX6_deepen_24 : decode cX6_deepen 24 = .ok (.athrow, 1) := by decide +kernel
theorem dX6_deepen_25 : decode cX6_deepen 25 = .ok (.aload_n 0, 1) := by decide +kernel
theorem dX6_deepen_26 : decode cX6_deepen 26 = .ok (.iload_n 1, 1) := by decide +kernel
theorem dX6_deepen_27 : decode cX6_deepen 27 = .ok (.iload_n 2, 1) := by decide +kernel
theorem dX6_deepen_28 : decode cX6_deepen 28 = .ok (.invokevirtual 94, 3) := by decide +kernel
theorem dX6_deepen_31 : decode cX6_deepen 31 = .ok (.ifCond .eq 13, 3) := by decide +kernel
theorem dX6_deepen_34 : decode cX6_deepen 34 = .ok (.new 68, 3) := by decide +kernel
theorem dX6_deepen_37 : decode cX6_deepen 37 = .ok (.dup, 1) := by decide +kernel
theorem dX6_deepen_38 : decode cX6_deepen 38 = .ok (.ldc 98, 2) := by decide +kernel
theorem dX6_deepen_40 : decode cX6_deepen 40 = .ok (.invokespecial 72, 3) := by decide +kernel
theorem dX6_deepen_43 : decode cX6_deepen 43 = .ok (.athrow, 1) := by decide +kernel
theorem dX6_deepen_44 : decode cX6_deepen 44 = .ok (.aload_n 0, 1) := by decide +kernel
theorem dX6_deepen_45 : decode cX6_deepen 45 = .ok (.invokevirtual 73, 3) := by decide +kernel
theorem dX6_deepen_48 : decode cX6_deepen 48 = .ok (.aload_n 0, 1) := by decide +kernel
theorem dX6_deepen_49 : decode cX6_deepen 49 = .ok (.iload_n 1, 1) := by decide +kernel
theorem dX6_deepen_50 : decode cX6_deepen 50 = .ok (.iload_n 2, 1) := by decide +kernel
theorem dX6_deepen_51 : decode cX6_deepen 51 = .ok (.invokevirtual 100, 3) := by decide +kernel
theorem dX6_deepen_54 : decode cX6_deepen 54 = .ok (.aload_n 0, 1) := by decide +kernel
theorem dX6_deepen_55 : decode cX6_deepen 55 = .ok (.getfield 19, 3) := by decide +kernel
theorem dX6_deepen_58 : decode cX6_deepen 58 = .ok (.getfield 103, 3) := by decide +kernel
theorem dX6_deepen_61 : decode cX6_deepen 61 = .ok (.iload_n 1, 1) := by decide +kernel
theorem dX6_deepen_62 : decode cX6_deepen 62 = .ok (.aaload, 1) := by decide +kernel
theorem dX6_deepen_63 : decode cX6_deepen 63 = .ok (.getfield 107, 3) := by decide +kernel
theorem dX6_deepen_66 : decode cX6_deepen 66 = .ok (.ireturn, 1) := by decide +kernel
theorem dX6_retire_0 : decode cX6_retire 0 = .ok (.aload_n 0, 1) := by decide +kernel
theorem dX6_retire_1 : decode cX6_retire 1 = .ok (.iload_n 1, 1) := by decide +kernel
theorem dX6_retire_2 : decode cX6_retire 2 = .ok (.invokevirtual 83, 3) := by decide +kernel
theorem dX6_retire_5 : decode cX6_retire 5 = .ok (.ifCond .ne 13, 3) := by decide +kernel
theorem dX6_retire_8 : decode cX6_retire 8 = .ok (.new 89, 3) := by decide +kernel
theorem dX6_retire_11 : decode cX6_retire 11 = .ok (.dup, 1) := by decide +kernel
theorem dX6_retire_12 : decode cX6_retire 12 = .ok (.ldc 112, 2) := by decide +kernel
theorem dX6_retire_14 : decode cX6_retire 14 = .ok (.invokespecial 93, 3) := by decide +kernel
theorem dX6_retire_17 : decode cX6_retire 17 = .ok (.athrow, 1) := by decide +kernel
theorem dX6_retire_18 : decode cX6_retire 18 = .ok (.aload_n 0, 1) := by decide +kernel
theorem dX6_retire_19 : decode cX6_retire 19 = .ok (.invokevirtual 73, 3) := by decide +kernel
theorem dX6_retire_22 : decode cX6_retire 22 = .ok (.iload_n 1, 1) := by decide +kernel
theorem dX6_retire_23 : decode cX6_retire 23 = .ok (.istore_n 2, 1) := by decide +kernel
theorem dX6_retire_24 : decode cX6_retire 24 = .ok (.iload_n 2, 1) := by decide +kernel
theorem dX6_retire_25 : decode cX6_retire 25 = .ok (.iconst 1, 1) := by decide +kernel
theorem dX6_retire_26 : decode cX6_retire 26 = .ok (.iadd, 1) := by decide +kernel
theorem dX6_retire_27 : decode cX6_retire 27 = .ok (.aload_n 0, 1) := by decide +kernel
theorem dX6_retire_28 : decode cX6_retire 28 = .ok (.getfield 19, 3) := by decide +kernel
theorem dX6_retire_31 : decode cX6_retire 31 = .ok (.getfield 80, 3) := by decide +kernel
theorem dX6_retire_34 : decode cX6_retire 34 = .ok (.if_icmp .ge 40, 3) := by decide +kernel
theorem dX6_retire_37 : decode cX6_retire 37 = .ok (.iload_n 2, 1) := by decide +kernel
theorem dX6_retire_38 : decode cX6_retire 38 = .ok (.iconst 1, 1) := by decide +kernel
theorem dX6_retire_39 : decode cX6_retire 39 = .ok (.iadd, 1) := by decide +kernel
theorem dX6_retire_40 : decode cX6_retire 40 = .ok (.bipush 12, 2) := by decide +kernel
theorem dX6_retire_42 : decode cX6_retire 42 = .ok (.if_icmp .ge 32, 3) := by decide +kernel
theorem dX6_retire_45 : decode cX6_retire 45 = .ok (.aload_n 0, 1) := by decide +kernel
theorem dX6_retire_46 : decode cX6_retire 46 = .ok (.getfield 19, 3) := by decide +kernel
theorem dX6_retire_49 : decode cX6_retire 49 = .ok (.getfield 103, 3) := by decide +kernel
theorem dX6_retire_52 : decode cX6_retire 52 = .ok (.iload_n 2, 1) := by decide +kernel
theorem dX6_retire_53 : decode cX6_retire 53 = .ok (.aaload, 1) := by decide +kernel
theorem dX6_retire_54 : decode cX6_retire 54 = .ok (.aload_n 0, 1) := by decide +kernel
theorem dX6_retire_55 : decode cX6_retire 55 = .ok (.getfield 19, 3) := by decide +kernel
theorem dX6_retire_58 : decode cX6_retire 58 = .ok (.getfield 103, 3) := by decide +kernel
theorem dX6_retire_61 : decode cX6_retire 61 = .ok (.iload_n 2, 1) := by decide +kernel
theorem dX6_retire_62 : decode cX6_retire 62 = .ok (.iconst 1, 1) := by decide +kernel
theorem dX6_retire_63 : decode cX6_retire 63 = .ok (.iadd, 1) := by decide +kernel
theorem dX6_retire_64 : decode cX6_retire 64 = .ok (.aaload, 1) := by decide +kernel
theorem dX6_retire_65 : decode cX6_retire 65 = .ok (.invokevirtual 114, 3) := by decide +kernel
theorem dX6_retire_68 : decode cX6_retire 68 = .ok (.iinc 2 1, 3) := by decide +kernel
theorem dX6_retire_71 : decode cX6_retire 71 = .ok (.goto (-47), 3) := by decide +kernel
theorem dX6_retire_74 : decode cX6_retire 74 = .ok (.aload_n 0, 1) := by decide +kernel
theorem dX6_retire_75 : decode cX6_retire 75 = .ok (.getfield 19, 3) := by decide +kernel
theorem dX6_retire_78 : decode cX6_retire 78 = .ok (.dup, 1) := by decide +kernel
theorem dX6_retire_79 : decode cX6_retire 79 = .ok (.getfield 80, 3) := by decide +kernel
theorem dX6_retire_82 : decode cX6_retire 82 = .ok (.iconst 1, 1) := by decide +kernel
theorem dX6_retire_83 : decode cX6_retire 83 = .ok (.isub, 1) := by decide +kernel
theorem dX6_retire_84 : decode cX6_retire 84 = .ok (.putfield 80, 3) := by decide +kernel
theorem dX6_retire_87 : decode cX6_retire 87 = .ok (.aload_n 0, 1) := by decide +kernel
theorem dX6_retire_88 : decode cX6_retire 88 = .ok (.getfield 19, 3) := by decide +kernel
theorem dX6_retire_91 : decode cX6_retire 91 = .ok (.dup, 1) := by decide +kernel
theorem dX6_retire_92 : decode cX6_retire 92 = .ok (.getfield 118, 3) := by decide +kernel
theorem dX6_retire_95 : decode cX6_retire 95 = .ok (.iconst 1, 1) := by decide +kernel
theorem dX6_retire_96 : decode cX6_retire 96 = .ok (.iadd, 1) := by decide +kernel
theorem dX6_retire_97 : decode cX6_retire 97 = .ok (.putfield 118, 3) := by decide +kernel
theorem dX6_retire_100 : decode cX6_retire 100 = .ok (.aload_n 0, 1) := by decide +kernel
theorem dX6_retire_101 : decode cX6_retire 101 = .ok (.getfield 19, 3) := by decide +kernel
theorem dX6_retire_104 : decode cX6_retire 104 = .ok (.getfield 80, 3) := by decide +kernel
theorem dX6_retire_107 : decode cX6_retire 107 = .ok (.ireturn, 1) := by decide +kernel
theorem dX6_give_0 : decode cX6_give 0 = .ok (.aload_n 0, 1) := by decide +kernel
theorem dX6_give_1 : decode cX6_give 1 = .ok (.iload_n 1, 1) := by decide +kernel
theorem dX6_give_2 : decode cX6_give 2 = .ok (.invokevirtual 83, 3) := by decide +kernel
theorem dX6_give_5 : decode cX6_give 5 = .ok (.ifCond .ne 13, 3) := by decide +kernel
theorem dX6_give_8 : decode cX6_give 8 = .ok (.new 89, 3) := by decide +kernel
theorem dX6_give_11 : decode cX6_give 11 = .ok (.dup, 1) := by decide +kernel
theorem dX6_give_12 : decode cX6_give 12 = .ok (.ldc 112, 2) := by decide +kernel
theorem dX6_give_14 : decode cX6_give 14 = .ok (.invokespecial 93, 3) := by decide +kernel
theorem dX6_give_17 : decode cX6_give 17 = .ok (.athrow, 1) := by decide +kernel
theorem dX6_give_18 : decode cX6_give 18 = .ok (.iload_n 2, 1) := by decide +kernel
theorem dX6_give_19 : decode cX6_give 19 = .ok (.invokestatic 54, 3) := by decide +kernel
theorem dX6_give_22 : decode cX6_give 22 = .ok (.ifCond .ne 13, 3) := by decide +kernel
theorem dX6_give_25 : decode cX6_give 25 = .ok (.new 57, 3) := by decide +kernel
theorem dX6_give_28 : decode cX6_give 28 = .ok (.dup, 1) := by decide +kernel
theorem dX6_give_29 : decode cX6_give 29 = .ok (.ldc 121, 2) := by decide +kernel
theorem dX6_give_31 : decode cX6_give 31 = .ok (.invokespecial 61, 3) := by decide +kernel
theorem dX6_give_34 : decode cX6_give 34 = .ok (.athrow, 1) := by decide +kernel
theorem dX6_give_35 : decode cX6_give 35 = .ok (.aload_n 0, 1) := by decide +kernel
theorem dX6_give_36 : decode cX6_give 36 = .ok (.invokevirtual 73, 3) := by decide +kernel
theorem dX6_give_39 : decode cX6_give 39 = .ok (.aload_n 0, 1) := by decide +kernel
theorem dX6_give_40 : decode cX6_give 40 = .ok (.getfield 19, 3) := by decide +kernel
theorem dX6_give_43 : decode cX6_give 43 = .ok (.getfield 103, 3) := by decide +kernel
theorem dX6_give_46 : decode cX6_give 46 = .ok (.iload_n 1, 1) := by decide +kernel
theorem dX6_give_47 : decode cX6_give 47 = .ok (.aaload, 1) := by decide +kernel
theorem dX6_give_48 : decode cX6_give 48 = .ok (.astore_n 3, 1) := by decide +kernel
theorem dX6_give_49 : decode cX6_give 49 = .ok (.aload_n 3, 1) := by decide +kernel
theorem dX6_give_50 : decode cX6_give 50 = .ok (.getfield 123, 3) := by decide +kernel
theorem dX6_give_53 : decode cX6_give 53 = .ok (.istore 4, 2) := by decide +kernel
theorem dX6_give_55 : decode cX6_give 55 = .ok (.aload_n 3, 1) := by decide +kernel
theorem dX6_give_56 : decode cX6_give 56 = .ok (.iload_n 2, 1) := by decide +kernel
theorem dX6_give_57 : decode cX6_give 57 = .ok (.putfield 123, 3) := by decide +kernel
theorem dX6_give_60 : decode cX6_give 60 = .ok (.iload 4, 2) := by decide +kernel
theorem dX6_give_62 : decode cX6_give 62 = .ok (.ireturn, 1) := by decide +kernel
theorem dX6_lose_0 : decode cX6_lose 0 = .ok (.aload_n 0, 1) := by decide +kernel
theorem dX6_lose_1 : decode cX6_lose 1 = .ok (.iload_n 1, 1) := by decide +kernel
theorem dX6_lose_2 : decode cX6_lose 2 = .ok (.invokevirtual 83, 3) := by decide +kernel
theorem dX6_lose_5 : decode cX6_lose 5 = .ok (.ifCond .ne 13, 3) := by decide +kernel
theorem dX6_lose_8 : decode cX6_lose 8 = .ok (.new 89, 3) := by decide +kernel
theorem dX6_lose_11 : decode cX6_lose 11 = .ok (.dup, 1) := by decide +kernel
theorem dX6_lose_12 : decode cX6_lose 12 = .ok (.ldc 112, 2) := by decide +kernel
theorem dX6_lose_14 : decode cX6_lose 14 = .ok (.invokespecial 93, 3) := by decide +kernel
theorem dX6_lose_17 : decode cX6_lose 17 = .ok (.athrow, 1) := by decide +kernel
theorem dX6_lose_18 : decode cX6_lose 18 = .ok (.aload_n 0, 1) := by decide +kernel
theorem dX6_lose_19 : decode cX6_lose 19 = .ok (.getfield 19, 3) := by decide +kernel
theorem dX6_lose_22 : decode cX6_lose 22 = .ok (.getfield 103, 3) := by decide +kernel
theorem dX6_lose_25 : decode cX6_lose 25 = .ok (.iload_n 1, 1) := by decide +kernel
theorem dX6_lose_26 : decode cX6_lose 26 = .ok (.aaload, 1) := by decide +kernel
theorem dX6_lose_27 : decode cX6_lose 27 = .ok (.getfield 126, 3) := by decide +kernel
theorem dX6_lose_30 : decode cX6_lose 30 = .ok (.ifCond .eq 13, 3) := by decide +kernel
theorem dX6_lose_33 : decode cX6_lose 33 = .ok (.new 68, 3) := by decide +kernel
theorem dX6_lose_36 : decode cX6_lose 36 = .ok (.dup, 1) := by decide +kernel
theorem dX6_lose_37 : decode cX6_lose 37 = .ok (.ldc 130, 2) := by decide +kernel
theorem dX6_lose_39 : decode cX6_lose 39 = .ok (.invokespecial 72, 3) := by decide +kernel
theorem dX6_lose_42 : decode cX6_lose 42 = .ok (.athrow, 1) := by decide +kernel
theorem dX6_lose_43 : decode cX6_lose 43 = .ok (.aload_n 0, 1) := by decide +kernel
theorem dX6_lose_44 : decode cX6_lose 44 = .ok (.invokevirtual 73, 3) := by decide +kernel
theorem dX6_lose_47 : decode cX6_lose 47 = .ok (.aload_n 0, 1) := by decide +kernel
theorem dX6_lose_48 : decode cX6_lose 48 = .ok (.getfield 19, 3) := by decide +kernel
theorem dX6_lose_51 : decode cX6_lose 51 = .ok (.getfield 103, 3) := by decide +kernel
theorem dX6_lose_54 : decode cX6_lose 54 = .ok (.iload_n 1, 1) := by decide +kernel
theorem dX6_lose_55 : decode cX6_lose 55 = .ok (.aaload, 1) := by decide +kernel
theorem dX6_lose_56 : decode cX6_lose 56 = .ok (.iconst 1, 1) := by decide +kernel
theorem dX6_lose_57 : decode cX6_lose 57 = .ok (.putfield 126, 3) := by decide +kernel
theorem dX6_lose_60 : decode cX6_lose 60 = .ok (.aload_n 0, 1) := by decide +kernel
theorem dX6_lose_61 : decode cX6_lose 61 = .ok (.iload_n 1, 1) := by decide +kernel
theorem dX6_lose_62 : decode cX6_lose 62 = .ok (.invokevirtual 132, 3) := by decide +kernel
theorem dX6_lose_65 : decode cX6_lose 65 = .ok (.invokestatic 135, 3) := by decide +kernel
theorem dX6_lose_68 : decode cX6_lose 68 = .ok (.ireturn, 1) := by decide +kernel
theorem dX6_find_0 : decode cX6_find 0 = .ok (.aload_n 0, 1) := by decide +kernel
theorem dX6_find_1 : decode cX6_find 1 = .ok (.iload_n 1, 1) := by decide +kernel
theorem dX6_find_2 : decode cX6_find 2 = .ok (.invokevirtual 83, 3) := by decide +kernel
theorem dX6_find_5 : decode cX6_find 5 = .ok (.ifCond .ne 13, 3) := by decide +kernel
theorem dX6_find_8 : decode cX6_find 8 = .ok (.new 89, 3) := by decide +kernel
theorem dX6_find_11 : decode cX6_find 11 = .ok (.dup, 1) := by decide +kernel
theorem dX6_find_12 : decode cX6_find 12 = .ok (.ldc 112, 2) := by decide +kernel
theorem dX6_find_14 : decode cX6_find 14 = .ok (.invokespecial 93, 3) := by decide +kernel
theorem dX6_find_17 : decode cX6_find 17 = .ok (.athrow, 1) := by decide +kernel
theorem dX6_find_18 : decode cX6_find 18 = .ok (.aload_n 0, 1) := by decide +kernel
theorem dX6_find_19 : decode cX6_find 19 = .ok (.getfield 19, 3) := by decide +kernel
theorem dX6_find_22 : decode cX6_find 22 = .ok (.getfield 103, 3) := by decide +kernel
theorem dX6_find_25 : decode cX6_find 25 = .ok (.iload_n 1, 1) := by decide +kernel
theorem dX6_find_26 : decode cX6_find 26 = .ok (.aaload, 1) := by decide +kernel
theorem dX6_find_27 : decode cX6_find 27 = .ok (.getfield 126, 3) := by decide +kernel
theorem dX6_find_30 : decode cX6_find 30 = .ok (.ifCond .ne 13, 3) := by decide +kernel
theorem dX6_find_33 : decode cX6_find 33 = .ok (.new 68, 3) := by decide +kernel
theorem dX6_find_36 : decode cX6_find 36 = .ok (.dup, 1) := by decide +kernel
theorem dX6_find_37 : decode cX6_find 37 = .ok (.ldc 140, 2) := by decide +kernel
theorem dX6_find_39 : decode cX6_find 39 = .ok (.invokespecial 72, 3) := by decide +kernel
theorem dX6_find_42 : decode cX6_find 42 = .ok (.athrow, 1) := by decide +kernel
theorem dX6_find_43 : decode cX6_find 43 = .ok (.aload_n 0, 1) := by decide +kernel
theorem dX6_find_44 : decode cX6_find 44 = .ok (.invokevirtual 73, 3) := by decide +kernel
theorem dX6_find_47 : decode cX6_find 47 = .ok (.aload_n 0, 1) := by decide +kernel
theorem dX6_find_48 : decode cX6_find 48 = .ok (.getfield 19, 3) := by decide +kernel
theorem dX6_find_51 : decode cX6_find 51 = .ok (.getfield 103, 3) := by decide +kernel
theorem dX6_find_54 : decode cX6_find 54 = .ok (.iload_n 1, 1) := by decide +kernel
theorem dX6_find_55 : decode cX6_find 55 = .ok (.aaload, 1) := by decide +kernel
theorem dX6_find_56 : decode cX6_find 56 = .ok (.iconst 0, 1) := by decide +kernel
theorem dX6_find_57 : decode cX6_find 57 = .ok (.putfield 126, 3) := by decide +kernel
theorem dX6_find_60 : decode cX6_find 60 = .ok (.aload_n 0, 1) := by decide +kernel
theorem dX6_find_61 : decode cX6_find 61 = .ok (.iload_n 1, 1) := by decide +kernel
theorem dX6_find_62 : decode cX6_find 62 = .ok (.invokevirtual 132, 3) := by decide +kernel
theorem dX6_find_65 : decode cX6_find 65 = .ok (.invokestatic 135, 3) := by decide +kernel
theorem dX6_find_68 : decode cX6_find 68 = .ok (.ireturn, 1) := by decide +kernel
theorem dX6_ward_0 : decode cX6_ward 0 = .ok (.iload_n 1, 1) := by decide +kernel
theorem dX6_ward_1 : decode cX6_ward 1 = .ok (.invokestatic 142, 3) := by decide +kernel
theorem dX6_ward_4 : decode cX6_ward 4 = .ok (.ifCond .ne 13, 3) := by decide +kernel
theorem dX6_ward_7 : decode cX6_ward 7 = .ok (.new 89, 3) := by decide +kernel
theorem dX6_ward_10 : decode cX6_ward 10 = .ok (.dup, 1) := by decide +kernel
theorem dX6_ward_11 : decode cX6_ward 11 = .ok (.ldc 145, 2) := by decide +kernel
theorem dX6_ward_13 : decode cX6_ward 13 = .ok (.invokespecial 93, 3) := by decide +kernel
theorem dX6_ward_16 : decode cX6_ward 16 = .ok (.athrow, 1) := by decide +kernel
theorem dX6_ward_17 : decode cX6_ward 17 = .ok (.iload_n 2, 1) := by decide +kernel
theorem dX6_ward_18 : decode cX6_ward 18 = .ok (.invokestatic 50, 3) := by decide +kernel
theorem dX6_ward_21 : decode cX6_ward 21 = .ok (.ifCond .ne 13, 3) := by decide +kernel
theorem dX6_ward_24 : decode cX6_ward 24 = .ok (.new 57, 3) := by decide +kernel
theorem dX6_ward_27 : decode cX6_ward 27 = .ok (.dup, 1) := by decide +kernel
theorem dX6_ward_28 : decode cX6_ward 28 = .ok (.ldc 147, 2) := by decide +kernel
theorem dX6_ward_30 : decode cX6_ward 30 = .ok (.invokespecial 61, 3) := by decide +kernel
theorem dX6_ward_33 : decode cX6_ward 33 = .ok (.athrow, 1) := by decide +kernel
theorem dX6_ward_34 : decode cX6_ward 34 = .ok (.aload_n 0, 1) := by decide +kernel
theorem dX6_ward_35 : decode cX6_ward 35 = .ok (.invokevirtual 73, 3) := by decide +kernel
theorem dX6_ward_38 : decode cX6_ward 38 = .ok (.aload_n 0, 1) := by decide +kernel
theorem dX6_ward_39 : decode cX6_ward 39 = .ok (.getfield 19, 3) := by decide +kernel
theorem dX6_ward_42 : decode cX6_ward 42 = .ok (.getfield 149, 3) := by decide +kernel
theorem dX6_ward_45 : decode cX6_ward 45 = .ok (.iload_n 1, 1) := by decide +kernel
theorem dX6_ward_46 : decode cX6_ward 46 = .ok (.aaload, 1) := by decide +kernel
theorem dX6_ward_47 : decode cX6_ward 47 = .ok (.getfield 153, 3) := by decide +kernel
theorem dX6_ward_50 : decode cX6_ward 50 = .ok (.istore_n 3, 1) := by decide +kernel
theorem dX6_ward_51 : decode cX6_ward 51 = .ok (.aload_n 0, 1) := by decide +kernel
theorem dX6_ward_52 : decode cX6_ward 52 = .ok (.getfield 19, 3) := by decide +kernel
theorem dX6_ward_55 : decode cX6_ward 55 = .ok (.getfield 149, 3) := by decide +kernel
theorem dX6_ward_58 : decode cX6_ward 58 = .ok (.iload_n 1, 1) := by decide +kernel
theorem dX6_ward_59 : decode cX6_ward 59 = .ok (.aaload, 1) := by decide +kernel
theorem dX6_ward_60 : decode cX6_ward 60 = .ok (.iload_n 2, 1) := by decide +kernel
theorem dX6_ward_61 : decode cX6_ward 61 = .ok (.putfield 153, 3) := by decide +kernel
theorem dX6_ward_64 : decode cX6_ward 64 = .ok (.iload_n 3, 1) := by decide +kernel
theorem dX6_ward_65 : decode cX6_ward 65 = .ok (.ireturn, 1) := by decide +kernel
theorem dX6_guest_0 : decode cX6_guest 0 = .ok (.iload_n 1, 1) := by decide +kernel
theorem dX6_guest_1 : decode cX6_guest 1 = .ok (.invokestatic 142, 3) := by decide +kernel
theorem dX6_guest_4 : decode cX6_guest 4 = .ok (.ifCond .ne 13, 3) := by decide +kernel
theorem dX6_guest_7 : decode cX6_guest 7 = .ok (.new 89, 3) := by decide +kernel
theorem dX6_guest_10 : decode cX6_guest 10 = .ok (.dup, 1) := by decide +kernel
theorem dX6_guest_11 : decode cX6_guest 11 = .ok (.ldc 145, 2) := by decide +kernel
theorem dX6_guest_13 : decode cX6_guest 13 = .ok (.invokespecial 93, 3) := by decide +kernel
theorem dX6_guest_16 : decode cX6_guest 16 = .ok (.athrow, 1) := by decide +kernel
theorem dX6_guest_17 : decode cX6_guest 17 = .ok (.iload_n 2, 1) := by decide +kernel
theorem dX6_guest_18 : decode cX6_guest 18 = .ok (.iconst (-1), 1) := by decide +kernel
theorem dX6_guest_19 : decode cX6_guest 19 = .ok (.if_icmp .eq 20, 3) := by decide +kernel
theorem dX6_guest_22 : decode cX6_guest 22 = .ok (.iload_n 2, 1) := by decide +kernel
theorem dX6_guest_23 : decode cX6_guest 23 = .ok (.invokestatic 50, 3) := by decide +kernel
theorem dX6_guest_26 : decode cX6_guest 26 = .ok (.ifCond .ne 13, 3) := by decide +kernel
theorem dX6_guest_29 : decode cX6_guest 29 = .ok (.new 57, 3) := by decide +kernel
theorem dX6_guest_32 : decode cX6_guest 32 = .ok (.dup, 1) := by decide +kernel
theorem dX6_guest_33 : decode cX6_guest 33 = .ok (.ldc 147, 2) := by decide +kernel
theorem dX6_guest_35 : decode cX6_guest 35 = .ok (.invokespecial 61, 3) := by decide +kernel
theorem dX6_guest_38 : decode cX6_guest 38 = .ok (.athrow, 1) := by decide +kernel
theorem dX6_guest_39 : decode cX6_guest 39 = .ok (.aload_n 0, 1) := by decide +kernel
theorem dX6_guest_40 : decode cX6_guest 40 = .ok (.iload_n 1, 1) := by decide +kernel
theorem dX6_guest_41 : decode cX6_guest 41 = .ok (.invokevirtual 158, 3) := by decide +kernel
theorem dX6_guest_44 : decode cX6_guest 44 = .ok (.ifCond .ne 13, 3) := by decide +kernel
theorem dX6_guest_47 : decode cX6_guest 47 = .ok (.new 68, 3) := by decide +kernel
theorem dX6_guest_50 : decode cX6_guest 50 = .ok (.dup, 1) := by decide +kernel
theorem dX6_guest_51 : decode cX6_guest 51 = .ok (.ldc 161, 2) := by decide +kernel
theorem dX6_guest_53 : decode cX6_guest 53 = .ok (.invokespecial 72, 3) := by decide +kernel
theorem dX6_guest_56 : decode cX6_guest 56 = .ok (.athrow, 1) := by decide +kernel
theorem dX6_guest_57 : decode cX6_guest 57 = .ok (.aload_n 0, 1) := by decide +kernel
theorem dX6_guest_58 : decode cX6_guest 58 = .ok (.invokevirtual 73, 3) := by decide +kernel
theorem dX6_guest_61 : decode cX6_guest 61 = .ok (.aload_n 0, 1) := by decide +kernel
theorem dX6_guest_62 : decode cX6_guest 62 = .ok (.getfield 19, 3) := by decide +kernel
theorem dX6_guest_65 : decode cX6_guest 65 = .ok (.getfield 149, 3) := by decide +kernel
theorem dX6_guest_68 : decode cX6_guest 68 = .ok (.iload_n 1, 1) := by decide +kernel
theorem dX6_guest_69 : decode cX6_guest 69 = .ok (.aaload, 1) := by decide +kernel
theorem dX6_guest_70 : decode cX6_guest 70 = .ok (.getfield 163, 3) := by decide +kernel
theorem dX6_guest_73 : decode cX6_guest 73 = .ok (.istore_n 3, 1) := by decide +kernel
theorem dX6_guest_74 : decode cX6_guest 74 = .ok (.aload_n 0, 1) := by decide +kernel
theorem dX6_guest_75 : decode cX6_guest 75 = .ok (.getfield 19, 3) := by decide +kernel
theorem dX6_guest_78 : decode cX6_guest 78 = .ok (.getfield 149, 3) := by decide +kernel
theorem dX6_guest_81 : decode cX6_guest 81 = .ok (.iload_n 1, 1) := by decide +kernel
theorem dX6_guest_82 : decode cX6_guest 82 = .ok (.aaload, 1) := by decide +kernel
theorem dX6_guest_83 : decode cX6_guest 83 = .ok (.iload_n 2, 1) := by decide +kernel
theorem dX6_guest_84 : decode cX6_guest 84 = .ok (.putfield 163, 3) := by decide +kernel
theorem dX6_guest_87 : decode cX6_guest 87 = .ok (.iload_n 3, 1) := by decide +kernel
theorem dX6_guest_88 : decode cX6_guest 88 = .ok (.ireturn, 1) := by decide +kernel
theorem dX6_take_0 : decode cX6_take 0 = .ok (.iload_n 1, 1) := by decide +kernel
theorem dX6_take_1 : decode cX6_take 1 = .ok (.invokestatic 142, 3) := by decide +kernel
theorem dX6_take_4 : decode cX6_take 4 = .ok (.ifCond .ne 13, 3) := by decide +kernel
theorem dX6_take_7 : decode cX6_take 7 = .ok (.new 89, 3) := by decide +kernel
theorem dX6_take_10 : decode cX6_take 10 = .ok (.dup, 1) := by decide +kernel
theorem dX6_take_11 : decode cX6_take 11 = .ok (.ldc 145, 2) := by decide +kernel
theorem dX6_take_13 : decode cX6_take 13 = .ok (.invokespecial 93, 3) := by decide +kernel
theorem dX6_take_16 : decode cX6_take 16 = .ok (.athrow, 1) := by decide +kernel
theorem dX6_take_17 : decode cX6_take 17 = .ok (.aload_n 0, 1) := by decide +kernel
theorem dX6_take_18 : decode cX6_take 18 = .ok (.iload_n 1, 1) := by decide +kernel
theorem dX6_take_19 : decode cX6_take 19 = .ok (.invokevirtual 158, 3) := by decide +kernel
theorem dX6_take_22 : decode cX6_take 22 = .ok (.ifCond .ne 13, 3) := by decide +kernel
theorem dX6_take_25 : decode cX6_take 25 = .ok (.new 68, 3) := by decide +kernel
theorem dX6_take_28 : decode cX6_take 28 = .ok (.dup, 1) := by decide +kernel
theorem dX6_take_29 : decode cX6_take 29 = .ok (.ldc 161, 2) := by decide +kernel
theorem dX6_take_31 : decode cX6_take 31 = .ok (.invokespecial 72, 3) := by decide +kernel
theorem dX6_take_34 : decode cX6_take 34 = .ok (.athrow, 1) := by decide +kernel
theorem dX6_take_35 : decode cX6_take 35 = .ok (.aload_n 0, 1) := by decide +kernel
theorem dX6_take_36 : decode cX6_take 36 = .ok (.invokevirtual 73, 3) := by decide +kernel
theorem dX6_take_39 : decode cX6_take 39 = .ok (.aload_n 0, 1) := by decide +kernel
theorem dX6_take_40 : decode cX6_take 40 = .ok (.iload_n 1, 1) := by decide +kernel
theorem dX6_take_41 : decode cX6_take 41 = .ok (.invokevirtual 166, 3) := by decide +kernel
theorem dX6_take_44 : decode cX6_take 44 = .ok (.invokestatic 135, 3) := by decide +kernel
theorem dX6_take_47 : decode cX6_take 47 = .ok (.istore_n 2, 1) := by decide +kernel
theorem dX6_take_48 : decode cX6_take 48 = .ok (.aload_n 0, 1) := by decide +kernel
theorem dX6_take_49 : decode cX6_take 49 = .ok (.getfield 19, 3) := by decide +kernel
theorem dX6_take_52 : decode cX6_take 52 = .ok (.getfield 149, 3) := by decide +kernel
theorem dX6_take_55 : decode cX6_take 55 = .ok (.iload_n 1, 1) := by decide +kernel
theorem dX6_take_56 : decode cX6_take 56 = .ok (.aaload, 1) := by decide +kernel
theorem dX6_take_57 : decode cX6_take 57 = .ok (.invokevirtual 169, 3) := by decide +kernel
theorem dX6_take_60 : decode cX6_take 60 = .ok (.iload_n 2, 1) := by decide +kernel
theorem dX6_take_61 : decode cX6_take 61 = .ok (.ireturn, 1) := by decide +kernel
theorem dX6_turn_0 : decode cX6_turn 0 = .ok (.aload_n 0, 1) := by decide +kernel
theorem dX6_turn_1 : decode cX6_turn 1 = .ok (.iload_n 1, 1) := by decide +kernel
theorem dX6_turn_2 : decode cX6_turn 2 = .ok (.invokevirtual 83, 3) := by decide +kernel
theorem dX6_turn_5 : decode cX6_turn 5 = .ok (.ifCond .eq 10, 3) := by decide +kernel
theorem dX6_turn_8 : decode cX6_turn 8 = .ok (.iload_n 2, 1) := by decide +kernel
theorem dX6_turn_9 : decode cX6_turn 9 = .ok (.invokestatic 142, 3) := by decide +kernel
theorem dX6_turn_12 : decode cX6_turn 12 = .ok (.ifCond .ne 13, 3) := by decide +kernel
theorem dX6_turn_15 : decode cX6_turn 15 = .ok (.new 89, 3) := by decide +kernel
theorem dX6_turn_18 : decode cX6_turn 18 = .ok (.dup, 1) := by decide +kernel
theorem dX6_turn_19 : decode cX6_turn 19 = .ok (.ldc 172, 2) := by decide +kernel
theorem dX6_turn_21 : decode cX6_turn 21 = .ok (.invokespecial 93, 3) := by decide +kernel
theorem dX6_turn_24 : decode cX6_turn 24 = .ok (.athrow, 1) := by decide +kernel
theorem dX6_turn_25 : decode cX6_turn 25 = .ok (.aload_n 0, 1) := by decide +kernel
theorem dX6_turn_26 : decode cX6_turn 26 = .ok (.getfield 19, 3) := by decide +kernel
theorem dX6_turn_29 : decode cX6_turn 29 = .ok (.getfield 103, 3) := by decide +kernel
theorem dX6_turn_32 : decode cX6_turn 32 = .ok (.iload_n 1, 1) := by decide +kernel
theorem dX6_turn_33 : decode cX6_turn 33 = .ok (.aaload, 1) := by decide +kernel
theorem dX6_turn_34 : decode cX6_turn 34 = .ok (.getfield 126, 3) := by decide +kernel
theorem dX6_turn_37 : decode cX6_turn 37 = .ok (.ifCond .ne 11, 3) := by decide +kernel
theorem dX6_turn_40 : decode cX6_turn 40 = .ok (.aload_n 0, 1) := by decide +kernel
theorem dX6_turn_41 : decode cX6_turn 41 = .ok (.iload_n 2, 1) := by decide +kernel
theorem dX6_turn_42 : decode cX6_turn 42 = .ok (.invokevirtual 158, 3) := by decide +kernel
theorem dX6_turn_45 : decode cX6_turn 45 = .ok (.ifCond .ne 13, 3) := by decide +kernel
theorem dX6_turn_48 : decode cX6_turn 48 = .ok (.new 68, 3) := by decide +kernel
theorem dX6_turn_51 : decode cX6_turn 51 = .ok (.dup, 1) := by decide +kernel
theorem dX6_turn_52 : decode cX6_turn 52 = .ok (.ldc 174, 2) := by decide +kernel
theorem dX6_turn_54 : decode cX6_turn 54 = .ok (.invokespecial 72, 3) := by decide +kernel
theorem dX6_turn_57 : decode cX6_turn 57 = .ok (.athrow, 1) := by decide +kernel
theorem dX6_turn_58 : decode cX6_turn 58 = .ok (.aload_n 0, 1) := by decide +kernel
theorem dX6_turn_59 : decode cX6_turn 59 = .ok (.invokevirtual 73, 3) := by decide +kernel
theorem dX6_turn_62 : decode cX6_turn 62 = .ok (.aload_n 0, 1) := by decide +kernel
theorem dX6_turn_63 : decode cX6_turn 63 = .ok (.iload_n 1, 1) := by decide +kernel
theorem dX6_turn_64 : decode cX6_turn 64 = .ok (.iload_n 2, 1) := by decide +kernel
theorem dX6_turn_65 : decode cX6_turn 65 = .ok (.invokevirtual 176, 3) := by decide +kernel
theorem dX6_turn_68 : decode cX6_turn 68 = .ok (.ifCond .eq 7, 3) := by decide +kernel
theorem dX6_turn_71 : decode cX6_turn 71 = .ok (.iconst 1, 1) := by decide +kernel
theorem dX6_turn_72 : decode cX6_turn 72 = .ok (.goto 4, 3) := by decide +kernel
theorem dX6_turn_75 : decode cX6_turn 75 = .ok (.iconst 0, 1) := by decide +kernel
theorem dX6_turn_76 : decode cX6_turn 76 = .ok (.ireturn, 1) := by decide +kernel
theorem dX6_set_0 : decode cX6_set 0 = .ok (.iload_n 1, 1) := by decide +kernel
theorem dX6_set_1 : decode cX6_set 1 = .ok (.invokestatic 180, 3) := by decide +kernel
theorem dX6_set_4 : decode cX6_set 4 = .ok (.ifCond .ne 13, 3) := by decide +kernel
theorem dX6_set_7 : decode cX6_set 7 = .ok (.new 89, 3) := by decide +kernel
theorem dX6_set_10 : decode cX6_set 10 = .ok (.dup, 1) := by decide +kernel
theorem dX6_set_11 : decode cX6_set 11 = .ok (.ldc 183, 2) := by decide +kernel
theorem dX6_set_13 : decode cX6_set 13 = .ok (.invokespecial 93, 3) := by decide +kernel
theorem dX6_set_16 : decode cX6_set 16 = .ok (.athrow, 1) := by decide +kernel
theorem dX6_set_17 : decode cX6_set 17 = .ok (.iload_n 2, 1) := by decide +kernel
theorem dX6_set_18 : decode cX6_set 18 = .ok (.getstatic 185, 3) := by decide +kernel
theorem dX6_set_21 : decode cX6_set 21 = .ok (.iload_n 1, 1) := by decide +kernel
theorem dX6_set_22 : decode cX6_set 22 = .ok (.iaload, 1) := by decide +kernel
theorem dX6_set_23 : decode cX6_set 23 = .ok (.if_icmp .lt 12, 3) := by decide +kernel
theorem dX6_set_26 : decode cX6_set 26 = .ok (.iload_n 2, 1) := by decide +kernel
theorem dX6_set_27 : decode cX6_set 27 = .ok (.getstatic 189, 3) := by decide +kernel
theorem dX6_set_30 : decode cX6_set 30 = .ok (.iload_n 1, 1) := by decide +kernel
theorem dX6_set_31 : decode cX6_set 31 = .ok (.iaload, 1) := by decide +kernel
theorem dX6_set_32 : decode cX6_set 32 = .ok (.if_icmp .le 13, 3) := by decide +kernel
theorem dX6_set_35 : decode cX6_set 35 = .ok (.new 57, 3) := by decide +kernel
theorem dX6_set_38 : decode cX6_set 38 = .ok (.dup, 1) := by decide +kernel
theorem dX6_set_39 : decode cX6_set 39 = .ok (.ldc 192, 2) := by decide +kernel
theorem dX6_set_41 : decode cX6_set 41 = .ok (.invokespecial 61, 3) := by decide +kernel
theorem dX6_set_44 : decode cX6_set 44 = .ok (.athrow, 1) := by decide +kernel
theorem dX6_set_45 : decode cX6_set 45 = .ok (.aload_n 0, 1) := by decide +kernel
theorem dX6_set_46 : decode cX6_set 46 = .ok (.invokevirtual 73, 3) := by decide +kernel
theorem dX6_set_49 : decode cX6_set 49 = .ok (.aload_n 0, 1) := by decide +kernel
theorem dX6_set_50 : decode cX6_set 50 = .ok (.getfield 19, 3) := by decide +kernel
theorem dX6_set_53 : decode cX6_set 53 = .ok (.getfield 194, 3) := by decide +kernel
theorem dX6_set_56 : decode cX6_set 56 = .ok (.iload_n 1, 1) := by decide +kernel
theorem dX6_set_57 : decode cX6_set 57 = .ok (.iaload, 1) := by decide +kernel
theorem dX6_set_58 : decode cX6_set 58 = .ok (.istore_n 3, 1) := by decide +kernel
theorem dX6_set_59 : decode cX6_set 59 = .ok (.aload_n 0, 1) := by decide +kernel
theorem dX6_set_60 : decode cX6_set 60 = .ok (.getfield 19, 3) := by decide +kernel
theorem dX6_set_63 : decode cX6_set 63 = .ok (.getfield 194, 3) := by decide +kernel
theorem dX6_set_66 : decode cX6_set 66 = .ok (.iload_n 1, 1) := by decide +kernel
theorem dX6_set_67 : decode cX6_set 67 = .ok (.iload_n 2, 1) := by decide +kernel
theorem dX6_set_68 : decode cX6_set 68 = .ok (.iastore, 1) := by decide +kernel
theorem dX6_set_69 : decode cX6_set 69 = .ok (.iload_n 3, 1) := by decide +kernel
theorem dX6_set_70 : decode cX6_set 70 = .ok (.ireturn, 1) := by decide +kernel
theorem dX6_undo_0 : decode cX6_undo 0 = .ok (.aload_n 0, 1) := by decide +kernel
theorem dX6_undo_1 : decode cX6_undo 1 = .ok (.getfield 235, 3) := by decide +kernel
theorem dX6_undo_4 : decode cX6_undo 4 = .ok (.ifCond .gt 13, 3) := by decide +kernel
theorem dX6_undo_7 : decode cX6_undo 7 = .ok (.new 68, 3) := by decide +kernel
theorem dX6_undo_10 : decode cX6_undo 10 = .ok (.dup, 1) := by decide +kernel
theorem dX6_undo_11 : decode cX6_undo 11 = .ok (.ldc 238, 2) := by decide +kernel
theorem dX6_undo_13 : decode cX6_undo 13 = .ok (.invokespecial 72, 3) := by decide +kernel
theorem dX6_undo_16 : decode cX6_undo 16 = .ok (.athrow, 1) := by decide +kernel
theorem dX6_undo_17 : decode cX6_undo 17 = .ok (.aload_n 0, 1) := by decide +kernel
theorem dX6_undo_18 : decode cX6_undo 18 = .ok (.getfield 19, 3) := by decide +kernel
theorem dX6_undo_21 : decode cX6_undo 21 = .ok (.aload_n 0, 1) := by decide +kernel
theorem dX6_undo_22 : decode cX6_undo 22 = .ok (.getfield 26, 3) := by decide +kernel
theorem dX6_undo_25 : decode cX6_undo 25 = .ok (.aload_n 0, 1) := by decide +kernel
theorem dX6_undo_26 : decode cX6_undo 26 = .ok (.getfield 30, 3) := by decide +kernel
theorem dX6_undo_29 : decode cX6_undo 29 = .ok (.aaload, 1) := by decide +kernel
theorem dX6_undo_30 : decode cX6_undo 30 = .ok (.invokevirtual 227, 3) := by decide +kernel
theorem dX6_undo_33 : decode cX6_undo 33 = .ok (.aload_n 0, 1) := by decide +kernel
theorem dX6_undo_34 : decode cX6_undo 34 = .ok (.aload_n 0, 1) := by decide +kernel
theorem dX6_undo_35 : decode cX6_undo 35 = .ok (.getfield 30, 3) := by decide +kernel
theorem dX6_undo_38 : decode cX6_undo 38 = .ok (.ifCond .le 12, 3) := by decide +kernel
theorem dX6_undo_41 : decode cX6_undo 41 = .ok (.aload_n 0, 1) := by decide +kernel
theorem dX6_undo_42 : decode cX6_undo 42 = .ok (.getfield 30, 3) := by decide +kernel
theorem dX6_undo_45 : decode cX6_undo 45 = .ok (.iconst 1, 1) := by decide +kernel
theorem dX6_undo_46 : decode cX6_undo 46 = .ok (.isub, 1) := by decide +kernel
theorem dX6_undo_47 : decode cX6_undo 47 = .ok (.goto 4, 3) := by decide +kernel
theorem dX6_undo_50 : decode cX6_undo 50 = .ok (.iconst 5, 1) := by decide +kernel
theorem dX6_undo_51 : decode cX6_undo 51 = .ok (.putfield 30, 3) := by decide +kernel
theorem dX6_undo_54 : decode cX6_undo 54 = .ok (.aload_n 0, 1) := by decide +kernel
theorem dX6_undo_55 : decode cX6_undo 55 = .ok (.dup, 1) := by decide +kernel
theorem dX6_undo_56 : decode cX6_undo 56 = .ok (.getfield 235, 3) := by decide +kernel
theorem dX6_undo_59 : decode cX6_undo 59 = .ok (.iconst 1, 1) := by decide +kernel
theorem dX6_undo_60 : decode cX6_undo 60 = .ok (.isub, 1) := by decide +kernel
theorem dX6_undo_61 : decode cX6_undo 61 = .ok (.putfield 235, 3) := by decide +kernel
theorem dX6_undo_64 : decode cX6_undo 64 = .ok (.aload_n 0, 1) := by decide +kernel
theorem dX6_undo_65 : decode cX6_undo 65 = .ok (.getfield 235, 3) := by decide +kernel
theorem dX6_undo_68 : decode cX6_undo 68 = .ok (.ireturn, 1) := by decide +kernel
theorem dX6_key_0 : decode cX6_key 0 = .ok (.aload_n 0, 1) := by decide +kernel
theorem dX6_key_1 : decode cX6_key 1 = .ok (.iload_n 1, 1) := by decide +kernel
theorem dX6_key_2 : decode cX6_key 2 = .ok (.invokevirtual 83, 3) := by decide +kernel
theorem dX6_key_5 : decode cX6_key 5 = .ok (.ifCond .ne 13, 3) := by decide +kernel
theorem dX6_key_8 : decode cX6_key 8 = .ok (.new 89, 3) := by decide +kernel
theorem dX6_key_11 : decode cX6_key 11 = .ok (.dup, 1) := by decide +kernel
theorem dX6_key_12 : decode cX6_key 12 = .ok (.ldc 112, 2) := by decide +kernel
theorem dX6_key_14 : decode cX6_key 14 = .ok (.invokespecial 93, 3) := by decide +kernel
theorem dX6_key_17 : decode cX6_key 17 = .ok (.athrow, 1) := by decide +kernel
theorem dX6_key_18 : decode cX6_key 18 = .ok (.aload_n 0, 1) := by decide +kernel
theorem dX6_key_19 : decode cX6_key 19 = .ok (.getfield 19, 3) := by decide +kernel
theorem dX6_key_22 : decode cX6_key 22 = .ok (.getfield 103, 3) := by decide +kernel
theorem dX6_key_25 : decode cX6_key 25 = .ok (.iload_n 1, 1) := by decide +kernel
theorem dX6_key_26 : decode cX6_key 26 = .ok (.aaload, 1) := by decide +kernel
theorem dX6_key_27 : decode cX6_key 27 = .ok (.astore_n 3, 1) := by decide +kernel
theorem dX6_key_28 : decode cX6_key 28 = .ok (.iload_n 2, 1) := by decide +kernel
theorem dX6_key_29 : decode cX6_key 29 = .ok (.tableswitch 130 0 9 #[55, 60, 73, 78, 83, 88, 101, 107, 116, 125], 55) := by decide +kernel
theorem dX6_key_84 : decode cX6_key 84 = .ok (.aload_n 3, 1) := by decide +kernel
theorem dX6_key_85 : decode cX6_key 85 = .ok (.getfield 107, 3) := by decide +kernel
theorem dX6_key_88 : decode cX6_key 88 = .ok (.ireturn, 1) := by decide +kernel
theorem dX6_key_89 : decode cX6_key 89 = .ok (.aload_n 0, 1) := by decide +kernel
theorem dX6_key_90 : decode cX6_key 90 = .ok (.getfield 37, 3) := by decide +kernel
theorem dX6_key_93 : decode cX6_key 93 = .ok (.getfield 240, 3) := by decide +kernel
theorem dX6_key_96 : decode cX6_key 96 = .ok (.aload_n 3, 1) := by decide +kernel
theorem dX6_key_97 : decode cX6_key 97 = .ok (.getfield 107, 3) := by decide +kernel
theorem dX6_key_100 : decode cX6_key 100 = .ok (.iaload, 1) := by decide +kernel
theorem dX6_key_101 : decode cX6_key 101 = .ok (.ireturn, 1) := by decide +kernel
theorem dX6_key_102 : decode cX6_key 102 = .ok (.aload_n 3, 1) := by decide +kernel
theorem dX6_key_103 : decode cX6_key 103 = .ok (.getfield 243, 3) := by decide +kernel
theorem dX6_key_106 : decode cX6_key 106 = .ok (.ireturn, 1) := by decide +kernel
theorem dX6_key_107 : decode cX6_key 107 = .ok (.aload_n 3, 1) := by decide +kernel
theorem dX6_key_108 : decode cX6_key 108 = .ok (.getfield 246, 3) := by decide +kernel
theorem dX6_key_111 : decode cX6_key 111 = .ok (.ireturn, 1) := by decide +kernel
theorem dX6_key_112 : decode cX6_key 112 = .ok (.aload_n 3, 1) := by decide +kernel
theorem dX6_key_113 : decode cX6_key 113 = .ok (.getfield 123, 3) := by decide +kernel
theorem dX6_key_116 : decode cX6_key 116 = .ok (.ireturn, 1) := by decide +kernel
theorem dX6_key_117 : decode cX6_key 117 = .ok (.aload_n 3, 1) := by decide +kernel
theorem dX6_key_118 : decode cX6_key 118 = .ok (.getfield 126, 3) := by decide +kernel
theorem dX6_key_121 : decode cX6_key 121 = .ok (.ifCond .eq 7, 3) := by decide +kernel
theorem dX6_key_124 : decode cX6_key 124 = .ok (.iconst 1, 1) := by decide +kernel
theorem dX6_key_125 : decode cX6_key 125 = .ok (.goto 4, 3) := by decide +kernel
theorem dX6_key_128 : decode cX6_key 128 = .ok (.iconst 0, 1) := by decide +kernel
theorem dX6_key_129 : decode cX6_key 129 = .ok (.ireturn, 1) := by decide +kernel
theorem dX6_key_130 : decode cX6_key 130 = .ok (.aload_n 0, 1) := by decide +kernel
theorem dX6_key_131 : decode cX6_key 131 = .ok (.iload_n 1, 1) := by decide +kernel
theorem dX6_key_132 : decode cX6_key 132 = .ok (.invokevirtual 132, 3) := by decide +kernel
theorem dX6_key_135 : decode cX6_key 135 = .ok (.ireturn, 1) := by decide +kernel
theorem dX6_key_136 : decode cX6_key 136 = .ok (.aload_n 0, 1) := by decide +kernel
theorem dX6_key_137 : decode cX6_key 137 = .ok (.aload_n 3, 1) := by decide +kernel
theorem dX6_key_138 : decode cX6_key 138 = .ok (.getfield 107, 3) := by decide +kernel
theorem dX6_key_141 : decode cX6_key 141 = .ok (.invokevirtual 249, 3) := by decide +kernel
theorem dX6_key_144 : decode cX6_key 144 = .ok (.ireturn, 1) := by decide +kernel
theorem dX6_key_145 : decode cX6_key 145 = .ok (.aload_n 0, 1) := by decide +kernel
theorem dX6_key_146 : decode cX6_key 146 = .ok (.aload_n 3, 1) := by decide +kernel
theorem dX6_key_147 : decode cX6_key 147 = .ok (.getfield 107, 3) := by decide +kernel
theorem dX6_key_150 : decode cX6_key 150 = .ok (.invokevirtual 252, 3) := by decide +kernel
theorem dX6_key_153 : decode cX6_key 153 = .ok (.ireturn, 1) := by decide +kernel
theorem dX6_key_154 : decode cX6_key 154 = .ok (.aload_n 3, 1) := by decide +kernel
theorem dX6_key_155 : decode cX6_key 155 = .ok (.getfield 255, 3) := by decide +kernel
theorem dX6_key_158 : decode cX6_key 158 = .ok (.ireturn, 1) := by decide +kernel
theorem dX6_key_159 : decode cX6_key 159 = .ok (.new 57, 3) := by decide +kernel
theorem dX6_key_162 : decode cX6_key 162 = .ok (.dup, 1) := by decide +kernel
theorem dX6_key_163 : decode cX6_key 163 = .ok (.ldc_w 258, 3) := by decide +kernel
theorem dX6_key_166 : decode cX6_key 166 = .ok (.invokespecial 61, 3) := by decide +kernel
theorem dX6_key_169 : decode cX6_key 169 = .ok (.athrow, 1) := by decide +kernel
theorem dX6_lock_0 : decode cX6_lock 0 = .ok (.iload_n 1, 1) := by decide +kernel
theorem dX6_lock_1 : decode cX6_lock 1 = .ok (.invokestatic 142, 3) := by decide +kernel
theorem dX6_lock_4 : decode cX6_lock 4 = .ok (.ifCond .ne 13, 3) := by decide +kernel
theorem dX6_lock_7 : decode cX6_lock 7 = .ok (.new 89, 3) := by decide +kernel
theorem dX6_lock_10 : decode cX6_lock 10 = .ok (.dup, 1) := by decide +kernel
theorem dX6_lock_11 : decode cX6_lock 11 = .ok (.ldc 145, 2) := by decide +kernel
theorem dX6_lock_13 : decode cX6_lock 13 = .ok (.invokespecial 93, 3) := by decide +kernel
theorem dX6_lock_16 : decode cX6_lock 16 = .ok (.athrow, 1) := by decide +kernel
theorem dX6_lock_17 : decode cX6_lock 17 = .ok (.iload_n 2, 1) := by decide +kernel
theorem dX6_lock_18 : decode cX6_lock 18 = .ok (.ifCond .lt 8, 3) := by decide +kernel
theorem dX6_lock_21 : decode cX6_lock 21 = .ok (.iload_n 2, 1) := by decide +kernel
theorem dX6_lock_22 : decode cX6_lock 22 = .ok (.iconst 5, 1) := by decide +kernel
theorem dX6_lock_23 : decode cX6_lock 23 = .ok (.if_icmp .le 14, 3) := by decide +kernel
theorem dX6_lock_26 : decode cX6_lock 26 = .ok (.new 57, 3) := by decide +kernel
theorem dX6_lock_29 : decode cX6_lock 29 = .ok (.dup, 1) := by decide +kernel
theorem dX6_lock_30 : decode cX6_lock 30 = .ok (.ldc_w 260, 3) := by decide +kernel
theorem dX6_lock_33 : decode cX6_lock 33 = .ok (.invokespecial 61, 3) := by decide +kernel
theorem dX6_lock_36 : decode cX6_lock 36 = .ok (.athrow, 1) := by decide +kernel
theorem dX6_lock_37 : decode cX6_lock 37 = .ok (.aload_n 0, 1) := by decide +kernel
theorem dX6_lock_38 : decode cX6_lock 38 = .ok (.iload_n 1, 1) := by decide +kernel
theorem dX6_lock_39 : decode cX6_lock 39 = .ok (.invokevirtual 158, 3) := by decide +kernel
theorem dX6_lock_42 : decode cX6_lock 42 = .ok (.ifCond .ne 5, 3) := by decide +kernel
theorem dX6_lock_45 : decode cX6_lock 45 = .ok (.iconst (-1), 1) := by decide +kernel
theorem dX6_lock_46 : decode cX6_lock 46 = .ok (.ireturn, 1) := by decide +kernel
theorem dX6_lock_47 : decode cX6_lock 47 = .ok (.aload_n 0, 1) := by decide +kernel
theorem dX6_lock_48 : decode cX6_lock 48 = .ok (.getfield 19, 3) := by decide +kernel
theorem dX6_lock_51 : decode cX6_lock 51 = .ok (.getfield 149, 3) := by decide +kernel
theorem dX6_lock_54 : decode cX6_lock 54 = .ok (.iload_n 1, 1) := by decide +kernel
theorem dX6_lock_55 : decode cX6_lock 55 = .ok (.aaload, 1) := by decide +kernel
theorem dX6_lock_56 : decode cX6_lock 56 = .ok (.astore_n 3, 1) := by decide +kernel
theorem dX6_lock_57 : decode cX6_lock 57 = .ok (.iload_n 2, 1) := by decide +kernel
theorem dX6_lock_58 : decode cX6_lock 58 = .ok (.tableswitch 60 0 4 #[34, 39, 44, 50, 55], 34) := by decide +kernel
theorem dX6_lock_92 : decode cX6_lock 92 = .ok (.aload_n 3, 1) := by decide +kernel
theorem dX6_lock_93 : decode cX6_lock 93 = .ok (.getfield 153, 3) := by decide +kernel
theorem dX6_lock_96 : decode cX6_lock 96 = .ok (.ireturn, 1) := by decide +kernel
theorem dX6_lock_97 : decode cX6_lock 97 = .ok (.aload_n 3, 1) := by decide +kernel
theorem dX6_lock_98 : decode cX6_lock 98 = .ok (.getfield 163, 3) := by decide +kernel
theorem dX6_lock_101 : decode cX6_lock 101 = .ok (.ireturn, 1) := by decide +kernel
theorem dX6_lock_102 : decode cX6_lock 102 = .ok (.aload_n 0, 1) := by decide +kernel
theorem dX6_lock_103 : decode cX6_lock 103 = .ok (.iload_n 1, 1) := by decide +kernel
theorem dX6_lock_104 : decode cX6_lock 104 = .ok (.invokevirtual 166, 3) := by decide +kernel
theorem dX6_lock_107 : decode cX6_lock 107 = .ok (.ireturn, 1) := by decide +kernel
theorem dX6_lock_108 : decode cX6_lock 108 = .ok (.aload_n 3, 1) := by decide +kernel
theorem dX6_lock_109 : decode cX6_lock 109 = .ok (.getfield 262, 3) := by decide +kernel
theorem dX6_lock_112 : decode cX6_lock 112 = .ok (.ireturn, 1) := by decide +kernel
theorem dX6_lock_113 : decode cX6_lock 113 = .ok (.aload_n 3, 1) := by decide +kernel
theorem dX6_lock_114 : decode cX6_lock 114 = .ok (.getfield 263, 3) := by decide +kernel
theorem dX6_lock_117 : decode cX6_lock 117 = .ok (.ireturn, 1) := by decide +kernel
theorem dX6_lock_118 : decode cX6_lock 118 = .ok (.aload_n 0, 1) := by decide +kernel
theorem dX6_lock_119 : decode cX6_lock 119 = .ok (.iload_n 1, 1) := by decide +kernel
theorem dX6_lock_120 : decode cX6_lock 120 = .ok (.invokevirtual 266, 3) := by decide +kernel
theorem dX6_lock_123 : decode cX6_lock 123 = .ok (.ireturn, 1) := by decide +kernel
theorem dX6_person_0 : decode cX6_person 0 = .ok (.iload_n 1, 1) := by decide +kernel
theorem dX6_person_1 : decode cX6_person 1 = .ok (.invokestatic 54, 3) := by decide +kernel
theorem dX6_person_4 : decode cX6_person 4 = .ok (.ifCond .ne 14, 3) := by decide +kernel
theorem dX6_person_7 : decode cX6_person 7 = .ok (.new 89, 3) := by decide +kernel
theorem dX6_person_10 : decode cX6_person 10 = .ok (.dup, 1) := by decide +kernel
theorem dX6_person_11 : decode cX6_person 11 = .ok (.ldc_w 269, 3) := by decide +kernel
theorem dX6_person_14 : decode cX6_person 14 = .ok (.invokespecial 93, 3) := by decide +kernel
theorem dX6_person_17 : decode cX6_person 17 = .ok (.athrow, 1) := by decide +kernel
theorem dX6_person_18 : decode cX6_person 18 = .ok (.iload_n 2, 1) := by decide +kernel
theorem dX6_person_19 : decode cX6_person 19 = .ok (.tableswitch 47 0 2 #[25, 31, 37], 25) := by decide +kernel
theorem dX6_person_44 : decode cX6_person 44 = .ok (.aload_n 0, 1) := by decide +kernel
theorem dX6_person_45 : decode cX6_person 45 = .ok (.iload_n 1, 1) := by decide +kernel
theorem dX6_person_46 : decode cX6_person 46 = .ok (.invokevirtual 271, 3) := by decide +kernel
theorem dX6_person_49 : decode cX6_person 49 = .ok (.ireturn, 1) := by decide +kernel
theorem dX6_person_50 : decode cX6_person 50 = .ok (.aload_n 0, 1) := by decide +kernel
theorem dX6_person_51 : decode cX6_person 51 = .ok (.iload_n 1, 1) := by decide +kernel
theorem dX6_person_52 : decode cX6_person 52 = .ok (.invokevirtual 274, 3) := by decide +kernel
theorem dX6_person_55 : decode cX6_person 55 = .ok (.ireturn, 1) := by decide +kernel
theorem dX6_person_56 : decode cX6_person 56 = .ok (.aload_n 0, 1) := by decide +kernel
theorem dX6_person_57 : decode cX6_person 57 = .ok (.getfield 19, 3) := by decide +kernel
theorem dX6_person_60 : decode cX6_person 60 = .ok (.getfield 277, 3) := by decide +kernel
theorem dX6_person_63 : decode cX6_person 63 = .ok (.iload_n 1, 1) := by decide +kernel
theorem dX6_person_64 : decode cX6_person 64 = .ok (.iaload, 1) := by decide +kernel
theorem dX6_person_65 : decode cX6_person 65 = .ok (.ireturn, 1) := by decide +kernel
theorem dX6_person_66 : decode cX6_person 66 = .ok (.new 57, 3) := by decide +kernel
theorem dX6_person_69 : decode cX6_person 69 = .ok (.dup, 1) := by decide +kernel
theorem dX6_person_70 : decode cX6_person 70 = .ok (.ldc_w 280, 3) := by decide +kernel
theorem dX6_person_73 : decode cX6_person 73 = .ok (.invokespecial 61, 3) := by decide +kernel
theorem dX6_person_76 : decode cX6_person 76 = .ok (.athrow, 1) := by decide +kernel
theorem dX6_code_0 : decode cX6_code 0 = .ok (.iload_n 1, 1) := by decide +kernel
theorem dX6_code_1 : decode cX6_code 1 = .ok (.invokestatic 50, 3) := by decide +kernel
theorem dX6_code_4 : decode cX6_code 4 = .ok (.ifCond .ne 13, 3) := by decide +kernel
theorem dX6_code_7 : decode cX6_code 7 = .ok (.new 57, 3) := by decide +kernel
theorem dX6_code_10 : decode cX6_code 10 = .ok (.dup, 1) := by decide +kernel
theorem dX6_code_11 : decode cX6_code 11 = .ok (.ldc 147, 2) := by decide +kernel
theorem dX6_code_13 : decode cX6_code 13 = .ok (.invokespecial 61, 3) := by decide +kernel
theorem dX6_code_16 : decode cX6_code 16 = .ok (.athrow, 1) := by decide +kernel
theorem dX6_code_17 : decode cX6_code 17 = .ok (.iload_n 2, 1) := by decide +kernel
theorem dX6_code_18 : decode cX6_code 18 = .ok (.tableswitch 94 0 5 #[38, 48, 62, 68, 74, 80], 38) := by decide +kernel
theorem dX6_code_56 : decode cX6_code 56 = .ok (.aload_n 0, 1) := by decide +kernel
theorem dX6_code_57 : decode cX6_code 57 = .ok (.getfield 37, 3) := by decide +kernel
theorem dX6_code_60 : decode cX6_code 60 = .ok (.getfield 240, 3) := by decide +kernel
theorem dX6_code_63 : decode cX6_code 63 = .ok (.iload_n 1, 1) := by decide +kernel
theorem dX6_code_64 : decode cX6_code 64 = .ok (.iaload, 1) := by decide +kernel
theorem dX6_code_65 : decode cX6_code 65 = .ok (.ireturn, 1) := by decide +kernel
theorem dX6_code_66 : decode cX6_code 66 = .ok (.aload_n 0, 1) := by decide +kernel
theorem dX6_code_67 : decode cX6_code 67 = .ok (.iload_n 1, 1) := by decide +kernel
theorem dX6_code_68 : decode cX6_code 68 = .ok (.invokevirtual 282, 3) := by decide +kernel
theorem dX6_code_71 : decode cX6_code 71 = .ok (.ifCond .eq 7, 3) := by decide +kernel
theorem dX6_code_74 : decode cX6_code 74 = .ok (.iconst 1, 1) := by decide +kernel
theorem dX6_code_75 : decode cX6_code 75 = .ok (.goto 4, 3) := by decide +kernel
theorem dX6_code_78 : decode cX6_code 78 = .ok (.iconst 0, 1) := by decide +kernel
theorem dX6_code_79 : decode cX6_code 79 = .ok (.ireturn, 1) := by decide +kernel
theorem dX6_code_80 : decode cX6_code 80 = .ok (.aload_n 0, 1) := by decide +kernel
theorem dX6_code_81 : decode cX6_code 81 = .ok (.iload_n 1, 1) := by decide +kernel
theorem dX6_code_82 : decode cX6_code 82 = .ok (.invokevirtual 64, 3) := by decide +kernel
theorem dX6_code_85 : decode cX6_code 85 = .ok (.ireturn, 1) := by decide +kernel
theorem dX6_code_86 : decode cX6_code 86 = .ok (.aload_n 0, 1) := by decide +kernel
theorem dX6_code_87 : decode cX6_code 87 = .ok (.iload_n 1, 1) := by decide +kernel
theorem dX6_code_88 : decode cX6_code 88 = .ok (.invokevirtual 285, 3) := by decide +kernel
theorem dX6_code_91 : decode cX6_code 91 = .ok (.ireturn, 1) := by decide +kernel
theorem dX6_code_92 : decode cX6_code 92 = .ok (.aload_n 0, 1) := by decide +kernel
theorem dX6_code_93 : decode cX6_code 93 = .ok (.iload_n 1, 1) := by decide +kernel
theorem dX6_code_94 : decode cX6_code 94 = .ok (.invokevirtual 288, 3) := by decide +kernel
theorem dX6_code_97 : decode cX6_code 97 = .ok (.ireturn, 1) := by decide +kernel
theorem dX6_code_98 : decode cX6_code 98 = .ok (.aload_n 0, 1) := by decide +kernel
theorem dX6_code_99 : decode cX6_code 99 = .ok (.iload_n 1, 1) := by decide +kernel
theorem dX6_code_100 : decode cX6_code 100 = .ok (.invokevirtual 291, 3) := by decide +kernel
theorem dX6_code_103 : decode cX6_code 103 = .ok (.ifCond .eq 7, 3) := by decide +kernel
theorem dX6_code_106 : decode cX6_code 106 = .ok (.iconst 1, 1) := by decide +kernel
theorem dX6_code_107 : decode cX6_code 107 = .ok (.goto 4, 3) := by decide +kernel
theorem dX6_code_110 : decode cX6_code 110 = .ok (.iconst 0, 1) := by decide +kernel
theorem dX6_code_111 : decode cX6_code 111 = .ok (.ireturn, 1) := by decide +kernel
theorem dX6_code_112 : decode cX6_code 112 = .ok (.new 57, 3) := by decide +kernel
theorem dX6_code_115 : decode cX6_code 115 = .ok (.dup, 1) := by decide +kernel
theorem dX6_code_116 : decode cX6_code 116 = .ok (.ldc_w 260, 3) := by decide +kernel
theorem dX6_code_119 : decode cX6_code 119 = .ok (.invokespecial 61, 3) := by decide +kernel
theorem dX6_code_122 : decode cX6_code 122 = .ok (.athrow, 1) := by decide +kernel
theorem dX6_count_0 : decode cX6_count 0 = .ok (.iload_n 1, 1) := by decide +kernel
theorem dX6_count_1 : decode cX6_count 1 = .ok (.tableswitch 141 0 11 #[63, 71, 76, 81, 86, 94, 102, 110, 118, 126, 131, 136], 63) := by decide +kernel
theorem dX6_count_64 : decode cX6_count 64 = .ok (.aload_n 0, 1) := by decide +kernel
theorem dX6_count_65 : decode cX6_count 65 = .ok (.getfield 19, 3) := by decide +kernel
theorem dX6_count_68 : decode cX6_count 68 = .ok (.getfield 80, 3) := by decide +kernel
theorem dX6_count_71 : decode cX6_count 71 = .ok (.ireturn, 1) := by decide +kernel
theorem dX6_count_72 : decode cX6_count 72 = .ok (.aload_n 0, 1) := by decide +kernel
theorem dX6_count_73 : decode cX6_count 73 = .ok (.invokevirtual 310, 3) := by decide +kernel
theorem dX6_count_76 : decode cX6_count 76 = .ok (.ireturn, 1) := by decide +kernel
theorem dX6_count_77 : decode cX6_count 77 = .ok (.aload_n 0, 1) := by decide +kernel
theorem dX6_count_78 : decode cX6_count 78 = .ok (.invokevirtual 313, 3) := by decide +kernel
theorem dX6_count_81 : decode cX6_count 81 = .ok (.ireturn, 1) := by decide +kernel
theorem dX6_count_82 : decode cX6_count 82 = .ok (.aload_n 0, 1) := by decide +kernel
theorem dX6_count_83 : decode cX6_count 83 = .ok (.invokevirtual 316, 3) := by decide +kernel
theorem dX6_count_86 : decode cX6_count 86 = .ok (.ireturn, 1) := by decide +kernel
theorem dX6_count_87 : decode cX6_count 87 = .ok (.aload_n 0, 1) := by decide +kernel
theorem dX6_count_88 : decode cX6_count 88 = .ok (.getfield 19, 3) := by decide +kernel
theorem dX6_count_91 : decode cX6_count 91 = .ok (.getfield 319, 3) := by decide +kernel
theorem dX6_count_94 : decode cX6_count 94 = .ok (.ireturn, 1) := by decide +kernel
theorem dX6_count_95 : decode cX6_count 95 = .ok (.aload_n 0, 1) := by decide +kernel
theorem dX6_count_96 : decode cX6_count 96 = .ok (.getfield 19, 3) := by decide +kernel
theorem dX6_count_99 : decode cX6_count 99 = .ok (.getfield 322, 3) := by decide +kernel
theorem dX6_count_102 : decode cX6_count 102 = .ok (.ireturn, 1) := by decide +kernel
theorem dX6_count_103 : decode cX6_count 103 = .ok (.aload_n 0, 1) := by decide +kernel
theorem dX6_count_104 : decode cX6_count 104 = .ok (.getfield 19, 3) := by decide +kernel
theorem dX6_count_107 : decode cX6_count 107 = .ok (.getfield 323, 3) := by decide +kernel
theorem dX6_count_110 : decode cX6_count 110 = .ok (.ireturn, 1) := by decide +kernel
theorem dX6_count_111 : decode cX6_count 111 = .ok (.aload_n 0, 1) := by decide +kernel
theorem dX6_count_112 : decode cX6_count 112 = .ok (.getfield 19, 3) := by decide +kernel
theorem dX6_count_115 : decode cX6_count 115 = .ok (.getfield 324, 3) := by decide +kernel
theorem dX6_count_118 : decode cX6_count 118 = .ok (.ireturn, 1) := by decide +kernel
theorem dX6_count_119 : decode cX6_count 119 = .ok (.aload_n 0, 1) := by decide +kernel
theorem dX6_count_120 : decode cX6_count 120 = .ok (.getfield 19, 3) := by decide +kernel
theorem dX6_count_123 : decode cX6_count 123 = .ok (.getfield 118, 3) := by decide +kernel
theorem dX6_count_126 : decode cX6_count 126 = .ok (.ireturn, 1) := by decide +kernel
theorem dX6_count_127 : decode cX6_count 127 = .ok (.aload_n 0, 1) := by decide +kernel
theorem dX6_count_128 : decode cX6_count 128 = .ok (.invokevirtual 325, 3) := by decide +kernel
theorem dX6_count_131 : decode cX6_count 131 = .ok (.ireturn, 1) := by decide +kernel
theorem dX6_count_132 : decode cX6_count 132 = .ok (.aload_n 0, 1) := by decide +kernel
theorem dX6_count_133 : decode cX6_count 133 = .ok (.invokevirtual 328, 3) := by decide +kernel
theorem dX6_count_136 : decode cX6_count 136 = .ok (.ireturn, 1) := by decide +kernel
theorem dX6_count_137 : decode cX6_count 137 = .ok (.aload_n 0, 1) := by decide +kernel
theorem dX6_count_138 : decode cX6_count 138 = .ok (.getfield 235, 3) := by decide +kernel
theorem dX6_count_141 : decode cX6_count 141 = .ok (.ireturn, 1) := by decide +kernel
theorem dX6_count_142 : decode cX6_count 142 = .ok (.new 57, 3) := by decide +kernel
theorem dX6_count_145 : decode cX6_count 145 = .ok (.dup, 1) := by decide +kernel
theorem dX6_count_146 : decode cX6_count 146 = .ok (.ldc_w 331, 3) := by decide +kernel
theorem dX6_count_149 : decode cX6_count 149 = .ok (.invokespecial 61, 3) := by decide +kernel
theorem dX6_count_152 : decode cX6_count 152 = .ok (.athrow, 1) := by decide +kernel
theorem dX6_why_0 : decode cX6_why 0 = .ok (.aload_n 0, 1) := by decide +kernel
theorem dX6_why_1 : decode cX6_why 1 = .ok (.iload_n 1, 1) := by decide +kernel
theorem dX6_why_2 : decode cX6_why 2 = .ok (.invokevirtual 83, 3) := by decide +kernel
theorem dX6_why_5 : decode cX6_why 5 = .ok (.ifCond .eq 10, 3) := by decide +kernel
theorem dX6_why_8 : decode cX6_why 8 = .ok (.iload_n 2, 1) := by decide +kernel
theorem dX6_why_9 : decode cX6_why 9 = .ok (.invokestatic 86, 3) := by decide +kernel
theorem dX6_why_12 : decode cX6_why 12 = .ok (.ifCond .ne 13, 3) := by decide +kernel
theorem dX6_why_15 : decode cX6_why 15 = .ok (.new 89, 3) := by decide +kernel
theorem dX6_why_18 : decode cX6_why 18 = .ok (.dup, 1) := by decide +kernel
theorem dX6_why_19 : decode cX6_why 19 = .ok (.ldc 91, 2) := by decide +kernel
theorem dX6_why_21 : decode cX6_why 21 = .ok (.invokespecial 93, 3) := by decide +kernel
theorem dX6_why_24 : decode cX6_why 24 = .ok (.athrow, 1) := by decide +kernel
theorem dX6_why_25 : decode cX6_why 25 = .ok (.aload_n 0, 1) := by decide +kernel
theorem dX6_why_26 : decode cX6_why 26 = .ok (.iload_n 1, 1) := by decide +kernel
theorem dX6_why_27 : decode cX6_why 27 = .ok (.iload_n 2, 1) := by decide +kernel
theorem dX6_why_28 : decode cX6_why 28 = .ok (.invokevirtual 94, 3) := by decide +kernel
theorem dX6_why_31 : decode cX6_why 31 = .ok (.ireturn, 1) := by decide +kernel
theorem dX6_most_0 : decode cX6_most 0 = .ok (.iload_n 1, 1) := by decide +kernel
theorem dX6_most_1 : decode cX6_most 1 = .ok (.ifCond .lt 8, 3) := by decide +kernel
theorem dX6_most_4 : decode cX6_most 4 = .ok (.iload_n 1, 1) := by decide +kernel
theorem dX6_most_5 : decode cX6_most 5 = .ok (.iconst 1, 1) := by decide +kernel
theorem dX6_most_6 : decode cX6_most 6 = .ok (.if_icmp .le 14, 3) := by decide +kernel
theorem dX6_most_9 : decode cX6_most 9 = .ok (.new 57, 3) := by decide +kernel
theorem dX6_most_12 : decode cX6_most 12 = .ok (.dup, 1) := by decide +kernel
theorem dX6_most_13 : decode cX6_most 13 = .ok (.ldc_w 333, 3) := by decide +kernel
theorem dX6_most_16 : decode cX6_most 16 = .ok (.invokespecial 61, 3) := by decide +kernel
theorem dX6_most_19 : decode cX6_most 19 = .ok (.athrow, 1) := by decide +kernel
theorem dX6_most_20 : decode cX6_most 20 = .ok (.aload_n 0, 1) := by decide +kernel
theorem dX6_most_21 : decode cX6_most 21 = .ok (.invokevirtual 335, 3) := by decide +kernel
theorem dX6_most_24 : decode cX6_most 24 = .ok (.iload_n 1, 1) := by decide +kernel
theorem dX6_most_25 : decode cX6_most 25 = .ok (.ifCond .ne 13, 3) := by decide +kernel
theorem dX6_most_28 : decode cX6_most 28 = .ok (.aload_n 0, 1) := by decide +kernel
theorem dX6_most_29 : decode cX6_most 29 = .ok (.getfield 46, 3) := by decide +kernel
theorem dX6_most_32 : decode cX6_most 32 = .ok (.getfield 338, 3) := by decide +kernel
theorem dX6_most_35 : decode cX6_most 35 = .ok (.goto 10, 3) := by decide +kernel
theorem dX6_most_38 : decode cX6_most 38 = .ok (.aload_n 0, 1) := by decide +kernel
theorem dX6_most_39 : decode cX6_most 39 = .ok (.getfield 46, 3) := by decide +kernel
theorem dX6_most_42 : decode cX6_most 42 = .ok (.getfield 341, 3) := by decide +kernel
theorem dX6_most_45 : decode cX6_most 45 = .ok (.ireturn, 1) := by decide +kernel
theorem dX6_pick_0 : decode cX6_pick 0 = .ok (.iload_n 1, 1) := by decide +kernel
theorem dX6_pick_1 : decode cX6_pick 1 = .ok (.ifCond .ge 14, 3) := by decide +kernel
theorem dX6_pick_4 : decode cX6_pick 4 = .ok (.new 89, 3) := by decide +kernel
theorem dX6_pick_7 : decode cX6_pick 7 = .ok (.dup, 1) := by decide +kernel
theorem dX6_pick_8 : decode cX6_pick 8 = .ok (.ldc_w 344, 3) := by decide +kernel
theorem dX6_pick_11 : decode cX6_pick 11 = .ok (.invokespecial 93, 3) := by decide +kernel
theorem dX6_pick_14 : decode cX6_pick 14 = .ok (.athrow, 1) := by decide +kernel
theorem dX6_pick_15 : decode cX6_pick 15 = .ok (.aload_n 0, 1) := by decide +kernel
theorem dX6_pick_16 : decode cX6_pick 16 = .ok (.invokevirtual 335, 3) := by decide +kernel
theorem dX6_pick_19 : decode cX6_pick 19 = .ok (.iload_n 1, 1) := by decide +kernel
theorem dX6_pick_20 : decode cX6_pick 20 = .ok (.aload_n 0, 1) := by decide +kernel
theorem dX6_pick_21 : decode cX6_pick 21 = .ok (.getfield 46, 3) := by decide +kernel
theorem dX6_pick_24 : decode cX6_pick 24 = .ok (.getfield 341, 3) := by decide +kernel
theorem dX6_pick_27 : decode cX6_pick 27 = .ok (.if_icmp .ge 21, 3) := by decide +kernel
theorem dX6_pick_30 : decode cX6_pick 30 = .ok (.iload_n 1, 1) := by decide +kernel
theorem dX6_pick_31 : decode cX6_pick 31 = .ok (.bipush 81, 2) := by decide +kernel
theorem dX6_pick_33 : decode cX6_pick 33 = .ok (.if_icmp .ge 15, 3) := by decide +kernel
theorem dX6_pick_36 : decode cX6_pick 36 = .ok (.aload_n 0, 1) := by decide +kernel
theorem dX6_pick_37 : decode cX6_pick 37 = .ok (.getfield 46, 3) := by decide +kernel
theorem dX6_pick_40 : decode cX6_pick 40 = .ok (.getfield 346, 3) := by decide +kernel
theorem dX6_pick_43 : decode cX6_pick 43 = .ok (.iload_n 1, 1) := by decide +kernel
theorem dX6_pick_44 : decode cX6_pick 44 = .ok (.iaload, 1) := by decide +kernel
theorem dX6_pick_45 : decode cX6_pick 45 = .ok (.goto 4, 3) := by decide +kernel
theorem dX6_pick_48 : decode cX6_pick 48 = .ok (.iconst (-1), 1) := by decide +kernel
theorem dX6_pick_49 : decode cX6_pick 49 = .ok (.ireturn, 1) := by decide +kernel
theorem dX6_opener_0 : decode cX6_opener 0 = .ok (.iload_n 1, 1) := by decide +kernel
theorem dX6_opener_1 : decode cX6_opener 1 = .ok (.ifCond .le 17, 3) := by decide +kernel
theorem dX6_opener_4 : decode cX6_opener 4 = .ok (.iload_n 1, 1) := by decide +kernel
theorem dX6_opener_5 : decode cX6_opener 5 = .ok (.bipush 64, 2) := by decide +kernel
theorem dX6_opener_7 : decode cX6_opener 7 = .ok (.if_icmp .ge 11, 3) := by decide +kernel
theorem dX6_opener_10 : decode cX6_opener 10 = .ok (.aload_n 0, 1) := by decide +kernel
theorem dX6_opener_11 : decode cX6_opener 11 = .ok (.iload_n 1, 1) := by decide +kernel
theorem dX6_opener_12 : decode cX6_opener 12 = .ok (.invokevirtual 349, 3) := by decide +kernel
theorem dX6_opener_15 : decode cX6_opener 15 = .ok (.ifCond .ne 14, 3) := by decide +kernel
theorem dX6_opener_18 : decode cX6_opener 18 = .ok (.new 57, 3) := by decide +kernel
theorem dX6_opener_21 : decode cX6_opener 21 = .ok (.dup, 1) := by decide +kernel
theorem dX6_opener_22 : decode cX6_opener 22 = .ok (.ldc_w 352, 3) := by decide +kernel
theorem dX6_opener_25 : decode cX6_opener 25 = .ok (.invokespecial 61, 3) := by decide +kernel
theorem dX6_opener_28 : decode cX6_opener 28 = .ok (.athrow, 1) := by decide +kernel
theorem dX6_opener_29 : decode cX6_opener 29 = .ok (.iconst (-1), 1) := by decide +kernel
theorem dX6_opener_30 : decode cX6_opener 30 = .ok (.istore_n 2, 1) := by decide +kernel
theorem dX6_opener_31 : decode cX6_opener 31 = .ok (.bipush 9, 2) := by decide +kernel
theorem dX6_opener_33 : decode cX6_opener 33 = .ok (.istore_n 3, 1) := by decide +kernel
theorem dX6_opener_34 : decode cX6_opener 34 = .ok (.iconst 0, 1) := by decide +kernel
theorem dX6_opener_35 : decode cX6_opener 35 = .ok (.istore 4, 2) := by decide +kernel
theorem dX6_opener_37 : decode cX6_opener 37 = .ok (.iload 4, 2) := by decide +kernel
theorem dX6_opener_39 : decode cX6_opener 39 = .ok (.bipush 81, 2) := by decide +kernel
theorem dX6_opener_41 : decode cX6_opener 41 = .ok (.if_icmp .ge 56, 3) := by decide +kernel
theorem dX6_opener_44 : decode cX6_opener 44 = .ok (.aload_n 0, 1) := by decide +kernel
theorem dX6_opener_45 : decode cX6_opener 45 = .ok (.getfield 37, 3) := by decide +kernel
theorem dX6_opener_48 : decode cX6_opener 48 = .ok (.getfield 240, 3) := by decide +kernel
theorem dX6_opener_51 : decode cX6_opener 51 = .ok (.iload 4, 2) := by decide +kernel
theorem dX6_opener_53 : decode cX6_opener 53 = .ok (.iaload, 1) := by decide +kernel
theorem dX6_opener_54 : decode cX6_opener 54 = .ok (.iload_n 3, 1) := by decide +kernel
theorem dX6_opener_55 : decode cX6_opener 55 = .ok (.if_icmp .ge 36, 3) := by decide +kernel
theorem dX6_opener_58 : decode cX6_opener 58 = .ok (.aload_n 0, 1) := by decide +kernel
theorem dX6_opener_59 : decode cX6_opener 59 = .ok (.iload 4, 2) := by decide +kernel
theorem dX6_opener_61 : decode cX6_opener 61 = .ok (.invokevirtual 282, 3) := by decide +kernel
theorem dX6_opener_64 : decode cX6_opener 64 = .ok (.ifCond .eq 27, 3) := by decide +kernel
theorem dX6_opener_67 : decode cX6_opener 67 = .ok (.aload_n 0, 1) := by decide +kernel
theorem dX6_opener_68 : decode cX6_opener 68 = .ok (.iload 4, 2) := by decide +kernel
theorem dX6_opener_70 : decode cX6_opener 70 = .ok (.iload_n 1, 1) := by decide +kernel
theorem dX6_opener_71 : decode cX6_opener 71 = .ok (.invokevirtual 354, 3) := by decide +kernel
theorem dX6_opener_74 : decode cX6_opener 74 = .ok (.ifCond .eq 17, 3) := by decide +kernel
theorem dX6_opener_77 : decode cX6_opener 77 = .ok (.iload 4, 2) := by decide +kernel
theorem dX6_opener_79 : decode cX6_opener 79 = .ok (.istore_n 2, 1) := by decide +kernel
theorem dX6_opener_80 : decode cX6_opener 80 = .ok (.aload_n 0, 1) := by decide +kernel
theorem dX6_opener_81 : decode cX6_opener 81 = .ok (.getfield 37, 3) := by decide +kernel
theorem dX6_opener_84 : decode cX6_opener 84 = .ok (.getfield 240, 3) := by decide +kernel
theorem dX6_opener_87 : decode cX6_opener 87 = .ok (.iload 4, 2) := by decide +kernel
theorem dX6_opener_89 : decode cX6_opener 89 = .ok (.iaload, 1) := by decide +kernel
theorem dX6_opener_90 : decode cX6_opener 90 = .ok (.istore_n 3, 1) := by decide +kernel
theorem dX6_opener_91 : decode cX6_opener 91 = .ok (.iinc 4 1, 3) := by decide +kernel
theorem dX6_opener_94 : decode cX6_opener 94 = .ok (.goto (-57), 3) := by decide +kernel
theorem dX6_opener_97 : decode cX6_opener 97 = .ok (.iload_n 2, 1) := by decide +kernel
theorem dX6_opener_98 : decode cX6_opener 98 = .ok (.ireturn, 1) := by decide +kernel
theorem dX6_freeShare_0 : decode cX6_freeShare 0 = .ok (.aload_n 0, 1) := by decide +kernel
theorem dX6_freeShare_1 : decode cX6_freeShare 1 = .ok (.invokevirtual 325, 3) := by decide +kernel
theorem dX6_freeShare_4 : decode cX6_freeShare 4 = .ok (.istore_n 1, 1) := by decide +kernel
theorem dX6_freeShare_5 : decode cX6_freeShare 5 = .ok (.iload_n 1, 1) := by decide +kernel
theorem dX6_freeShare_6 : decode cX6_freeShare 6 = .ok (.ifCond .le 14, 3) := by decide +kernel
theorem dX6_freeShare_9 : decode cX6_freeShare 9 = .ok (.aload_n 0, 1) := by decide +kernel
theorem dX6_freeShare_10 : decode cX6_freeShare 10 = .ok (.invokevirtual 328, 3) := by decide +kernel
theorem dX6_freeShare_13 : decode cX6_freeShare 13 = .ok (.i2d, 1) := by decide +kernel
theorem dX6_freeShare_14 : decode cX6_freeShare 14 = .ok (.iload_n 1, 1) := by decide +kernel
theorem dX6_freeShare_15 : decode cX6_freeShare 15 = .ok (.i2d, 1) := by decide +kernel
theorem dX6_freeShare_16 : decode cX6_freeShare 16 = .ok (.ddiv, 1) := by decide +kernel
theorem dX6_freeShare_17 : decode cX6_freeShare 17 = .ok (.goto 4, 3) := by decide +kernel
theorem dX6_freeShare_20 : decode cX6_freeShare 20 = .ok (.dconst 0, 1) := by decide +kernel
theorem dX6_freeShare_21 : decode cX6_freeShare 21 = .ok (.dreturn, 1) := by decide +kernel
theorem dX6_isCode_0 : decode cX6_isCode 0 = .ok (.iload_n 0, 1) := by decide +kernel
theorem dX6_isCode_1 : decode cX6_isCode 1 = .ok (.ifCond .lt 13, 3) := by decide +kernel
theorem dX6_isCode_4 : decode cX6_isCode 4 = .ok (.iload_n 0, 1) := by decide +kernel
theorem dX6_isCode_5 : decode cX6_isCode 5 = .ok (.bipush 81, 2) := by decide +kernel
theorem dX6_isCode_7 : decode cX6_isCode 7 = .ok (.if_icmp .ge 7, 3) := by decide +kernel
theorem dX6_isCode_10 : decode cX6_isCode 10 = .ok (.iconst 1, 1) := by decide +kernel
theorem dX6_isCode_11 : decode cX6_isCode 11 = .ok (.goto 4, 3) := by decide +kernel
theorem dX6_isCode_14 : decode cX6_isCode 14 = .ok (.iconst 0, 1) := by decide +kernel
theorem dX6_isCode_15 : decode cX6_isCode 15 = .ok (.ireturn, 1) := by decide +kernel
theorem dX6_isPerson_0 : decode cX6_isPerson 0 = .ok (.iload_n 0, 1) := by decide +kernel
theorem dX6_isPerson_1 : decode cX6_isPerson 1 = .ok (.ifCond .lt 12, 3) := by decide +kernel
theorem dX6_isPerson_4 : decode cX6_isPerson 4 = .ok (.iload_n 0, 1) := by decide +kernel
theorem dX6_isPerson_5 : decode cX6_isPerson 5 = .ok (.iconst 4, 1) := by decide +kernel
theorem dX6_isPerson_6 : decode cX6_isPerson 6 = .ok (.if_icmp .ge 7, 3) := by decide +kernel
theorem dX6_isPerson_9 : decode cX6_isPerson 9 = .ok (.iconst 1, 1) := by decide +kernel
theorem dX6_isPerson_10 : decode cX6_isPerson 10 = .ok (.goto 4, 3) := by decide +kernel
theorem dX6_isPerson_13 : decode cX6_isPerson 13 = .ok (.iconst 0, 1) := by decide +kernel
theorem dX6_isPerson_14 : decode cX6_isPerson 14 = .ok (.ireturn, 1) := by decide +kernel
theorem dX6_isNotch_0 : decode cX6_isNotch 0 = .ok (.iload_n 0, 1) := by decide +kernel
theorem dX6_isNotch_1 : decode cX6_isNotch 1 = .ok (.ifCond .lt 12, 3) := by decide +kernel
theorem dX6_isNotch_4 : decode cX6_isNotch 4 = .ok (.iload_n 0, 1) := by decide +kernel
theorem dX6_isNotch_5 : decode cX6_isNotch 5 = .ok (.iconst 4, 1) := by decide +kernel
theorem dX6_isNotch_6 : decode cX6_isNotch 6 = .ok (.if_icmp .ge 7, 3) := by decide +kernel
theorem dX6_isNotch_9 : decode cX6_isNotch 9 = .ok (.iconst 1, 1) := by decide +kernel
theorem dX6_isNotch_10 : decode cX6_isNotch 10 = .ok (.goto 4, 3) := by decide +kernel
theorem dX6_isNotch_13 : decode cX6_isNotch 13 = .ok (.iconst 0, 1) := by decide +kernel
theorem dX6_isNotch_14 : decode cX6_isNotch 14 = .ok (.ireturn, 1) := by decide +kernel
theorem dX6_isPlace_0 : decode cX6_isPlace 0 = .ok (.iload_n 0, 1) := by decide +kernel
theorem dX6_isPlace_1 : decode cX6_isPlace 1 = .ok (.ifCond .lt 13, 3) := by decide +kernel
theorem dX6_isPlace_4 : decode cX6_isPlace 4 = .ok (.iload_n 0, 1) := by decide +kernel
theorem dX6_isPlace_5 : decode cX6_isPlace 5 = .ok (.bipush 6, 2) := by decide +kernel
theorem dX6_isPlace_7 : decode cX6_isPlace 7 = .ok (.if_icmp .ge 7, 3) := by decide +kernel
theorem dX6_isPlace_10 : decode cX6_isPlace 10 = .ok (.iconst 1, 1) := by decide +kernel
theorem dX6_isPlace_11 : decode cX6_isPlace 11 = .ok (.goto 4, 3) := by decide +kernel
theorem dX6_isPlace_14 : decode cX6_isPlace 14 = .ok (.iconst 0, 1) := by decide +kernel
theorem dX6_isPlace_15 : decode cX6_isPlace 15 = .ok (.ireturn, 1) := by decide +kernel
theorem dX6_isSetting_0 : decode cX6_isSetting 0 = .ok (.iload_n 0, 1) := by decide +kernel
theorem dX6_isSetting_1 : decode cX6_isSetting 1 = .ok (.ifCond .lt 12, 3) := by decide +kernel
theorem dX6_isSetting_4 : decode cX6_isSetting 4 = .ok (.iload_n 0, 1) := by decide +kernel
theorem dX6_isSetting_5 : decode cX6_isSetting 5 = .ok (.iconst 4, 1) := by decide +kernel
theorem dX6_isSetting_6 : decode cX6_isSetting 6 = .ok (.if_icmp .ge 7, 3) := by decide +kernel
theorem dX6_isSetting_9 : decode cX6_isSetting 9 = .ok (.iconst 1, 1) := by decide +kernel
theorem dX6_isSetting_10 : decode cX6_isSetting 10 = .ok (.goto 4, 3) := by decide +kernel
theorem dX6_isSetting_13 : decode cX6_isSetting 13 = .ok (.iconst 0, 1) := by decide +kernel
theorem dX6_isSetting_14 : decode cX6_isSetting 14 = .ok (.ireturn, 1) := by decide +kernel
theorem dX6_isKey_0 : decode cX6_isKey 0 = .ok (.iload_n 1, 1) := by decide +kernel
theorem dX6_isKey_1 : decode cX6_isKey 1 = .ok (.ifCond .lt 24, 3) := by decide +kernel
theorem dX6_isKey_4 : decode cX6_isKey 4 = .ok (.iload_n 1, 1) := by decide +kernel
theorem dX6_isKey_5 : decode cX6_isKey 5 = .ok (.aload_n 0, 1) := by decide +kernel
theorem dX6_isKey_6 : decode cX6_isKey 6 = .ok (.getfield 19, 3) := by decide +kernel
theorem dX6_isKey_9 : decode cX6_isKey 9 = .ok (.getfield 80, 3) := by decide +kernel
theorem dX6_isKey_12 : decode cX6_isKey 12 = .ok (.if_icmp .ge 13, 3) := by decide +kernel
theorem dX6_isKey_15 : decode cX6_isKey 15 = .ok (.iload_n 1, 1) := by decide +kernel
theorem dX6_isKey_16 : decode cX6_isKey 16 = .ok (.bipush 12, 2) := by decide +kernel
theorem dX6_isKey_18 : decode cX6_isKey 18 = .ok (.if_icmp .ge 7, 3) := by decide +kernel
theorem dX6_isKey_21 : decode cX6_isKey 21 = .ok (.iconst 1, 1) := by decide +kernel
theorem dX6_isKey_22 : decode cX6_isKey 22 = .ok (.goto 4, 3) := by decide +kernel
theorem dX6_isKey_25 : decode cX6_isKey 25 = .ok (.iconst 0, 1) := by decide +kernel
theorem dX6_isKey_26 : decode cX6_isKey 26 = .ok (.ireturn, 1) := by decide +kernel
theorem dX6_isLock_0 : decode cX6_isLock 0 = .ok (.iload_n 1, 1) := by decide +kernel
theorem dX6_isLock_1 : decode cX6_isLock 1 = .ok (.invokestatic 142, 3) := by decide +kernel
theorem dX6_isLock_4 : decode cX6_isLock 4 = .ok (.ifCond .eq 23, 3) := by decide +kernel
theorem dX6_isLock_7 : decode cX6_isLock 7 = .ok (.aload_n 0, 1) := by decide +kernel
theorem dX6_isLock_8 : decode cX6_isLock 8 = .ok (.getfield 19, 3) := by decide +kernel
theorem dX6_isLock_11 : decode cX6_isLock 11 = .ok (.getfield 149, 3) := by decide +kernel
theorem dX6_isLock_14 : decode cX6_isLock 14 = .ok (.iload_n 1, 1) := by decide +kernel
theorem dX6_isLock_15 : decode cX6_isLock 15 = .ok (.aaload, 1) := by decide +kernel
theorem dX6_isLock_16 : decode cX6_isLock 16 = .ok (.getfield 153, 3) := by decide +kernel
theorem dX6_isLock_19 : decode cX6_isLock 19 = .ok (.iconst (-1), 1) := by decide +kernel
theorem dX6_isLock_20 : decode cX6_isLock 20 = .ok (.if_icmp .eq 7, 3) := by decide +kernel
theorem dX6_isLock_23 : decode cX6_isLock 23 = .ok (.iconst 1, 1) := by decide +kernel
theorem dX6_isLock_24 : decode cX6_isLock 24 = .ok (.goto 4, 3) := by decide +kernel
theorem dX6_isLock_27 : decode cX6_isLock 27 = .ok (.iconst 0, 1) := by decide +kernel
theorem dX6_isLock_28 : decode cX6_isLock 28 = .ok (.ireturn, 1) := by decide +kernel
theorem dX6_save_0 : decode cX6_save 0 = .ok (.aload_n 0, 1) := by decide +kernel
theorem dX6_save_1 : decode cX6_save 1 = .ok (.aload_n 0, 1) := by decide +kernel
theorem dX6_save_2 : decode cX6_save 2 = .ok (.getfield 30, 3) := by decide +kernel
theorem dX6_save_5 : decode cX6_save 5 = .ok (.iconst 5, 1) := by decide +kernel
theorem dX6_save_6 : decode cX6_save 6 = .ok (.if_icmp .ge 12, 3) := by decide +kernel
theorem dX6_save_9 : decode cX6_save 9 = .ok (.aload_n 0, 1) := by decide +kernel
theorem dX6_save_10 : decode cX6_save 10 = .ok (.getfield 30, 3) := by decide +kernel
theorem dX6_save_13 : decode cX6_save 13 = .ok (.iconst 1, 1) := by decide +kernel
theorem dX6_save_14 : decode cX6_save 14 = .ok (.iadd, 1) := by decide +kernel
theorem dX6_save_15 : decode cX6_save 15 = .ok (.goto 4, 3) := by decide +kernel
theorem dX6_save_18 : decode cX6_save 18 = .ok (.iconst 0, 1) := by decide +kernel
theorem dX6_save_19 : decode cX6_save 19 = .ok (.putfield 30, 3) := by decide +kernel
theorem dX6_save_22 : decode cX6_save 22 = .ok (.aload_n 0, 1) := by decide +kernel
theorem dX6_save_23 : decode cX6_save 23 = .ok (.getfield 26, 3) := by decide +kernel
theorem dX6_save_26 : decode cX6_save 26 = .ok (.aload_n 0, 1) := by decide +kernel
theorem dX6_save_27 : decode cX6_save 27 = .ok (.getfield 30, 3) := by decide +kernel
theorem dX6_save_30 : decode cX6_save 30 = .ok (.aaload, 1) := by decide +kernel
theorem dX6_save_31 : decode cX6_save 31 = .ok (.aload_n 0, 1) := by decide +kernel
theorem dX6_save_32 : decode cX6_save 32 = .ok (.getfield 19, 3) := by decide +kernel
theorem dX6_save_35 : decode cX6_save 35 = .ok (.invokevirtual 227, 3) := by decide +kernel
theorem dX6_save_38 : decode cX6_save 38 = .ok (.aload_n 0, 1) := by decide +kernel
theorem dX6_save_39 : decode cX6_save 39 = .ok (.getfield 235, 3) := by decide +kernel
theorem dX6_save_42 : decode cX6_save 42 = .ok (.bipush 6, 2) := by decide +kernel
theorem dX6_save_44 : decode cX6_save 44 = .ok (.if_icmp .ge 13, 3) := by decide +kernel
theorem dX6_save_47 : decode cX6_save 47 = .ok (.aload_n 0, 1) := by decide +kernel
theorem dX6_save_48 : decode cX6_save 48 = .ok (.dup, 1) := by decide +kernel
theorem dX6_save_49 : decode cX6_save 49 = .ok (.getfield 235, 3) := by decide +kernel
theorem dX6_save_52 : decode cX6_save 52 = .ok (.iconst 1, 1) := by decide +kernel
theorem dX6_save_53 : decode cX6_save 53 = .ok (.iadd, 1) := by decide +kernel
theorem dX6_save_54 : decode cX6_save 54 = .ok (.putfield 235, 3) := by decide +kernel
theorem dX6_save_57 : decode cX6_save 57 = .ok (.return_, 1) := by decide +kernel
theorem dX6_addKey_0 : decode cX6_addKey 0 = .ok (.aload_n 0, 1) := by decide +kernel
theorem dX6_addKey_1 : decode cX6_addKey 1 = .ok (.getfield 19, 3) := by decide +kernel
theorem dX6_addKey_4 : decode cX6_addKey 4 = .ok (.getfield 103, 3) := by decide +kernel
theorem dX6_addKey_7 : decode cX6_addKey 7 = .ok (.aload_n 0, 1) := by decide +kernel
theorem dX6_addKey_8 : decode cX6_addKey 8 = .ok (.getfield 19, 3) := by decide +kernel
theorem dX6_addKey_11 : decode cX6_addKey 11 = .ok (.getfield 80, 3) := by decide +kernel
theorem dX6_addKey_14 : decode cX6_addKey 14 = .ok (.aaload, 1) := by decide +kernel
theorem dX6_addKey_15 : decode cX6_addKey 15 = .ok (.iload_n 1, 1) := by decide +kernel
theorem dX6_addKey_16 : decode cX6_addKey 16 = .ok (.iload_n 2, 1) := by decide +kernel
theorem dX6_addKey_17 : decode cX6_addKey 17 = .ok (.invokevirtual 409, 3) := by decide +kernel
theorem dX6_addKey_20 : decode cX6_addKey 20 = .ok (.aload_n 0, 1) := by decide +kernel
theorem dX6_addKey_21 : decode cX6_addKey 21 = .ok (.getfield 19, 3) := by decide +kernel
theorem dX6_addKey_24 : decode cX6_addKey 24 = .ok (.dup, 1) := by decide +kernel
theorem dX6_addKey_25 : decode cX6_addKey 25 = .ok (.getfield 80, 3) := by decide +kernel
theorem dX6_addKey_28 : decode cX6_addKey 28 = .ok (.iconst 1, 1) := by decide +kernel
theorem dX6_addKey_29 : decode cX6_addKey 29 = .ok (.iadd, 1) := by decide +kernel
theorem dX6_addKey_30 : decode cX6_addKey 30 = .ok (.putfield 80, 3) := by decide +kernel
theorem dX6_addKey_33 : decode cX6_addKey 33 = .ok (.aload_n 0, 1) := by decide +kernel
theorem dX6_addKey_34 : decode cX6_addKey 34 = .ok (.getfield 19, 3) := by decide +kernel
theorem dX6_addKey_37 : decode cX6_addKey 37 = .ok (.dup, 1) := by decide +kernel
theorem dX6_addKey_38 : decode cX6_addKey 38 = .ok (.getfield 319, 3) := by decide +kernel
theorem dX6_addKey_41 : decode cX6_addKey 41 = .ok (.aload_n 0, 1) := by decide +kernel
theorem dX6_addKey_42 : decode cX6_addKey 42 = .ok (.getfield 19, 3) := by decide +kernel
theorem dX6_addKey_45 : decode cX6_addKey 45 = .ok (.getfield 194, 3) := by decide +kernel
theorem dX6_addKey_48 : decode cX6_addKey 48 = .ok (.iconst 1, 1) := by decide +kernel
theorem dX6_addKey_49 : decode cX6_addKey 49 = .ok (.iaload, 1) := by decide +kernel
theorem dX6_addKey_50 : decode cX6_addKey 50 = .ok (.aload_n 0, 1) := by decide +kernel
theorem dX6_addKey_51 : decode cX6_addKey 51 = .ok (.getfield 37, 3) := by decide +kernel
theorem dX6_addKey_54 : decode cX6_addKey 54 = .ok (.getfield 240, 3) := by decide +kernel
theorem dX6_addKey_57 : decode cX6_addKey 57 = .ok (.iload_n 1, 1) := by decide +kernel
theorem dX6_addKey_58 : decode cX6_addKey 58 = .ok (.iaload, 1) := by decide +kernel
theorem dX6_addKey_59 : decode cX6_addKey 59 = .ok (.imul, 1) := by decide +kernel
theorem dX6_addKey_60 : decode cX6_addKey 60 = .ok (.iadd, 1) := by decide +kernel
theorem dX6_addKey_61 : decode cX6_addKey 61 = .ok (.putfield 319, 3) := by decide +kernel
theorem dX6_addKey_64 : decode cX6_addKey 64 = .ok (.return_, 1) := by decide +kernel
theorem dX6_cutDeeper_0 : decode cX6_cutDeeper 0 = .ok (.aload_n 0, 1) := by decide +kernel
theorem dX6_cutDeeper_1 : decode cX6_cutDeeper 1 = .ok (.getfield 19, 3) := by decide +kernel
theorem dX6_cutDeeper_4 : decode cX6_cutDeeper 4 = .ok (.getfield 103, 3) := by decide +kernel
theorem dX6_cutDeeper_7 : decode cX6_cutDeeper 7 = .ok (.iload_n 1, 1) := by decide +kernel
theorem dX6_cutDeeper_8 : decode cX6_cutDeeper 8 = .ok (.aaload, 1) := by decide +kernel
theorem dX6_cutDeeper_9 : decode cX6_cutDeeper 9 = .ok (.dup, 1) := by decide +kernel
theorem dX6_cutDeeper_10 : decode cX6_cutDeeper 10 = .ok (.getfield 107, 3) := by decide +kernel
theorem dX6_cutDeeper_13 : decode cX6_cutDeeper 13 = .ok (.getstatic 412, 3) := by decide +kernel
theorem dX6_cutDeeper_16 : decode cX6_cutDeeper 16 = .ok (.iload_n 2, 1) := by decide +kernel
theorem dX6_cutDeeper_17 : decode cX6_cutDeeper 17 = .ok (.iaload, 1) := by decide +kernel
theorem dX6_cutDeeper_18 : decode cX6_cutDeeper 18 = .ok (.iadd, 1) := by decide +kernel
theorem dX6_cutDeeper_19 : decode cX6_cutDeeper 19 = .ok (.putfield 107, 3) := by decide +kernel
theorem dX6_cutDeeper_22 : decode cX6_cutDeeper 22 = .ok (.aload_n 0, 1) := by decide +kernel
theorem dX6_cutDeeper_23 : decode cX6_cutDeeper 23 = .ok (.getfield 19, 3) := by decide +kernel
theorem dX6_cutDeeper_26 : decode cX6_cutDeeper 26 = .ok (.dup, 1) := by decide +kernel
theorem dX6_cutDeeper_27 : decode cX6_cutDeeper 27 = .ok (.getfield 319, 3) := by decide +kernel
theorem dX6_cutDeeper_30 : decode cX6_cutDeeper 30 = .ok (.aload_n 0, 1) := by decide +kernel
theorem dX6_cutDeeper_31 : decode cX6_cutDeeper 31 = .ok (.getfield 19, 3) := by decide +kernel
theorem dX6_cutDeeper_34 : decode cX6_cutDeeper 34 = .ok (.getfield 194, 3) := by decide +kernel
theorem dX6_cutDeeper_37 : decode cX6_cutDeeper 37 = .ok (.iconst 1, 1) := by decide +kernel
theorem dX6_cutDeeper_38 : decode cX6_cutDeeper 38 = .ok (.iaload, 1) := by decide +kernel
theorem dX6_cutDeeper_39 : decode cX6_cutDeeper 39 = .ok (.iadd, 1) := by decide +kernel
theorem dX6_cutDeeper_40 : decode cX6_cutDeeper 40 = .ok (.putfield 319, 3) := by decide +kernel
theorem dX6_cutDeeper_43 : decode cX6_cutDeeper 43 = .ok (.return_, 1) := by decide +kernel
theorem dX6_tryKey_0 : decode cX6_tryKey 0 = .ok (.aload_n 0, 1) := by decide +kernel
theorem dX6_tryKey_1 : decode cX6_tryKey 1 = .ok (.getfield 19, 3) := by decide +kernel
theorem dX6_tryKey_4 : decode cX6_tryKey 4 = .ok (.getfield 103, 3) := by decide +kernel
theorem dX6_tryKey_7 : decode cX6_tryKey 7 = .ok (.iload_n 1, 1) := by decide +kernel
theorem dX6_tryKey_8 : decode cX6_tryKey 8 = .ok (.aaload, 1) := by decide +kernel
theorem dX6_tryKey_9 : decode cX6_tryKey 9 = .ok (.astore_n 3, 1) := by decide +kernel
theorem dX6_tryKey_10 : decode cX6_tryKey 10 = .ok (.aload_n 0, 1) := by decide +kernel
theorem dX6_tryKey_11 : decode cX6_tryKey 11 = .ok (.getfield 19, 3) := by decide +kernel
theorem dX6_tryKey_14 : decode cX6_tryKey 14 = .ok (.getfield 149, 3) := by decide +kernel
theorem dX6_tryKey_17 : decode cX6_tryKey 17 = .ok (.iload_n 2, 1) := by decide +kernel
theorem dX6_tryKey_18 : decode cX6_tryKey 18 = .ok (.aaload, 1) := by decide +kernel
theorem dX6_tryKey_19 : decode cX6_tryKey 19 = .ok (.astore 4, 2) := by decide +kernel
theorem dX6_tryKey_21 : decode cX6_tryKey 21 = .ok (.aload_n 0, 1) := by decide +kernel
theorem dX6_tryKey_22 : decode cX6_tryKey 22 = .ok (.aload_n 3, 1) := by decide +kernel
theorem dX6_tryKey_23 : decode cX6_tryKey 23 = .ok (.getfield 107, 3) := by decide +kernel
theorem dX6_tryKey_26 : decode cX6_tryKey 26 = .ok (.iload_n 2, 1) := by decide +kernel
theorem dX6_tryKey_27 : decode cX6_tryKey 27 = .ok (.invokevirtual 415, 3) := by decide +kernel
theorem dX6_tryKey_30 : decode cX6_tryKey 30 = .ok (.ifCond .ne 29, 3) := by decide +kernel
theorem dX6_tryKey_33 : decode cX6_tryKey 33 = .ok (.aload 4, 2) := by decide +kernel
theorem dX6_tryKey_35 : decode cX6_tryKey 35 = .ok (.dup, 1) := by decide +kernel
theorem dX6_tryKey_36 : decode cX6_tryKey 36 = .ok (.getfield 263, 3) := by decide +kernel
theorem dX6_tryKey_39 : decode cX6_tryKey 39 = .ok (.iconst 1, 1) := by decide +kernel
theorem dX6_tryKey_40 : decode cX6_tryKey 40 = .ok (.iadd, 1) := by decide +kernel
theorem dX6_tryKey_41 : decode cX6_tryKey 41 = .ok (.putfield 263, 3) := by decide +kernel
theorem dX6_tryKey_44 : decode cX6_tryKey 44 = .ok (.aload_n 0, 1) := by decide +kernel
theorem dX6_tryKey_45 : decode cX6_tryKey 45 = .ok (.getfield 19, 3) := by decide +kernel
theorem dX6_tryKey_48 : decode cX6_tryKey 48 = .ok (.dup, 1) := by decide +kernel
theorem dX6_tryKey_49 : decode cX6_tryKey 49 = .ok (.getfield 323, 3) := by decide +kernel
theorem dX6_tryKey_52 : decode cX6_tryKey 52 = .ok (.iconst 1, 1) := by decide +kernel
theorem dX6_tryKey_53 : decode cX6_tryKey 53 = .ok (.iadd, 1) := by decide +kernel
theorem dX6_tryKey_54 : decode cX6_tryKey 54 = .ok (.putfield 323, 3) := by decide +kernel
theorem dX6_tryKey_57 : decode cX6_tryKey 57 = .ok (.iconst 0, 1) := by decide +kernel
theorem dX6_tryKey_58 : decode cX6_tryKey 58 = .ok (.ireturn, 1) := by decide +kernel
theorem dX6_tryKey_59 : decode cX6_tryKey 59 = .ok (.aload_n 3, 1) := by decide +kernel
theorem dX6_tryKey_60 : decode cX6_tryKey 60 = .ok (.dup, 1) := by decide +kernel
theorem dX6_tryKey_61 : decode cX6_tryKey 61 = .ok (.getfield 246, 3) := by decide +kernel
theorem dX6_tryKey_64 : decode cX6_tryKey 64 = .ok (.iconst 1, 1) := by decide +kernel
theorem dX6_tryKey_65 : decode cX6_tryKey 65 = .ok (.iadd, 1) := by decide +kernel
theorem dX6_tryKey_66 : decode cX6_tryKey 66 = .ok (.putfield 246, 3) := by decide +kernel
theorem dX6_tryKey_69 : decode cX6_tryKey 69 = .ok (.aload 4, 2) := by decide +kernel
theorem dX6_tryKey_71 : decode cX6_tryKey 71 = .ok (.dup, 1) := by decide +kernel
theorem dX6_tryKey_72 : decode cX6_tryKey 72 = .ok (.getfield 262, 3) := by decide +kernel
theorem dX6_tryKey_75 : decode cX6_tryKey 75 = .ok (.iconst 1, 1) := by decide +kernel
theorem dX6_tryKey_76 : decode cX6_tryKey 76 = .ok (.iadd, 1) := by decide +kernel
theorem dX6_tryKey_77 : decode cX6_tryKey 77 = .ok (.putfield 262, 3) := by decide +kernel
theorem dX6_tryKey_80 : decode cX6_tryKey 80 = .ok (.aload_n 0, 1) := by decide +kernel
theorem dX6_tryKey_81 : decode cX6_tryKey 81 = .ok (.getfield 19, 3) := by decide +kernel
theorem dX6_tryKey_84 : decode cX6_tryKey 84 = .ok (.dup, 1) := by decide +kernel
theorem dX6_tryKey_85 : decode cX6_tryKey 85 = .ok (.getfield 322, 3) := by decide +kernel
theorem dX6_tryKey_88 : decode cX6_tryKey 88 = .ok (.iconst 1, 1) := by decide +kernel
theorem dX6_tryKey_89 : decode cX6_tryKey 89 = .ok (.iadd, 1) := by decide +kernel
theorem dX6_tryKey_90 : decode cX6_tryKey 90 = .ok (.putfield 322, 3) := by decide +kernel
theorem dX6_tryKey_93 : decode cX6_tryKey 93 = .ok (.aload_n 3, 1) := by decide +kernel
theorem dX6_tryKey_94 : decode cX6_tryKey 94 = .ok (.getfield 123, 3) := by decide +kernel
theorem dX6_tryKey_97 : decode cX6_tryKey 97 = .ok (.invokestatic 54, 3) := by decide +kernel
theorem dX6_tryKey_100 : decode cX6_tryKey 100 = .ok (.ifCond .eq 19, 3) := by decide +kernel
theorem dX6_tryKey_103 : decode cX6_tryKey 103 = .ok (.aload_n 0, 1) := by decide +kernel
theorem dX6_tryKey_104 : decode cX6_tryKey 104 = .ok (.getfield 19, 3) := by decide +kernel
theorem dX6_tryKey_107 : decode cX6_tryKey 107 = .ok (.getfield 277, 3) := by decide +kernel
theorem dX6_tryKey_110 : decode cX6_tryKey 110 = .ok (.aload_n 3, 1) := by decide +kernel
theorem dX6_tryKey_111 : decode cX6_tryKey 111 = .ok (.getfield 123, 3) := by decide +kernel
theorem dX6_tryKey_114 : decode cX6_tryKey 114 = .ok (.dup2, 1) := by decide +kernel
theorem dX6_tryKey_115 : decode cX6_tryKey 115 = .ok (.iaload, 1) := by decide +kernel
theorem dX6_tryKey_116 : decode cX6_tryKey 116 = .ok (.iconst 1, 1) := by decide +kernel
theorem dX6_tryKey_117 : decode cX6_tryKey 117 = .ok (.iadd, 1) := by decide +kernel
theorem dX6_tryKey_118 : decode cX6_tryKey 118 = .ok (.iastore, 1) := by decide +kernel
theorem dX6_tryKey_119 : decode cX6_tryKey 119 = .ok (.aload_n 0, 1) := by decide +kernel
theorem dX6_tryKey_120 : decode cX6_tryKey 120 = .ok (.aload_n 3, 1) := by decide +kernel
theorem dX6_tryKey_121 : decode cX6_tryKey 121 = .ok (.getfield 107, 3) := by decide +kernel
theorem dX6_tryKey_124 : decode cX6_tryKey 124 = .ok (.aload_n 3, 1) := by decide +kernel
theorem dX6_tryKey_125 : decode cX6_tryKey 125 = .ok (.getfield 246, 3) := by decide +kernel
theorem dX6_tryKey_128 : decode cX6_tryKey 128 = .ok (.invokevirtual 359, 3) := by decide +kernel
theorem dX6_tryKey_131 : decode cX6_tryKey 131 = .ok (.istore 5, 2) := by decide +kernel
theorem dX6_tryKey_133 : decode cX6_tryKey 133 = .ok (.iload 5, 2) := by decide +kernel
theorem dX6_tryKey_135 : decode cX6_tryKey 135 = .ok (.aload_n 3, 1) := by decide +kernel
theorem dX6_tryKey_136 : decode cX6_tryKey 136 = .ok (.getfield 107, 3) := by decide +kernel
theorem dX6_tryKey_139 : decode cX6_tryKey 139 = .ok (.if_icmp .eq 32, 3) := by decide +kernel
theorem dX6_tryKey_142 : decode cX6_tryKey 142 = .ok (.aload_n 3, 1) := by decide +kernel
theorem dX6_tryKey_143 : decode cX6_tryKey 143 = .ok (.iload 5, 2) := by decide +kernel
theorem dX6_tryKey_145 : decode cX6_tryKey 145 = .ok (.putfield 107, 3) := by decide +kernel
theorem dX6_tryKey_148 : decode cX6_tryKey 148 = .ok (.aload_n 3, 1) := by decide +kernel
theorem dX6_tryKey_149 : decode cX6_tryKey 149 = .ok (.dup, 1) := by decide +kernel
theorem dX6_tryKey_150 : decode cX6_tryKey 150 = .ok (.getfield 255, 3) := by decide +kernel
theorem dX6_tryKey_153 : decode cX6_tryKey 153 = .ok (.iconst 1, 1) := by decide +kernel
theorem dX6_tryKey_154 : decode cX6_tryKey 154 = .ok (.iadd, 1) := by decide +kernel
theorem dX6_tryKey_155 : decode cX6_tryKey 155 = .ok (.putfield 255, 3) := by decide +kernel
theorem dX6_tryKey_158 : decode cX6_tryKey 158 = .ok (.aload_n 0, 1) := by decide +kernel
theorem dX6_tryKey_159 : decode cX6_tryKey 159 = .ok (.getfield 19, 3) := by decide +kernel
theorem dX6_tryKey_162 : decode cX6_tryKey 162 = .ok (.dup, 1) := by decide +kernel
theorem dX6_tryKey_163 : decode cX6_tryKey 163 = .ok (.getfield 324, 3) := by decide +kernel
theorem dX6_tryKey_166 : decode cX6_tryKey 166 = .ok (.iconst 1, 1) := by decide +kernel
theorem dX6_tryKey_167 : decode cX6_tryKey 167 = .ok (.iadd, 1) := by decide +kernel
theorem dX6_tryKey_168 : decode cX6_tryKey 168 = .ok (.putfield 324, 3) := by decide +kernel
theorem dX6_tryKey_171 : decode cX6_tryKey 171 = .ok (.iconst 1, 1) := by decide +kernel
theorem dX6_tryKey_172 : decode cX6_tryKey 172 = .ok (.ireturn, 1) := by decide +kernel
theorem dX6_codeBehindUse_0 : decode cX6_codeBehindUse 0 = .ok (.aload_n 0, 1) := by decide +kernel
theorem dX6_codeBehindUse_1 : decode cX6_codeBehindUse 1 = .ok (.getfield 19, 3) := by decide +kernel
theorem dX6_codeBehindUse_4 : decode cX6_codeBehindUse 4 = .ok (.getfield 194, 3) := by decide +kernel
theorem dX6_codeBehindUse_7 : decode cX6_codeBehindUse 7 = .ok (.iconst 2, 1) := by decide +kernel
theorem dX6_codeBehindUse_8 : decode cX6_codeBehindUse 8 = .ok (.iaload, 1) := by decide +kernel
theorem dX6_codeBehindUse_9 : decode cX6_codeBehindUse 9 = .ok (.istore_n 3, 1) := by decide +kernel
theorem dX6_codeBehindUse_10 : decode cX6_codeBehindUse 10 = .ok (.iload_n 3, 1) := by decide +kernel
theorem dX6_codeBehindUse_11 : decode cX6_codeBehindUse 11 = .ok (.ifCond .le 9, 3) := by decide +kernel
theorem dX6_codeBehindUse_14 : decode cX6_codeBehindUse 14 = .ok (.iload_n 2, 1) := by decide +kernel
theorem dX6_codeBehindUse_15 : decode cX6_codeBehindUse 15 = .ok (.iload_n 3, 1) := by decide +kernel
theorem dX6_codeBehindUse_16 : decode cX6_codeBehindUse 16 = .ok (.irem, 1) := by decide +kernel
theorem dX6_codeBehindUse_17 : decode cX6_codeBehindUse 17 = .ok (.ifCond .eq 5, 3) := by decide +kernel
theorem dX6_codeBehindUse_20 : decode cX6_codeBehindUse 20 = .ok (.iload_n 1, 1) := by decide +kernel
theorem dX6_codeBehindUse_21 : decode cX6_codeBehindUse 21 = .ok (.ireturn, 1) := by decide +kernel
theorem dX6_codeBehindUse_22 : decode cX6_codeBehindUse 22 = .ok (.aload_n 0, 1) := by decide +kernel
theorem dX6_codeBehindUse_23 : decode cX6_codeBehindUse 23 = .ok (.getfield 37, 3) := by decide +kernel
theorem dX6_codeBehindUse_26 : decode cX6_codeBehindUse 26 = .ok (.getfield 418, 3) := by decide +kernel
theorem dX6_codeBehindUse_29 : decode cX6_codeBehindUse 29 = .ok (.iload_n 1, 1) := by decide +kernel
theorem dX6_codeBehindUse_30 : decode cX6_codeBehindUse 30 = .ok (.iaload, 1) := by decide +kernel
theorem dX6_codeBehindUse_31 : decode cX6_codeBehindUse 31 = .ok (.ireturn, 1) := by decide +kernel
theorem dX6_isSound_0 : decode cX6_isSound 0 = .ok (.aload_n 0, 1) := by decide +kernel
theorem dX6_isSound_1 : decode cX6_isSound 1 = .ok (.getfield 37, 3) := by decide +kernel
theorem dX6_isSound_4 : decode cX6_isSound 4 = .ok (.getfield 455, 3) := by decide +kernel
theorem dX6_isSound_7 : decode cX6_isSound 7 = .ok (.iload_n 1, 1) := by decide +kernel
theorem dX6_isSound_8 : decode cX6_isSound 8 = .ok (.iaload, 1) := by decide +kernel
theorem dX6_isSound_9 : decode cX6_isSound 9 = .ok (.aload_n 0, 1) := by decide +kernel
theorem dX6_isSound_10 : decode cX6_isSound 10 = .ok (.getfield 19, 3) := by decide +kernel
theorem dX6_isSound_13 : decode cX6_isSound 13 = .ok (.getfield 194, 3) := by decide +kernel
theorem dX6_isSound_16 : decode cX6_isSound 16 = .ok (.iconst 0, 1) := by decide +kernel
theorem dX6_isSound_17 : decode cX6_isSound 17 = .ok (.iaload, 1) := by decide +kernel
theorem dX6_isSound_18 : decode cX6_isSound 18 = .ok (.if_icmp .gt 7, 3) := by decide +kernel
theorem dX6_isSound_21 : decode cX6_isSound 21 = .ok (.iconst 1, 1) := by decide +kernel
theorem dX6_isSound_22 : decode cX6_isSound 22 = .ok (.goto 4, 3) := by decide +kernel
theorem dX6_isSound_25 : decode cX6_isSound 25 = .ok (.iconst 0, 1) := by decide +kernel
theorem dX6_isSound_26 : decode cX6_isSound 26 = .ok (.ireturn, 1) := by decide +kernel
theorem dX6_isFree_0 : decode cX6_isFree 0 = .ok (.aload_n 0, 1) := by decide +kernel
theorem dX6_isFree_1 : decode cX6_isFree 1 = .ok (.iload_n 1, 1) := by decide +kernel
theorem dX6_isFree_2 : decode cX6_isFree 2 = .ok (.invokevirtual 282, 3) := by decide +kernel
theorem dX6_isFree_5 : decode cX6_isFree 5 = .ok (.ifCond .eq 16, 3) := by decide +kernel
theorem dX6_isFree_8 : decode cX6_isFree 8 = .ok (.aload_n 0, 1) := by decide +kernel
theorem dX6_isFree_9 : decode cX6_isFree 9 = .ok (.iload_n 1, 1) := by decide +kernel
theorem dX6_isFree_10 : decode cX6_isFree 10 = .ok (.iconst (-1), 1) := by decide +kernel
theorem dX6_isFree_11 : decode cX6_isFree 11 = .ok (.invokevirtual 458, 3) := by decide +kernel
theorem dX6_isFree_14 : decode cX6_isFree 14 = .ok (.ifCond .ne 7, 3) := by decide +kernel
theorem dX6_isFree_17 : decode cX6_isFree 17 = .ok (.iconst 1, 1) := by decide +kernel
theorem dX6_isFree_18 : decode cX6_isFree 18 = .ok (.goto 4, 3) := by decide +kernel
theorem dX6_isFree_21 : decode cX6_isFree 21 = .ok (.iconst 0, 1) := by decide +kernel
theorem dX6_isFree_22 : decode cX6_isFree 22 = .ok (.ireturn, 1) := by decide +kernel
theorem dX6_reasonAgainstCut_0 : decode cX6_reasonAgainstCut 0 = .ok (.aload_n 0, 1) := by decide +kernel
theorem dX6_reasonAgainstCut_1 : decode cX6_reasonAgainstCut 1 = .ok (.iload_n 1, 1) := by decide +kernel
theorem dX6_reasonAgainstCut_2 : decode cX6_reasonAgainstCut 2 = .ok (.invokevirtual 282, 3) := by decide +kernel
theorem dX6_reasonAgainstCut_5 : decode cX6_reasonAgainstCut 5 = .ok (.ifCond .ne 5, 3) := by decide +kernel
theorem dX6_reasonAgainstCut_8 : decode cX6_reasonAgainstCut 8 = .ok (.iconst 1, 1) := by decide +kernel
theorem dX6_reasonAgainstCut_9 : decode cX6_reasonAgainstCut 9 = .ok (.ireturn, 1) := by decide +kernel
theorem dX6_reasonAgainstCut_10 : decode cX6_reasonAgainstCut 10 = .ok (.aload_n 0, 1) := by decide +kernel
theorem dX6_reasonAgainstCut_11 : decode cX6_reasonAgainstCut 11 = .ok (.getfield 19, 3) := by decide +kernel
theorem dX6_reasonAgainstCut_14 : decode cX6_reasonAgainstCut 14 = .ok (.getfield 80, 3) := by decide +kernel
theorem dX6_reasonAgainstCut_17 : decode cX6_reasonAgainstCut 17 = .ok (.bipush 12, 2) := by decide +kernel
theorem dX6_reasonAgainstCut_19 : decode cX6_reasonAgainstCut 19 = .ok (.if_icmp .lt 5, 3) := by decide +kernel
theorem dX6_reasonAgainstCut_22 : decode cX6_reasonAgainstCut 22 = .ok (.iconst 2, 1) := by decide +kernel
theorem dX6_reasonAgainstCut_23 : decode cX6_reasonAgainstCut 23 = .ok (.ireturn, 1) := by decide +kernel
theorem dX6_reasonAgainstCut_24 : decode cX6_reasonAgainstCut 24 = .ok (.aload_n 0, 1) := by decide +kernel
theorem dX6_reasonAgainstCut_25 : decode cX6_reasonAgainstCut 25 = .ok (.iload_n 1, 1) := by decide +kernel
theorem dX6_reasonAgainstCut_26 : decode cX6_reasonAgainstCut 26 = .ok (.iconst (-1), 1) := by decide +kernel
theorem dX6_reasonAgainstCut_27 : decode cX6_reasonAgainstCut 27 = .ok (.invokevirtual 458, 3) := by decide +kernel
theorem dX6_reasonAgainstCut_30 : decode cX6_reasonAgainstCut 30 = .ok (.ireturn, 1) := by decide +kernel
theorem dX6_reasonAgainstDeeper_0 : decode cX6_reasonAgainstDeeper 0 = .ok (.aload_n 0, 1) := by decide +kernel
theorem dX6_reasonAgainstDeeper_1 : decode cX6_reasonAgainstDeeper 1 = .ok (.getfield 19, 3) := by decide +kernel
theorem dX6_reasonAgainstDeeper_4 : decode cX6_reasonAgainstDeeper 4 = .ok (.getfield 103, 3) := by decide +kernel
theorem dX6_reasonAgainstDeeper_7 : decode cX6_reasonAgainstDeeper 7 = .ok (.iload_n 1, 1) := by decide +kernel
theorem dX6_reasonAgainstDeeper_8 : decode cX6_reasonAgainstDeeper 8 = .ok (.aaload, 1) := by decide +kernel
theorem dX6_reasonAgainstDeeper_9 : decode cX6_reasonAgainstDeeper 9 = .ok (.getfield 107, 3) := by decide +kernel
theorem dX6_reasonAgainstDeeper_12 : decode cX6_reasonAgainstDeeper 12 = .ok (.istore_n 3, 1) := by decide +kernel
theorem dX6_reasonAgainstDeeper_13 : decode cX6_reasonAgainstDeeper 13 = .ok (.iload_n 3, 1) := by decide +kernel
theorem dX6_reasonAgainstDeeper_14 : decode cX6_reasonAgainstDeeper 14 = .ok (.iload_n 2, 1) := by decide +kernel
theorem dX6_reasonAgainstDeeper_15 : decode cX6_reasonAgainstDeeper 15 = .ok (.invokestatic 461, 3) := by decide +kernel
theorem dX6_reasonAgainstDeeper_18 : decode cX6_reasonAgainstDeeper 18 = .ok (.iconst 2, 1) := by decide +kernel
theorem dX6_reasonAgainstDeeper_19 : decode cX6_reasonAgainstDeeper 19 = .ok (.if_icmp .lt 6, 3) := by decide +kernel
theorem dX6_reasonAgainstDeeper_22 : decode cX6_reasonAgainstDeeper 22 = .ok (.bipush 6, 2) := by decide +kernel
theorem dX6_reasonAgainstDeeper_24 : decode cX6_reasonAgainstDeeper 24 = .ok (.ireturn, 1) := by decide +kernel
theorem dX6_reasonAgainstDeeper_25 : decode cX6_reasonAgainstDeeper 25 = .ok (.iload_n 3, 1) := by decide +kernel
theorem dX6_reasonAgainstDeeper_26 : decode cX6_reasonAgainstDeeper 26 = .ok (.getstatic 412, 3) := by decide +kernel
theorem dX6_reasonAgainstDeeper_29 : decode cX6_reasonAgainstDeeper 29 = .ok (.iload_n 2, 1) := by decide +kernel
theorem dX6_reasonAgainstDeeper_30 : decode cX6_reasonAgainstDeeper 30 = .ok (.iaload, 1) := by decide +kernel
theorem dX6_reasonAgainstDeeper_31 : decode cX6_reasonAgainstDeeper 31 = .ok (.iadd, 1) := by decide +kernel
theorem dX6_reasonAgainstDeeper_32 : decode cX6_reasonAgainstDeeper 32 = .ok (.istore 4, 2) := by decide +kernel
theorem dX6_reasonAgainstDeeper_34 : decode cX6_reasonAgainstDeeper 34 = .ok (.aload_n 0, 1) := by decide +kernel
theorem dX6_reasonAgainstDeeper_35 : decode cX6_reasonAgainstDeeper 35 = .ok (.iload 4, 2) := by decide +kernel
theorem dX6_reasonAgainstDeeper_37 : decode cX6_reasonAgainstDeeper 37 = .ok (.invokevirtual 282, 3) := by decide +kernel
theorem dX6_reasonAgainstDeeper_40 : decode cX6_reasonAgainstDeeper 40 = .ok (.ifCond .ne 5, 3) := by decide +kernel
theorem dX6_reasonAgainstDeeper_43 : decode cX6_reasonAgainstDeeper 43 = .ok (.iconst 1, 1) := by decide +kernel
theorem dX6_reasonAgainstDeeper_44 : decode cX6_reasonAgainstDeeper 44 = .ok (.ireturn, 1) := by decide +kernel
theorem dX6_reasonAgainstDeeper_45 : decode cX6_reasonAgainstDeeper 45 = .ok (.aload_n 0, 1) := by decide +kernel
theorem dX6_reasonAgainstDeeper_46 : decode cX6_reasonAgainstDeeper 46 = .ok (.iload 4, 2) := by decide +kernel
theorem dX6_reasonAgainstDeeper_48 : decode cX6_reasonAgainstDeeper 48 = .ok (.iload_n 1, 1) := by decide +kernel
theorem dX6_reasonAgainstDeeper_49 : decode cX6_reasonAgainstDeeper 49 = .ok (.invokevirtual 458, 3) := by decide +kernel
theorem dX6_reasonAgainstDeeper_52 : decode cX6_reasonAgainstDeeper 52 = .ok (.ireturn, 1) := by decide +kernel
theorem dX6_reasonByKeys_0 : decode cX6_reasonByKeys 0 = .ok (.aload_n 0, 1) := by decide +kernel
theorem dX6_reasonByKeys_1 : decode cX6_reasonByKeys 1 = .ok (.getfield 19, 3) := by decide +kernel
theorem dX6_reasonByKeys_4 : decode cX6_reasonByKeys 4 = .ok (.getfield 194, 3) := by decide +kernel
theorem dX6_reasonByKeys_7 : decode cX6_reasonByKeys 7 = .ok (.iconst 3, 1) := by decide +kernel
theorem dX6_reasonByKeys_8 : decode cX6_reasonByKeys 8 = .ok (.iaload, 1) := by decide +kernel
theorem dX6_reasonByKeys_9 : decode cX6_reasonByKeys 9 = .ok (.ifCond .eq 7, 3) := by decide +kernel
theorem dX6_reasonByKeys_12 : decode cX6_reasonByKeys 12 = .ok (.iconst 1, 1) := by decide +kernel
theorem dX6_reasonByKeys_13 : decode cX6_reasonByKeys 13 = .ok (.goto 4, 3) := by decide +kernel
theorem dX6_reasonByKeys_16 : decode cX6_reasonByKeys 16 = .ok (.iconst 0, 1) := by decide +kernel
theorem dX6_reasonByKeys_17 : decode cX6_reasonByKeys 17 = .ok (.istore_n 3, 1) := by decide +kernel
theorem dX6_reasonByKeys_18 : decode cX6_reasonByKeys 18 = .ok (.iconst 0, 1) := by decide +kernel
theorem dX6_reasonByKeys_19 : decode cX6_reasonByKeys 19 = .ok (.istore 4, 2) := by decide +kernel
theorem dX6_reasonByKeys_21 : decode cX6_reasonByKeys 21 = .ok (.iconst 0, 1) := by decide +kernel
theorem dX6_reasonByKeys_22 : decode cX6_reasonByKeys 22 = .ok (.istore 5, 2) := by decide +kernel
theorem dX6_reasonByKeys_24 : decode cX6_reasonByKeys 24 = .ok (.iconst 0, 1) := by decide +kernel
theorem dX6_reasonByKeys_25 : decode cX6_reasonByKeys 25 = .ok (.istore 6, 2) := by decide +kernel
theorem dX6_reasonByKeys_27 : decode cX6_reasonByKeys 27 = .ok (.iconst 0, 1) := by decide +kernel
theorem dX6_reasonByKeys_28 : decode cX6_reasonByKeys 28 = .ok (.istore 7, 2) := by decide +kernel
theorem dX6_reasonByKeys_30 : decode cX6_reasonByKeys 30 = .ok (.iload 7, 2) := by decide +kernel
theorem dX6_reasonByKeys_32 : decode cX6_reasonByKeys 32 = .ok (.aload_n 0, 1) := by decide +kernel
theorem dX6_reasonByKeys_33 : decode cX6_reasonByKeys 33 = .ok (.getfield 19, 3) := by decide +kernel
theorem dX6_reasonByKeys_36 : decode cX6_reasonByKeys 36 = .ok (.getfield 80, 3) := by decide +kernel
theorem dX6_reasonByKeys_39 : decode cX6_reasonByKeys 39 = .ok (.if_icmp .ge 123, 3) := by decide +kernel
theorem dX6_reasonByKeys_42 : decode cX6_reasonByKeys 42 = .ok (.iload 7, 2) := by decide +kernel
theorem dX6_reasonByKeys_44 : decode cX6_reasonByKeys 44 = .ok (.bipush 12, 2) := by decide +kernel
theorem dX6_reasonByKeys_46 : decode cX6_reasonByKeys 46 = .ok (.if_icmp .ge 116, 3) := by decide +kernel
theorem dX6_reasonByKeys_49 : decode cX6_reasonByKeys 49 = .ok (.aload_n 0, 1) := by decide +kernel
theorem dX6_reasonByKeys_50 : decode cX6_reasonByKeys 50 = .ok (.getfield 19, 3) := by decide +kernel
theorem dX6_reasonByKeys_53 : decode cX6_reasonByKeys 53 = .ok (.getfield 103, 3) := by decide +kernel
theorem dX6_reasonByKeys_56 : decode cX6_reasonByKeys 56 = .ok (.iload 7, 2) := by decide +kernel
theorem dX6_reasonByKeys_58 : decode cX6_reasonByKeys 58 = .ok (.aaload, 1) := by decide +kernel
theorem dX6_reasonByKeys_59 : decode cX6_reasonByKeys 59 = .ok (.astore 8, 2) := by decide +kernel
theorem dX6_reasonByKeys_61 : decode cX6_reasonByKeys 61 = .ok (.iload 7, 2) := by decide +kernel
theorem dX6_reasonByKeys_63 : decode cX6_reasonByKeys 63 = .ok (.iload_n 2, 1) := by decide +kernel
theorem dX6_reasonByKeys_64 : decode cX6_reasonByKeys 64 = .ok (.if_icmp .eq 92, 3) := by decide +kernel
theorem dX6_reasonByKeys_67 : decode cX6_reasonByKeys 67 = .ok (.iload_n 3, 1) := by decide +kernel
theorem dX6_reasonByKeys_68 : decode cX6_reasonByKeys 68 = .ok (.ifCond .ne 11, 3) := by decide +kernel
theorem dX6_reasonByKeys_71 : decode cX6_reasonByKeys 71 = .ok (.aload 8, 2) := by decide +kernel
theorem dX6_reasonByKeys_73 : decode cX6_reasonByKeys 73 = .ok (.getfield 126, 3) := by decide +kernel
theorem dX6_reasonByKeys_76 : decode cX6_reasonByKeys 76 = .ok (.ifCond .ne 80, 3) := by decide +kernel
theorem dX6_reasonByKeys_79 : decode cX6_reasonByKeys 79 = .ok (.iload 4, 2) := by decide +kernel
theorem dX6_reasonByKeys_81 : decode cX6_reasonByKeys 81 = .ok (.ifCond .ne 12, 3) := by decide +kernel
theorem dX6_reasonByKeys_84 : decode cX6_reasonByKeys 84 = .ok (.iload_n 1, 1) := by decide +kernel
theorem dX6_reasonByKeys_85 : decode cX6_reasonByKeys 85 = .ok (.aload 8, 2) := by decide +kernel
theorem dX6_reasonByKeys_87 : decode cX6_reasonByKeys 87 = .ok (.getfield 107, 3) := by decide +kernel
theorem dX6_reasonByKeys_90 : decode cX6_reasonByKeys 90 = .ok (.if_icmp .ne 7, 3) := by decide +kernel
theorem dX6_reasonByKeys_93 : decode cX6_reasonByKeys 93 = .ok (.iconst 1, 1) := by decide +kernel
theorem dX6_reasonByKeys_94 : decode cX6_reasonByKeys 94 = .ok (.goto 4, 3) := by decide +kernel
theorem dX6_reasonByKeys_97 : decode cX6_reasonByKeys 97 = .ok (.iconst 0, 1) := by decide +kernel
theorem dX6_reasonByKeys_98 : decode cX6_reasonByKeys 98 = .ok (.istore 4, 2) := by decide +kernel
theorem dX6_reasonByKeys_100 : decode cX6_reasonByKeys 100 = .ok (.iload 5, 2) := by decide +kernel
theorem dX6_reasonByKeys_102 : decode cX6_reasonByKeys 102 = .ok (.ifCond .ne 19, 3) := by decide +kernel
theorem dX6_reasonByKeys_105 : decode cX6_reasonByKeys 105 = .ok (.aload_n 0, 1) := by decide +kernel
theorem dX6_reasonByKeys_106 : decode cX6_reasonByKeys 106 = .ok (.getfield 37, 3) := by decide +kernel
theorem dX6_reasonByKeys_109 : decode cX6_reasonByKeys 109 = .ok (.iload_n 1, 1) := by decide +kernel
theorem dX6_reasonByKeys_110 : decode cX6_reasonByKeys 110 = .ok (.aload 8, 2) := by decide +kernel
theorem dX6_reasonByKeys_112 : decode cX6_reasonByKeys 112 = .ok (.getfield 107, 3) := by decide +kernel
theorem dX6_reasonByKeys_115 : decode cX6_reasonByKeys 115 = .ok (.invokevirtual 464, 3) := by decide +kernel
theorem dX6_reasonByKeys_118 : decode cX6_reasonByKeys 118 = .ok (.ifCond .eq 7, 3) := by decide +kernel
theorem dX6_reasonByKeys_121 : decode cX6_reasonByKeys 121 = .ok (.iconst 1, 1) := by decide +kernel
theorem dX6_reasonByKeys_122 : decode cX6_reasonByKeys 122 = .ok (.goto 4, 3) := by decide +kernel
theorem dX6_reasonByKeys_125 : decode cX6_reasonByKeys 125 = .ok (.iconst 0, 1) := by decide +kernel
theorem dX6_reasonByKeys_126 : decode cX6_reasonByKeys 126 = .ok (.istore 5, 2) := by decide +kernel
theorem dX6_reasonByKeys_128 : decode cX6_reasonByKeys 128 = .ok (.iload 6, 2) := by decide +kernel
theorem dX6_reasonByKeys_130 : decode cX6_reasonByKeys 130 = .ok (.ifCond .ne 19, 3) := by decide +kernel
theorem dX6_reasonByKeys_133 : decode cX6_reasonByKeys 133 = .ok (.aload_n 0, 1) := by decide +kernel
theorem dX6_reasonByKeys_134 : decode cX6_reasonByKeys 134 = .ok (.getfield 37, 3) := by decide +kernel
theorem dX6_reasonByKeys_137 : decode cX6_reasonByKeys 137 = .ok (.aload 8, 2) := by decide +kernel
theorem dX6_reasonByKeys_139 : decode cX6_reasonByKeys 139 = .ok (.getfield 107, 3) := by decide +kernel
theorem dX6_reasonByKeys_142 : decode cX6_reasonByKeys 142 = .ok (.iload_n 1, 1) := by decide +kernel
theorem dX6_reasonByKeys_143 : decode cX6_reasonByKeys 143 = .ok (.invokevirtual 464, 3) := by decide +kernel
theorem dX6_reasonByKeys_146 : decode cX6_reasonByKeys 146 = .ok (.ifCond .eq 7, 3) := by decide +kernel
theorem dX6_reasonByKeys_149 : decode cX6_reasonByKeys 149 = .ok (.iconst 1, 1) := by decide +kernel
theorem dX6_reasonByKeys_150 : decode cX6_reasonByKeys 150 = .ok (.goto 4, 3) := by decide +kernel
theorem dX6_reasonByKeys_153 : decode cX6_reasonByKeys 153 = .ok (.iconst 0, 1) := by decide +kernel
theorem dX6_reasonByKeys_154 : decode cX6_reasonByKeys 154 = .ok (.istore 6, 2) := by decide +kernel
theorem dX6_reasonByKeys_156 : decode cX6_reasonByKeys 156 = .ok (.iinc 7 1, 3) := by decide +kernel
theorem dX6_reasonByKeys_159 : decode cX6_reasonByKeys 159 = .ok (.goto (-129), 3) := by decide +kernel
theorem dX6_reasonByKeys_162 : decode cX6_reasonByKeys 162 = .ok (.iload 4, 2) := by decide +kernel
theorem dX6_reasonByKeys_164 : decode cX6_reasonByKeys 164 = .ok (.ifCond .eq 5, 3) := by decide +kernel
theorem dX6_reasonByKeys_167 : decode cX6_reasonByKeys 167 = .ok (.iconst 3, 1) := by decide +kernel
theorem dX6_reasonByKeys_168 : decode cX6_reasonByKeys 168 = .ok (.ireturn, 1) := by decide +kernel
theorem dX6_reasonByKeys_169 : decode cX6_reasonByKeys 169 = .ok (.iload 5, 2) := by decide +kernel
theorem dX6_reasonByKeys_171 : decode cX6_reasonByKeys 171 = .ok (.ifCond .eq 5, 3) := by decide +kernel
theorem dX6_reasonByKeys_174 : decode cX6_reasonByKeys 174 = .ok (.iconst 4, 1) := by decide +kernel
theorem dX6_reasonByKeys_175 : decode cX6_reasonByKeys 175 = .ok (.ireturn, 1) := by decide +kernel
theorem dX6_reasonByKeys_176 : decode cX6_reasonByKeys 176 = .ok (.iload 6, 2) := by decide +kernel
theorem dX6_reasonByKeys_178 : decode cX6_reasonByKeys 178 = .ok (.ifCond .eq 7, 3) := by decide +kernel
theorem dX6_reasonByKeys_181 : decode cX6_reasonByKeys 181 = .ok (.iconst 5, 1) := by decide +kernel
theorem dX6_reasonByKeys_182 : decode cX6_reasonByKeys 182 = .ok (.goto 4, 3) := by decide +kernel
theorem dX6_reasonByKeys_185 : decode cX6_reasonByKeys 185 = .ok (.iconst 0, 1) := by decide +kernel
theorem dX6_reasonByKeys_186 : decode cX6_reasonByKeys 186 = .ok (.ireturn, 1) := by decide +kernel
theorem dX6_opens_0 : decode cX6_opens 0 = .ok (.aload_n 0, 1) := by decide +kernel
theorem dX6_opens_1 : decode cX6_opens 1 = .ok (.getfield 19, 3) := by decide +kernel
theorem dX6_opens_4 : decode cX6_opens 4 = .ok (.getfield 149, 3) := by decide +kernel
theorem dX6_opens_7 : decode cX6_opens 7 = .ok (.iload_n 2, 1) := by decide +kernel
theorem dX6_opens_8 : decode cX6_opens 8 = .ok (.aaload, 1) := by decide +kernel
theorem dX6_opens_9 : decode cX6_opens 9 = .ok (.astore_n 3, 1) := by decide +kernel
theorem dX6_opens_10 : decode cX6_opens 10 = .ok (.aload_n 3, 1) := by decide +kernel
theorem dX6_opens_11 : decode cX6_opens 11 = .ok (.getfield 153, 3) := by decide +kernel
theorem dX6_opens_14 : decode cX6_opens 14 = .ok (.iconst (-1), 1) := by decide +kernel
theorem dX6_opens_15 : decode cX6_opens 15 = .ok (.if_icmp .eq 18, 3) := by decide +kernel
theorem dX6_opens_18 : decode cX6_opens 18 = .ok (.aload_n 0, 1) := by decide +kernel
theorem dX6_opens_19 : decode cX6_opens 19 = .ok (.getfield 37, 3) := by decide +kernel
theorem dX6_opens_22 : decode cX6_opens 22 = .ok (.aload_n 3, 1) := by decide +kernel
theorem dX6_opens_23 : decode cX6_opens 23 = .ok (.getfield 153, 3) := by decide +kernel
theorem dX6_opens_26 : decode cX6_opens 26 = .ok (.iload_n 1, 1) := by decide +kernel
theorem dX6_opens_27 : decode cX6_opens 27 = .ok (.invokevirtual 467, 3) := by decide +kernel
theorem dX6_opens_30 : decode cX6_opens 30 = .ok (.ifCond .ne 26, 3) := by decide +kernel
theorem dX6_opens_33 : decode cX6_opens 33 = .ok (.aload_n 3, 1) := by decide +kernel
theorem dX6_opens_34 : decode cX6_opens 34 = .ok (.getfield 163, 3) := by decide +kernel
theorem dX6_opens_37 : decode cX6_opens 37 = .ok (.iconst (-1), 1) := by decide +kernel
theorem dX6_opens_38 : decode cX6_opens 38 = .ok (.if_icmp .eq 22, 3) := by decide +kernel
theorem dX6_opens_41 : decode cX6_opens 41 = .ok (.aload_n 0, 1) := by decide +kernel
theorem dX6_opens_42 : decode cX6_opens 42 = .ok (.getfield 37, 3) := by decide +kernel
theorem dX6_opens_45 : decode cX6_opens 45 = .ok (.aload_n 3, 1) := by decide +kernel
theorem dX6_opens_46 : decode cX6_opens 46 = .ok (.getfield 163, 3) := by decide +kernel
theorem dX6_opens_49 : decode cX6_opens 49 = .ok (.iload_n 1, 1) := by decide +kernel
theorem dX6_opens_50 : decode cX6_opens 50 = .ok (.invokevirtual 467, 3) := by decide +kernel
theorem dX6_opens_53 : decode cX6_opens 53 = .ok (.ifCond .eq 7, 3) := by decide +kernel
theorem dX6_opens_56 : decode cX6_opens 56 = .ok (.iconst 1, 1) := by decide +kernel
theorem dX6_opens_57 : decode cX6_opens 57 = .ok (.goto 4, 3) := by decide +kernel
theorem dX6_opens_60 : decode cX6_opens 60 = .ok (.iconst 0, 1) := by decide +kernel
theorem dX6_opens_61 : decode cX6_opens 61 = .ok (.ireturn, 1) := by decide +kernel
theorem dX6_opensAll_0 : decode cX6_opensAll 0 = .ok (.iconst 0, 1) := by decide +kernel
theorem dX6_opensAll_1 : decode cX6_opensAll 1 = .ok (.istore_n 3, 1) := by decide +kernel
theorem dX6_opensAll_2 : decode cX6_opensAll 2 = .ok (.iload_n 3, 1) := by decide +kernel
theorem dX6_opensAll_3 : decode cX6_opensAll 3 = .ok (.bipush 6, 2) := by decide +kernel
theorem dX6_opensAll_5 : decode cX6_opensAll 5 = .ok (.if_icmp .ge 29, 3) := by decide +kernel
theorem dX6_opensAll_8 : decode cX6_opensAll 8 = .ok (.iload_n 2, 1) := by decide +kernel
theorem dX6_opensAll_9 : decode cX6_opensAll 9 = .ok (.iload_n 3, 1) := by decide +kernel
theorem dX6_opensAll_10 : decode cX6_opensAll 10 = .ok (.ishr, 1) := by decide +kernel
theorem dX6_opensAll_11 : decode cX6_opensAll 11 = .ok (.iconst 1, 1) := by decide +kernel
theorem dX6_opensAll_12 : decode cX6_opensAll 12 = .ok (.iand, 1) := by decide +kernel
theorem dX6_opensAll_13 : decode cX6_opensAll 13 = .ok (.iconst 1, 1) := by decide +kernel
theorem dX6_opensAll_14 : decode cX6_opensAll 14 = .ok (.if_icmp .ne 14, 3) := by decide +kernel
theorem dX6_opensAll_17 : decode cX6_opensAll 17 = .ok (.aload_n 0, 1) := by decide +kernel
theorem dX6_opensAll_18 : decode cX6_opensAll 18 = .ok (.iload_n 1, 1) := by decide +kernel
theorem dX6_opensAll_19 : decode cX6_opensAll 19 = .ok (.iload_n 3, 1) := by decide +kernel
theorem dX6_opensAll_20 : decode cX6_opensAll 20 = .ok (.invokevirtual 415, 3) := by decide +kernel
theorem dX6_opensAll_23 : decode cX6_opensAll 23 = .ok (.ifCond .ne 5, 3) := by decide +kernel
theorem dX6_opensAll_26 : decode cX6_opensAll 26 = .ok (.iconst 0, 1) := by decide +kernel
theorem dX6_opensAll_27 : decode cX6_opensAll 27 = .ok (.ireturn, 1) := by decide +kernel
theorem dX6_opensAll_28 : decode cX6_opensAll 28 = .ok (.iinc 3 1, 3) := by decide +kernel
theorem dX6_opensAll_31 : decode cX6_opensAll 31 = .ok (.goto (-29), 3) := by decide +kernel
theorem dX6_opensAll_34 : decode cX6_opensAll 34 = .ok (.iconst 1, 1) := by decide +kernel
theorem dX6_opensAll_35 : decode cX6_opensAll 35 = .ok (.ireturn, 1) := by decide +kernel
theorem dX6_hasAllLocks_0 : decode cX6_hasAllLocks 0 = .ok (.iconst 0, 1) := by decide +kernel
theorem dX6_hasAllLocks_1 : decode cX6_hasAllLocks 1 = .ok (.istore_n 2, 1) := by decide +kernel
theorem dX6_hasAllLocks_2 : decode cX6_hasAllLocks 2 = .ok (.iload_n 2, 1) := by decide +kernel
theorem dX6_hasAllLocks_3 : decode cX6_hasAllLocks 3 = .ok (.bipush 6, 2) := by decide +kernel
theorem dX6_hasAllLocks_5 : decode cX6_hasAllLocks 5 = .ok (.if_icmp .ge 28, 3) := by decide +kernel
theorem dX6_hasAllLocks_8 : decode cX6_hasAllLocks 8 = .ok (.iload_n 1, 1) := by decide +kernel
theorem dX6_hasAllLocks_9 : decode cX6_hasAllLocks 9 = .ok (.iload_n 2, 1) := by decide +kernel
theorem dX6_hasAllLocks_10 : decode cX6_hasAllLocks 10 = .ok (.ishr, 1) := by decide +kernel
theorem dX6_hasAllLocks_11 : decode cX6_hasAllLocks 11 = .ok (.iconst 1, 1) := by decide +kernel
theorem dX6_hasAllLocks_12 : decode cX6_hasAllLocks 12 = .ok (.iand, 1) := by decide +kernel
theorem dX6_hasAllLocks_13 : decode cX6_hasAllLocks 13 = .ok (.iconst 1, 1) := by decide +kernel
theorem dX6_hasAllLocks_14 : decode cX6_hasAllLocks 14 = .ok (.if_icmp .ne 13, 3) := by decide +kernel
theorem dX6_hasAllLocks_17 : decode cX6_hasAllLocks 17 = .ok (.aload_n 0, 1) := by decide +kernel
theorem dX6_hasAllLocks_18 : decode cX6_hasAllLocks 18 = .ok (.iload_n 2, 1) := by decide +kernel
theorem dX6_hasAllLocks_19 : decode cX6_hasAllLocks 19 = .ok (.invokevirtual 158, 3) := by decide +kernel
theorem dX6_hasAllLocks_22 : decode cX6_hasAllLocks 22 = .ok (.ifCond .ne 5, 3) := by decide +kernel
theorem dX6_hasAllLocks_25 : decode cX6_hasAllLocks 25 = .ok (.iconst 0, 1) := by decide +kernel
theorem dX6_hasAllLocks_26 : decode cX6_hasAllLocks 26 = .ok (.ireturn, 1) := by decide +kernel
theorem dX6_hasAllLocks_27 : decode cX6_hasAllLocks 27 = .ok (.iinc 2 1, 3) := by decide +kernel
theorem dX6_hasAllLocks_30 : decode cX6_hasAllLocks 30 = .ok (.goto (-28), 3) := by decide +kernel
theorem dX6_hasAllLocks_33 : decode cX6_hasAllLocks 33 = .ok (.iconst 1, 1) := by decide +kernel
theorem dX6_hasAllLocks_34 : decode cX6_hasAllLocks 34 = .ok (.ireturn, 1) := by decide +kernel
theorem dX6_locksOpenedBy_0 : decode cX6_locksOpenedBy 0 = .ok (.iconst 0, 1) := by decide +kernel
theorem dX6_locksOpenedBy_1 : decode cX6_locksOpenedBy 1 = .ok (.istore_n 2, 1) := by decide +kernel
theorem dX6_locksOpenedBy_2 : decode cX6_locksOpenedBy 2 = .ok (.iconst 0, 1) := by decide +kernel
theorem dX6_locksOpenedBy_3 : decode cX6_locksOpenedBy 3 = .ok (.istore_n 3, 1) := by decide +kernel
theorem dX6_locksOpenedBy_4 : decode cX6_locksOpenedBy 4 = .ok (.iload_n 3, 1) := by decide +kernel
theorem dX6_locksOpenedBy_5 : decode cX6_locksOpenedBy 5 = .ok (.bipush 6, 2) := by decide +kernel
theorem dX6_locksOpenedBy_7 : decode cX6_locksOpenedBy 7 = .ok (.if_icmp .ge 35, 3) := by decide +kernel
theorem dX6_locksOpenedBy_10 : decode cX6_locksOpenedBy 10 = .ok (.aload_n 0, 1) := by decide +kernel
theorem dX6_locksOpenedBy_11 : decode cX6_locksOpenedBy 11 = .ok (.aload_n 0, 1) := by decide +kernel
theorem dX6_locksOpenedBy_12 : decode cX6_locksOpenedBy 12 = .ok (.getfield 19, 3) := by decide +kernel
theorem dX6_locksOpenedBy_15 : decode cX6_locksOpenedBy 15 = .ok (.getfield 103, 3) := by decide +kernel
theorem dX6_locksOpenedBy_18 : decode cX6_locksOpenedBy 18 = .ok (.iload_n 1, 1) := by decide +kernel
theorem dX6_locksOpenedBy_19 : decode cX6_locksOpenedBy 19 = .ok (.aaload, 1) := by decide +kernel
theorem dX6_locksOpenedBy_20 : decode cX6_locksOpenedBy 20 = .ok (.getfield 107, 3) := by decide +kernel
theorem dX6_locksOpenedBy_23 : decode cX6_locksOpenedBy 23 = .ok (.iload_n 3, 1) := by decide +kernel
theorem dX6_locksOpenedBy_24 : decode cX6_locksOpenedBy 24 = .ok (.invokevirtual 415, 3) := by decide +kernel
theorem dX6_locksOpenedBy_27 : decode cX6_locksOpenedBy 27 = .ok (.ifCond .eq 9, 3) := by decide +kernel
theorem dX6_locksOpenedBy_30 : decode cX6_locksOpenedBy 30 = .ok (.iload_n 2, 1) := by decide +kernel
theorem dX6_locksOpenedBy_31 : decode cX6_locksOpenedBy 31 = .ok (.iconst 1, 1) := by decide +kernel
theorem dX6_locksOpenedBy_32 : decode cX6_locksOpenedBy 32 = .ok (.iload_n 3, 1) := by decide +kernel
theorem dX6_locksOpenedBy_33 : decode cX6_locksOpenedBy 33 = .ok (.ishl, 1) := by decide +kernel
theorem dX6_locksOpenedBy_34 : decode cX6_locksOpenedBy 34 = .ok (.ior, 1) := by decide +kernel
theorem dX6_locksOpenedBy_35 : decode cX6_locksOpenedBy 35 = .ok (.istore_n 2, 1) := by decide +kernel
theorem dX6_locksOpenedBy_36 : decode cX6_locksOpenedBy 36 = .ok (.iinc 3 1, 3) := by decide +kernel
theorem dX6_locksOpenedBy_39 : decode cX6_locksOpenedBy 39 = .ok (.goto (-35), 3) := by decide +kernel
theorem dX6_locksOpenedBy_42 : decode cX6_locksOpenedBy 42 = .ok (.iload_n 2, 1) := by decide +kernel
theorem dX6_locksOpenedBy_43 : decode cX6_locksOpenedBy 43 = .ok (.ireturn, 1) := by decide +kernel
theorem dX6_keysOpening_0 : decode cX6_keysOpening 0 = .ok (.iconst 0, 1) := by decide +kernel
theorem dX6_keysOpening_1 : decode cX6_keysOpening 1 = .ok (.istore_n 2, 1) := by decide +kernel
theorem dX6_keysOpening_2 : decode cX6_keysOpening 2 = .ok (.iconst 0, 1) := by decide +kernel
theorem dX6_keysOpening_3 : decode cX6_keysOpening 3 = .ok (.istore_n 3, 1) := by decide +kernel
theorem dX6_keysOpening_4 : decode cX6_keysOpening 4 = .ok (.iload_n 3, 1) := by decide +kernel
theorem dX6_keysOpening_5 : decode cX6_keysOpening 5 = .ok (.aload_n 0, 1) := by decide +kernel
theorem dX6_keysOpening_6 : decode cX6_keysOpening 6 = .ok (.getfield 19, 3) := by decide +kernel
theorem dX6_keysOpening_9 : decode cX6_keysOpening 9 = .ok (.getfield 80, 3) := by decide +kernel
theorem dX6_keysOpening_12 : decode cX6_keysOpening 12 = .ok (.if_icmp .ge 41, 3) := by decide +kernel
theorem dX6_keysOpening_15 : decode cX6_keysOpening 15 = .ok (.iload_n 3, 1) := by decide +kernel
theorem dX6_keysOpening_16 : decode cX6_keysOpening 16 = .ok (.bipush 12, 2) := by decide +kernel
theorem dX6_keysOpening_18 : decode cX6_keysOpening 18 = .ok (.if_icmp .ge 35, 3) := by decide +kernel
theorem dX6_keysOpening_21 : decode cX6_keysOpening 21 = .ok (.aload_n 0, 1) := by decide +kernel
theorem dX6_keysOpening_22 : decode cX6_keysOpening 22 = .ok (.aload_n 0, 1) := by decide +kernel
theorem dX6_keysOpening_23 : decode cX6_keysOpening 23 = .ok (.getfield 19, 3) := by decide +kernel
theorem dX6_keysOpening_26 : decode cX6_keysOpening 26 = .ok (.getfield 103, 3) := by decide +kernel
theorem dX6_keysOpening_29 : decode cX6_keysOpening 29 = .ok (.iload_n 3, 1) := by decide +kernel
theorem dX6_keysOpening_30 : decode cX6_keysOpening 30 = .ok (.aaload, 1) := by decide +kernel
theorem dX6_keysOpening_31 : decode cX6_keysOpening 31 = .ok (.getfield 107, 3) := by decide +kernel
theorem dX6_keysOpening_34 : decode cX6_keysOpening 34 = .ok (.iload_n 1, 1) := by decide +kernel
theorem dX6_keysOpening_35 : decode cX6_keysOpening 35 = .ok (.invokevirtual 415, 3) := by decide +kernel
theorem dX6_keysOpening_38 : decode cX6_keysOpening 38 = .ok (.ifCond .eq 9, 3) := by decide +kernel
theorem dX6_keysOpening_41 : decode cX6_keysOpening 41 = .ok (.iload_n 2, 1) := by decide +kernel
theorem dX6_keysOpening_42 : decode cX6_keysOpening 42 = .ok (.iconst 1, 1) := by decide +kernel
theorem dX6_keysOpening_43 : decode cX6_keysOpening 43 = .ok (.iload_n 3, 1) := by decide +kernel
theorem dX6_keysOpening_44 : decode cX6_keysOpening 44 = .ok (.ishl, 1) := by decide +kernel
theorem dX6_keysOpening_45 : decode cX6_keysOpening 45 = .ok (.ior, 1) := by decide +kernel
theorem dX6_keysOpening_46 : decode cX6_keysOpening 46 = .ok (.istore_n 2, 1) := by decide +kernel
theorem dX6_keysOpening_47 : decode cX6_keysOpening 47 = .ok (.iinc 3 1, 3) := by decide +kernel
theorem dX6_keysOpening_50 : decode cX6_keysOpening 50 = .ok (.goto (-46), 3) := by decide +kernel
theorem dX6_keysOpening_53 : decode cX6_keysOpening 53 = .ok (.iload_n 2, 1) := by decide +kernel
theorem dX6_keysOpening_54 : decode cX6_keysOpening 54 = .ok (.ireturn, 1) := by decide +kernel
theorem dX6_whoCouldOpen_0 : decode cX6_whoCouldOpen 0 = .ok (.iconst 0, 1) := by decide +kernel
theorem dX6_whoCouldOpen_1 : decode cX6_whoCouldOpen 1 = .ok (.istore_n 2, 1) := by decide +kernel
theorem dX6_whoCouldOpen_2 : decode cX6_whoCouldOpen 2 = .ok (.iconst 0, 1) := by decide +kernel
theorem dX6_whoCouldOpen_3 : decode cX6_whoCouldOpen 3 = .ok (.istore_n 3, 1) := by decide +kernel
theorem dX6_whoCouldOpen_4 : decode cX6_whoCouldOpen 4 = .ok (.iload_n 3, 1) := by decide +kernel
theorem dX6_whoCouldOpen_5 : decode cX6_whoCouldOpen 5 = .ok (.aload_n 0, 1) := by decide +kernel
theorem dX6_whoCouldOpen_6 : decode cX6_whoCouldOpen 6 = .ok (.getfield 19, 3) := by decide +kernel
theorem dX6_whoCouldOpen_9 : decode cX6_whoCouldOpen 9 = .ok (.getfield 80, 3) := by decide +kernel
theorem dX6_whoCouldOpen_12 : decode cX6_whoCouldOpen 12 = .ok (.if_icmp .ge 61, 3) := by decide +kernel
theorem dX6_whoCouldOpen_15 : decode cX6_whoCouldOpen 15 = .ok (.iload_n 3, 1) := by decide +kernel
theorem dX6_whoCouldOpen_16 : decode cX6_whoCouldOpen 16 = .ok (.bipush 12, 2) := by decide +kernel
theorem dX6_whoCouldOpen_18 : decode cX6_whoCouldOpen 18 = .ok (.if_icmp .ge 55, 3) := by decide +kernel
theorem dX6_whoCouldOpen_21 : decode cX6_whoCouldOpen 21 = .ok (.aload_n 0, 1) := by decide +kernel
theorem dX6_whoCouldOpen_22 : decode cX6_whoCouldOpen 22 = .ok (.getfield 19, 3) := by decide +kernel
theorem dX6_whoCouldOpen_25 : decode cX6_whoCouldOpen 25 = .ok (.getfield 103, 3) := by decide +kernel
theorem dX6_whoCouldOpen_28 : decode cX6_whoCouldOpen 28 = .ok (.iload_n 3, 1) := by decide +kernel
theorem dX6_whoCouldOpen_29 : decode cX6_whoCouldOpen 29 = .ok (.aaload, 1) := by decide +kernel
theorem dX6_whoCouldOpen_30 : decode cX6_whoCouldOpen 30 = .ok (.astore 4, 2) := by decide +kernel
theorem dX6_whoCouldOpen_32 : decode cX6_whoCouldOpen 32 = .ok (.aload_n 0, 1) := by decide +kernel
theorem dX6_whoCouldOpen_33 : decode cX6_whoCouldOpen 33 = .ok (.aload 4, 2) := by decide +kernel
theorem dX6_whoCouldOpen_35 : decode cX6_whoCouldOpen 35 = .ok (.getfield 107, 3) := by decide +kernel
theorem dX6_whoCouldOpen_38 : decode cX6_whoCouldOpen 38 = .ok (.iload_n 1, 1) := by decide +kernel
theorem dX6_whoCouldOpen_39 : decode cX6_whoCouldOpen 39 = .ok (.invokevirtual 415, 3) := by decide +kernel
theorem dX6_whoCouldOpen_42 : decode cX6_whoCouldOpen 42 = .ok (.ifCond .eq 25, 3) := by decide +kernel
theorem dX6_whoCouldOpen_45 : decode cX6_whoCouldOpen 45 = .ok (.iload_n 2, 1) := by decide +kernel
theorem dX6_whoCouldOpen_46 : decode cX6_whoCouldOpen 46 = .ok (.iconst 1, 1) := by decide +kernel
theorem dX6_whoCouldOpen_47 : decode cX6_whoCouldOpen 47 = .ok (.aload 4, 2) := by decide +kernel
theorem dX6_whoCouldOpen_49 : decode cX6_whoCouldOpen 49 = .ok (.getfield 126, 3) := by decide +kernel
theorem dX6_whoCouldOpen_52 : decode cX6_whoCouldOpen 52 = .ok (.ifCond .eq 7, 3) := by decide +kernel
theorem dX6_whoCouldOpen_55 : decode cX6_whoCouldOpen 55 = .ok (.iconst 4, 1) := by decide +kernel
theorem dX6_whoCouldOpen_56 : decode cX6_whoCouldOpen 56 = .ok (.goto 8, 3) := by decide +kernel
theorem dX6_whoCouldOpen_59 : decode cX6_whoCouldOpen 59 = .ok (.aload 4, 2) := by decide +kernel
theorem dX6_whoCouldOpen_61 : decode cX6_whoCouldOpen 61 = .ok (.getfield 123, 3) := by decide +kernel
theorem dX6_whoCouldOpen_64 : decode cX6_whoCouldOpen 64 = .ok (.ishl, 1) := by decide +kernel
theorem dX6_whoCouldOpen_65 : decode cX6_whoCouldOpen 65 = .ok (.ior, 1) := by decide +kernel
theorem dX6_whoCouldOpen_66 : decode cX6_whoCouldOpen 66 = .ok (.istore_n 2, 1) := by decide +kernel
theorem dX6_whoCouldOpen_67 : decode cX6_whoCouldOpen 67 = .ok (.iinc 3 1, 3) := by decide +kernel
theorem dX6_whoCouldOpen_70 : decode cX6_whoCouldOpen 70 = .ok (.goto (-66), 3) := by decide +kernel
theorem dX6_whoCouldOpen_73 : decode cX6_whoCouldOpen 73 = .ok (.iload_n 2, 1) := by decide +kernel
theorem dX6_whoCouldOpen_74 : decode cX6_whoCouldOpen 74 = .ok (.ireturn, 1) := by decide +kernel
theorem dX6_keysOf_0 : decode cX6_keysOf 0 = .ok (.iconst 0, 1) := by decide +kernel
theorem dX6_keysOf_1 : decode cX6_keysOf 1 = .ok (.istore_n 2, 1) := by decide +kernel
theorem dX6_keysOf_2 : decode cX6_keysOf 2 = .ok (.iconst 0, 1) := by decide +kernel
theorem dX6_keysOf_3 : decode cX6_keysOf 3 = .ok (.istore_n 3, 1) := by decide +kernel
theorem dX6_keysOf_4 : decode cX6_keysOf 4 = .ok (.iload_n 3, 1) := by decide +kernel
theorem dX6_keysOf_5 : decode cX6_keysOf 5 = .ok (.aload_n 0, 1) := by decide +kernel
theorem dX6_keysOf_6 : decode cX6_keysOf 6 = .ok (.getfield 19, 3) := by decide +kernel
theorem dX6_keysOf_9 : decode cX6_keysOf 9 = .ok (.getfield 80, 3) := by decide +kernel
theorem dX6_keysOf_12 : decode cX6_keysOf 12 = .ok (.if_icmp .ge 37, 3) := by decide +kernel
theorem dX6_keysOf_15 : decode cX6_keysOf 15 = .ok (.iload_n 3, 1) := by decide +kernel
theorem dX6_keysOf_16 : decode cX6_keysOf 16 = .ok (.bipush 12, 2) := by decide +kernel
theorem dX6_keysOf_18 : decode cX6_keysOf 18 = .ok (.if_icmp .ge 31, 3) := by decide +kernel
theorem dX6_keysOf_21 : decode cX6_keysOf 21 = .ok (.aload_n 0, 1) := by decide +kernel
theorem dX6_keysOf_22 : decode cX6_keysOf 22 = .ok (.getfield 19, 3) := by decide +kernel
theorem dX6_keysOf_25 : decode cX6_keysOf 25 = .ok (.getfield 103, 3) := by decide +kernel
theorem dX6_keysOf_28 : decode cX6_keysOf 28 = .ok (.iload_n 3, 1) := by decide +kernel
theorem dX6_keysOf_29 : decode cX6_keysOf 29 = .ok (.aaload, 1) := by decide +kernel
theorem dX6_keysOf_30 : decode cX6_keysOf 30 = .ok (.getfield 123, 3) := by decide +kernel
theorem dX6_keysOf_33 : decode cX6_keysOf 33 = .ok (.iload_n 1, 1) := by decide +kernel
theorem dX6_keysOf_34 : decode cX6_keysOf 34 = .ok (.if_icmp .ne 9, 3) := by decide +kernel
theorem dX6_keysOf_37 : decode cX6_keysOf 37 = .ok (.iload_n 2, 1) := by decide +kernel
theorem dX6_keysOf_38 : decode cX6_keysOf 38 = .ok (.iconst 1, 1) := by decide +kernel
theorem dX6_keysOf_39 : decode cX6_keysOf 39 = .ok (.iload_n 3, 1) := by decide +kernel
theorem dX6_keysOf_40 : decode cX6_keysOf 40 = .ok (.ishl, 1) := by decide +kernel
theorem dX6_keysOf_41 : decode cX6_keysOf 41 = .ok (.ior, 1) := by decide +kernel
theorem dX6_keysOf_42 : decode cX6_keysOf 42 = .ok (.istore_n 2, 1) := by decide +kernel
theorem dX6_keysOf_43 : decode cX6_keysOf 43 = .ok (.iinc 3 1, 3) := by decide +kernel
theorem dX6_keysOf_46 : decode cX6_keysOf 46 = .ok (.goto (-42), 3) := by decide +kernel
theorem dX6_keysOf_49 : decode cX6_keysOf 49 = .ok (.iload_n 2, 1) := by decide +kernel
theorem dX6_keysOf_50 : decode cX6_keysOf 50 = .ok (.ireturn, 1) := by decide +kernel
theorem dX6_locksFor_0 : decode cX6_locksFor 0 = .ok (.iconst 0, 1) := by decide +kernel
theorem dX6_locksFor_1 : decode cX6_locksFor 1 = .ok (.istore_n 2, 1) := by decide +kernel
theorem dX6_locksFor_2 : decode cX6_locksFor 2 = .ok (.iconst 0, 1) := by decide +kernel
theorem dX6_locksFor_3 : decode cX6_locksFor 3 = .ok (.istore_n 3, 1) := by decide +kernel
theorem dX6_locksFor_4 : decode cX6_locksFor 4 = .ok (.iload_n 3, 1) := by decide +kernel
theorem dX6_locksFor_5 : decode cX6_locksFor 5 = .ok (.aload_n 0, 1) := by decide +kernel
theorem dX6_locksFor_6 : decode cX6_locksFor 6 = .ok (.getfield 19, 3) := by decide +kernel
theorem dX6_locksFor_9 : decode cX6_locksFor 9 = .ok (.getfield 80, 3) := by decide +kernel
theorem dX6_locksFor_12 : decode cX6_locksFor 12 = .ok (.if_icmp .ge 54, 3) := by decide +kernel
theorem dX6_locksFor_15 : decode cX6_locksFor 15 = .ok (.iload_n 3, 1) := by decide +kernel
theorem dX6_locksFor_16 : decode cX6_locksFor 16 = .ok (.bipush 12, 2) := by decide +kernel
theorem dX6_locksFor_18 : decode cX6_locksFor 18 = .ok (.if_icmp .ge 48, 3) := by decide +kernel
theorem dX6_locksFor_21 : decode cX6_locksFor 21 = .ok (.aload_n 0, 1) := by decide +kernel
theorem dX6_locksFor_22 : decode cX6_locksFor 22 = .ok (.getfield 19, 3) := by decide +kernel
theorem dX6_locksFor_25 : decode cX6_locksFor 25 = .ok (.getfield 103, 3) := by decide +kernel
theorem dX6_locksFor_28 : decode cX6_locksFor 28 = .ok (.iload_n 3, 1) := by decide +kernel
theorem dX6_locksFor_29 : decode cX6_locksFor 29 = .ok (.aaload, 1) := by decide +kernel
theorem dX6_locksFor_30 : decode cX6_locksFor 30 = .ok (.getfield 123, 3) := by decide +kernel
theorem dX6_locksFor_33 : decode cX6_locksFor 33 = .ok (.iload_n 1, 1) := by decide +kernel
theorem dX6_locksFor_34 : decode cX6_locksFor 34 = .ok (.if_icmp .ne 26, 3) := by decide +kernel
theorem dX6_locksFor_37 : decode cX6_locksFor 37 = .ok (.aload_n 0, 1) := by decide +kernel
theorem dX6_locksFor_38 : decode cX6_locksFor 38 = .ok (.getfield 19, 3) := by decide +kernel
theorem dX6_locksFor_41 : decode cX6_locksFor 41 = .ok (.getfield 103, 3) := by decide +kernel
theorem dX6_locksFor_44 : decode cX6_locksFor 44 = .ok (.iload_n 3, 1) := by decide +kernel
theorem dX6_locksFor_45 : decode cX6_locksFor 45 = .ok (.aaload, 1) := by decide +kernel
theorem dX6_locksFor_46 : decode cX6_locksFor 46 = .ok (.getfield 126, 3) := by decide +kernel
theorem dX6_locksFor_49 : decode cX6_locksFor 49 = .ok (.ifCond .ne 11, 3) := by decide +kernel
theorem dX6_locksFor_52 : decode cX6_locksFor 52 = .ok (.iload_n 2, 1) := by decide +kernel
theorem dX6_locksFor_53 : decode cX6_locksFor 53 = .ok (.aload_n 0, 1) := by decide +kernel
theorem dX6_locksFor_54 : decode cX6_locksFor 54 = .ok (.iload_n 3, 1) := by decide +kernel
theorem dX6_locksFor_55 : decode cX6_locksFor 55 = .ok (.invokevirtual 132, 3) := by decide +kernel
theorem dX6_locksFor_58 : decode cX6_locksFor 58 = .ok (.ior, 1) := by decide +kernel
theorem dX6_locksFor_59 : decode cX6_locksFor 59 = .ok (.istore_n 2, 1) := by decide +kernel
theorem dX6_locksFor_60 : decode cX6_locksFor 60 = .ok (.iinc 3 1, 3) := by decide +kernel
theorem dX6_locksFor_63 : decode cX6_locksFor 63 = .ok (.goto (-59), 3) := by decide +kernel
theorem dX6_locksFor_66 : decode cX6_locksFor 66 = .ok (.iload_n 2, 1) := by decide +kernel
theorem dX6_locksFor_67 : decode cX6_locksFor 67 = .ok (.ireturn, 1) := by decide +kernel
theorem dX6_keysOver_0 : decode cX6_keysOver 0 = .ok (.iconst 0, 1) := by decide +kernel
theorem dX6_keysOver_1 : decode cX6_keysOver 1 = .ok (.istore_n 2, 1) := by decide +kernel
theorem dX6_keysOver_2 : decode cX6_keysOver 2 = .ok (.iconst 0, 1) := by decide +kernel
theorem dX6_keysOver_3 : decode cX6_keysOver 3 = .ok (.istore_n 3, 1) := by decide +kernel
theorem dX6_keysOver_4 : decode cX6_keysOver 4 = .ok (.iload_n 3, 1) := by decide +kernel
theorem dX6_keysOver_5 : decode cX6_keysOver 5 = .ok (.aload_n 0, 1) := by decide +kernel
theorem dX6_keysOver_6 : decode cX6_keysOver 6 = .ok (.getfield 19, 3) := by decide +kernel
theorem dX6_keysOver_9 : decode cX6_keysOver 9 = .ok (.getfield 80, 3) := by decide +kernel
theorem dX6_keysOver_12 : decode cX6_keysOver 12 = .ok (.if_icmp .ge 44, 3) := by decide +kernel
theorem dX6_keysOver_15 : decode cX6_keysOver 15 = .ok (.iload_n 3, 1) := by decide +kernel
theorem dX6_keysOver_16 : decode cX6_keysOver 16 = .ok (.bipush 12, 2) := by decide +kernel
theorem dX6_keysOver_18 : decode cX6_keysOver 18 = .ok (.if_icmp .ge 38, 3) := by decide +kernel
theorem dX6_keysOver_21 : decode cX6_keysOver 21 = .ok (.aload_n 0, 1) := by decide +kernel
theorem dX6_keysOver_22 : decode cX6_keysOver 22 = .ok (.getfield 37, 3) := by decide +kernel
theorem dX6_keysOver_25 : decode cX6_keysOver 25 = .ok (.iload_n 1, 1) := by decide +kernel
theorem dX6_keysOver_26 : decode cX6_keysOver 26 = .ok (.aload_n 0, 1) := by decide +kernel
theorem dX6_keysOver_27 : decode cX6_keysOver 27 = .ok (.getfield 19, 3) := by decide +kernel
theorem dX6_keysOver_30 : decode cX6_keysOver 30 = .ok (.getfield 103, 3) := by decide +kernel
theorem dX6_keysOver_33 : decode cX6_keysOver 33 = .ok (.iload_n 3, 1) := by decide +kernel
theorem dX6_keysOver_34 : decode cX6_keysOver 34 = .ok (.aaload, 1) := by decide +kernel
theorem dX6_keysOver_35 : decode cX6_keysOver 35 = .ok (.getfield 107, 3) := by decide +kernel
theorem dX6_keysOver_38 : decode cX6_keysOver 38 = .ok (.invokevirtual 464, 3) := by decide +kernel
theorem dX6_keysOver_41 : decode cX6_keysOver 41 = .ok (.ifCond .eq 9, 3) := by decide +kernel
theorem dX6_keysOver_44 : decode cX6_keysOver 44 = .ok (.iload_n 2, 1) := by decide +kernel
theorem dX6_keysOver_45 : decode cX6_keysOver 45 = .ok (.iconst 1, 1) := by decide +kernel
theorem dX6_keysOver_46 : decode cX6_keysOver 46 = .ok (.iload_n 3, 1) := by decide +kernel
theorem dX6_keysOver_47 : decode cX6_keysOver 47 = .ok (.ishl, 1) := by decide +kernel
theorem dX6_keysOver_48 : decode cX6_keysOver 48 = .ok (.ior, 1) := by decide +kernel
theorem dX6_keysOver_49 : decode cX6_keysOver 49 = .ok (.istore_n 2, 1) := by decide +kernel
theorem dX6_keysOver_50 : decode cX6_keysOver 50 = .ok (.iinc 3 1, 3) := by decide +kernel
theorem dX6_keysOver_53 : decode cX6_keysOver 53 = .ok (.goto (-49), 3) := by decide +kernel
theorem dX6_keysOver_56 : decode cX6_keysOver 56 = .ok (.iload_n 2, 1) := by decide +kernel
theorem dX6_keysOver_57 : decode cX6_keysOver 57 = .ok (.ireturn, 1) := by decide +kernel
theorem dX6_keysUnder_0 : decode cX6_keysUnder 0 = .ok (.iconst 0, 1) := by decide +kernel
theorem dX6_keysUnder_1 : decode cX6_keysUnder 1 = .ok (.istore_n 2, 1) := by decide +kernel
theorem dX6_keysUnder_2 : decode cX6_keysUnder 2 = .ok (.iconst 0, 1) := by decide +kernel
theorem dX6_keysUnder_3 : decode cX6_keysUnder 3 = .ok (.istore_n 3, 1) := by decide +kernel
theorem dX6_keysUnder_4 : decode cX6_keysUnder 4 = .ok (.iload_n 3, 1) := by decide +kernel
theorem dX6_keysUnder_5 : decode cX6_keysUnder 5 = .ok (.aload_n 0, 1) := by decide +kernel
theorem dX6_keysUnder_6 : decode cX6_keysUnder 6 = .ok (.getfield 19, 3) := by decide +kernel
theorem dX6_keysUnder_9 : decode cX6_keysUnder 9 = .ok (.getfield 80, 3) := by decide +kernel
theorem dX6_keysUnder_12 : decode cX6_keysUnder 12 = .ok (.if_icmp .ge 44, 3) := by decide +kernel
theorem dX6_keysUnder_15 : decode cX6_keysUnder 15 = .ok (.iload_n 3, 1) := by decide +kernel
theorem dX6_keysUnder_16 : decode cX6_keysUnder 16 = .ok (.bipush 12, 2) := by decide +kernel
theorem dX6_keysUnder_18 : decode cX6_keysUnder 18 = .ok (.if_icmp .ge 38, 3) := by decide +kernel
theorem dX6_keysUnder_21 : decode cX6_keysUnder 21 = .ok (.aload_n 0, 1) := by decide +kernel
theorem dX6_keysUnder_22 : decode cX6_keysUnder 22 = .ok (.getfield 37, 3) := by decide +kernel
theorem dX6_keysUnder_25 : decode cX6_keysUnder 25 = .ok (.aload_n 0, 1) := by decide +kernel
theorem dX6_keysUnder_26 : decode cX6_keysUnder 26 = .ok (.getfield 19, 3) := by decide +kernel
theorem dX6_keysUnder_29 : decode cX6_keysUnder 29 = .ok (.getfield 103, 3) := by decide +kernel
theorem dX6_keysUnder_32 : decode cX6_keysUnder 32 = .ok (.iload_n 3, 1) := by decide +kernel
theorem dX6_keysUnder_33 : decode cX6_keysUnder 33 = .ok (.aaload, 1) := by decide +kernel
theorem dX6_keysUnder_34 : decode cX6_keysUnder 34 = .ok (.getfield 107, 3) := by decide +kernel
theorem dX6_keysUnder_37 : decode cX6_keysUnder 37 = .ok (.iload_n 1, 1) := by decide +kernel
theorem dX6_keysUnder_38 : decode cX6_keysUnder 38 = .ok (.invokevirtual 464, 3) := by decide +kernel
theorem dX6_keysUnder_41 : decode cX6_keysUnder 41 = .ok (.ifCond .eq 9, 3) := by decide +kernel
theorem dX6_keysUnder_44 : decode cX6_keysUnder 44 = .ok (.iload_n 2, 1) := by decide +kernel
theorem dX6_keysUnder_45 : decode cX6_keysUnder 45 = .ok (.iconst 1, 1) := by decide +kernel
theorem dX6_keysUnder_46 : decode cX6_keysUnder 46 = .ok (.iload_n 3, 1) := by decide +kernel
theorem dX6_keysUnder_47 : decode cX6_keysUnder 47 = .ok (.ishl, 1) := by decide +kernel
theorem dX6_keysUnder_48 : decode cX6_keysUnder 48 = .ok (.ior, 1) := by decide +kernel
theorem dX6_keysUnder_49 : decode cX6_keysUnder 49 = .ok (.istore_n 2, 1) := by decide +kernel
theorem dX6_keysUnder_50 : decode cX6_keysUnder 50 = .ok (.iinc 3 1, 3) := by decide +kernel
theorem dX6_keysUnder_53 : decode cX6_keysUnder 53 = .ok (.goto (-49), 3) := by decide +kernel
theorem dX6_keysUnder_56 : decode cX6_keysUnder 56 = .ok (.iload_n 2, 1) := by decide +kernel
theorem dX6_keysUnder_57 : decode cX6_keysUnder 57 = .ok (.ireturn, 1) := by decide +kernel
theorem dX6_lostKeys_0 : decode cX6_lostKeys 0 = .ok (.iconst 0, 1) := by decide +kernel
theorem dX6_lostKeys_1 : decode cX6_lostKeys 1 = .ok (.istore_n 1, 1) := by decide +kernel
theorem dX6_lostKeys_2 : decode cX6_lostKeys 2 = .ok (.iconst 0, 1) := by decide +kernel
theorem dX6_lostKeys_3 : decode cX6_lostKeys 3 = .ok (.istore_n 2, 1) := by decide +kernel
theorem dX6_lostKeys_4 : decode cX6_lostKeys 4 = .ok (.iload_n 2, 1) := by decide +kernel
theorem dX6_lostKeys_5 : decode cX6_lostKeys 5 = .ok (.aload_n 0, 1) := by decide +kernel
theorem dX6_lostKeys_6 : decode cX6_lostKeys 6 = .ok (.getfield 19, 3) := by decide +kernel
theorem dX6_lostKeys_9 : decode cX6_lostKeys 9 = .ok (.getfield 80, 3) := by decide +kernel
theorem dX6_lostKeys_12 : decode cX6_lostKeys 12 = .ok (.if_icmp .ge 33, 3) := by decide +kernel
theorem dX6_lostKeys_15 : decode cX6_lostKeys 15 = .ok (.iload_n 2, 1) := by decide +kernel
theorem dX6_lostKeys_16 : decode cX6_lostKeys 16 = .ok (.bipush 12, 2) := by decide +kernel
theorem dX6_lostKeys_18 : decode cX6_lostKeys 18 = .ok (.if_icmp .ge 27, 3) := by decide +kernel
theorem dX6_lostKeys_21 : decode cX6_lostKeys 21 = .ok (.aload_n 0, 1) := by decide +kernel
theorem dX6_lostKeys_22 : decode cX6_lostKeys 22 = .ok (.getfield 19, 3) := by decide +kernel
theorem dX6_lostKeys_25 : decode cX6_lostKeys 25 = .ok (.getfield 103, 3) := by decide +kernel
theorem dX6_lostKeys_28 : decode cX6_lostKeys 28 = .ok (.iload_n 2, 1) := by decide +kernel
theorem dX6_lostKeys_29 : decode cX6_lostKeys 29 = .ok (.aaload, 1) := by decide +kernel
theorem dX6_lostKeys_30 : decode cX6_lostKeys 30 = .ok (.getfield 126, 3) := by decide +kernel
theorem dX6_lostKeys_33 : decode cX6_lostKeys 33 = .ok (.ifCond .eq 6, 3) := by decide +kernel
theorem dX6_lostKeys_36 : decode cX6_lostKeys 36 = .ok (.iinc 1 1, 3) := by decide +kernel
theorem dX6_lostKeys_39 : decode cX6_lostKeys 39 = .ok (.iinc 2 1, 3) := by decide +kernel
theorem dX6_lostKeys_42 : decode cX6_lostKeys 42 = .ok (.goto (-38), 3) := by decide +kernel
theorem dX6_lostKeys_45 : decode cX6_lostKeys 45 = .ok (.iload_n 1, 1) := by decide +kernel
theorem dX6_lostKeys_46 : decode cX6_lostKeys 46 = .ok (.ireturn, 1) := by decide +kernel
theorem dX6_lockCount_0 : decode cX6_lockCount 0 = .ok (.iconst 0, 1) := by decide +kernel
theorem dX6_lockCount_1 : decode cX6_lockCount 1 = .ok (.istore_n 1, 1) := by decide +kernel
theorem dX6_lockCount_2 : decode cX6_lockCount 2 = .ok (.iconst 0, 1) := by decide +kernel
theorem dX6_lockCount_3 : decode cX6_lockCount 3 = .ok (.istore_n 2, 1) := by decide +kernel
theorem dX6_lockCount_4 : decode cX6_lockCount 4 = .ok (.iload_n 2, 1) := by decide +kernel
theorem dX6_lockCount_5 : decode cX6_lockCount 5 = .ok (.bipush 6, 2) := by decide +kernel
theorem dX6_lockCount_7 : decode cX6_lockCount 7 = .ok (.if_icmp .ge 20, 3) := by decide +kernel
theorem dX6_lockCount_10 : decode cX6_lockCount 10 = .ok (.aload_n 0, 1) := by decide +kernel
theorem dX6_lockCount_11 : decode cX6_lockCount 11 = .ok (.iload_n 2, 1) := by decide +kernel
theorem dX6_lockCount_12 : decode cX6_lockCount 12 = .ok (.invokevirtual 158, 3) := by decide +kernel
theorem dX6_lockCount_15 : decode cX6_lockCount 15 = .ok (.ifCond .eq 6, 3) := by decide +kernel
theorem dX6_lockCount_18 : decode cX6_lockCount 18 = .ok (.iinc 1 1, 3) := by decide +kernel
theorem dX6_lockCount_21 : decode cX6_lockCount 21 = .ok (.iinc 2 1, 3) := by decide +kernel
theorem dX6_lockCount_24 : decode cX6_lockCount 24 = .ok (.goto (-20), 3) := by decide +kernel
theorem dX6_lockCount_27 : decode cX6_lockCount 27 = .ok (.iload_n 1, 1) := by decide +kernel
theorem dX6_lockCount_28 : decode cX6_lockCount 28 = .ok (.ireturn, 1) := by decide +kernel
theorem dX6_crossedPairs_0 : decode cX6_crossedPairs 0 = .ok (.iconst 0, 1) := by decide +kernel
theorem dX6_crossedPairs_1 : decode cX6_crossedPairs 1 = .ok (.istore_n 1, 1) := by decide +kernel
theorem dX6_crossedPairs_2 : decode cX6_crossedPairs 2 = .ok (.iconst 0, 1) := by decide +kernel
theorem dX6_crossedPairs_3 : decode cX6_crossedPairs 3 = .ok (.istore_n 2, 1) := by decide +kernel
theorem dX6_crossedPairs_4 : decode cX6_crossedPairs 4 = .ok (.iload_n 2, 1) := by decide +kernel
theorem dX6_crossedPairs_5 : decode cX6_crossedPairs 5 = .ok (.aload_n 0, 1) := by decide +kernel
theorem dX6_crossedPairs_6 : decode cX6_crossedPairs 6 = .ok (.getfield 19, 3) := by decide +kernel
theorem dX6_crossedPairs_9 : decode cX6_crossedPairs 9 = .ok (.getfield 80, 3) := by decide +kernel
theorem dX6_crossedPairs_12 : decode cX6_crossedPairs 12 = .ok (.if_icmp .ge 65, 3) := by decide +kernel
theorem dX6_crossedPairs_15 : decode cX6_crossedPairs 15 = .ok (.iload_n 2, 1) := by decide +kernel
theorem dX6_crossedPairs_16 : decode cX6_crossedPairs 16 = .ok (.bipush 12, 2) := by decide +kernel
theorem dX6_crossedPairs_18 : decode cX6_crossedPairs 18 = .ok (.if_icmp .ge 59, 3) := by decide +kernel
theorem dX6_crossedPairs_21 : decode cX6_crossedPairs 21 = .ok (.iconst 0, 1) := by decide +kernel
theorem dX6_crossedPairs_22 : decode cX6_crossedPairs 22 = .ok (.istore_n 3, 1) := by decide +kernel
theorem dX6_crossedPairs_23 : decode cX6_crossedPairs 23 = .ok (.iload_n 3, 1) := by decide +kernel
theorem dX6_crossedPairs_24 : decode cX6_crossedPairs 24 = .ok (.iload_n 2, 1) := by decide +kernel
theorem dX6_crossedPairs_25 : decode cX6_crossedPairs 25 = .ok (.if_icmp .ge 46, 3) := by decide +kernel
theorem dX6_crossedPairs_28 : decode cX6_crossedPairs 28 = .ok (.aload_n 0, 1) := by decide +kernel
theorem dX6_crossedPairs_29 : decode cX6_crossedPairs 29 = .ok (.getfield 37, 3) := by decide +kernel
theorem dX6_crossedPairs_32 : decode cX6_crossedPairs 32 = .ok (.aload_n 0, 1) := by decide +kernel
theorem dX6_crossedPairs_33 : decode cX6_crossedPairs 33 = .ok (.getfield 19, 3) := by decide +kernel
theorem dX6_crossedPairs_36 : decode cX6_crossedPairs 36 = .ok (.getfield 103, 3) := by decide +kernel
theorem dX6_crossedPairs_39 : decode cX6_crossedPairs 39 = .ok (.iload_n 2, 1) := by decide +kernel
theorem dX6_crossedPairs_40 : decode cX6_crossedPairs 40 = .ok (.aaload, 1) := by decide +kernel
theorem dX6_crossedPairs_41 : decode cX6_crossedPairs 41 = .ok (.getfield 107, 3) := by decide +kernel
theorem dX6_crossedPairs_44 : decode cX6_crossedPairs 44 = .ok (.aload_n 0, 1) := by decide +kernel
theorem dX6_crossedPairs_45 : decode cX6_crossedPairs 45 = .ok (.getfield 19, 3) := by decide +kernel
theorem dX6_crossedPairs_48 : decode cX6_crossedPairs 48 = .ok (.getfield 103, 3) := by decide +kernel
theorem dX6_crossedPairs_51 : decode cX6_crossedPairs 51 = .ok (.iload_n 3, 1) := by decide +kernel
theorem dX6_crossedPairs_52 : decode cX6_crossedPairs 52 = .ok (.aaload, 1) := by decide +kernel
theorem dX6_crossedPairs_53 : decode cX6_crossedPairs 53 = .ok (.getfield 107, 3) := by decide +kernel
theorem dX6_crossedPairs_56 : decode cX6_crossedPairs 56 = .ok (.invokevirtual 470, 3) := by decide +kernel
theorem dX6_crossedPairs_59 : decode cX6_crossedPairs 59 = .ok (.ifCond .eq 6, 3) := by decide +kernel
theorem dX6_crossedPairs_62 : decode cX6_crossedPairs 62 = .ok (.iinc 1 1, 3) := by decide +kernel
theorem dX6_crossedPairs_65 : decode cX6_crossedPairs 65 = .ok (.iinc 3 1, 3) := by decide +kernel
theorem dX6_crossedPairs_68 : decode cX6_crossedPairs 68 = .ok (.goto (-45), 3) := by decide +kernel
theorem dX6_crossedPairs_71 : decode cX6_crossedPairs 71 = .ok (.iinc 2 1, 3) := by decide +kernel
theorem dX6_crossedPairs_74 : decode cX6_crossedPairs 74 = .ok (.goto (-70), 3) := by decide +kernel
theorem dX6_crossedPairs_77 : decode cX6_crossedPairs 77 = .ok (.iload_n 1, 1) := by decide +kernel
theorem dX6_crossedPairs_78 : decode cX6_crossedPairs 78 = .ok (.ireturn, 1) := by decide +kernel
theorem dX6_soundCodes_0 : decode cX6_soundCodes 0 = .ok (.iconst 0, 1) := by decide +kernel
theorem dX6_soundCodes_1 : decode cX6_soundCodes 1 = .ok (.istore_n 1, 1) := by decide +kernel
theorem dX6_soundCodes_2 : decode cX6_soundCodes 2 = .ok (.iconst 0, 1) := by decide +kernel
theorem dX6_soundCodes_3 : decode cX6_soundCodes 3 = .ok (.istore_n 2, 1) := by decide +kernel
theorem dX6_soundCodes_4 : decode cX6_soundCodes 4 = .ok (.iload_n 2, 1) := by decide +kernel
theorem dX6_soundCodes_5 : decode cX6_soundCodes 5 = .ok (.bipush 81, 2) := by decide +kernel
theorem dX6_soundCodes_7 : decode cX6_soundCodes 7 = .ok (.if_icmp .ge 20, 3) := by decide +kernel
theorem dX6_soundCodes_10 : decode cX6_soundCodes 10 = .ok (.aload_n 0, 1) := by decide +kernel
theorem dX6_soundCodes_11 : decode cX6_soundCodes 11 = .ok (.iload_n 2, 1) := by decide +kernel
theorem dX6_soundCodes_12 : decode cX6_soundCodes 12 = .ok (.invokevirtual 282, 3) := by decide +kernel
theorem dX6_soundCodes_15 : decode cX6_soundCodes 15 = .ok (.ifCond .eq 6, 3) := by decide +kernel
theorem dX6_soundCodes_18 : decode cX6_soundCodes 18 = .ok (.iinc 1 1, 3) := by decide +kernel
theorem dX6_soundCodes_21 : decode cX6_soundCodes 21 = .ok (.iinc 2 1, 3) := by decide +kernel
theorem dX6_soundCodes_24 : decode cX6_soundCodes 24 = .ok (.goto (-20), 3) := by decide +kernel
theorem dX6_soundCodes_27 : decode cX6_soundCodes 27 = .ok (.iload_n 1, 1) := by decide +kernel
theorem dX6_soundCodes_28 : decode cX6_soundCodes 28 = .ok (.ireturn, 1) := by decide +kernel
theorem dX6_freeCodes_0 : decode cX6_freeCodes 0 = .ok (.iconst 0, 1) := by decide +kernel
theorem dX6_freeCodes_1 : decode cX6_freeCodes 1 = .ok (.istore_n 1, 1) := by decide +kernel
theorem dX6_freeCodes_2 : decode cX6_freeCodes 2 = .ok (.iconst 0, 1) := by decide +kernel
theorem dX6_freeCodes_3 : decode cX6_freeCodes 3 = .ok (.istore_n 2, 1) := by decide +kernel
theorem dX6_freeCodes_4 : decode cX6_freeCodes 4 = .ok (.iload_n 2, 1) := by decide +kernel
theorem dX6_freeCodes_5 : decode cX6_freeCodes 5 = .ok (.bipush 81, 2) := by decide +kernel
theorem dX6_freeCodes_7 : decode cX6_freeCodes 7 = .ok (.if_icmp .ge 20, 3) := by decide +kernel
theorem dX6_freeCodes_10 : decode cX6_freeCodes 10 = .ok (.aload_n 0, 1) := by decide +kernel
theorem dX6_freeCodes_11 : decode cX6_freeCodes 11 = .ok (.iload_n 2, 1) := by decide +kernel
theorem dX6_freeCodes_12 : decode cX6_freeCodes 12 = .ok (.invokevirtual 291, 3) := by decide +kernel
theorem dX6_freeCodes_15 : decode cX6_freeCodes 15 = .ok (.ifCond .eq 6, 3) := by decide +kernel
theorem dX6_freeCodes_18 : decode cX6_freeCodes 18 = .ok (.iinc 1 1, 3) := by decide +kernel
theorem dX6_freeCodes_21 : decode cX6_freeCodes 21 = .ok (.iinc 2 1, 3) := by decide +kernel
theorem dX6_freeCodes_24 : decode cX6_freeCodes 24 = .ok (.goto (-20), 3) := by decide +kernel
theorem dX6_freeCodes_27 : decode cX6_freeCodes 27 = .ok (.iload_n 1, 1) := by decide +kernel
theorem dX6_freeCodes_28 : decode cX6_freeCodes 28 = .ok (.ireturn, 1) := by decide +kernel
theorem dX6_soundCodesOver_0 : decode cX6_soundCodesOver 0 = .ok (.iconst 0, 1) := by decide +kernel
theorem dX6_soundCodesOver_1 : decode cX6_soundCodesOver 1 = .ok (.istore_n 2, 1) := by decide +kernel
theorem dX6_soundCodesOver_2 : decode cX6_soundCodesOver 2 = .ok (.iconst 0, 1) := by decide +kernel
theorem dX6_soundCodesOver_3 : decode cX6_soundCodesOver 3 = .ok (.istore_n 3, 1) := by decide +kernel
theorem dX6_soundCodesOver_4 : decode cX6_soundCodesOver 4 = .ok (.iload_n 3, 1) := by decide +kernel
theorem dX6_soundCodesOver_5 : decode cX6_soundCodesOver 5 = .ok (.bipush 81, 2) := by decide +kernel
theorem dX6_soundCodesOver_7 : decode cX6_soundCodesOver 7 = .ok (.if_icmp .ge 32, 3) := by decide +kernel
theorem dX6_soundCodesOver_10 : decode cX6_soundCodesOver 10 = .ok (.aload_n 0, 1) := by decide +kernel
theorem dX6_soundCodesOver_11 : decode cX6_soundCodesOver 11 = .ok (.getfield 37, 3) := by decide +kernel
theorem dX6_soundCodesOver_14 : decode cX6_soundCodesOver 14 = .ok (.iload_n 1, 1) := by decide +kernel
theorem dX6_soundCodesOver_15 : decode cX6_soundCodesOver 15 = .ok (.iload_n 3, 1) := by decide +kernel
theorem dX6_soundCodesOver_16 : decode cX6_soundCodesOver 16 = .ok (.invokevirtual 464, 3) := by decide +kernel
theorem dX6_soundCodesOver_19 : decode cX6_soundCodesOver 19 = .ok (.ifCond .eq 14, 3) := by decide +kernel
theorem dX6_soundCodesOver_22 : decode cX6_soundCodesOver 22 = .ok (.aload_n 0, 1) := by decide +kernel
theorem dX6_soundCodesOver_23 : decode cX6_soundCodesOver 23 = .ok (.iload_n 3, 1) := by decide +kernel
theorem dX6_soundCodesOver_24 : decode cX6_soundCodesOver 24 = .ok (.invokevirtual 282, 3) := by decide +kernel
theorem dX6_soundCodesOver_27 : decode cX6_soundCodesOver 27 = .ok (.ifCond .eq 6, 3) := by decide +kernel
theorem dX6_soundCodesOver_30 : decode cX6_soundCodesOver 30 = .ok (.iinc 2 1, 3) := by decide +kernel
theorem dX6_soundCodesOver_33 : decode cX6_soundCodesOver 33 = .ok (.iinc 3 1, 3) := by decide +kernel
theorem dX6_soundCodesOver_36 : decode cX6_soundCodesOver 36 = .ok (.goto (-32), 3) := by decide +kernel
theorem dX6_soundCodesOver_39 : decode cX6_soundCodesOver 39 = .ok (.iload_n 2, 1) := by decide +kernel
theorem dX6_soundCodesOver_40 : decode cX6_soundCodesOver 40 = .ok (.ireturn, 1) := by decide +kernel
theorem dX6_soundCodesUnder_0 : decode cX6_soundCodesUnder 0 = .ok (.iconst 0, 1) := by decide +kernel
theorem dX6_soundCodesUnder_1 : decode cX6_soundCodesUnder 1 = .ok (.istore_n 2, 1) := by decide +kernel
theorem dX6_soundCodesUnder_2 : decode cX6_soundCodesUnder 2 = .ok (.iconst 0, 1) := by decide +kernel
theorem dX6_soundCodesUnder_3 : decode cX6_soundCodesUnder 3 = .ok (.istore_n 3, 1) := by decide +kernel
theorem dX6_soundCodesUnder_4 : decode cX6_soundCodesUnder 4 = .ok (.iload_n 3, 1) := by decide +kernel
theorem dX6_soundCodesUnder_5 : decode cX6_soundCodesUnder 5 = .ok (.bipush 81, 2) := by decide +kernel
theorem dX6_soundCodesUnder_7 : decode cX6_soundCodesUnder 7 = .ok (.if_icmp .ge 32, 3) := by decide +kernel
theorem dX6_soundCodesUnder_10 : decode cX6_soundCodesUnder 10 = .ok (.aload_n 0, 1) := by decide +kernel
theorem dX6_soundCodesUnder_11 : decode cX6_soundCodesUnder 11 = .ok (.getfield 37, 3) := by decide +kernel
theorem dX6_soundCodesUnder_14 : decode cX6_soundCodesUnder 14 = .ok (.iload_n 3, 1) := by decide +kernel
theorem dX6_soundCodesUnder_15 : decode cX6_soundCodesUnder 15 = .ok (.iload_n 1, 1) := by decide +kernel
theorem dX6_soundCodesUnder_16 : decode cX6_soundCodesUnder 16 = .ok (.invokevirtual 464, 3) := by decide +kernel
theorem dX6_soundCodesUnder_19 : decode cX6_soundCodesUnder 19 = .ok (.ifCond .eq 14, 3) := by decide +kernel
theorem dX6_soundCodesUnder_22 : decode cX6_soundCodesUnder 22 = .ok (.aload_n 0, 1) := by decide +kernel
theorem dX6_soundCodesUnder_23 : decode cX6_soundCodesUnder 23 = .ok (.iload_n 3, 1) := by decide +kernel
theorem dX6_soundCodesUnder_24 : decode cX6_soundCodesUnder 24 = .ok (.invokevirtual 282, 3) := by decide +kernel
theorem dX6_soundCodesUnder_27 : decode cX6_soundCodesUnder 27 = .ok (.ifCond .eq 6, 3) := by decide +kernel
theorem dX6_soundCodesUnder_30 : decode cX6_soundCodesUnder 30 = .ok (.iinc 2 1, 3) := by decide +kernel
theorem dX6_soundCodesUnder_33 : decode cX6_soundCodesUnder 33 = .ok (.iinc 3 1, 3) := by decide +kernel
theorem dX6_soundCodesUnder_36 : decode cX6_soundCodesUnder 36 = .ok (.goto (-32), 3) := by decide +kernel
theorem dX6_soundCodesUnder_39 : decode cX6_soundCodesUnder 39 = .ok (.iload_n 2, 1) := by decide +kernel
theorem dX6_soundCodesUnder_40 : decode cX6_soundCodesUnder 40 = .ok (.ireturn, 1) := by decide +kernel
theorem dX6_findMost_0 : decode cX6_findMost 0 = .ok (.iconst 0, 1) := by decide +kernel
theorem dX6_findMost_1 : decode cX6_findMost 1 = .ok (.istore_n 1, 1) := by decide +kernel
theorem dX6_findMost_2 : decode cX6_findMost 2 = .ok (.iconst 0, 1) := by decide +kernel
theorem dX6_findMost_3 : decode cX6_findMost 3 = .ok (.istore_n 2, 1) := by decide +kernel
theorem dX6_findMost_4 : decode cX6_findMost 4 = .ok (.iload_n 2, 1) := by decide +kernel
theorem dX6_findMost_5 : decode cX6_findMost 5 = .ok (.bipush 81, 2) := by decide +kernel
theorem dX6_findMost_7 : decode cX6_findMost 7 = .ok (.if_icmp .ge 48, 3) := by decide +kernel
theorem dX6_findMost_10 : decode cX6_findMost 10 = .ok (.aload_n 0, 1) := by decide +kernel
theorem dX6_findMost_11 : decode cX6_findMost 11 = .ok (.iload_n 2, 1) := by decide +kernel
theorem dX6_findMost_12 : decode cX6_findMost 12 = .ok (.invokevirtual 291, 3) := by decide +kernel
theorem dX6_findMost_15 : decode cX6_findMost 15 = .ok (.istore_n 3, 1) := by decide +kernel
theorem dX6_findMost_16 : decode cX6_findMost 16 = .ok (.iload_n 1, 1) := by decide +kernel
theorem dX6_findMost_17 : decode cX6_findMost 17 = .ok (.ifCond .ne 16, 3) := by decide +kernel
theorem dX6_findMost_20 : decode cX6_findMost 20 = .ok (.iload_n 3, 1) := by decide +kernel
theorem dX6_findMost_21 : decode cX6_findMost 21 = .ok (.aload_n 0, 1) := by decide +kernel
theorem dX6_findMost_22 : decode cX6_findMost 22 = .ok (.getfield 46, 3) := by decide +kernel
theorem dX6_findMost_25 : decode cX6_findMost 25 = .ok (.getfield 473, 3) := by decide +kernel
theorem dX6_findMost_28 : decode cX6_findMost 28 = .ok (.iload_n 2, 1) := by decide +kernel
theorem dX6_findMost_29 : decode cX6_findMost 29 = .ok (.baload, 1) := by decide +kernel
theorem dX6_findMost_30 : decode cX6_findMost 30 = .ok (.if_icmp .eq 7, 3) := by decide +kernel
theorem dX6_findMost_33 : decode cX6_findMost 33 = .ok (.iconst 1, 1) := by decide +kernel
theorem dX6_findMost_34 : decode cX6_findMost 34 = .ok (.goto 4, 3) := by decide +kernel
theorem dX6_findMost_37 : decode cX6_findMost 37 = .ok (.iconst 0, 1) := by decide +kernel
theorem dX6_findMost_38 : decode cX6_findMost 38 = .ok (.istore_n 1, 1) := by decide +kernel
theorem dX6_findMost_39 : decode cX6_findMost 39 = .ok (.aload_n 0, 1) := by decide +kernel
theorem dX6_findMost_40 : decode cX6_findMost 40 = .ok (.getfield 46, 3) := by decide +kernel
theorem dX6_findMost_43 : decode cX6_findMost 43 = .ok (.getfield 473, 3) := by decide +kernel
theorem dX6_findMost_46 : decode cX6_findMost 46 = .ok (.iload_n 2, 1) := by decide +kernel
theorem dX6_findMost_47 : decode cX6_findMost 47 = .ok (.iload_n 3, 1) := by decide +kernel
theorem dX6_findMost_48 : decode cX6_findMost 48 = .ok (.bastore, 1) := by decide +kernel
theorem dX6_findMost_49 : decode cX6_findMost 49 = .ok (.iinc 2 1, 3) := by decide +kernel
theorem dX6_findMost_52 : decode cX6_findMost 52 = .ok (.goto (-48), 3) := by decide +kernel
theorem dX6_findMost_55 : decode cX6_findMost 55 = .ok (.iload_n 1, 1) := by decide +kernel
theorem dX6_findMost_56 : decode cX6_findMost 56 = .ok (.ifCond .eq 17, 3) := by decide +kernel
theorem dX6_findMost_59 : decode cX6_findMost 59 = .ok (.aload_n 0, 1) := by decide +kernel
theorem dX6_findMost_60 : decode cX6_findMost 60 = .ok (.getfield 46, 3) := by decide +kernel
theorem dX6_findMost_63 : decode cX6_findMost 63 = .ok (.invokevirtual 477, 3) := by decide +kernel
theorem dX6_findMost_66 : decode cX6_findMost 66 = .ok (.aload_n 0, 1) := by decide +kernel
theorem dX6_findMost_67 : decode cX6_findMost 67 = .ok (.getfield 46, 3) := by decide +kernel
theorem dX6_findMost_70 : decode cX6_findMost 70 = .ok (.invokevirtual 480, 3) := by decide +kernel
theorem dX6_findMost_73 : decode cX6_findMost 73 = .ok (.return_, 1) := by decide +kernel
end
section
theorem dL_cell_0 : decode cL_cell 0 = .ok (.iload_n 1, 1) := by decide +kernel
theorem dL_cell_1 : decode cL_cell 1 = .ok (.aload_n 0, 1) := by decide +kernel
theorem dL_cell_2 : decode cL_cell 2 = .ok (.arraylength, 1) := by decide +kernel
theorem dL_cell_3 : decode cL_cell 3 = .ok (.if_icmp .ge 9, 3) := by decide +kernel
theorem dL_cell_6 : decode cL_cell 6 = .ok (.aload_n 0, 1) := by decide +kernel
theorem dL_cell_7 : decode cL_cell 7 = .ok (.iload_n 1, 1) := by decide +kernel
theorem dL_cell_8 : decode cL_cell 8 = .ok (.iaload, 1) := by decide +kernel
theorem dL_cell_9 : decode cL_cell 9 = .ok (.goto 12, 3) := by decide +kernel
theorem dL_cell_12 : decode cL_cell 12 = .ok (.ldc 7, 2) := by decide +kernel
theorem dL_cell_14 : decode cL_cell 14 = .ok (.iload_n 1, 1) := by decide +kernel
theorem dL_cell_15 : decode cL_cell 15 = .ok (.iconst 3, 1) := by decide +kernel
theorem dL_cell_16 : decode cL_cell 16 = .ok (.iadd, 1) := by decide +kernel
theorem dL_cell_17 : decode cL_cell 17 = .ok (.imul, 1) := by decide +kernel
theorem dL_cell_18 : decode cL_cell 18 = .ok (.ldc 8, 2) := by decide +kernel
theorem dL_cell_20 : decode cL_cell 20 = .ok (.iadd, 1) := by decide +kernel
theorem dL_cell_21 : decode cL_cell 21 = .ok (.ireturn, 1) := by decide +kernel
theorem dL_low_0 : decode cL_low 0 = .ok (.iload_n 0, 1) := by decide +kernel
theorem dL_low_1 : decode cL_low 1 = .ok (.ldc 9, 2) := by decide +kernel
theorem dL_low_3 : decode cL_low 3 = .ok (.iand, 1) := by decide +kernel
theorem dL_low_4 : decode cL_low 4 = .ok (.iload_n 1, 1) := by decide +kernel
theorem dL_low_5 : decode cL_low 5 = .ok (.irem, 1) := by decide +kernel
theorem dL_low_6 : decode cL_low 6 = .ok (.ireturn, 1) := by decide +kernel
theorem dL_cut_0 : decode cL_cut 0 = .ok (.aload_n 0, 1) := by decide +kernel
theorem dL_cut_1 : decode cL_cut 1 = .ok (.iload_n 1, 1) := by decide +kernel
theorem dL_cut_2 : decode cL_cut 2 = .ok (.iload_n 2, 1) := by decide +kernel
theorem dL_cut_3 : decode cL_cut 3 = .ok (.invokevirtual 10, 3) := by decide +kernel
theorem dL_cut_6 : decode cL_cut 6 = .ok (.ireturn, 1) := by decide +kernel
theorem dL_cut_7 : decode cL_cut 7 = .ok (.astore_n 3, 1) := by decide +kernel
theorem dL_cut_8 : decode cL_cut 8 = .ok (.bipush (-102), 2) := by decide +kernel
theorem dL_cut_10 : decode cL_cut 10 = .ok (.ireturn, 1) := by decide +kernel
theorem dL_cut_11 : decode cL_cut 11 = .ok (.astore_n 3, 1) := by decide +kernel
theorem dL_cut_12 : decode cL_cut 12 = .ok (.bipush (-103), 2) := by decide +kernel
theorem dL_cut_14 : decode cL_cut 14 = .ok (.ireturn, 1) := by decide +kernel
theorem dL_deepen_0 : decode cL_deepen 0 = .ok (.aload_n 0, 1) := by decide +kernel
theorem dL_deepen_1 : decode cL_deepen 1 = .ok (.iload_n 1, 1) := by decide +kernel
theorem dL_deepen_2 : decode cL_deepen 2 = .ok (.iload_n 2, 1) := by decide +kernel
theorem dL_deepen_3 : decode cL_deepen 3 = .ok (.invokevirtual 20, 3) := by decide +kernel
theorem dL_deepen_6 : decode cL_deepen 6 = .ok (.ireturn, 1) := by decide +kernel
theorem dL_deepen_7 : decode cL_deepen 7 = .ok (.astore_n 3, 1) := by decide +kernel
theorem dL_deepen_8 : decode cL_deepen 8 = .ok (.bipush (-101), 2) := by decide +kernel
theorem dL_deepen_10 : decode cL_deepen 10 = .ok (.ireturn, 1) := by decide +kernel
theorem dL_deepen_11 : decode cL_deepen 11 = .ok (.astore_n 3, 1) := by decide +kernel
theorem dL_deepen_12 : decode cL_deepen 12 = .ok (.bipush (-103), 2) := by decide +kernel
theorem dL_deepen_14 : decode cL_deepen 14 = .ok (.ireturn, 1) := by decide +kernel
theorem dL_retire_0 : decode cL_retire 0 = .ok (.aload_n 0, 1) := by decide +kernel
theorem dL_retire_1 : decode cL_retire 1 = .ok (.iload_n 1, 1) := by decide +kernel
theorem dL_retire_2 : decode cL_retire 2 = .ok (.invokevirtual 25, 3) := by decide +kernel
theorem dL_retire_5 : decode cL_retire 5 = .ok (.ireturn, 1) := by decide +kernel
theorem dL_retire_6 : decode cL_retire 6 = .ok (.astore_n 2, 1) := by decide +kernel
theorem dL_retire_7 : decode cL_retire 7 = .ok (.bipush (-101), 2) := by decide +kernel
theorem dL_retire_9 : decode cL_retire 9 = .ok (.ireturn, 1) := by decide +kernel
theorem dL_give_0 : decode cL_give 0 = .ok (.aload_n 0, 1) := by decide +kernel
theorem dL_give_1 : decode cL_give 1 = .ok (.iload_n 1, 1) := by decide +kernel
theorem dL_give_2 : decode cL_give 2 = .ok (.iload_n 2, 1) := by decide +kernel
theorem dL_give_3 : decode cL_give 3 = .ok (.invokevirtual 29, 3) := by decide +kernel
theorem dL_give_6 : decode cL_give 6 = .ok (.ireturn, 1) := by decide +kernel
theorem dL_give_7 : decode cL_give 7 = .ok (.astore_n 3, 1) := by decide +kernel
theorem dL_give_8 : decode cL_give 8 = .ok (.bipush (-101), 2) := by decide +kernel
theorem dL_give_10 : decode cL_give 10 = .ok (.ireturn, 1) := by decide +kernel
theorem dL_give_11 : decode cL_give 11 = .ok (.astore_n 3, 1) := by decide +kernel
theorem dL_give_12 : decode cL_give 12 = .ok (.bipush (-102), 2) := by decide +kernel
theorem dL_give_14 : decode cL_give 14 = .ok (.ireturn, 1) := by decide +kernel
theorem dL_lose_0 : decode cL_lose 0 = .ok (.aload_n 0, 1) := by decide +kernel
theorem dL_lose_1 : decode cL_lose 1 = .ok (.iload_n 1, 1) := by decide +kernel
theorem dL_lose_2 : decode cL_lose 2 = .ok (.invokevirtual 32, 3) := by decide +kernel
theorem dL_lose_5 : decode cL_lose 5 = .ok (.ireturn, 1) := by decide +kernel
theorem dL_lose_6 : decode cL_lose 6 = .ok (.astore_n 2, 1) := by decide +kernel
theorem dL_lose_7 : decode cL_lose 7 = .ok (.bipush (-101), 2) := by decide +kernel
theorem dL_lose_9 : decode cL_lose 9 = .ok (.ireturn, 1) := by decide +kernel
theorem dL_lose_10 : decode cL_lose 10 = .ok (.astore_n 2, 1) := by decide +kernel
theorem dL_lose_11 : decode cL_lose 11 = .ok (.bipush (-103), 2) := by decide +kernel
theorem dL_lose_13 : decode cL_lose 13 = .ok (.ireturn, 1) := by decide +kernel
theorem dL_find_0 : decode cL_find 0 = .ok (.aload_n 0, 1) := by decide +kernel
theorem dL_find_1 : decode cL_find 1 = .ok (.iload_n 1, 1) := by decide +kernel
theorem dL_find_2 : decode cL_find 2 = .ok (.invokevirtual 35, 3) := by decide +kernel
theorem dL_find_5 : decode cL_find 5 = .ok (.ireturn, 1) := by decide +kernel
theorem dL_find_6 : decode cL_find 6 = .ok (.astore_n 2, 1) := by decide +kernel
theorem dL_find_7 : decode cL_find 7 = .ok (.bipush (-101), 2) := by decide +kernel
theorem dL_find_9 : decode cL_find 9 = .ok (.ireturn, 1) := by decide +kernel
theorem dL_find_10 : decode cL_find 10 = .ok (.astore_n 2, 1) := by decide +kernel
theorem dL_find_11 : decode cL_find 11 = .ok (.bipush (-103), 2) := by decide +kernel
theorem dL_find_13 : decode cL_find 13 = .ok (.ireturn, 1) := by decide +kernel
theorem dL_ward_0 : decode cL_ward 0 = .ok (.aload_n 0, 1) := by decide +kernel
theorem dL_ward_1 : decode cL_ward 1 = .ok (.iload_n 1, 1) := by decide +kernel
theorem dL_ward_2 : decode cL_ward 2 = .ok (.iload_n 2, 1) := by decide +kernel
theorem dL_ward_3 : decode cL_ward 3 = .ok (.invokevirtual 38, 3) := by decide +kernel
theorem dL_ward_6 : decode cL_ward 6 = .ok (.ireturn, 1) := by decide +kernel
theorem dL_ward_7 : decode cL_ward 7 = .ok (.astore_n 3, 1) := by decide +kernel
theorem dL_ward_8 : decode cL_ward 8 = .ok (.bipush (-101), 2) := by decide +kernel
theorem dL_ward_10 : decode cL_ward 10 = .ok (.ireturn, 1) := by decide +kernel
theorem dL_ward_11 : decode cL_ward 11 = .ok (.astore_n 3, 1) := by decide +kernel
theorem dL_ward_12 : decode cL_ward 12 = .ok (.bipush (-102), 2) := by decide +kernel
theorem dL_ward_14 : decode cL_ward 14 = .ok (.ireturn, 1) := by decide +kernel
theorem dL_guest_0 : decode cL_guest 0 = .ok (.aload_n 0, 1) := by decide +kernel
theorem dL_guest_1 : decode cL_guest 1 = .ok (.iload_n 1, 1) := by decide +kernel
theorem dL_guest_2 : decode cL_guest 2 = .ok (.iload_n 2, 1) := by decide +kernel
theorem dL_guest_3 : decode cL_guest 3 = .ok (.invokevirtual 41, 3) := by decide +kernel
theorem dL_guest_6 : decode cL_guest 6 = .ok (.ireturn, 1) := by decide +kernel
theorem dL_guest_7 : decode cL_guest 7 = .ok (.astore_n 3, 1) := by decide +kernel
theorem dL_guest_8 : decode cL_guest 8 = .ok (.bipush (-101), 2) := by decide +kernel
theorem dL_guest_10 : decode cL_guest 10 = .ok (.ireturn, 1) := by decide +kernel
theorem dL_guest_11 : decode cL_guest 11 = .ok (.astore_n 3, 1) := by decide +kernel
theorem dL_guest_12 : decode cL_guest 12 = .ok (.bipush (-102), 2) := by decide +kernel
theorem dL_guest_14 : decode cL_guest 14 = .ok (.ireturn, 1) := by decide +kernel
theorem dL_guest_15 : decode cL_guest 15 = .ok (.astore_n 3, 1) := by decide +kernel
theorem dL_guest_16 : decode cL_guest 16 = .ok (.bipush (-103), 2) := by decide +kernel
theorem dL_guest_18 : decode cL_guest 18 = .ok (.ireturn, 1) := by decide +kernel
theorem dL_take_0 : decode cL_take 0 = .ok (.aload_n 0, 1) := by decide +kernel
theorem dL_take_1 : decode cL_take 1 = .ok (.iload_n 1, 1) := by decide +kernel
theorem dL_take_2 : decode cL_take 2 = .ok (.invokevirtual 44, 3) := by decide +kernel
theorem dL_take_5 : decode cL_take 5 = .ok (.ireturn, 1) := by decide +kernel
theorem dL_take_6 : decode cL_take 6 = .ok (.astore_n 2, 1) := by decide +kernel
theorem dL_take_7 : decode cL_take 7 = .ok (.bipush (-101), 2) := by decide +kernel
theorem dL_take_9 : decode cL_take 9 = .ok (.ireturn, 1) := by decide +kernel
theorem dL_take_10 : decode cL_take 10 = .ok (.astore_n 2, 1) := by decide +kernel
theorem dL_take_11 : decode cL_take 11 = .ok (.bipush (-103), 2) := by decide +kernel
theorem dL_take_13 : decode cL_take 13 = .ok (.ireturn, 1) := by decide +kernel
theorem dL_turn_0 : decode cL_turn 0 = .ok (.aload_n 0, 1) := by decide +kernel
theorem dL_turn_1 : decode cL_turn 1 = .ok (.iload_n 1, 1) := by decide +kernel
theorem dL_turn_2 : decode cL_turn 2 = .ok (.iload_n 2, 1) := by decide +kernel
theorem dL_turn_3 : decode cL_turn 3 = .ok (.invokevirtual 47, 3) := by decide +kernel
theorem dL_turn_6 : decode cL_turn 6 = .ok (.ireturn, 1) := by decide +kernel
theorem dL_turn_7 : decode cL_turn 7 = .ok (.astore_n 3, 1) := by decide +kernel
theorem dL_turn_8 : decode cL_turn 8 = .ok (.bipush (-101), 2) := by decide +kernel
theorem dL_turn_10 : decode cL_turn 10 = .ok (.ireturn, 1) := by decide +kernel
theorem dL_turn_11 : decode cL_turn 11 = .ok (.astore_n 3, 1) := by decide +kernel
theorem dL_turn_12 : decode cL_turn 12 = .ok (.bipush (-103), 2) := by decide +kernel
theorem dL_turn_14 : decode cL_turn 14 = .ok (.ireturn, 1) := by decide +kernel
theorem dL_set_0 : decode cL_set 0 = .ok (.aload_n 0, 1) := by decide +kernel
theorem dL_set_1 : decode cL_set 1 = .ok (.iload_n 1, 1) := by decide +kernel
theorem dL_set_2 : decode cL_set 2 = .ok (.iload_n 2, 1) := by decide +kernel
theorem dL_set_3 : decode cL_set 3 = .ok (.invokevirtual 50, 3) := by decide +kernel
theorem dL_set_6 : decode cL_set 6 = .ok (.ireturn, 1) := by decide +kernel
theorem dL_set_7 : decode cL_set 7 = .ok (.astore_n 3, 1) := by decide +kernel
theorem dL_set_8 : decode cL_set 8 = .ok (.bipush (-101), 2) := by decide +kernel
theorem dL_set_10 : decode cL_set 10 = .ok (.ireturn, 1) := by decide +kernel
theorem dL_set_11 : decode cL_set 11 = .ok (.astore_n 3, 1) := by decide +kernel
theorem dL_set_12 : decode cL_set 12 = .ok (.bipush (-102), 2) := by decide +kernel
theorem dL_set_14 : decode cL_set 14 = .ok (.ireturn, 1) := by decide +kernel
theorem dL_undo_0 : decode cL_undo 0 = .ok (.aload_n 0, 1) := by decide +kernel
theorem dL_undo_1 : decode cL_undo 1 = .ok (.invokevirtual 53, 3) := by decide +kernel
theorem dL_undo_4 : decode cL_undo 4 = .ok (.ireturn, 1) := by decide +kernel
theorem dL_undo_5 : decode cL_undo 5 = .ok (.astore_n 1, 1) := by decide +kernel
theorem dL_undo_6 : decode cL_undo 6 = .ok (.bipush (-103), 2) := by decide +kernel
theorem dL_undo_8 : decode cL_undo 8 = .ok (.ireturn, 1) := by decide +kernel
theorem dL_key_0 : decode cL_key 0 = .ok (.aload_n 0, 1) := by decide +kernel
theorem dL_key_1 : decode cL_key 1 = .ok (.iload_n 1, 1) := by decide +kernel
theorem dL_key_2 : decode cL_key 2 = .ok (.iload_n 2, 1) := by decide +kernel
theorem dL_key_3 : decode cL_key 3 = .ok (.invokevirtual 57, 3) := by decide +kernel
theorem dL_key_6 : decode cL_key 6 = .ok (.ireturn, 1) := by decide +kernel
theorem dL_key_7 : decode cL_key 7 = .ok (.astore_n 3, 1) := by decide +kernel
theorem dL_key_8 : decode cL_key 8 = .ok (.bipush (-101), 2) := by decide +kernel
theorem dL_key_10 : decode cL_key 10 = .ok (.ireturn, 1) := by decide +kernel
theorem dL_key_11 : decode cL_key 11 = .ok (.astore_n 3, 1) := by decide +kernel
theorem dL_key_12 : decode cL_key 12 = .ok (.bipush (-102), 2) := by decide +kernel
theorem dL_key_14 : decode cL_key 14 = .ok (.ireturn, 1) := by decide +kernel
theorem dL_lock_0 : decode cL_lock 0 = .ok (.aload_n 0, 1) := by decide +kernel
theorem dL_lock_1 : decode cL_lock 1 = .ok (.iload_n 1, 1) := by decide +kernel
theorem dL_lock_2 : decode cL_lock 2 = .ok (.iload_n 2, 1) := by decide +kernel
theorem dL_lock_3 : decode cL_lock 3 = .ok (.invokevirtual 60, 3) := by decide +kernel
theorem dL_lock_6 : decode cL_lock 6 = .ok (.ireturn, 1) := by decide +kernel
theorem dL_lock_7 : decode cL_lock 7 = .ok (.astore_n 3, 1) := by decide +kernel
theorem dL_lock_8 : decode cL_lock 8 = .ok (.bipush (-101), 2) := by decide +kernel
theorem dL_lock_10 : decode cL_lock 10 = .ok (.ireturn, 1) := by decide +kernel
theorem dL_lock_11 : decode cL_lock 11 = .ok (.astore_n 3, 1) := by decide +kernel
theorem dL_lock_12 : decode cL_lock 12 = .ok (.bipush (-102), 2) := by decide +kernel
theorem dL_lock_14 : decode cL_lock 14 = .ok (.ireturn, 1) := by decide +kernel
theorem dL_person_0 : decode cL_person 0 = .ok (.aload_n 0, 1) := by decide +kernel
theorem dL_person_1 : decode cL_person 1 = .ok (.iload_n 1, 1) := by decide +kernel
theorem dL_person_2 : decode cL_person 2 = .ok (.iload_n 2, 1) := by decide +kernel
theorem dL_person_3 : decode cL_person 3 = .ok (.invokevirtual 63, 3) := by decide +kernel
theorem dL_person_6 : decode cL_person 6 = .ok (.ireturn, 1) := by decide +kernel
theorem dL_person_7 : decode cL_person 7 = .ok (.astore_n 3, 1) := by decide +kernel
theorem dL_person_8 : decode cL_person 8 = .ok (.bipush (-101), 2) := by decide +kernel
theorem dL_person_10 : decode cL_person 10 = .ok (.ireturn, 1) := by decide +kernel
theorem dL_person_11 : decode cL_person 11 = .ok (.astore_n 3, 1) := by decide +kernel
theorem dL_person_12 : decode cL_person 12 = .ok (.bipush (-102), 2) := by decide +kernel
theorem dL_person_14 : decode cL_person 14 = .ok (.ireturn, 1) := by decide +kernel
theorem dL_code_0 : decode cL_code 0 = .ok (.aload_n 0, 1) := by decide +kernel
theorem dL_code_1 : decode cL_code 1 = .ok (.iload_n 1, 1) := by decide +kernel
theorem dL_code_2 : decode cL_code 2 = .ok (.iload_n 2, 1) := by decide +kernel
theorem dL_code_3 : decode cL_code 3 = .ok (.invokevirtual 66, 3) := by decide +kernel
theorem dL_code_6 : decode cL_code 6 = .ok (.ireturn, 1) := by decide +kernel
theorem dL_code_7 : decode cL_code 7 = .ok (.astore_n 3, 1) := by decide +kernel
theorem dL_code_8 : decode cL_code 8 = .ok (.bipush (-102), 2) := by decide +kernel
theorem dL_code_10 : decode cL_code 10 = .ok (.ireturn, 1) := by decide +kernel
theorem dL_count_0 : decode cL_count 0 = .ok (.aload_n 0, 1) := by decide +kernel
theorem dL_count_1 : decode cL_count 1 = .ok (.iload_n 1, 1) := by decide +kernel
theorem dL_count_2 : decode cL_count 2 = .ok (.invokevirtual 72, 3) := by decide +kernel
theorem dL_count_5 : decode cL_count 5 = .ok (.ireturn, 1) := by decide +kernel
theorem dL_count_6 : decode cL_count 6 = .ok (.astore_n 2, 1) := by decide +kernel
theorem dL_count_7 : decode cL_count 7 = .ok (.bipush (-102), 2) := by decide +kernel
theorem dL_count_9 : decode cL_count 9 = .ok (.ireturn, 1) := by decide +kernel
theorem dL_why_0 : decode cL_why 0 = .ok (.aload_n 0, 1) := by decide +kernel
theorem dL_why_1 : decode cL_why 1 = .ok (.iload_n 1, 1) := by decide +kernel
theorem dL_why_2 : decode cL_why 2 = .ok (.iload_n 2, 1) := by decide +kernel
theorem dL_why_3 : decode cL_why 3 = .ok (.invokevirtual 75, 3) := by decide +kernel
theorem dL_why_6 : decode cL_why 6 = .ok (.ireturn, 1) := by decide +kernel
theorem dL_why_7 : decode cL_why 7 = .ok (.astore_n 3, 1) := by decide +kernel
theorem dL_why_8 : decode cL_why 8 = .ok (.bipush (-101), 2) := by decide +kernel
theorem dL_why_10 : decode cL_why 10 = .ok (.ireturn, 1) := by decide +kernel
theorem dL_most_0 : decode cL_most 0 = .ok (.aload_n 0, 1) := by decide +kernel
theorem dL_most_1 : decode cL_most 1 = .ok (.iload_n 1, 1) := by decide +kernel
theorem dL_most_2 : decode cL_most 2 = .ok (.invokevirtual 78, 3) := by decide +kernel
theorem dL_most_5 : decode cL_most 5 = .ok (.ireturn, 1) := by decide +kernel
theorem dL_most_6 : decode cL_most 6 = .ok (.astore_n 2, 1) := by decide +kernel
theorem dL_most_7 : decode cL_most 7 = .ok (.bipush (-102), 2) := by decide +kernel
theorem dL_most_9 : decode cL_most 9 = .ok (.ireturn, 1) := by decide +kernel
theorem dL_pick_0 : decode cL_pick 0 = .ok (.aload_n 0, 1) := by decide +kernel
theorem dL_pick_1 : decode cL_pick 1 = .ok (.iload_n 1, 1) := by decide +kernel
theorem dL_pick_2 : decode cL_pick 2 = .ok (.invokevirtual 81, 3) := by decide +kernel
theorem dL_pick_5 : decode cL_pick 5 = .ok (.ireturn, 1) := by decide +kernel
theorem dL_pick_6 : decode cL_pick 6 = .ok (.astore_n 2, 1) := by decide +kernel
theorem dL_pick_7 : decode cL_pick 7 = .ok (.bipush (-101), 2) := by decide +kernel
theorem dL_pick_9 : decode cL_pick 9 = .ok (.ireturn, 1) := by decide +kernel
theorem dL_opener_0 : decode cL_opener 0 = .ok (.aload_n 0, 1) := by decide +kernel
theorem dL_opener_1 : decode cL_opener 1 = .ok (.iload_n 1, 1) := by decide +kernel
theorem dL_opener_2 : decode cL_opener 2 = .ok (.invokevirtual 84, 3) := by decide +kernel
theorem dL_opener_5 : decode cL_opener 5 = .ok (.ireturn, 1) := by decide +kernel
theorem dL_opener_6 : decode cL_opener 6 = .ok (.astore_n 2, 1) := by decide +kernel
theorem dL_opener_7 : decode cL_opener 7 = .ok (.bipush (-102), 2) := by decide +kernel
theorem dL_opener_9 : decode cL_opener 9 = .ok (.ireturn, 1) := by decide +kernel
theorem dL_digit_0 : decode cL_digit 0 = .ok (.iload_n 0, 1) := by decide +kernel
theorem dL_digit_1 : decode cL_digit 1 = .ok (.istore_n 2, 1) := by decide +kernel
theorem dL_digit_2 : decode cL_digit 2 = .ok (.iload_n 1, 1) := by decide +kernel
theorem dL_digit_3 : decode cL_digit 3 = .ok (.istore_n 3, 1) := by decide +kernel
theorem dL_digit_4 : decode cL_digit 4 = .ok (.iload_n 3, 1) := by decide +kernel
theorem dL_digit_5 : decode cL_digit 5 = .ok (.iconst 3, 1) := by decide +kernel
theorem dL_digit_6 : decode cL_digit 6 = .ok (.if_icmp .ge 13, 3) := by decide +kernel
theorem dL_digit_9 : decode cL_digit 9 = .ok (.iload_n 2, 1) := by decide +kernel
theorem dL_digit_10 : decode cL_digit 10 = .ok (.iconst 3, 1) := by decide +kernel
theorem dL_digit_11 : decode cL_digit 11 = .ok (.idiv, 1) := by decide +kernel
theorem dL_digit_12 : decode cL_digit 12 = .ok (.istore_n 2, 1) := by decide +kernel
theorem dL_digit_13 : decode cL_digit 13 = .ok (.iinc 3 1, 3) := by decide +kernel
theorem dL_digit_16 : decode cL_digit 16 = .ok (.goto (-12), 3) := by decide +kernel
theorem dL_digit_19 : decode cL_digit 19 = .ok (.iload_n 2, 1) := by decide +kernel
theorem dL_digit_20 : decode cL_digit 20 = .ok (.iconst 3, 1) := by decide +kernel
theorem dL_digit_21 : decode cL_digit 21 = .ok (.irem, 1) := by decide +kernel
theorem dL_digit_22 : decode cL_digit 22 = .ok (.ireturn, 1) := by decide +kernel
theorem dL_step_0 : decode cL_step 0 = .ok (.iload_n 0, 1) := by decide +kernel
theorem dL_step_1 : decode cL_step 1 = .ok (.ifCond .ne 8, 3) := by decide +kernel
theorem dL_step_4 : decode cL_step 4 = .ok (.bipush 27, 2) := by decide +kernel
theorem dL_step_6 : decode cL_step 6 = .ok (.goto 23, 3) := by decide +kernel
theorem dL_step_9 : decode cL_step 9 = .ok (.iload_n 0, 1) := by decide +kernel
theorem dL_step_10 : decode cL_step 10 = .ok (.iconst 1, 1) := by decide +kernel
theorem dL_step_11 : decode cL_step 11 = .ok (.if_icmp .ne 8, 3) := by decide +kernel
theorem dL_step_14 : decode cL_step 14 = .ok (.bipush 9, 2) := by decide +kernel
theorem dL_step_16 : decode cL_step 16 = .ok (.goto 13, 3) := by decide +kernel
theorem dL_step_19 : decode cL_step 19 = .ok (.iload_n 0, 1) := by decide +kernel
theorem dL_step_20 : decode cL_step 20 = .ok (.iconst 2, 1) := by decide +kernel
theorem dL_step_21 : decode cL_step 21 = .ok (.if_icmp .ne 7, 3) := by decide +kernel
theorem dL_step_24 : decode cL_step 24 = .ok (.iconst 3, 1) := by decide +kernel
theorem dL_step_25 : decode cL_step 25 = .ok (.goto 4, 3) := by decide +kernel
theorem dL_step_28 : decode cL_step 28 = .ok (.iconst 1, 1) := by decide +kernel
theorem dL_step_29 : decode cL_step 29 = .ok (.ireturn, 1) := by decide +kernel
theorem dL_levelOf_0 : decode cL_levelOf 0 = .ok (.iload_n 0, 1) := by decide +kernel
theorem dL_levelOf_1 : decode cL_levelOf 1 = .ok (.iconst 0, 1) := by decide +kernel
theorem dL_levelOf_2 : decode cL_levelOf 2 = .ok (.invokestatic 87, 3) := by decide +kernel
theorem dL_levelOf_5 : decode cL_levelOf 5 = .ok (.iload_n 0, 1) := by decide +kernel
theorem dL_levelOf_6 : decode cL_levelOf 6 = .ok (.iconst 1, 1) := by decide +kernel
theorem dL_levelOf_7 : decode cL_levelOf 7 = .ok (.invokestatic 87, 3) := by decide +kernel
theorem dL_levelOf_10 : decode cL_levelOf 10 = .ok (.iadd, 1) := by decide +kernel
theorem dL_levelOf_11 : decode cL_levelOf 11 = .ok (.iload_n 0, 1) := by decide +kernel
theorem dL_levelOf_12 : decode cL_levelOf 12 = .ok (.iconst 2, 1) := by decide +kernel
theorem dL_levelOf_13 : decode cL_levelOf 13 = .ok (.invokestatic 87, 3) := by decide +kernel
theorem dL_levelOf_16 : decode cL_levelOf 16 = .ok (.iadd, 1) := by decide +kernel
theorem dL_levelOf_17 : decode cL_levelOf 17 = .ok (.iload_n 0, 1) := by decide +kernel
theorem dL_levelOf_18 : decode cL_levelOf 18 = .ok (.iconst 3, 1) := by decide +kernel
theorem dL_levelOf_19 : decode cL_levelOf 19 = .ok (.invokestatic 87, 3) := by decide +kernel
theorem dL_levelOf_22 : decode cL_levelOf 22 = .ok (.iadd, 1) := by decide +kernel
theorem dL_levelOf_23 : decode cL_levelOf 23 = .ok (.ireturn, 1) := by decide +kernel
theorem dL_lie_0 : decode cL_lie 0 = .ok (.iconst 0, 1) := by decide +kernel
theorem dL_lie_1 : decode cL_lie 1 = .ok (.istore_n 2, 1) := by decide +kernel
theorem dL_lie_2 : decode cL_lie 2 = .ok (.iconst 0, 1) := by decide +kernel
theorem dL_lie_3 : decode cL_lie 3 = .ok (.istore_n 3, 1) := by decide +kernel
theorem dL_lie_4 : decode cL_lie 4 = .ok (.iconst 0, 1) := by decide +kernel
theorem dL_lie_5 : decode cL_lie 5 = .ok (.istore 4, 2) := by decide +kernel
theorem dL_lie_7 : decode cL_lie 7 = .ok (.iload 4, 2) := by decide +kernel
theorem dL_lie_9 : decode cL_lie 9 = .ok (.iconst 4, 1) := by decide +kernel
theorem dL_lie_10 : decode cL_lie 10 = .ok (.if_icmp .ge 55, 3) := by decide +kernel
theorem dL_lie_13 : decode cL_lie 13 = .ok (.iload_n 2, 1) := by decide +kernel
theorem dL_lie_14 : decode cL_lie 14 = .ok (.iload_n 0, 1) := by decide +kernel
theorem dL_lie_15 : decode cL_lie 15 = .ok (.iload 4, 2) := by decide +kernel
theorem dL_lie_17 : decode cL_lie 17 = .ok (.invokestatic 87, 3) := by decide +kernel
theorem dL_lie_20 : decode cL_lie 20 = .ok (.iload_n 1, 1) := by decide +kernel
theorem dL_lie_21 : decode cL_lie 21 = .ok (.iload 4, 2) := by decide +kernel
theorem dL_lie_23 : decode cL_lie 23 = .ok (.invokestatic 87, 3) := by decide +kernel
theorem dL_lie_26 : decode cL_lie 26 = .ok (.if_icmp .le 7, 3) := by decide +kernel
theorem dL_lie_29 : decode cL_lie 29 = .ok (.iconst 1, 1) := by decide +kernel
theorem dL_lie_30 : decode cL_lie 30 = .ok (.goto 4, 3) := by decide +kernel
theorem dL_lie_33 : decode cL_lie 33 = .ok (.iconst 0, 1) := by decide +kernel
theorem dL_lie_34 : decode cL_lie 34 = .ok (.iadd, 1) := by decide +kernel
theorem dL_lie_35 : decode cL_lie 35 = .ok (.istore_n 2, 1) := by decide +kernel
theorem dL_lie_36 : decode cL_lie 36 = .ok (.iload_n 3, 1) := by decide +kernel
theorem dL_lie_37 : decode cL_lie 37 = .ok (.iload_n 0, 1) := by decide +kernel
theorem dL_lie_38 : decode cL_lie 38 = .ok (.iload 4, 2) := by decide +kernel
theorem dL_lie_40 : decode cL_lie 40 = .ok (.invokestatic 87, 3) := by decide +kernel
theorem dL_lie_43 : decode cL_lie 43 = .ok (.iload_n 1, 1) := by decide +kernel
theorem dL_lie_44 : decode cL_lie 44 = .ok (.iload 4, 2) := by decide +kernel
theorem dL_lie_46 : decode cL_lie 46 = .ok (.invokestatic 87, 3) := by decide +kernel
theorem dL_lie_49 : decode cL_lie 49 = .ok (.if_icmp .ge 7, 3) := by decide +kernel
theorem dL_lie_52 : decode cL_lie 52 = .ok (.iconst 1, 1) := by decide +kernel
theorem dL_lie_53 : decode cL_lie 53 = .ok (.goto 4, 3) := by decide +kernel
theorem dL_lie_56 : decode cL_lie 56 = .ok (.iconst 0, 1) := by decide +kernel
theorem dL_lie_57 : decode cL_lie 57 = .ok (.iadd, 1) := by decide +kernel
theorem dL_lie_58 : decode cL_lie 58 = .ok (.istore_n 3, 1) := by decide +kernel
theorem dL_lie_59 : decode cL_lie 59 = .ok (.iinc 4 1, 3) := by decide +kernel
theorem dL_lie_62 : decode cL_lie 62 = .ok (.goto (-55), 3) := by decide +kernel
theorem dL_lie_65 : decode cL_lie 65 = .ok (.iload_n 2, 1) := by decide +kernel
theorem dL_lie_66 : decode cL_lie 66 = .ok (.iload_n 3, 1) := by decide +kernel
theorem dL_lie_67 : decode cL_lie 67 = .ok (.iadd, 1) := by decide +kernel
theorem dL_lie_68 : decode cL_lie 68 = .ok (.ifCond .ne 7, 3) := by decide +kernel
theorem dL_lie_71 : decode cL_lie 71 = .ok (.iconst 3, 1) := by decide +kernel
theorem dL_lie_72 : decode cL_lie 72 = .ok (.goto 20, 3) := by decide +kernel
theorem dL_lie_75 : decode cL_lie 75 = .ok (.iload_n 2, 1) := by decide +kernel
theorem dL_lie_76 : decode cL_lie 76 = .ok (.ifCond .ne 7, 3) := by decide +kernel
theorem dL_lie_79 : decode cL_lie 79 = .ok (.iconst 4, 1) := by decide +kernel
theorem dL_lie_80 : decode cL_lie 80 = .ok (.goto 12, 3) := by decide +kernel
theorem dL_lie_83 : decode cL_lie 83 = .ok (.iload_n 3, 1) := by decide +kernel
theorem dL_lie_84 : decode cL_lie 84 = .ok (.ifCond .ne 7, 3) := by decide +kernel
theorem dL_lie_87 : decode cL_lie 87 = .ok (.iconst 5, 1) := by decide +kernel
theorem dL_lie_88 : decode cL_lie 88 = .ok (.goto 4, 3) := by decide +kernel
theorem dL_lie_91 : decode cL_lie 91 = .ok (.iconst 0, 1) := by decide +kernel
theorem dL_lie_92 : decode cL_lie 92 = .ok (.ireturn, 1) := by decide +kernel
theorem dL_isSound_0 : decode cL_isSound 0 = .ok (.iconst 0, 1) := by decide +kernel
theorem dL_isSound_1 : decode cL_isSound 1 = .ok (.istore_n 2, 1) := by decide +kernel
theorem dL_isSound_2 : decode cL_isSound 2 = .ok (.iconst 0, 1) := by decide +kernel
theorem dL_isSound_3 : decode cL_isSound 3 = .ok (.istore_n 3, 1) := by decide +kernel
theorem dL_isSound_4 : decode cL_isSound 4 = .ok (.iload_n 3, 1) := by decide +kernel
theorem dL_isSound_5 : decode cL_isSound 5 = .ok (.iconst 3, 1) := by decide +kernel
theorem dL_isSound_6 : decode cL_isSound 6 = .ok (.if_icmp .ge 50, 3) := by decide +kernel
theorem dL_isSound_9 : decode cL_isSound 9 = .ok (.iload_n 0, 1) := by decide +kernel
theorem dL_isSound_10 : decode cL_isSound 10 = .ok (.iload_n 3, 1) := by decide +kernel
theorem dL_isSound_11 : decode cL_isSound 11 = .ok (.invokestatic 87, 3) := by decide +kernel
theorem dL_isSound_14 : decode cL_isSound 14 = .ok (.iload_n 0, 1) := by decide +kernel
theorem dL_isSound_15 : decode cL_isSound 15 = .ok (.iload_n 3, 1) := by decide +kernel
theorem dL_isSound_16 : decode cL_isSound 16 = .ok (.iconst 1, 1) := by decide +kernel
theorem dL_isSound_17 : decode cL_isSound 17 = .ok (.iadd, 1) := by decide +kernel
theorem dL_isSound_18 : decode cL_isSound 18 = .ok (.invokestatic 87, 3) := by decide +kernel
theorem dL_isSound_21 : decode cL_isSound 21 = .ok (.isub, 1) := by decide +kernel
theorem dL_isSound_22 : decode cL_isSound 22 = .ok (.istore 4, 2) := by decide +kernel
theorem dL_isSound_24 : decode cL_isSound 24 = .ok (.iload 4, 2) := by decide +kernel
theorem dL_isSound_26 : decode cL_isSound 26 = .ok (.iload_n 2, 1) := by decide +kernel
theorem dL_isSound_27 : decode cL_isSound 27 = .ok (.if_icmp .le 8, 3) := by decide +kernel
theorem dL_isSound_30 : decode cL_isSound 30 = .ok (.iload 4, 2) := by decide +kernel
theorem dL_isSound_32 : decode cL_isSound 32 = .ok (.goto 17, 3) := by decide +kernel
theorem dL_isSound_35 : decode cL_isSound 35 = .ok (.iload 4, 2) := by decide +kernel
theorem dL_isSound_37 : decode cL_isSound 37 = .ok (.ineg, 1) := by decide +kernel
theorem dL_isSound_38 : decode cL_isSound 38 = .ok (.iload_n 2, 1) := by decide +kernel
theorem dL_isSound_39 : decode cL_isSound 39 = .ok (.if_icmp .le 9, 3) := by decide +kernel
theorem dL_isSound_42 : decode cL_isSound 42 = .ok (.iload 4, 2) := by decide +kernel
theorem dL_isSound_44 : decode cL_isSound 44 = .ok (.ineg, 1) := by decide +kernel
theorem dL_isSound_45 : decode cL_isSound 45 = .ok (.goto 4, 3) := by decide +kernel
theorem dL_isSound_48 : decode cL_isSound 48 = .ok (.iload_n 2, 1) := by decide +kernel
theorem dL_isSound_49 : decode cL_isSound 49 = .ok (.istore_n 2, 1) := by decide +kernel
theorem dL_isSound_50 : decode cL_isSound 50 = .ok (.iinc 3 1, 3) := by decide +kernel
theorem dL_isSound_53 : decode cL_isSound 53 = .ok (.goto (-49), 3) := by decide +kernel
theorem dL_isSound_56 : decode cL_isSound 56 = .ok (.iload_n 2, 1) := by decide +kernel
theorem dL_isSound_57 : decode cL_isSound 57 = .ok (.aload_n 1, 1) := by decide +kernel
theorem dL_isSound_58 : decode cL_isSound 58 = .ok (.bipush 6, 2) := by decide +kernel
theorem dL_isSound_60 : decode cL_isSound 60 = .ok (.iaload, 1) := by decide +kernel
theorem dL_isSound_61 : decode cL_isSound 61 = .ok (.if_icmp .gt 7, 3) := by decide +kernel
theorem dL_isSound_64 : decode cL_isSound 64 = .ok (.iconst 1, 1) := by decide +kernel
theorem dL_isSound_65 : decode cL_isSound 65 = .ok (.goto 4, 3) := by decide +kernel
theorem dL_isSound_68 : decode cL_isSound 68 = .ok (.iconst 0, 1) := by decide +kernel
theorem dL_isSound_69 : decode cL_isSound 69 = .ok (.ireturn, 1) := by decide +kernel
theorem dL_clash_0 : decode cL_clash 0 = .ok (.bipush 9, 2) := by decide +kernel
theorem dL_clash_2 : decode cL_clash 2 = .ok (.istore 4, 2) := by decide +kernel
theorem dL_clash_4 : decode cL_clash 4 = .ok (.iconst 0, 1) := by decide +kernel
theorem dL_clash_5 : decode cL_clash 5 = .ok (.istore 5, 2) := by decide +kernel
theorem dL_clash_7 : decode cL_clash 7 = .ok (.iload 5, 2) := by decide +kernel
theorem dL_clash_9 : decode cL_clash 9 = .ok (.aload_n 2, 1) := by decide +kernel
theorem dL_clash_10 : decode cL_clash 10 = .ok (.iconst 0, 1) := by decide +kernel
theorem dL_clash_11 : decode cL_clash 11 = .ok (.iaload, 1) := by decide +kernel
theorem dL_clash_12 : decode cL_clash 12 = .ok (.if_icmp .ge 73, 3) := by decide +kernel
theorem dL_clash_15 : decode cL_clash 15 = .ok (.iload 5, 2) := by decide +kernel
theorem dL_clash_17 : decode cL_clash 17 = .ok (.iload_n 1, 1) := by decide +kernel
theorem dL_clash_18 : decode cL_clash 18 = .ok (.if_icmp .eq 23, 3) := by decide +kernel
theorem dL_clash_21 : decode cL_clash 21 = .ok (.aload_n 3, 1) := by decide +kernel
theorem dL_clash_22 : decode cL_clash 22 = .ok (.bipush 6, 2) := by decide +kernel
theorem dL_clash_24 : decode cL_clash 24 = .ok (.iload 5, 2) := by decide +kernel
theorem dL_clash_26 : decode cL_clash 26 = .ok (.imul, 1) := by decide +kernel
theorem dL_clash_27 : decode cL_clash 27 = .ok (.iconst 2, 1) := by decide +kernel
theorem dL_clash_28 : decode cL_clash 28 = .ok (.iadd, 1) := by decide +kernel
theorem dL_clash_29 : decode cL_clash 29 = .ok (.iaload, 1) := by decide +kernel
theorem dL_clash_30 : decode cL_clash 30 = .ok (.iconst 1, 1) := by decide +kernel
theorem dL_clash_31 : decode cL_clash 31 = .ok (.if_icmp .ne 14, 3) := by decide +kernel
theorem dL_clash_34 : decode cL_clash 34 = .ok (.aload_n 2, 1) := by decide +kernel
theorem dL_clash_35 : decode cL_clash 35 = .ok (.bipush 9, 2) := by decide +kernel
theorem dL_clash_37 : decode cL_clash 37 = .ok (.iaload, 1) := by decide +kernel
theorem dL_clash_38 : decode cL_clash 38 = .ok (.ifCond .ne 7, 3) := by decide +kernel
theorem dL_clash_41 : decode cL_clash 41 = .ok (.iconst 0, 1) := by decide +kernel
theorem dL_clash_42 : decode cL_clash 42 = .ok (.goto 14, 3) := by decide +kernel
theorem dL_clash_45 : decode cL_clash 45 = .ok (.iload_n 0, 1) := by decide +kernel
theorem dL_clash_46 : decode cL_clash 46 = .ok (.aload_n 3, 1) := by decide +kernel
theorem dL_clash_47 : decode cL_clash 47 = .ok (.bipush 6, 2) := by decide +kernel
theorem dL_clash_49 : decode cL_clash 49 = .ok (.iload 5, 2) := by decide +kernel
theorem dL_clash_51 : decode cL_clash 51 = .ok (.imul, 1) := by decide +kernel
theorem dL_clash_52 : decode cL_clash 52 = .ok (.iaload, 1) := by decide +kernel
theorem dL_clash_53 : decode cL_clash 53 = .ok (.invokestatic 92, 3) := by decide +kernel
theorem dL_clash_56 : decode cL_clash 56 = .ok (.istore 6, 2) := by decide +kernel
theorem dL_clash_58 : decode cL_clash 58 = .ok (.iload 6, 2) := by decide +kernel
theorem dL_clash_60 : decode cL_clash 60 = .ok (.ifCond .le 15, 3) := by decide +kernel
theorem dL_clash_63 : decode cL_clash 63 = .ok (.iload 6, 2) := by decide +kernel
theorem dL_clash_65 : decode cL_clash 65 = .ok (.iload 4, 2) := by decide +kernel
theorem dL_clash_67 : decode cL_clash 67 = .ok (.if_icmp .ge 8, 3) := by decide +kernel
theorem dL_clash_70 : decode cL_clash 70 = .ok (.iload 6, 2) := by decide +kernel
theorem dL_clash_72 : decode cL_clash 72 = .ok (.goto 5, 3) := by decide +kernel
theorem dL_clash_75 : decode cL_clash 75 = .ok (.iload 4, 2) := by decide +kernel
theorem dL_clash_77 : decode cL_clash 77 = .ok (.istore 4, 2) := by decide +kernel
theorem dL_clash_79 : decode cL_clash 79 = .ok (.iinc 5 1, 3) := by decide +kernel
theorem dL_clash_82 : decode cL_clash 82 = .ok (.goto (-75), 3) := by decide +kernel
theorem dL_clash_85 : decode cL_clash 85 = .ok (.iload 4, 2) := by decide +kernel
theorem dL_clash_87 : decode cL_clash 87 = .ok (.bipush 9, 2) := by decide +kernel
theorem dL_clash_89 : decode cL_clash 89 = .ok (.if_icmp .ne 7, 3) := by decide +kernel
theorem dL_clash_92 : decode cL_clash 92 = .ok (.iconst 0, 1) := by decide +kernel
theorem dL_clash_93 : decode cL_clash 93 = .ok (.goto 5, 3) := by decide +kernel
theorem dL_clash_96 : decode cL_clash 96 = .ok (.iload 4, 2) := by decide +kernel
theorem dL_clash_98 : decode cL_clash 98 = .ok (.ireturn, 1) := by decide +kernel
theorem dL_whyNotCut_0 : decode cL_whyNotCut 0 = .ok (.iload_n 0, 1) := by decide +kernel
theorem dL_whyNotCut_1 : decode cL_whyNotCut 1 = .ok (.aload_n 1, 1) := by decide +kernel
theorem dL_whyNotCut_2 : decode cL_whyNotCut 2 = .ok (.invokestatic 95, 3) := by decide +kernel
theorem dL_whyNotCut_5 : decode cL_whyNotCut 5 = .ok (.ifCond .ne 7, 3) := by decide +kernel
theorem dL_whyNotCut_8 : decode cL_whyNotCut 8 = .ok (.iconst 1, 1) := by decide +kernel
theorem dL_whyNotCut_9 : decode cL_whyNotCut 9 = .ok (.goto 22, 3) := by decide +kernel
theorem dL_whyNotCut_12 : decode cL_whyNotCut 12 = .ok (.aload_n 1, 1) := by decide +kernel
theorem dL_whyNotCut_13 : decode cL_whyNotCut 13 = .ok (.iconst 0, 1) := by decide +kernel
theorem dL_whyNotCut_14 : decode cL_whyNotCut 14 = .ok (.iaload, 1) := by decide +kernel
theorem dL_whyNotCut_15 : decode cL_whyNotCut 15 = .ok (.bipush 12, 2) := by decide +kernel
theorem dL_whyNotCut_17 : decode cL_whyNotCut 17 = .ok (.if_icmp .ne 7, 3) := by decide +kernel
theorem dL_whyNotCut_20 : decode cL_whyNotCut 20 = .ok (.iconst 2, 1) := by decide +kernel
theorem dL_whyNotCut_21 : decode cL_whyNotCut 21 = .ok (.goto 10, 3) := by decide +kernel
theorem dL_whyNotCut_24 : decode cL_whyNotCut 24 = .ok (.iload_n 0, 1) := by decide +kernel
theorem dL_whyNotCut_25 : decode cL_whyNotCut 25 = .ok (.iconst (-1), 1) := by decide +kernel
theorem dL_whyNotCut_26 : decode cL_whyNotCut 26 = .ok (.aload_n 1, 1) := by decide +kernel
theorem dL_whyNotCut_27 : decode cL_whyNotCut 27 = .ok (.aload_n 2, 1) := by decide +kernel
theorem dL_whyNotCut_28 : decode cL_whyNotCut 28 = .ok (.invokestatic 99, 3) := by decide +kernel
theorem dL_whyNotCut_31 : decode cL_whyNotCut 31 = .ok (.ireturn, 1) := by decide +kernel
theorem dL_whyNotDeeper_0 : decode cL_whyNotDeeper 0 = .ok (.aload_n 3, 1) := by decide +kernel
theorem dL_whyNotDeeper_1 : decode cL_whyNotDeeper 1 = .ok (.bipush 6, 2) := by decide +kernel
theorem dL_whyNotDeeper_3 : decode cL_whyNotDeeper 3 = .ok (.iload_n 0, 1) := by decide +kernel
theorem dL_whyNotDeeper_4 : decode cL_whyNotDeeper 4 = .ok (.imul, 1) := by decide +kernel
theorem dL_whyNotDeeper_5 : decode cL_whyNotDeeper 5 = .ok (.iaload, 1) := by decide +kernel
theorem dL_whyNotDeeper_6 : decode cL_whyNotDeeper 6 = .ok (.istore 4, 2) := by decide +kernel
theorem dL_whyNotDeeper_8 : decode cL_whyNotDeeper 8 = .ok (.iload 4, 2) := by decide +kernel
theorem dL_whyNotDeeper_10 : decode cL_whyNotDeeper 10 = .ok (.iload_n 1, 1) := by decide +kernel
theorem dL_whyNotDeeper_11 : decode cL_whyNotDeeper 11 = .ok (.invokestatic 87, 3) := by decide +kernel
theorem dL_whyNotDeeper_14 : decode cL_whyNotDeeper 14 = .ok (.iconst 2, 1) := by decide +kernel
theorem dL_whyNotDeeper_15 : decode cL_whyNotDeeper 15 = .ok (.if_icmp .ne 8, 3) := by decide +kernel
theorem dL_whyNotDeeper_18 : decode cL_whyNotDeeper 18 = .ok (.bipush 6, 2) := by decide +kernel
theorem dL_whyNotDeeper_20 : decode cL_whyNotDeeper 20 = .ok (.goto 34, 3) := by decide +kernel
theorem dL_whyNotDeeper_23 : decode cL_whyNotDeeper 23 = .ok (.iload 4, 2) := by decide +kernel
theorem dL_whyNotDeeper_25 : decode cL_whyNotDeeper 25 = .ok (.iload_n 1, 1) := by decide +kernel
theorem dL_whyNotDeeper_26 : decode cL_whyNotDeeper 26 = .ok (.invokestatic 103, 3) := by decide +kernel
theorem dL_whyNotDeeper_29 : decode cL_whyNotDeeper 29 = .ok (.iadd, 1) := by decide +kernel
theorem dL_whyNotDeeper_30 : decode cL_whyNotDeeper 30 = .ok (.aload_n 2, 1) := by decide +kernel
theorem dL_whyNotDeeper_31 : decode cL_whyNotDeeper 31 = .ok (.invokestatic 95, 3) := by decide +kernel
theorem dL_whyNotDeeper_34 : decode cL_whyNotDeeper 34 = .ok (.ifCond .ne 7, 3) := by decide +kernel
theorem dL_whyNotDeeper_37 : decode cL_whyNotDeeper 37 = .ok (.iconst 1, 1) := by decide +kernel
theorem dL_whyNotDeeper_38 : decode cL_whyNotDeeper 38 = .ok (.goto 16, 3) := by decide +kernel
theorem dL_whyNotDeeper_41 : decode cL_whyNotDeeper 41 = .ok (.iload 4, 2) := by decide +kernel
theorem dL_whyNotDeeper_43 : decode cL_whyNotDeeper 43 = .ok (.iload_n 1, 1) := by decide +kernel
theorem dL_whyNotDeeper_44 : decode cL_whyNotDeeper 44 = .ok (.invokestatic 103, 3) := by decide +kernel
theorem dL_whyNotDeeper_47 : decode cL_whyNotDeeper 47 = .ok (.iadd, 1) := by decide +kernel
theorem dL_whyNotDeeper_48 : decode cL_whyNotDeeper 48 = .ok (.iload_n 0, 1) := by decide +kernel
theorem dL_whyNotDeeper_49 : decode cL_whyNotDeeper 49 = .ok (.aload_n 2, 1) := by decide +kernel
theorem dL_whyNotDeeper_50 : decode cL_whyNotDeeper 50 = .ok (.aload_n 3, 1) := by decide +kernel
theorem dL_whyNotDeeper_51 : decode cL_whyNotDeeper 51 = .ok (.invokestatic 99, 3) := by decide +kernel
theorem dL_whyNotDeeper_54 : decode cL_whyNotDeeper 54 = .ok (.ireturn, 1) := by decide +kernel
theorem dL_opens_0 : decode cL_opens 0 = .ok (.aload_n 2, 1) := by decide +kernel
theorem dL_opens_1 : decode cL_opens 1 = .ok (.iconst 4, 1) := by decide +kernel
theorem dL_opens_2 : decode cL_opens 2 = .ok (.iload_n 1, 1) := by decide +kernel
theorem dL_opens_3 : decode cL_opens 3 = .ok (.imul, 1) := by decide +kernel
theorem dL_opens_4 : decode cL_opens 4 = .ok (.iaload, 1) := by decide +kernel
theorem dL_opens_5 : decode cL_opens 5 = .ok (.ifCond .ge 7, 3) := by decide +kernel
theorem dL_opens_8 : decode cL_opens 8 = .ok (.iconst 0, 1) := by decide +kernel
theorem dL_opens_9 : decode cL_opens 9 = .ok (.goto 12, 3) := by decide +kernel
theorem dL_opens_12 : decode cL_opens 12 = .ok (.iload_n 0, 1) := by decide +kernel
theorem dL_opens_13 : decode cL_opens 13 = .ok (.aload_n 2, 1) := by decide +kernel
theorem dL_opens_14 : decode cL_opens 14 = .ok (.iconst 4, 1) := by decide +kernel
theorem dL_opens_15 : decode cL_opens 15 = .ok (.iload_n 1, 1) := by decide +kernel
theorem dL_opens_16 : decode cL_opens 16 = .ok (.imul, 1) := by decide +kernel
theorem dL_opens_17 : decode cL_opens 17 = .ok (.iaload, 1) := by decide +kernel
theorem dL_opens_18 : decode cL_opens 18 = .ok (.invokestatic 92, 3) := by decide +kernel
theorem dL_opens_21 : decode cL_opens 21 = .ok (.istore_n 3, 1) := by decide +kernel
theorem dL_opens_22 : decode cL_opens 22 = .ok (.aload_n 2, 1) := by decide +kernel
theorem dL_opens_23 : decode cL_opens 23 = .ok (.iconst 4, 1) := by decide +kernel
theorem dL_opens_24 : decode cL_opens 24 = .ok (.iload_n 1, 1) := by decide +kernel
theorem dL_opens_25 : decode cL_opens 25 = .ok (.imul, 1) := by decide +kernel
theorem dL_opens_26 : decode cL_opens 26 = .ok (.iconst 1, 1) := by decide +kernel
theorem dL_opens_27 : decode cL_opens 27 = .ok (.iadd, 1) := by decide +kernel
theorem dL_opens_28 : decode cL_opens 28 = .ok (.iaload, 1) := by decide +kernel
theorem dL_opens_29 : decode cL_opens 29 = .ok (.ifCond .ge 7, 3) := by decide +kernel
theorem dL_opens_32 : decode cL_opens 32 = .ok (.iconst 0, 1) := by decide +kernel
theorem dL_opens_33 : decode cL_opens 33 = .ok (.goto 14, 3) := by decide +kernel
theorem dL_opens_36 : decode cL_opens 36 = .ok (.iload_n 0, 1) := by decide +kernel
theorem dL_opens_37 : decode cL_opens 37 = .ok (.aload_n 2, 1) := by decide +kernel
theorem dL_opens_38 : decode cL_opens 38 = .ok (.iconst 4, 1) := by decide +kernel
theorem dL_opens_39 : decode cL_opens 39 = .ok (.iload_n 1, 1) := by decide +kernel
theorem dL_opens_40 : decode cL_opens 40 = .ok (.imul, 1) := by decide +kernel
theorem dL_opens_41 : decode cL_opens 41 = .ok (.iconst 1, 1) := by decide +kernel
theorem dL_opens_42 : decode cL_opens 42 = .ok (.iadd, 1) := by decide +kernel
theorem dL_opens_43 : decode cL_opens 43 = .ok (.iaload, 1) := by decide +kernel
theorem dL_opens_44 : decode cL_opens 44 = .ok (.invokestatic 92, 3) := by decide +kernel
theorem dL_opens_47 : decode cL_opens 47 = .ok (.istore 4, 2) := by decide +kernel
theorem dL_opens_49 : decode cL_opens 49 = .ok (.iload_n 3, 1) := by decide +kernel
theorem dL_opens_50 : decode cL_opens 50 = .ok (.iconst 3, 1) := by decide +kernel
theorem dL_opens_51 : decode cL_opens 51 = .ok (.if_icmp .eq 20, 3) := by decide +kernel
theorem dL_opens_54 : decode cL_opens 54 = .ok (.iload_n 3, 1) := by decide +kernel
theorem dL_opens_55 : decode cL_opens 55 = .ok (.iconst 5, 1) := by decide +kernel
theorem dL_opens_56 : decode cL_opens 56 = .ok (.if_icmp .eq 15, 3) := by decide +kernel
theorem dL_opens_59 : decode cL_opens 59 = .ok (.iload 4, 2) := by decide +kernel
theorem dL_opens_61 : decode cL_opens 61 = .ok (.iconst 3, 1) := by decide +kernel
theorem dL_opens_62 : decode cL_opens 62 = .ok (.if_icmp .eq 9, 3) := by decide +kernel
theorem dL_opens_65 : decode cL_opens 65 = .ok (.iload 4, 2) := by decide +kernel
theorem dL_opens_67 : decode cL_opens 67 = .ok (.iconst 5, 1) := by decide +kernel
theorem dL_opens_68 : decode cL_opens 68 = .ok (.if_icmp .ne 7, 3) := by decide +kernel
theorem dL_opens_71 : decode cL_opens 71 = .ok (.iconst 1, 1) := by decide +kernel
theorem dL_opens_72 : decode cL_opens 72 = .ok (.goto 4, 3) := by decide +kernel
theorem dL_opens_75 : decode cL_opens 75 = .ok (.iconst 0, 1) := by decide +kernel
theorem dL_opens_76 : decode cL_opens 76 = .ok (.ireturn, 1) := by decide +kernel
theorem dL_locksOf_0 : decode cL_locksOf 0 = .ok (.iconst 0, 1) := by decide +kernel
theorem dL_locksOf_1 : decode cL_locksOf 1 = .ok (.istore_n 2, 1) := by decide +kernel
theorem dL_locksOf_2 : decode cL_locksOf 2 = .ok (.iconst 0, 1) := by decide +kernel
theorem dL_locksOf_3 : decode cL_locksOf 3 = .ok (.istore_n 3, 1) := by decide +kernel
theorem dL_locksOf_4 : decode cL_locksOf 4 = .ok (.iload_n 3, 1) := by decide +kernel
theorem dL_locksOf_5 : decode cL_locksOf 5 = .ok (.bipush 6, 2) := by decide +kernel
theorem dL_locksOf_7 : decode cL_locksOf 7 = .ok (.if_icmp .ge 28, 3) := by decide +kernel
theorem dL_locksOf_10 : decode cL_locksOf 10 = .ok (.iload_n 2, 1) := by decide +kernel
theorem dL_locksOf_11 : decode cL_locksOf 11 = .ok (.iload_n 0, 1) := by decide +kernel
theorem dL_locksOf_12 : decode cL_locksOf 12 = .ok (.iload_n 3, 1) := by decide +kernel
theorem dL_locksOf_13 : decode cL_locksOf 13 = .ok (.aload_n 1, 1) := by decide +kernel
theorem dL_locksOf_14 : decode cL_locksOf 14 = .ok (.invokestatic 106, 3) := by decide +kernel
theorem dL_locksOf_17 : decode cL_locksOf 17 = .ok (.ifCond .eq 9, 3) := by decide +kernel
theorem dL_locksOf_20 : decode cL_locksOf 20 = .ok (.iconst 1, 1) := by decide +kernel
theorem dL_locksOf_21 : decode cL_locksOf 21 = .ok (.iload_n 3, 1) := by decide +kernel
theorem dL_locksOf_22 : decode cL_locksOf 22 = .ok (.ishl, 1) := by decide +kernel
theorem dL_locksOf_23 : decode cL_locksOf 23 = .ok (.goto 4, 3) := by decide +kernel
theorem dL_locksOf_26 : decode cL_locksOf 26 = .ok (.iconst 0, 1) := by decide +kernel
theorem dL_locksOf_27 : decode cL_locksOf 27 = .ok (.ior, 1) := by decide +kernel
theorem dL_locksOf_28 : decode cL_locksOf 28 = .ok (.istore_n 2, 1) := by decide +kernel
theorem dL_locksOf_29 : decode cL_locksOf 29 = .ok (.iinc 3 1, 3) := by decide +kernel
theorem dL_locksOf_32 : decode cL_locksOf 32 = .ok (.goto (-28), 3) := by decide +kernel
theorem dL_locksOf_35 : decode cL_locksOf 35 = .ok (.iload_n 2, 1) := by decide +kernel
theorem dL_locksOf_36 : decode cL_locksOf 36 = .ok (.ireturn, 1) := by decide +kernel
theorem dL_ones_0 : decode cL_ones 0 = .ok (.iconst 0, 1) := by decide +kernel
theorem dL_ones_1 : decode cL_ones 1 = .ok (.istore_n 1, 1) := by decide +kernel
theorem dL_ones_2 : decode cL_ones 2 = .ok (.iload_n 0, 1) := by decide +kernel
theorem dL_ones_3 : decode cL_ones 3 = .ok (.istore_n 2, 1) := by decide +kernel
theorem dL_ones_4 : decode cL_ones 4 = .ok (.iload_n 2, 1) := by decide +kernel
theorem dL_ones_5 : decode cL_ones 5 = .ok (.ifCond .eq 15, 3) := by decide +kernel
theorem dL_ones_8 : decode cL_ones 8 = .ok (.iinc 1 1, 3) := by decide +kernel
theorem dL_ones_11 : decode cL_ones 11 = .ok (.iload_n 2, 1) := by decide +kernel
theorem dL_ones_12 : decode cL_ones 12 = .ok (.iload_n 2, 1) := by decide +kernel
theorem dL_ones_13 : decode cL_ones 13 = .ok (.iconst 1, 1) := by decide +kernel
theorem dL_ones_14 : decode cL_ones 14 = .ok (.isub, 1) := by decide +kernel
theorem dL_ones_15 : decode cL_ones 15 = .ok (.iand, 1) := by decide +kernel
theorem dL_ones_16 : decode cL_ones 16 = .ok (.istore_n 2, 1) := by decide +kernel
theorem dL_ones_17 : decode cL_ones 17 = .ok (.goto (-13), 3) := by decide +kernel
theorem dL_ones_20 : decode cL_ones 20 = .ok (.iload_n 1, 1) := by decide +kernel
theorem dL_ones_21 : decode cL_ones 21 = .ok (.ireturn, 1) := by decide +kernel
theorem dL_told_0 : decode cL_told 0 = .ok (.ldc2_w 110, 3) := by decide +kernel
theorem dL_told_3 : decode cL_told 3 = .ok (.lstore_n 1, 1) := by decide +kernel
theorem dL_told_4 : decode cL_told 4 = .ok (.iconst 0, 1) := by decide +kernel
theorem dL_told_5 : decode cL_told 5 = .ok (.istore_n 3, 1) := by decide +kernel
theorem dL_told_6 : decode cL_told 6 = .ok (.iload_n 3, 1) := by decide +kernel
theorem dL_told_7 : decode cL_told 7 = .ok (.bipush 9, 2) := by decide +kernel
theorem dL_told_9 : decode cL_told 9 = .ok (.if_icmp .ge 22, 3) := by decide +kernel
theorem dL_told_12 : decode cL_told 12 = .ok (.ldc2_w 112, 3) := by decide +kernel
theorem dL_told_15 : decode cL_told 15 = .ok (.lload_n 1, 1) := by decide +kernel
theorem dL_told_16 : decode cL_told 16 = .ok (.lmul, 1) := by decide +kernel
theorem dL_told_17 : decode cL_told 17 = .ok (.aload_n 0, 1) := by decide +kernel
theorem dL_told_18 : decode cL_told 18 = .ok (.iload_n 3, 1) := by decide +kernel
theorem dL_told_19 : decode cL_told 19 = .ok (.invokestatic 114, 3) := by decide +kernel
theorem dL_told_22 : decode cL_told 22 = .ok (.i2l, 1) := by decide +kernel
theorem dL_told_23 : decode cL_told 23 = .ok (.ladd, 1) := by decide +kernel
theorem dL_told_24 : decode cL_told 24 = .ok (.lstore_n 1, 1) := by decide +kernel
theorem dL_told_25 : decode cL_told 25 = .ok (.iinc 3 1, 3) := by decide +kernel
theorem dL_told_28 : decode cL_told 28 = .ok (.goto (-22), 3) := by decide +kernel
theorem dL_told_31 : decode cL_told 31 = .ok (.iconst 0, 1) := by decide +kernel
theorem dL_told_32 : decode cL_told 32 = .ok (.istore_n 3, 1) := by decide +kernel
theorem dL_told_33 : decode cL_told 33 = .ok (.iload_n 3, 1) := by decide +kernel
theorem dL_told_34 : decode cL_told 34 = .ok (.bipush 12, 2) := by decide +kernel
theorem dL_told_36 : decode cL_told 36 = .ok (.if_icmp .ge 88, 3) := by decide +kernel
theorem dL_told_39 : decode cL_told 39 = .ok (.ldc2_w 112, 3) := by decide +kernel
theorem dL_told_42 : decode cL_told 42 = .ok (.lload_n 1, 1) := by decide +kernel
theorem dL_told_43 : decode cL_told 43 = .ok (.lmul, 1) := by decide +kernel
theorem dL_told_44 : decode cL_told 44 = .ok (.aload_n 0, 1) := by decide +kernel
theorem dL_told_45 : decode cL_told 45 = .ok (.iload_n 3, 1) := by decide +kernel
theorem dL_told_46 : decode cL_told 46 = .ok (.iconst 0, 1) := by decide +kernel
theorem dL_told_47 : decode cL_told 47 = .ok (.invokestatic 117, 3) := by decide +kernel
theorem dL_told_50 : decode cL_told 50 = .ok (.i2l, 1) := by decide +kernel
theorem dL_told_51 : decode cL_told 51 = .ok (.ladd, 1) := by decide +kernel
theorem dL_told_52 : decode cL_told 52 = .ok (.lstore_n 1, 1) := by decide +kernel
theorem dL_told_53 : decode cL_told 53 = .ok (.ldc2_w 112, 3) := by decide +kernel
theorem dL_told_56 : decode cL_told 56 = .ok (.lload_n 1, 1) := by decide +kernel
theorem dL_told_57 : decode cL_told 57 = .ok (.lmul, 1) := by decide +kernel
theorem dL_told_58 : decode cL_told 58 = .ok (.ldc2_w 120, 3) := by decide +kernel
theorem dL_told_61 : decode cL_told 61 = .ok (.aload_n 0, 1) := by decide +kernel
theorem dL_told_62 : decode cL_told 62 = .ok (.iload_n 3, 1) := by decide +kernel
theorem dL_told_63 : decode cL_told 63 = .ok (.iconst 2, 1) := by decide +kernel
theorem dL_told_64 : decode cL_told 64 = .ok (.invokestatic 117, 3) := by decide +kernel
theorem dL_told_67 : decode cL_told 67 = .ok (.i2l, 1) := by decide +kernel
theorem dL_told_68 : decode cL_told 68 = .ok (.lmul, 1) := by decide +kernel
theorem dL_told_69 : decode cL_told 69 = .ok (.ladd, 1) := by decide +kernel
theorem dL_told_70 : decode cL_told 70 = .ok (.ldc2_w 122, 3) := by decide +kernel
theorem dL_told_73 : decode cL_told 73 = .ok (.aload_n 0, 1) := by decide +kernel
theorem dL_told_74 : decode cL_told 74 = .ok (.iload_n 3, 1) := by decide +kernel
theorem dL_told_75 : decode cL_told 75 = .ok (.iconst 4, 1) := by decide +kernel
theorem dL_told_76 : decode cL_told 76 = .ok (.invokestatic 117, 3) := by decide +kernel
theorem dL_told_79 : decode cL_told 79 = .ok (.i2l, 1) := by decide +kernel
theorem dL_told_80 : decode cL_told 80 = .ok (.lmul, 1) := by decide +kernel
theorem dL_told_81 : decode cL_told 81 = .ok (.ladd, 1) := by decide +kernel
theorem dL_told_82 : decode cL_told 82 = .ok (.aload_n 0, 1) := by decide +kernel
theorem dL_told_83 : decode cL_told 83 = .ok (.iload_n 3, 1) := by decide +kernel
theorem dL_told_84 : decode cL_told 84 = .ok (.iconst 5, 1) := by decide +kernel
theorem dL_told_85 : decode cL_told 85 = .ok (.invokestatic 117, 3) := by decide +kernel
theorem dL_told_88 : decode cL_told 88 = .ok (.i2l, 1) := by decide +kernel
theorem dL_told_89 : decode cL_told 89 = .ok (.ladd, 1) := by decide +kernel
theorem dL_told_90 : decode cL_told 90 = .ok (.lstore_n 1, 1) := by decide +kernel
theorem dL_told_91 : decode cL_told 91 = .ok (.ldc2_w 112, 3) := by decide +kernel
theorem dL_told_94 : decode cL_told 94 = .ok (.lload_n 1, 1) := by decide +kernel
theorem dL_told_95 : decode cL_told 95 = .ok (.lmul, 1) := by decide +kernel
theorem dL_told_96 : decode cL_told 96 = .ok (.ldc2_w 122, 3) := by decide +kernel
theorem dL_told_99 : decode cL_told 99 = .ok (.aload_n 0, 1) := by decide +kernel
theorem dL_told_100 : decode cL_told 100 = .ok (.iload_n 3, 1) := by decide +kernel
theorem dL_told_101 : decode cL_told 101 = .ok (.iconst 3, 1) := by decide +kernel
theorem dL_told_102 : decode cL_told 102 = .ok (.invokestatic 117, 3) := by decide +kernel
theorem dL_told_105 : decode cL_told 105 = .ok (.i2l, 1) := by decide +kernel
theorem dL_told_106 : decode cL_told 106 = .ok (.lmul, 1) := by decide +kernel
theorem dL_told_107 : decode cL_told 107 = .ok (.ladd, 1) := by decide +kernel
theorem dL_told_108 : decode cL_told 108 = .ok (.aload_n 0, 1) := by decide +kernel
theorem dL_told_109 : decode cL_told 109 = .ok (.iload_n 3, 1) := by decide +kernel
theorem dL_told_110 : decode cL_told 110 = .ok (.bipush 9, 2) := by decide +kernel
theorem dL_told_112 : decode cL_told 112 = .ok (.invokestatic 117, 3) := by decide +kernel
theorem dL_told_115 : decode cL_told 115 = .ok (.i2l, 1) := by decide +kernel
theorem dL_told_116 : decode cL_told 116 = .ok (.ladd, 1) := by decide +kernel
theorem dL_told_117 : decode cL_told 117 = .ok (.lstore_n 1, 1) := by decide +kernel
theorem dL_told_118 : decode cL_told 118 = .ok (.iinc 3 1, 3) := by decide +kernel
theorem dL_told_121 : decode cL_told 121 = .ok (.goto (-88), 3) := by decide +kernel
theorem dL_told_124 : decode cL_told 124 = .ok (.iconst 0, 1) := by decide +kernel
theorem dL_told_125 : decode cL_told 125 = .ok (.istore_n 3, 1) := by decide +kernel
theorem dL_told_126 : decode cL_told 126 = .ok (.iload_n 3, 1) := by decide +kernel
theorem dL_told_127 : decode cL_told 127 = .ok (.bipush 6, 2) := by decide +kernel
theorem dL_told_129 : decode cL_told 129 = .ok (.if_icmp .ge 61, 3) := by decide +kernel
theorem dL_told_132 : decode cL_told 132 = .ok (.ldc2_w 112, 3) := by decide +kernel
theorem dL_told_135 : decode cL_told 135 = .ok (.lload_n 1, 1) := by decide +kernel
theorem dL_told_136 : decode cL_told 136 = .ok (.lmul, 1) := by decide +kernel
theorem dL_told_137 : decode cL_told 137 = .ok (.ldc2_w 120, 3) := by decide +kernel
theorem dL_told_140 : decode cL_told 140 = .ok (.aload_n 0, 1) := by decide +kernel
theorem dL_told_141 : decode cL_told 141 = .ok (.iload_n 3, 1) := by decide +kernel
theorem dL_told_142 : decode cL_told 142 = .ok (.iconst 0, 1) := by decide +kernel
theorem dL_told_143 : decode cL_told 143 = .ok (.invokestatic 124, 3) := by decide +kernel
theorem dL_told_146 : decode cL_told 146 = .ok (.i2l, 1) := by decide +kernel
theorem dL_told_147 : decode cL_told 147 = .ok (.lmul, 1) := by decide +kernel
theorem dL_told_148 : decode cL_told 148 = .ok (.ladd, 1) := by decide +kernel
theorem dL_told_149 : decode cL_told 149 = .ok (.aload_n 0, 1) := by decide +kernel
theorem dL_told_150 : decode cL_told 150 = .ok (.iload_n 3, 1) := by decide +kernel
theorem dL_told_151 : decode cL_told 151 = .ok (.iconst 1, 1) := by decide +kernel
theorem dL_told_152 : decode cL_told 152 = .ok (.invokestatic 124, 3) := by decide +kernel
theorem dL_told_155 : decode cL_told 155 = .ok (.i2l, 1) := by decide +kernel
theorem dL_told_156 : decode cL_told 156 = .ok (.ladd, 1) := by decide +kernel
theorem dL_told_157 : decode cL_told 157 = .ok (.lstore_n 1, 1) := by decide +kernel
theorem dL_told_158 : decode cL_told 158 = .ok (.ldc2_w 112, 3) := by decide +kernel
theorem dL_told_161 : decode cL_told 161 = .ok (.lload_n 1, 1) := by decide +kernel
theorem dL_told_162 : decode cL_told 162 = .ok (.lmul, 1) := by decide +kernel
theorem dL_told_163 : decode cL_told 163 = .ok (.ldc2_w 122, 3) := by decide +kernel
theorem dL_told_166 : decode cL_told 166 = .ok (.aload_n 0, 1) := by decide +kernel
theorem dL_told_167 : decode cL_told 167 = .ok (.iload_n 3, 1) := by decide +kernel
theorem dL_told_168 : decode cL_told 168 = .ok (.iconst 3, 1) := by decide +kernel
theorem dL_told_169 : decode cL_told 169 = .ok (.invokestatic 124, 3) := by decide +kernel
theorem dL_told_172 : decode cL_told 172 = .ok (.i2l, 1) := by decide +kernel
theorem dL_told_173 : decode cL_told 173 = .ok (.lmul, 1) := by decide +kernel
theorem dL_told_174 : decode cL_told 174 = .ok (.ladd, 1) := by decide +kernel
theorem dL_told_175 : decode cL_told 175 = .ok (.aload_n 0, 1) := by decide +kernel
theorem dL_told_176 : decode cL_told 176 = .ok (.iload_n 3, 1) := by decide +kernel
theorem dL_told_177 : decode cL_told 177 = .ok (.iconst 4, 1) := by decide +kernel
theorem dL_told_178 : decode cL_told 178 = .ok (.invokestatic 124, 3) := by decide +kernel
theorem dL_told_181 : decode cL_told 181 = .ok (.i2l, 1) := by decide +kernel
theorem dL_told_182 : decode cL_told 182 = .ok (.ladd, 1) := by decide +kernel
theorem dL_told_183 : decode cL_told 183 = .ok (.lstore_n 1, 1) := by decide +kernel
theorem dL_told_184 : decode cL_told 184 = .ok (.iinc 3 1, 3) := by decide +kernel
theorem dL_told_187 : decode cL_told 187 = .ok (.goto (-61), 3) := by decide +kernel
theorem dL_told_190 : decode cL_told 190 = .ok (.ldc2_w 112, 3) := by decide +kernel
theorem dL_told_193 : decode cL_told 193 = .ok (.lload_n 1, 1) := by decide +kernel
theorem dL_told_194 : decode cL_told 194 = .ok (.lmul, 1) := by decide +kernel
theorem dL_told_195 : decode cL_told 195 = .ok (.ldc2_w 120, 3) := by decide +kernel
theorem dL_told_198 : decode cL_told 198 = .ok (.aload_n 0, 1) := by decide +kernel
theorem dL_told_199 : decode cL_told 199 = .ok (.iconst 0, 1) := by decide +kernel
theorem dL_told_200 : decode cL_told 200 = .ok (.iconst 2, 1) := by decide +kernel
theorem dL_told_201 : decode cL_told 201 = .ok (.invokestatic 126, 3) := by decide +kernel
theorem dL_told_204 : decode cL_told 204 = .ok (.i2l, 1) := by decide +kernel
theorem dL_told_205 : decode cL_told 205 = .ok (.lmul, 1) := by decide +kernel
theorem dL_told_206 : decode cL_told 206 = .ok (.ladd, 1) := by decide +kernel
theorem dL_told_207 : decode cL_told 207 = .ok (.ldc2_w 122, 3) := by decide +kernel
theorem dL_told_210 : decode cL_told 210 = .ok (.aload_n 0, 1) := by decide +kernel
theorem dL_told_211 : decode cL_told 211 = .ok (.iconst 1, 1) := by decide +kernel
theorem dL_told_212 : decode cL_told 212 = .ok (.iconst 2, 1) := by decide +kernel
theorem dL_told_213 : decode cL_told 213 = .ok (.invokestatic 126, 3) := by decide +kernel
theorem dL_told_216 : decode cL_told 216 = .ok (.i2l, 1) := by decide +kernel
theorem dL_told_217 : decode cL_told 217 = .ok (.lmul, 1) := by decide +kernel
theorem dL_told_218 : decode cL_told 218 = .ok (.ladd, 1) := by decide +kernel
theorem dL_told_219 : decode cL_told 219 = .ok (.aload_n 0, 1) := by decide +kernel
theorem dL_told_220 : decode cL_told 220 = .ok (.iconst 2, 1) := by decide +kernel
theorem dL_told_221 : decode cL_told 221 = .ok (.iconst 2, 1) := by decide +kernel
theorem dL_told_222 : decode cL_told 222 = .ok (.invokestatic 126, 3) := by decide +kernel
theorem dL_told_225 : decode cL_told 225 = .ok (.i2l, 1) := by decide +kernel
theorem dL_told_226 : decode cL_told 226 = .ok (.ladd, 1) := by decide +kernel
theorem dL_told_227 : decode cL_told 227 = .ok (.lreturn, 1) := by decide +kernel
theorem dL_call_0 : decode cL_call 0 = .ok (.iload_n 1, 1) := by decide +kernel
theorem dL_call_1 : decode cL_call 1 = .ok (.tableswitch 121 0 9 #[55, 62, 69, 75, 82, 88, 94, 101, 108, 114], 55) := by decide +kernel
theorem dL_call_56 : decode cL_call 56 = .ok (.aload_n 0, 1) := by decide +kernel
theorem dL_call_57 : decode cL_call 57 = .ok (.iload_n 2, 1) := by decide +kernel
theorem dL_call_58 : decode cL_call 58 = .ok (.iload_n 3, 1) := by decide +kernel
theorem dL_call_59 : decode cL_call 59 = .ok (.invokestatic 128, 3) := by decide +kernel
theorem dL_call_62 : decode cL_call 62 = .ok (.ireturn, 1) := by decide +kernel
theorem dL_call_63 : decode cL_call 63 = .ok (.aload_n 0, 1) := by decide +kernel
theorem dL_call_64 : decode cL_call 64 = .ok (.iload_n 2, 1) := by decide +kernel
theorem dL_call_65 : decode cL_call 65 = .ok (.iload_n 3, 1) := by decide +kernel
theorem dL_call_66 : decode cL_call 66 = .ok (.invokestatic 130, 3) := by decide +kernel
theorem dL_call_69 : decode cL_call 69 = .ok (.ireturn, 1) := by decide +kernel
theorem dL_call_70 : decode cL_call 70 = .ok (.aload_n 0, 1) := by decide +kernel
theorem dL_call_71 : decode cL_call 71 = .ok (.iload_n 2, 1) := by decide +kernel
theorem dL_call_72 : decode cL_call 72 = .ok (.invokestatic 132, 3) := by decide +kernel
theorem dL_call_75 : decode cL_call 75 = .ok (.ireturn, 1) := by decide +kernel
theorem dL_call_76 : decode cL_call 76 = .ok (.aload_n 0, 1) := by decide +kernel
theorem dL_call_77 : decode cL_call 77 = .ok (.iload_n 2, 1) := by decide +kernel
theorem dL_call_78 : decode cL_call 78 = .ok (.iload_n 3, 1) := by decide +kernel
theorem dL_call_79 : decode cL_call 79 = .ok (.invokestatic 134, 3) := by decide +kernel
theorem dL_call_82 : decode cL_call 82 = .ok (.ireturn, 1) := by decide +kernel
theorem dL_call_83 : decode cL_call 83 = .ok (.aload_n 0, 1) := by decide +kernel
theorem dL_call_84 : decode cL_call 84 = .ok (.iload_n 2, 1) := by decide +kernel
theorem dL_call_85 : decode cL_call 85 = .ok (.invokestatic 136, 3) := by decide +kernel
theorem dL_call_88 : decode cL_call 88 = .ok (.ireturn, 1) := by decide +kernel
theorem dL_call_89 : decode cL_call 89 = .ok (.aload_n 0, 1) := by decide +kernel
theorem dL_call_90 : decode cL_call 90 = .ok (.iload_n 2, 1) := by decide +kernel
theorem dL_call_91 : decode cL_call 91 = .ok (.invokestatic 138, 3) := by decide +kernel
theorem dL_call_94 : decode cL_call 94 = .ok (.ireturn, 1) := by decide +kernel
theorem dL_call_95 : decode cL_call 95 = .ok (.aload_n 0, 1) := by decide +kernel
theorem dL_call_96 : decode cL_call 96 = .ok (.iload_n 2, 1) := by decide +kernel
theorem dL_call_97 : decode cL_call 97 = .ok (.iload_n 3, 1) := by decide +kernel
theorem dL_call_98 : decode cL_call 98 = .ok (.invokestatic 140, 3) := by decide +kernel
theorem dL_call_101 : decode cL_call 101 = .ok (.ireturn, 1) := by decide +kernel
theorem dL_call_102 : decode cL_call 102 = .ok (.aload_n 0, 1) := by decide +kernel
theorem dL_call_103 : decode cL_call 103 = .ok (.iload_n 2, 1) := by decide +kernel
theorem dL_call_104 : decode cL_call 104 = .ok (.iload_n 3, 1) := by decide +kernel
theorem dL_call_105 : decode cL_call 105 = .ok (.invokestatic 142, 3) := by decide +kernel
theorem dL_call_108 : decode cL_call 108 = .ok (.ireturn, 1) := by decide +kernel
theorem dL_call_109 : decode cL_call 109 = .ok (.aload_n 0, 1) := by decide +kernel
theorem dL_call_110 : decode cL_call 110 = .ok (.iload_n 2, 1) := by decide +kernel
theorem dL_call_111 : decode cL_call 111 = .ok (.invokestatic 144, 3) := by decide +kernel
theorem dL_call_114 : decode cL_call 114 = .ok (.ireturn, 1) := by decide +kernel
theorem dL_call_115 : decode cL_call 115 = .ok (.aload_n 0, 1) := by decide +kernel
theorem dL_call_116 : decode cL_call 116 = .ok (.iload_n 2, 1) := by decide +kernel
theorem dL_call_117 : decode cL_call 117 = .ok (.iload_n 3, 1) := by decide +kernel
theorem dL_call_118 : decode cL_call 118 = .ok (.invokestatic 146, 3) := by decide +kernel
theorem dL_call_121 : decode cL_call 121 = .ok (.ireturn, 1) := by decide +kernel
theorem dL_call_122 : decode cL_call 122 = .ok (.aload_n 0, 1) := by decide +kernel
theorem dL_call_123 : decode cL_call 123 = .ok (.iload_n 2, 1) := by decide +kernel
theorem dL_call_124 : decode cL_call 124 = .ok (.iload_n 3, 1) := by decide +kernel
theorem dL_call_125 : decode cL_call 125 = .ok (.invokestatic 148, 3) := by decide +kernel
theorem dL_call_128 : decode cL_call 128 = .ok (.ireturn, 1) := by decide +kernel
theorem dL_turned_0 : decode cL_turned 0 = .ok (.aload_n 3, 1) := by decide +kernel
theorem dL_turned_1 : decode cL_turned 1 = .ok (.bipush 6, 2) := by decide +kernel
theorem dL_turned_3 : decode cL_turned 3 = .ok (.iload_n 0, 1) := by decide +kernel
theorem dL_turned_4 : decode cL_turned 4 = .ok (.imul, 1) := by decide +kernel
theorem dL_turned_5 : decode cL_turned 5 = .ok (.iconst 2, 1) := by decide +kernel
theorem dL_turned_6 : decode cL_turned 6 = .ok (.iadd, 1) := by decide +kernel
theorem dL_turned_7 : decode cL_turned 7 = .ok (.iaload, 1) := by decide +kernel
theorem dL_turned_8 : decode cL_turned 8 = .ok (.iconst 1, 1) := by decide +kernel
theorem dL_turned_9 : decode cL_turned 9 = .ok (.if_icmp .eq 12, 3) := by decide +kernel
theorem dL_turned_12 : decode cL_turned 12 = .ok (.aload 4, 2) := by decide +kernel
theorem dL_turned_14 : decode cL_turned 14 = .ok (.iconst 4, 1) := by decide +kernel
theorem dL_turned_15 : decode cL_turned 15 = .ok (.iload_n 1, 1) := by decide +kernel
theorem dL_turned_16 : decode cL_turned 16 = .ok (.imul, 1) := by decide +kernel
theorem dL_turned_17 : decode cL_turned 17 = .ok (.iaload, 1) := by decide +kernel
theorem dL_turned_18 : decode cL_turned 18 = .ok (.ifCond .ge 6, 3) := by decide +kernel
theorem dL_turned_21 : decode cL_turned 21 = .ok (.bipush (-103), 2) := by decide +kernel
theorem dL_turned_23 : decode cL_turned 23 = .ok (.ireturn, 1) := by decide +kernel
theorem dL_turned_24 : decode cL_turned 24 = .ok (.aload_n 3, 1) := by decide +kernel
theorem dL_turned_25 : decode cL_turned 25 = .ok (.bipush 6, 2) := by decide +kernel
theorem dL_turned_27 : decode cL_turned 27 = .ok (.iload_n 0, 1) := by decide +kernel
theorem dL_turned_28 : decode cL_turned 28 = .ok (.imul, 1) := by decide +kernel
theorem dL_turned_29 : decode cL_turned 29 = .ok (.iaload, 1) := by decide +kernel
theorem dL_turned_30 : decode cL_turned 30 = .ok (.istore 5, 2) := by decide +kernel
theorem dL_turned_32 : decode cL_turned 32 = .ok (.iload 5, 2) := by decide +kernel
theorem dL_turned_34 : decode cL_turned 34 = .ok (.iload_n 1, 1) := by decide +kernel
theorem dL_turned_35 : decode cL_turned 35 = .ok (.aload 4, 2) := by decide +kernel
theorem dL_turned_37 : decode cL_turned 37 = .ok (.invokestatic 106, 3) := by decide +kernel
theorem dL_turned_40 : decode cL_turned 40 = .ok (.ifCond .ne 24, 3) := by decide +kernel
theorem dL_turned_43 : decode cL_turned 43 = .ok (.aload 4, 2) := by decide +kernel
theorem dL_turned_45 : decode cL_turned 45 = .ok (.iconst 4, 1) := by decide +kernel
theorem dL_turned_46 : decode cL_turned 46 = .ok (.iload_n 1, 1) := by decide +kernel
theorem dL_turned_47 : decode cL_turned 47 = .ok (.imul, 1) := by decide +kernel
theorem dL_turned_48 : decode cL_turned 48 = .ok (.iconst 3, 1) := by decide +kernel
theorem dL_turned_49 : decode cL_turned 49 = .ok (.iadd, 1) := by decide +kernel
theorem dL_turned_50 : decode cL_turned 50 = .ok (.dup2, 1) := by decide +kernel
theorem dL_turned_51 : decode cL_turned 51 = .ok (.iaload, 1) := by decide +kernel
theorem dL_turned_52 : decode cL_turned 52 = .ok (.iconst 1, 1) := by decide +kernel
theorem dL_turned_53 : decode cL_turned 53 = .ok (.iadd, 1) := by decide +kernel
theorem dL_turned_54 : decode cL_turned 54 = .ok (.iastore, 1) := by decide +kernel
theorem dL_turned_55 : decode cL_turned 55 = .ok (.aload_n 2, 1) := by decide +kernel
theorem dL_turned_56 : decode cL_turned 56 = .ok (.iconst 3, 1) := by decide +kernel
theorem dL_turned_57 : decode cL_turned 57 = .ok (.dup2, 1) := by decide +kernel
theorem dL_turned_58 : decode cL_turned 58 = .ok (.iaload, 1) := by decide +kernel
theorem dL_turned_59 : decode cL_turned 59 = .ok (.iconst 1, 1) := by decide +kernel
theorem dL_turned_60 : decode cL_turned 60 = .ok (.iadd, 1) := by decide +kernel
theorem dL_turned_61 : decode cL_turned 61 = .ok (.iastore, 1) := by decide +kernel
theorem dL_turned_62 : decode cL_turned 62 = .ok (.iconst 0, 1) := by decide +kernel
theorem dL_turned_63 : decode cL_turned 63 = .ok (.ireturn, 1) := by decide +kernel
theorem dL_turned_64 : decode cL_turned 64 = .ok (.aload_n 3, 1) := by decide +kernel
theorem dL_turned_65 : decode cL_turned 65 = .ok (.bipush 6, 2) := by decide +kernel
theorem dL_turned_67 : decode cL_turned 67 = .ok (.iload_n 0, 1) := by decide +kernel
theorem dL_turned_68 : decode cL_turned 68 = .ok (.imul, 1) := by decide +kernel
theorem dL_turned_69 : decode cL_turned 69 = .ok (.iconst 4, 1) := by decide +kernel
theorem dL_turned_70 : decode cL_turned 70 = .ok (.iadd, 1) := by decide +kernel
theorem dL_turned_71 : decode cL_turned 71 = .ok (.dup2, 1) := by decide +kernel
theorem dL_turned_72 : decode cL_turned 72 = .ok (.iaload, 1) := by decide +kernel
theorem dL_turned_73 : decode cL_turned 73 = .ok (.iconst 1, 1) := by decide +kernel
theorem dL_turned_74 : decode cL_turned 74 = .ok (.iadd, 1) := by decide +kernel
theorem dL_turned_75 : decode cL_turned 75 = .ok (.iastore, 1) := by decide +kernel
theorem dL_turned_76 : decode cL_turned 76 = .ok (.aload_n 2, 1) := by decide +kernel
theorem dL_turned_77 : decode cL_turned 77 = .ok (.bipush 10, 2) := by decide +kernel
theorem dL_turned_79 : decode cL_turned 79 = .ok (.aload_n 3, 1) := by decide +kernel
theorem dL_turned_80 : decode cL_turned 80 = .ok (.bipush 6, 2) := by decide +kernel
theorem dL_turned_82 : decode cL_turned 82 = .ok (.iload_n 0, 1) := by decide +kernel
theorem dL_turned_83 : decode cL_turned 83 = .ok (.imul, 1) := by decide +kernel
theorem dL_turned_84 : decode cL_turned 84 = .ok (.iconst 1, 1) := by decide +kernel
theorem dL_turned_85 : decode cL_turned 85 = .ok (.iadd, 1) := by decide +kernel
theorem dL_turned_86 : decode cL_turned 86 = .ok (.iaload, 1) := by decide +kernel
theorem dL_turned_87 : decode cL_turned 87 = .ok (.iadd, 1) := by decide +kernel
theorem dL_turned_88 : decode cL_turned 88 = .ok (.dup2, 1) := by decide +kernel
theorem dL_turned_89 : decode cL_turned 89 = .ok (.iaload, 1) := by decide +kernel
theorem dL_turned_90 : decode cL_turned 90 = .ok (.iconst 1, 1) := by decide +kernel
theorem dL_turned_91 : decode cL_turned 91 = .ok (.iadd, 1) := by decide +kernel
theorem dL_turned_92 : decode cL_turned 92 = .ok (.iastore, 1) := by decide +kernel
theorem dL_turned_93 : decode cL_turned 93 = .ok (.aload 4, 2) := by decide +kernel
theorem dL_turned_95 : decode cL_turned 95 = .ok (.iconst 4, 1) := by decide +kernel
theorem dL_turned_96 : decode cL_turned 96 = .ok (.iload_n 1, 1) := by decide +kernel
theorem dL_turned_97 : decode cL_turned 97 = .ok (.imul, 1) := by decide +kernel
theorem dL_turned_98 : decode cL_turned 98 = .ok (.iconst 2, 1) := by decide +kernel
theorem dL_turned_99 : decode cL_turned 99 = .ok (.iadd, 1) := by decide +kernel
theorem dL_turned_100 : decode cL_turned 100 = .ok (.dup2, 1) := by decide +kernel
theorem dL_turned_101 : decode cL_turned 101 = .ok (.iaload, 1) := by decide +kernel
theorem dL_turned_102 : decode cL_turned 102 = .ok (.iconst 1, 1) := by decide +kernel
theorem dL_turned_103 : decode cL_turned 103 = .ok (.iadd, 1) := by decide +kernel
theorem dL_turned_104 : decode cL_turned 104 = .ok (.iastore, 1) := by decide +kernel
theorem dL_turned_105 : decode cL_turned 105 = .ok (.aload_n 2, 1) := by decide +kernel
theorem dL_turned_106 : decode cL_turned 106 = .ok (.iconst 2, 1) := by decide +kernel
theorem dL_turned_107 : decode cL_turned 107 = .ok (.dup2, 1) := by decide +kernel
theorem dL_turned_108 : decode cL_turned 108 = .ok (.iaload, 1) := by decide +kernel
theorem dL_turned_109 : decode cL_turned 109 = .ok (.iconst 1, 1) := by decide +kernel
theorem dL_turned_110 : decode cL_turned 110 = .ok (.iadd, 1) := by decide +kernel
theorem dL_turned_111 : decode cL_turned 111 = .ok (.iastore, 1) := by decide +kernel
theorem dL_turned_112 : decode cL_turned 112 = .ok (.iconst 0, 1) := by decide +kernel
theorem dL_turned_113 : decode cL_turned 113 = .ok (.istore 6, 2) := by decide +kernel
theorem dL_turned_115 : decode cL_turned 115 = .ok (.iconst 3, 1) := by decide +kernel
theorem dL_turned_116 : decode cL_turned 116 = .ok (.istore 7, 2) := by decide +kernel
theorem dL_turned_118 : decode cL_turned 118 = .ok (.iload 7, 2) := by decide +kernel
theorem dL_turned_120 : decode cL_turned 120 = .ok (.ifCond .lt 35, 3) := by decide +kernel
theorem dL_turned_123 : decode cL_turned 123 = .ok (.iload 5, 2) := by decide +kernel
theorem dL_turned_125 : decode cL_turned 125 = .ok (.iload 7, 2) := by decide +kernel
theorem dL_turned_127 : decode cL_turned 127 = .ok (.invokestatic 87, 3) := by decide +kernel
theorem dL_turned_130 : decode cL_turned 130 = .ok (.iload 5, 2) := by decide +kernel
theorem dL_turned_132 : decode cL_turned 132 = .ok (.iload 6, 2) := by decide +kernel
theorem dL_turned_134 : decode cL_turned 134 = .ok (.invokestatic 87, 3) := by decide +kernel
theorem dL_turned_137 : decode cL_turned 137 = .ok (.if_icmp .gt 8, 3) := by decide +kernel
theorem dL_turned_140 : decode cL_turned 140 = .ok (.iload 7, 2) := by decide +kernel
theorem dL_turned_142 : decode cL_turned 142 = .ok (.goto 5, 3) := by decide +kernel
theorem dL_turned_145 : decode cL_turned 145 = .ok (.iload 6, 2) := by decide +kernel
theorem dL_turned_147 : decode cL_turned 147 = .ok (.istore 6, 2) := by decide +kernel
theorem dL_turned_149 : decode cL_turned 149 = .ok (.iinc 7 (-1), 3) := by decide +kernel
theorem dL_turned_152 : decode cL_turned 152 = .ok (.goto (-34), 3) := by decide +kernel
theorem dL_turned_155 : decode cL_turned 155 = .ok (.aload_n 2, 1) := by decide +kernel
theorem dL_turned_156 : decode cL_turned 156 = .ok (.bipush 8, 2) := by decide +kernel
theorem dL_turned_158 : decode cL_turned 158 = .ok (.iaload, 1) := by decide +kernel
theorem dL_turned_159 : decode cL_turned 159 = .ok (.ifCond .le 63, 3) := by decide +kernel
theorem dL_turned_162 : decode cL_turned 162 = .ok (.aload_n 3, 1) := by decide +kernel
theorem dL_turned_163 : decode cL_turned 163 = .ok (.bipush 6, 2) := by decide +kernel
theorem dL_turned_165 : decode cL_turned 165 = .ok (.iload_n 0, 1) := by decide +kernel
theorem dL_turned_166 : decode cL_turned 166 = .ok (.imul, 1) := by decide +kernel
theorem dL_turned_167 : decode cL_turned 167 = .ok (.iconst 4, 1) := by decide +kernel
theorem dL_turned_168 : decode cL_turned 168 = .ok (.iadd, 1) := by decide +kernel
theorem dL_turned_169 : decode cL_turned 169 = .ok (.iaload, 1) := by decide +kernel
theorem dL_turned_170 : decode cL_turned 170 = .ok (.aload_n 2, 1) := by decide +kernel
theorem dL_turned_171 : decode cL_turned 171 = .ok (.bipush 8, 2) := by decide +kernel
theorem dL_turned_173 : decode cL_turned 173 = .ok (.iaload, 1) := by decide +kernel
theorem dL_turned_174 : decode cL_turned 174 = .ok (.irem, 1) := by decide +kernel
theorem dL_turned_175 : decode cL_turned 175 = .ok (.ifCond .ne 47, 3) := by decide +kernel
theorem dL_turned_178 : decode cL_turned 178 = .ok (.iload 5, 2) := by decide +kernel
theorem dL_turned_180 : decode cL_turned 180 = .ok (.iload 6, 2) := by decide +kernel
theorem dL_turned_182 : decode cL_turned 182 = .ok (.invokestatic 87, 3) := by decide +kernel
theorem dL_turned_185 : decode cL_turned 185 = .ok (.iconst 2, 1) := by decide +kernel
theorem dL_turned_186 : decode cL_turned 186 = .ok (.if_icmp .ge 36, 3) := by decide +kernel
theorem dL_turned_189 : decode cL_turned 189 = .ok (.aload_n 3, 1) := by decide +kernel
theorem dL_turned_190 : decode cL_turned 190 = .ok (.bipush 6, 2) := by decide +kernel
theorem dL_turned_192 : decode cL_turned 192 = .ok (.iload_n 0, 1) := by decide +kernel
theorem dL_turned_193 : decode cL_turned 193 = .ok (.imul, 1) := by decide +kernel
theorem dL_turned_194 : decode cL_turned 194 = .ok (.dup2, 1) := by decide +kernel
theorem dL_turned_195 : decode cL_turned 195 = .ok (.iaload, 1) := by decide +kernel
theorem dL_turned_196 : decode cL_turned 196 = .ok (.iload 6, 2) := by decide +kernel
theorem dL_turned_198 : decode cL_turned 198 = .ok (.invokestatic 103, 3) := by decide +kernel
theorem dL_turned_201 : decode cL_turned 201 = .ok (.iadd, 1) := by decide +kernel
theorem dL_turned_202 : decode cL_turned 202 = .ok (.iastore, 1) := by decide +kernel
theorem dL_turned_203 : decode cL_turned 203 = .ok (.aload_n 3, 1) := by decide +kernel
theorem dL_turned_204 : decode cL_turned 204 = .ok (.bipush 6, 2) := by decide +kernel
theorem dL_turned_206 : decode cL_turned 206 = .ok (.iload_n 0, 1) := by decide +kernel
theorem dL_turned_207 : decode cL_turned 207 = .ok (.imul, 1) := by decide +kernel
theorem dL_turned_208 : decode cL_turned 208 = .ok (.iconst 5, 1) := by decide +kernel
theorem dL_turned_209 : decode cL_turned 209 = .ok (.iadd, 1) := by decide +kernel
theorem dL_turned_210 : decode cL_turned 210 = .ok (.dup2, 1) := by decide +kernel
theorem dL_turned_211 : decode cL_turned 211 = .ok (.iaload, 1) := by decide +kernel
theorem dL_turned_212 : decode cL_turned 212 = .ok (.iconst 1, 1) := by decide +kernel
theorem dL_turned_213 : decode cL_turned 213 = .ok (.iadd, 1) := by decide +kernel
theorem dL_turned_214 : decode cL_turned 214 = .ok (.iastore, 1) := by decide +kernel
theorem dL_turned_215 : decode cL_turned 215 = .ok (.aload_n 2, 1) := by decide +kernel
theorem dL_turned_216 : decode cL_turned 216 = .ok (.iconst 4, 1) := by decide +kernel
theorem dL_turned_217 : decode cL_turned 217 = .ok (.dup2, 1) := by decide +kernel
theorem dL_turned_218 : decode cL_turned 218 = .ok (.iaload, 1) := by decide +kernel
theorem dL_turned_219 : decode cL_turned 219 = .ok (.iconst 1, 1) := by decide +kernel
theorem dL_turned_220 : decode cL_turned 220 = .ok (.iadd, 1) := by decide +kernel
theorem dL_turned_221 : decode cL_turned 221 = .ok (.iastore, 1) := by decide +kernel
theorem dL_turned_222 : decode cL_turned 222 = .ok (.iconst 1, 1) := by decide +kernel
theorem dL_turned_223 : decode cL_turned 223 = .ok (.ireturn, 1) := by decide +kernel
theorem dL_keyDue_0 : decode cL_keyDue 0 = .ok (.iload_n 0, 1) := by decide +kernel
theorem dL_keyDue_1 : decode cL_keyDue 1 = .ok (.ifCond .ne 98, 3) := by decide +kernel
theorem dL_keyDue_4 : decode cL_keyDue 4 = .ok (.iload_n 1, 1) := by decide +kernel
theorem dL_keyDue_5 : decode cL_keyDue 5 = .ok (.aload_n 3, 1) := by decide +kernel
theorem dL_keyDue_6 : decode cL_keyDue 6 = .ok (.aload 4, 2) := by decide +kernel
theorem dL_keyDue_8 : decode cL_keyDue 8 = .ok (.invokestatic 150, 3) := by decide +kernel
theorem dL_keyDue_11 : decode cL_keyDue 11 = .ok (.ifCond .eq 6, 3) := by decide +kernel
theorem dL_keyDue_14 : decode cL_keyDue 14 = .ok (.bipush (-103), 2) := by decide +kernel
theorem dL_keyDue_16 : decode cL_keyDue 16 = .ok (.ireturn, 1) := by decide +kernel
theorem dL_keyDue_17 : decode cL_keyDue 17 = .ok (.bipush 6, 2) := by decide +kernel
theorem dL_keyDue_19 : decode cL_keyDue 19 = .ok (.aload_n 3, 1) := by decide +kernel
theorem dL_keyDue_20 : decode cL_keyDue 20 = .ok (.iconst 0, 1) := by decide +kernel
theorem dL_keyDue_21 : decode cL_keyDue 21 = .ok (.iaload, 1) := by decide +kernel
theorem dL_keyDue_22 : decode cL_keyDue 22 = .ok (.imul, 1) := by decide +kernel
theorem dL_keyDue_23 : decode cL_keyDue 23 = .ok (.istore 6, 2) := by decide +kernel
theorem dL_keyDue_25 : decode cL_keyDue 25 = .ok (.aload 4, 2) := by decide +kernel
theorem dL_keyDue_27 : decode cL_keyDue 27 = .ok (.iload 6, 2) := by decide +kernel
theorem dL_keyDue_29 : decode cL_keyDue 29 = .ok (.iload_n 1, 1) := by decide +kernel
theorem dL_keyDue_30 : decode cL_keyDue 30 = .ok (.iastore, 1) := by decide +kernel
theorem dL_keyDue_31 : decode cL_keyDue 31 = .ok (.aload 4, 2) := by decide +kernel
theorem dL_keyDue_33 : decode cL_keyDue 33 = .ok (.iload 6, 2) := by decide +kernel
theorem dL_keyDue_35 : decode cL_keyDue 35 = .ok (.iconst 1, 1) := by decide +kernel
theorem dL_keyDue_36 : decode cL_keyDue 36 = .ok (.iadd, 1) := by decide +kernel
theorem dL_keyDue_37 : decode cL_keyDue 37 = .ok (.iload_n 2, 1) := by decide +kernel
theorem dL_keyDue_38 : decode cL_keyDue 38 = .ok (.iastore, 1) := by decide +kernel
theorem dL_keyDue_39 : decode cL_keyDue 39 = .ok (.aload 4, 2) := by decide +kernel
theorem dL_keyDue_41 : decode cL_keyDue 41 = .ok (.iload 6, 2) := by decide +kernel
theorem dL_keyDue_43 : decode cL_keyDue 43 = .ok (.iconst 2, 1) := by decide +kernel
theorem dL_keyDue_44 : decode cL_keyDue 44 = .ok (.iadd, 1) := by decide +kernel
theorem dL_keyDue_45 : decode cL_keyDue 45 = .ok (.iconst 0, 1) := by decide +kernel
theorem dL_keyDue_46 : decode cL_keyDue 46 = .ok (.iastore, 1) := by decide +kernel
theorem dL_keyDue_47 : decode cL_keyDue 47 = .ok (.aload 4, 2) := by decide +kernel
theorem dL_keyDue_49 : decode cL_keyDue 49 = .ok (.iload 6, 2) := by decide +kernel
theorem dL_keyDue_51 : decode cL_keyDue 51 = .ok (.iconst 3, 1) := by decide +kernel
theorem dL_keyDue_52 : decode cL_keyDue 52 = .ok (.iadd, 1) := by decide +kernel
theorem dL_keyDue_53 : decode cL_keyDue 53 = .ok (.iload_n 1, 1) := by decide +kernel
theorem dL_keyDue_54 : decode cL_keyDue 54 = .ok (.iastore, 1) := by decide +kernel
theorem dL_keyDue_55 : decode cL_keyDue 55 = .ok (.aload 4, 2) := by decide +kernel
theorem dL_keyDue_57 : decode cL_keyDue 57 = .ok (.iload 6, 2) := by decide +kernel
theorem dL_keyDue_59 : decode cL_keyDue 59 = .ok (.iconst 4, 1) := by decide +kernel
theorem dL_keyDue_60 : decode cL_keyDue 60 = .ok (.iadd, 1) := by decide +kernel
theorem dL_keyDue_61 : decode cL_keyDue 61 = .ok (.iconst 0, 1) := by decide +kernel
theorem dL_keyDue_62 : decode cL_keyDue 62 = .ok (.iastore, 1) := by decide +kernel
theorem dL_keyDue_63 : decode cL_keyDue 63 = .ok (.aload 4, 2) := by decide +kernel
theorem dL_keyDue_65 : decode cL_keyDue 65 = .ok (.iload 6, 2) := by decide +kernel
theorem dL_keyDue_67 : decode cL_keyDue 67 = .ok (.iconst 5, 1) := by decide +kernel
theorem dL_keyDue_68 : decode cL_keyDue 68 = .ok (.iadd, 1) := by decide +kernel
theorem dL_keyDue_69 : decode cL_keyDue 69 = .ok (.iconst 0, 1) := by decide +kernel
theorem dL_keyDue_70 : decode cL_keyDue 70 = .ok (.iastore, 1) := by decide +kernel
theorem dL_keyDue_71 : decode cL_keyDue 71 = .ok (.aload_n 3, 1) := by decide +kernel
theorem dL_keyDue_72 : decode cL_keyDue 72 = .ok (.iconst 1, 1) := by decide +kernel
theorem dL_keyDue_73 : decode cL_keyDue 73 = .ok (.dup2, 1) := by decide +kernel
theorem dL_keyDue_74 : decode cL_keyDue 74 = .ok (.iaload, 1) := by decide +kernel
theorem dL_keyDue_75 : decode cL_keyDue 75 = .ok (.aload_n 3, 1) := by decide +kernel
theorem dL_keyDue_76 : decode cL_keyDue 76 = .ok (.bipush 7, 2) := by decide +kernel
theorem dL_keyDue_78 : decode cL_keyDue 78 = .ok (.iaload, 1) := by decide +kernel
theorem dL_keyDue_79 : decode cL_keyDue 79 = .ok (.iload_n 1, 1) := by decide +kernel
theorem dL_keyDue_80 : decode cL_keyDue 80 = .ok (.invokestatic 154, 3) := by decide +kernel
theorem dL_keyDue_83 : decode cL_keyDue 83 = .ok (.imul, 1) := by decide +kernel
theorem dL_keyDue_84 : decode cL_keyDue 84 = .ok (.iadd, 1) := by decide +kernel
theorem dL_keyDue_85 : decode cL_keyDue 85 = .ok (.iastore, 1) := by decide +kernel
theorem dL_keyDue_86 : decode cL_keyDue 86 = .ok (.aload_n 3, 1) := by decide +kernel
theorem dL_keyDue_87 : decode cL_keyDue 87 = .ok (.iconst 0, 1) := by decide +kernel
theorem dL_keyDue_88 : decode cL_keyDue 88 = .ok (.dup2, 1) := by decide +kernel
theorem dL_keyDue_89 : decode cL_keyDue 89 = .ok (.iaload, 1) := by decide +kernel
theorem dL_keyDue_90 : decode cL_keyDue 90 = .ok (.iconst 1, 1) := by decide +kernel
theorem dL_keyDue_91 : decode cL_keyDue 91 = .ok (.iadd, 1) := by decide +kernel
theorem dL_keyDue_92 : decode cL_keyDue 92 = .ok (.iastore, 1) := by decide +kernel
theorem dL_keyDue_93 : decode cL_keyDue 93 = .ok (.aload_n 3, 1) := by decide +kernel
theorem dL_keyDue_94 : decode cL_keyDue 94 = .ok (.iconst 0, 1) := by decide +kernel
theorem dL_keyDue_95 : decode cL_keyDue 95 = .ok (.iaload, 1) := by decide +kernel
theorem dL_keyDue_96 : decode cL_keyDue 96 = .ok (.iconst 1, 1) := by decide +kernel
theorem dL_keyDue_97 : decode cL_keyDue 97 = .ok (.isub, 1) := by decide +kernel
theorem dL_keyDue_98 : decode cL_keyDue 98 = .ok (.ireturn, 1) := by decide +kernel
theorem dL_keyDue_99 : decode cL_keyDue 99 = .ok (.iload_n 1, 1) := by decide +kernel
theorem dL_keyDue_100 : decode cL_keyDue 100 = .ok (.aload_n 3, 1) := by decide +kernel
theorem dL_keyDue_101 : decode cL_keyDue 101 = .ok (.iconst 0, 1) := by decide +kernel
theorem dL_keyDue_102 : decode cL_keyDue 102 = .ok (.iaload, 1) := by decide +kernel
theorem dL_keyDue_103 : decode cL_keyDue 103 = .ok (.if_icmp .lt 6, 3) := by decide +kernel
theorem dL_keyDue_106 : decode cL_keyDue 106 = .ok (.bipush (-101), 2) := by decide +kernel
theorem dL_keyDue_108 : decode cL_keyDue 108 = .ok (.ireturn, 1) := by decide +kernel
theorem dL_keyDue_109 : decode cL_keyDue 109 = .ok (.aload 4, 2) := by decide +kernel
theorem dL_keyDue_111 : decode cL_keyDue 111 = .ok (.bipush 6, 2) := by decide +kernel
theorem dL_keyDue_113 : decode cL_keyDue 113 = .ok (.iload_n 1, 1) := by decide +kernel
theorem dL_keyDue_114 : decode cL_keyDue 114 = .ok (.imul, 1) := by decide +kernel
theorem dL_keyDue_115 : decode cL_keyDue 115 = .ok (.iconst 1, 1) := by decide +kernel
theorem dL_keyDue_116 : decode cL_keyDue 116 = .ok (.iadd, 1) := by decide +kernel
theorem dL_keyDue_117 : decode cL_keyDue 117 = .ok (.iaload, 1) := by decide +kernel
theorem dL_keyDue_118 : decode cL_keyDue 118 = .ok (.istore 6, 2) := by decide +kernel
theorem dL_keyDue_120 : decode cL_keyDue 120 = .ok (.iload_n 0, 1) := by decide +kernel
theorem dL_keyDue_121 : decode cL_keyDue 121 = .ok (.tableswitch 178 1 9 #[51, 97, 154, 178, 178, 178, 178, 178, 167], 51) := by decide +kernel
theorem dL_keyDue_172 : decode cL_keyDue 172 = .ok (.iload_n 1, 1) := by decide +kernel
theorem dL_keyDue_173 : decode cL_keyDue 173 = .ok (.iload_n 2, 1) := by decide +kernel
theorem dL_keyDue_174 : decode cL_keyDue 174 = .ok (.aload_n 3, 1) := by decide +kernel
theorem dL_keyDue_175 : decode cL_keyDue 175 = .ok (.aload 4, 2) := by decide +kernel
theorem dL_keyDue_177 : decode cL_keyDue 177 = .ok (.invokestatic 157, 3) := by decide +kernel
theorem dL_keyDue_180 : decode cL_keyDue 180 = .ok (.ifCond .eq 6, 3) := by decide +kernel
theorem dL_keyDue_183 : decode cL_keyDue 183 = .ok (.bipush (-103), 2) := by decide +kernel
theorem dL_keyDue_185 : decode cL_keyDue 185 = .ok (.ireturn, 1) := by decide +kernel
theorem dL_keyDue_186 : decode cL_keyDue 186 = .ok (.aload 4, 2) := by decide +kernel
theorem dL_keyDue_188 : decode cL_keyDue 188 = .ok (.bipush 6, 2) := by decide +kernel
theorem dL_keyDue_190 : decode cL_keyDue 190 = .ok (.iload_n 1, 1) := by decide +kernel
theorem dL_keyDue_191 : decode cL_keyDue 191 = .ok (.imul, 1) := by decide +kernel
theorem dL_keyDue_192 : decode cL_keyDue 192 = .ok (.dup2, 1) := by decide +kernel
theorem dL_keyDue_193 : decode cL_keyDue 193 = .ok (.iaload, 1) := by decide +kernel
theorem dL_keyDue_194 : decode cL_keyDue 194 = .ok (.iload_n 2, 1) := by decide +kernel
theorem dL_keyDue_195 : decode cL_keyDue 195 = .ok (.invokestatic 103, 3) := by decide +kernel
theorem dL_keyDue_198 : decode cL_keyDue 198 = .ok (.iadd, 1) := by decide +kernel
theorem dL_keyDue_199 : decode cL_keyDue 199 = .ok (.iastore, 1) := by decide +kernel
theorem dL_keyDue_200 : decode cL_keyDue 200 = .ok (.aload_n 3, 1) := by decide +kernel
theorem dL_keyDue_201 : decode cL_keyDue 201 = .ok (.iconst 1, 1) := by decide +kernel
theorem dL_keyDue_202 : decode cL_keyDue 202 = .ok (.dup2, 1) := by decide +kernel
theorem dL_keyDue_203 : decode cL_keyDue 203 = .ok (.iaload, 1) := by decide +kernel
theorem dL_keyDue_204 : decode cL_keyDue 204 = .ok (.aload_n 3, 1) := by decide +kernel
theorem dL_keyDue_205 : decode cL_keyDue 205 = .ok (.bipush 7, 2) := by decide +kernel
theorem dL_keyDue_207 : decode cL_keyDue 207 = .ok (.iaload, 1) := by decide +kernel
theorem dL_keyDue_208 : decode cL_keyDue 208 = .ok (.iadd, 1) := by decide +kernel
theorem dL_keyDue_209 : decode cL_keyDue 209 = .ok (.iastore, 1) := by decide +kernel
theorem dL_keyDue_210 : decode cL_keyDue 210 = .ok (.aload 4, 2) := by decide +kernel
theorem dL_keyDue_212 : decode cL_keyDue 212 = .ok (.bipush 6, 2) := by decide +kernel
theorem dL_keyDue_214 : decode cL_keyDue 214 = .ok (.iload_n 1, 1) := by decide +kernel
theorem dL_keyDue_215 : decode cL_keyDue 215 = .ok (.imul, 1) := by decide +kernel
theorem dL_keyDue_216 : decode cL_keyDue 216 = .ok (.iaload, 1) := by decide +kernel
theorem dL_keyDue_217 : decode cL_keyDue 217 = .ok (.ireturn, 1) := by decide +kernel
theorem dL_keyDue_218 : decode cL_keyDue 218 = .ok (.bipush 6, 2) := by decide +kernel
theorem dL_keyDue_220 : decode cL_keyDue 220 = .ok (.iload_n 1, 1) := by decide +kernel
theorem dL_keyDue_221 : decode cL_keyDue 221 = .ok (.imul, 1) := by decide +kernel
theorem dL_keyDue_222 : decode cL_keyDue 222 = .ok (.istore 7, 2) := by decide +kernel
theorem dL_keyDue_224 : decode cL_keyDue 224 = .ok (.iload 7, 2) := by decide +kernel
theorem dL_keyDue_226 : decode cL_keyDue 226 = .ok (.bipush 6, 2) := by decide +kernel
theorem dL_keyDue_228 : decode cL_keyDue 228 = .ok (.aload_n 3, 1) := by decide +kernel
theorem dL_keyDue_229 : decode cL_keyDue 229 = .ok (.iconst 0, 1) := by decide +kernel
theorem dL_keyDue_230 : decode cL_keyDue 230 = .ok (.iaload, 1) := by decide +kernel
theorem dL_keyDue_231 : decode cL_keyDue 231 = .ok (.imul, 1) := by decide +kernel
theorem dL_keyDue_232 : decode cL_keyDue 232 = .ok (.bipush 6, 2) := by decide +kernel
theorem dL_keyDue_234 : decode cL_keyDue 234 = .ok (.isub, 1) := by decide +kernel
theorem dL_keyDue_235 : decode cL_keyDue 235 = .ok (.if_icmp .ge 22, 3) := by decide +kernel
theorem dL_keyDue_238 : decode cL_keyDue 238 = .ok (.aload 4, 2) := by decide +kernel
theorem dL_keyDue_240 : decode cL_keyDue 240 = .ok (.iload 7, 2) := by decide +kernel
theorem dL_keyDue_242 : decode cL_keyDue 242 = .ok (.aload 4, 2) := by decide +kernel
theorem dL_keyDue_244 : decode cL_keyDue 244 = .ok (.iload 7, 2) := by decide +kernel
theorem dL_keyDue_246 : decode cL_keyDue 246 = .ok (.bipush 6, 2) := by decide +kernel
theorem dL_keyDue_248 : decode cL_keyDue 248 = .ok (.iadd, 1) := by decide +kernel
theorem dL_keyDue_249 : decode cL_keyDue 249 = .ok (.iaload, 1) := by decide +kernel
theorem dL_keyDue_250 : decode cL_keyDue 250 = .ok (.iastore, 1) := by decide +kernel
theorem dL_keyDue_251 : decode cL_keyDue 251 = .ok (.iinc 7 1, 3) := by decide +kernel
theorem dL_keyDue_254 : decode cL_keyDue 254 = .ok (.goto (-30), 3) := by decide +kernel
theorem dL_keyDue_257 : decode cL_keyDue 257 = .ok (.aload_n 3, 1) := by decide +kernel
theorem dL_keyDue_258 : decode cL_keyDue 258 = .ok (.iconst 0, 1) := by decide +kernel
theorem dL_keyDue_259 : decode cL_keyDue 259 = .ok (.dup2, 1) := by decide +kernel
theorem dL_keyDue_260 : decode cL_keyDue 260 = .ok (.iaload, 1) := by decide +kernel
theorem dL_keyDue_261 : decode cL_keyDue 261 = .ok (.iconst 1, 1) := by decide +kernel
theorem dL_keyDue_262 : decode cL_keyDue 262 = .ok (.isub, 1) := by decide +kernel
theorem dL_keyDue_263 : decode cL_keyDue 263 = .ok (.iastore, 1) := by decide +kernel
theorem dL_keyDue_264 : decode cL_keyDue 264 = .ok (.aload_n 3, 1) := by decide +kernel
theorem dL_keyDue_265 : decode cL_keyDue 265 = .ok (.iconst 5, 1) := by decide +kernel
theorem dL_keyDue_266 : decode cL_keyDue 266 = .ok (.dup2, 1) := by decide +kernel
theorem dL_keyDue_267 : decode cL_keyDue 267 = .ok (.iaload, 1) := by decide +kernel
theorem dL_keyDue_268 : decode cL_keyDue 268 = .ok (.iconst 1, 1) := by decide +kernel
theorem dL_keyDue_269 : decode cL_keyDue 269 = .ok (.iadd, 1) := by decide +kernel
theorem dL_keyDue_270 : decode cL_keyDue 270 = .ok (.iastore, 1) := by decide +kernel
theorem dL_keyDue_271 : decode cL_keyDue 271 = .ok (.aload_n 3, 1) := by decide +kernel
theorem dL_keyDue_272 : decode cL_keyDue 272 = .ok (.iconst 0, 1) := by decide +kernel
theorem dL_keyDue_273 : decode cL_keyDue 273 = .ok (.iaload, 1) := by decide +kernel
theorem dL_keyDue_274 : decode cL_keyDue 274 = .ok (.ireturn, 1) := by decide +kernel
theorem dL_keyDue_275 : decode cL_keyDue 275 = .ok (.aload 4, 2) := by decide +kernel
theorem dL_keyDue_277 : decode cL_keyDue 277 = .ok (.bipush 6, 2) := by decide +kernel
theorem dL_keyDue_279 : decode cL_keyDue 279 = .ok (.iload_n 1, 1) := by decide +kernel
theorem dL_keyDue_280 : decode cL_keyDue 280 = .ok (.imul, 1) := by decide +kernel
theorem dL_keyDue_281 : decode cL_keyDue 281 = .ok (.iconst 1, 1) := by decide +kernel
theorem dL_keyDue_282 : decode cL_keyDue 282 = .ok (.iadd, 1) := by decide +kernel
theorem dL_keyDue_283 : decode cL_keyDue 283 = .ok (.iload_n 2, 1) := by decide +kernel
theorem dL_keyDue_284 : decode cL_keyDue 284 = .ok (.iastore, 1) := by decide +kernel
theorem dL_keyDue_285 : decode cL_keyDue 285 = .ok (.iload 6, 2) := by decide +kernel
theorem dL_keyDue_287 : decode cL_keyDue 287 = .ok (.ireturn, 1) := by decide +kernel
theorem dL_keyDue_288 : decode cL_keyDue 288 = .ok (.iload_n 1, 1) := by decide +kernel
theorem dL_keyDue_289 : decode cL_keyDue 289 = .ok (.iload_n 2, 1) := by decide +kernel
theorem dL_keyDue_290 : decode cL_keyDue 290 = .ok (.aload_n 3, 1) := by decide +kernel
theorem dL_keyDue_291 : decode cL_keyDue 291 = .ok (.aload 4, 2) := by decide +kernel
theorem dL_keyDue_293 : decode cL_keyDue 293 = .ok (.aload 5, 2) := by decide +kernel
theorem dL_keyDue_295 : decode cL_keyDue 295 = .ok (.invokestatic 160, 3) := by decide +kernel
theorem dL_keyDue_298 : decode cL_keyDue 298 = .ok (.ireturn, 1) := by decide +kernel
theorem dL_keyDue_299 : decode cL_keyDue 299 = .ok (.iload_n 0, 1) := by decide +kernel
theorem dL_keyDue_300 : decode cL_keyDue 300 = .ok (.iconst 4, 1) := by decide +kernel
theorem dL_keyDue_301 : decode cL_keyDue 301 = .ok (.if_icmp .ne 7, 3) := by decide +kernel
theorem dL_keyDue_304 : decode cL_keyDue 304 = .ok (.iconst 1, 1) := by decide +kernel
theorem dL_keyDue_305 : decode cL_keyDue 305 = .ok (.goto 4, 3) := by decide +kernel
theorem dL_keyDue_308 : decode cL_keyDue 308 = .ok (.iconst 0, 1) := by decide +kernel
theorem dL_keyDue_309 : decode cL_keyDue 309 = .ok (.aload 4, 2) := by decide +kernel
theorem dL_keyDue_311 : decode cL_keyDue 311 = .ok (.bipush 6, 2) := by decide +kernel
theorem dL_keyDue_313 : decode cL_keyDue 313 = .ok (.iload_n 1, 1) := by decide +kernel
theorem dL_keyDue_314 : decode cL_keyDue 314 = .ok (.imul, 1) := by decide +kernel
theorem dL_keyDue_315 : decode cL_keyDue 315 = .ok (.iconst 2, 1) := by decide +kernel
theorem dL_keyDue_316 : decode cL_keyDue 316 = .ok (.iadd, 1) := by decide +kernel
theorem dL_keyDue_317 : decode cL_keyDue 317 = .ok (.iaload, 1) := by decide +kernel
theorem dL_keyDue_318 : decode cL_keyDue 318 = .ok (.iconst 1, 1) := by decide +kernel
theorem dL_keyDue_319 : decode cL_keyDue 319 = .ok (.if_icmp .ne 7, 3) := by decide +kernel
theorem dL_keyDue_322 : decode cL_keyDue 322 = .ok (.iconst 1, 1) := by decide +kernel
theorem dL_keyDue_323 : decode cL_keyDue 323 = .ok (.goto 4, 3) := by decide +kernel
theorem dL_keyDue_326 : decode cL_keyDue 326 = .ok (.iconst 0, 1) := by decide +kernel
theorem dL_keyDue_327 : decode cL_keyDue 327 = .ok (.if_icmp .ne 6, 3) := by decide +kernel
theorem dL_keyDue_330 : decode cL_keyDue 330 = .ok (.bipush (-103), 2) := by decide +kernel
theorem dL_keyDue_332 : decode cL_keyDue 332 = .ok (.ireturn, 1) := by decide +kernel
theorem dL_keyDue_333 : decode cL_keyDue 333 = .ok (.aload 4, 2) := by decide +kernel
theorem dL_keyDue_335 : decode cL_keyDue 335 = .ok (.bipush 6, 2) := by decide +kernel
theorem dL_keyDue_337 : decode cL_keyDue 337 = .ok (.iload_n 1, 1) := by decide +kernel
theorem dL_keyDue_338 : decode cL_keyDue 338 = .ok (.imul, 1) := by decide +kernel
theorem dL_keyDue_339 : decode cL_keyDue 339 = .ok (.iconst 2, 1) := by decide +kernel
theorem dL_keyDue_340 : decode cL_keyDue 340 = .ok (.iadd, 1) := by decide +kernel
theorem dL_keyDue_341 : decode cL_keyDue 341 = .ok (.dup2, 1) := by decide +kernel
theorem dL_keyDue_342 : decode cL_keyDue 342 = .ok (.iaload, 1) := by decide +kernel
theorem dL_keyDue_343 : decode cL_keyDue 343 = .ok (.iconst 1, 1) := by decide +kernel
theorem dL_keyDue_344 : decode cL_keyDue 344 = .ok (.ixor, 1) := by decide +kernel
theorem dL_keyDue_345 : decode cL_keyDue 345 = .ok (.iastore, 1) := by decide +kernel
theorem dL_keyDue_346 : decode cL_keyDue 346 = .ok (.aload 4, 2) := by decide +kernel
theorem dL_keyDue_348 : decode cL_keyDue 348 = .ok (.bipush 6, 2) := by decide +kernel
theorem dL_keyDue_350 : decode cL_keyDue 350 = .ok (.iload_n 1, 1) := by decide +kernel
theorem dL_keyDue_351 : decode cL_keyDue 351 = .ok (.imul, 1) := by decide +kernel
theorem dL_keyDue_352 : decode cL_keyDue 352 = .ok (.iaload, 1) := by decide +kernel
theorem dL_keyDue_353 : decode cL_keyDue 353 = .ok (.aload 5, 2) := by decide +kernel
theorem dL_keyDue_355 : decode cL_keyDue 355 = .ok (.invokestatic 164, 3) := by decide +kernel
theorem dL_keyDue_358 : decode cL_keyDue 358 = .ok (.invokestatic 168, 3) := by decide +kernel
theorem dL_keyDue_361 : decode cL_keyDue 361 = .ok (.ireturn, 1) := by decide +kernel
theorem dL_lockDue_0 : decode cL_lockDue 0 = .ok (.iload_n 0, 1) := by decide +kernel
theorem dL_lockDue_1 : decode cL_lockDue 1 = .ok (.bipush 10, 2) := by decide +kernel
theorem dL_lockDue_3 : decode cL_lockDue 3 = .ok (.if_icmp .ne 21, 3) := by decide +kernel
theorem dL_lockDue_6 : decode cL_lockDue 6 = .ok (.aload_n 3, 1) := by decide +kernel
theorem dL_lockDue_7 : decode cL_lockDue 7 = .ok (.bipush 6, 2) := by decide +kernel
theorem dL_lockDue_9 : decode cL_lockDue 9 = .ok (.iload_n 1, 1) := by decide +kernel
theorem dL_lockDue_10 : decode cL_lockDue 10 = .ok (.iadd, 1) := by decide +kernel
theorem dL_lockDue_11 : decode cL_lockDue 11 = .ok (.iaload, 1) := by decide +kernel
theorem dL_lockDue_12 : decode cL_lockDue 12 = .ok (.istore 6, 2) := by decide +kernel
theorem dL_lockDue_14 : decode cL_lockDue 14 = .ok (.aload_n 3, 1) := by decide +kernel
theorem dL_lockDue_15 : decode cL_lockDue 15 = .ok (.bipush 6, 2) := by decide +kernel
theorem dL_lockDue_17 : decode cL_lockDue 17 = .ok (.iload_n 1, 1) := by decide +kernel
theorem dL_lockDue_18 : decode cL_lockDue 18 = .ok (.iadd, 1) := by decide +kernel
theorem dL_lockDue_19 : decode cL_lockDue 19 = .ok (.iload_n 2, 1) := by decide +kernel
theorem dL_lockDue_20 : decode cL_lockDue 20 = .ok (.iastore, 1) := by decide +kernel
theorem dL_lockDue_21 : decode cL_lockDue 21 = .ok (.iload 6, 2) := by decide +kernel
theorem dL_lockDue_23 : decode cL_lockDue 23 = .ok (.ireturn, 1) := by decide +kernel
theorem dL_lockDue_24 : decode cL_lockDue 24 = .ok (.aload 5, 2) := by decide +kernel
theorem dL_lockDue_26 : decode cL_lockDue 26 = .ok (.iconst 4, 1) := by decide +kernel
theorem dL_lockDue_27 : decode cL_lockDue 27 = .ok (.iload_n 1, 1) := by decide +kernel
theorem dL_lockDue_28 : decode cL_lockDue 28 = .ok (.imul, 1) := by decide +kernel
theorem dL_lockDue_29 : decode cL_lockDue 29 = .ok (.iaload, 1) := by decide +kernel
theorem dL_lockDue_30 : decode cL_lockDue 30 = .ok (.istore 6, 2) := by decide +kernel
theorem dL_lockDue_32 : decode cL_lockDue 32 = .ok (.iload_n 0, 1) := by decide +kernel
theorem dL_lockDue_33 : decode cL_lockDue 33 = .ok (.bipush 6, 2) := by decide +kernel
theorem dL_lockDue_35 : decode cL_lockDue 35 = .ok (.if_icmp .ne 13, 3) := by decide +kernel
theorem dL_lockDue_38 : decode cL_lockDue 38 = .ok (.aload 5, 2) := by decide +kernel
theorem dL_lockDue_40 : decode cL_lockDue 40 = .ok (.iconst 4, 1) := by decide +kernel
theorem dL_lockDue_41 : decode cL_lockDue 41 = .ok (.iload_n 1, 1) := by decide +kernel
theorem dL_lockDue_42 : decode cL_lockDue 42 = .ok (.imul, 1) := by decide +kernel
theorem dL_lockDue_43 : decode cL_lockDue 43 = .ok (.iload_n 2, 1) := by decide +kernel
theorem dL_lockDue_44 : decode cL_lockDue 44 = .ok (.iastore, 1) := by decide +kernel
theorem dL_lockDue_45 : decode cL_lockDue 45 = .ok (.iload 6, 2) := by decide +kernel
theorem dL_lockDue_47 : decode cL_lockDue 47 = .ok (.ireturn, 1) := by decide +kernel
theorem dL_lockDue_48 : decode cL_lockDue 48 = .ok (.iload 6, 2) := by decide +kernel
theorem dL_lockDue_50 : decode cL_lockDue 50 = .ok (.ifCond .ge 6, 3) := by decide +kernel
theorem dL_lockDue_53 : decode cL_lockDue 53 = .ok (.bipush (-103), 2) := by decide +kernel
theorem dL_lockDue_55 : decode cL_lockDue 55 = .ok (.ireturn, 1) := by decide +kernel
theorem dL_lockDue_56 : decode cL_lockDue 56 = .ok (.iload_n 0, 1) := by decide +kernel
theorem dL_lockDue_57 : decode cL_lockDue 57 = .ok (.bipush 7, 2) := by decide +kernel
theorem dL_lockDue_59 : decode cL_lockDue 59 = .ok (.if_icmp .ne 25, 3) := by decide +kernel
theorem dL_lockDue_62 : decode cL_lockDue 62 = .ok (.aload 5, 2) := by decide +kernel
theorem dL_lockDue_64 : decode cL_lockDue 64 = .ok (.iconst 4, 1) := by decide +kernel
theorem dL_lockDue_65 : decode cL_lockDue 65 = .ok (.iload_n 1, 1) := by decide +kernel
theorem dL_lockDue_66 : decode cL_lockDue 66 = .ok (.imul, 1) := by decide +kernel
theorem dL_lockDue_67 : decode cL_lockDue 67 = .ok (.iconst 1, 1) := by decide +kernel
theorem dL_lockDue_68 : decode cL_lockDue 68 = .ok (.iadd, 1) := by decide +kernel
theorem dL_lockDue_69 : decode cL_lockDue 69 = .ok (.iaload, 1) := by decide +kernel
theorem dL_lockDue_70 : decode cL_lockDue 70 = .ok (.istore 6, 2) := by decide +kernel
theorem dL_lockDue_72 : decode cL_lockDue 72 = .ok (.aload 5, 2) := by decide +kernel
theorem dL_lockDue_74 : decode cL_lockDue 74 = .ok (.iconst 4, 1) := by decide +kernel
theorem dL_lockDue_75 : decode cL_lockDue 75 = .ok (.iload_n 1, 1) := by decide +kernel
theorem dL_lockDue_76 : decode cL_lockDue 76 = .ok (.imul, 1) := by decide +kernel
theorem dL_lockDue_77 : decode cL_lockDue 77 = .ok (.iconst 1, 1) := by decide +kernel
theorem dL_lockDue_78 : decode cL_lockDue 78 = .ok (.iadd, 1) := by decide +kernel
theorem dL_lockDue_79 : decode cL_lockDue 79 = .ok (.iload_n 2, 1) := by decide +kernel
theorem dL_lockDue_80 : decode cL_lockDue 80 = .ok (.iastore, 1) := by decide +kernel
theorem dL_lockDue_81 : decode cL_lockDue 81 = .ok (.iload 6, 2) := by decide +kernel
theorem dL_lockDue_83 : decode cL_lockDue 83 = .ok (.ireturn, 1) := by decide +kernel
theorem dL_lockDue_84 : decode cL_lockDue 84 = .ok (.iconst 0, 1) := by decide +kernel
theorem dL_lockDue_85 : decode cL_lockDue 85 = .ok (.istore 7, 2) := by decide +kernel
theorem dL_lockDue_87 : decode cL_lockDue 87 = .ok (.iconst 0, 1) := by decide +kernel
theorem dL_lockDue_88 : decode cL_lockDue 88 = .ok (.istore 8, 2) := by decide +kernel
theorem dL_lockDue_90 : decode cL_lockDue 90 = .ok (.iload 8, 2) := by decide +kernel
theorem dL_lockDue_92 : decode cL_lockDue 92 = .ok (.aload_n 3, 1) := by decide +kernel
theorem dL_lockDue_93 : decode cL_lockDue 93 = .ok (.iconst 0, 1) := by decide +kernel
theorem dL_lockDue_94 : decode cL_lockDue 94 = .ok (.iaload, 1) := by decide +kernel
theorem dL_lockDue_95 : decode cL_lockDue 95 = .ok (.if_icmp .ge 36, 3) := by decide +kernel
theorem dL_lockDue_98 : decode cL_lockDue 98 = .ok (.iload 7, 2) := by decide +kernel
theorem dL_lockDue_100 : decode cL_lockDue 100 = .ok (.aload 4, 2) := by decide +kernel
theorem dL_lockDue_102 : decode cL_lockDue 102 = .ok (.bipush 6, 2) := by decide +kernel
theorem dL_lockDue_104 : decode cL_lockDue 104 = .ok (.iload 8, 2) := by decide +kernel
theorem dL_lockDue_106 : decode cL_lockDue 106 = .ok (.imul, 1) := by decide +kernel
theorem dL_lockDue_107 : decode cL_lockDue 107 = .ok (.iaload, 1) := by decide +kernel
theorem dL_lockDue_108 : decode cL_lockDue 108 = .ok (.iload_n 1, 1) := by decide +kernel
theorem dL_lockDue_109 : decode cL_lockDue 109 = .ok (.aload 5, 2) := by decide +kernel
theorem dL_lockDue_111 : decode cL_lockDue 111 = .ok (.invokestatic 106, 3) := by decide +kernel
theorem dL_lockDue_114 : decode cL_lockDue 114 = .ok (.ifCond .eq 7, 3) := by decide +kernel
theorem dL_lockDue_117 : decode cL_lockDue 117 = .ok (.iconst 1, 1) := by decide +kernel
theorem dL_lockDue_118 : decode cL_lockDue 118 = .ok (.goto 4, 3) := by decide +kernel
theorem dL_lockDue_121 : decode cL_lockDue 121 = .ok (.iconst 0, 1) := by decide +kernel
theorem dL_lockDue_122 : decode cL_lockDue 122 = .ok (.iadd, 1) := by decide +kernel
theorem dL_lockDue_123 : decode cL_lockDue 123 = .ok (.istore 7, 2) := by decide +kernel
theorem dL_lockDue_125 : decode cL_lockDue 125 = .ok (.iinc 8 1, 3) := by decide +kernel
theorem dL_lockDue_128 : decode cL_lockDue 128 = .ok (.goto (-38), 3) := by decide +kernel
theorem dL_lockDue_131 : decode cL_lockDue 131 = .ok (.iconst 0, 1) := by decide +kernel
theorem dL_lockDue_132 : decode cL_lockDue 132 = .ok (.istore 8, 2) := by decide +kernel
theorem dL_lockDue_134 : decode cL_lockDue 134 = .ok (.iload 8, 2) := by decide +kernel
theorem dL_lockDue_136 : decode cL_lockDue 136 = .ok (.iconst 4, 1) := by decide +kernel
theorem dL_lockDue_137 : decode cL_lockDue 137 = .ok (.if_icmp .ge 29, 3) := by decide +kernel
theorem dL_lockDue_140 : decode cL_lockDue 140 = .ok (.aload 5, 2) := by decide +kernel
theorem dL_lockDue_142 : decode cL_lockDue 142 = .ok (.iconst 4, 1) := by decide +kernel
theorem dL_lockDue_143 : decode cL_lockDue 143 = .ok (.iload_n 1, 1) := by decide +kernel
theorem dL_lockDue_144 : decode cL_lockDue 144 = .ok (.imul, 1) := by decide +kernel
theorem dL_lockDue_145 : decode cL_lockDue 145 = .ok (.iload 8, 2) := by decide +kernel
theorem dL_lockDue_147 : decode cL_lockDue 147 = .ok (.iadd, 1) := by decide +kernel
theorem dL_lockDue_148 : decode cL_lockDue 148 = .ok (.iload 8, 2) := by decide +kernel
theorem dL_lockDue_150 : decode cL_lockDue 150 = .ok (.iconst 2, 1) := by decide +kernel
theorem dL_lockDue_151 : decode cL_lockDue 151 = .ok (.if_icmp .ge 7, 3) := by decide +kernel
theorem dL_lockDue_154 : decode cL_lockDue 154 = .ok (.iconst (-1), 1) := by decide +kernel
theorem dL_lockDue_155 : decode cL_lockDue 155 = .ok (.goto 4, 3) := by decide +kernel
theorem dL_lockDue_158 : decode cL_lockDue 158 = .ok (.iconst 0, 1) := by decide +kernel
theorem dL_lockDue_159 : decode cL_lockDue 159 = .ok (.iastore, 1) := by decide +kernel
theorem dL_lockDue_160 : decode cL_lockDue 160 = .ok (.iinc 8 1, 3) := by decide +kernel
theorem dL_lockDue_163 : decode cL_lockDue 163 = .ok (.goto (-29), 3) := by decide +kernel
theorem dL_lockDue_166 : decode cL_lockDue 166 = .ok (.iload 7, 2) := by decide +kernel
theorem dL_lockDue_168 : decode cL_lockDue 168 = .ok (.ireturn, 1) := by decide +kernel
theorem dL_isKey_0 : decode cL_isKey 0 = .ok (.iconst 0, 1) := by decide +kernel
theorem dL_isKey_1 : decode cL_isKey 1 = .ok (.istore 5, 2) := by decide +kernel
theorem dL_isKey_3 : decode cL_isKey 3 = .ok (.iconst 0, 1) := by decide +kernel
theorem dL_isKey_4 : decode cL_isKey 4 = .ok (.istore 6, 2) := by decide +kernel
theorem dL_isKey_6 : decode cL_isKey 6 = .ok (.iconst 0, 1) := by decide +kernel
theorem dL_isKey_7 : decode cL_isKey 7 = .ok (.istore 7, 2) := by decide +kernel
theorem dL_isKey_9 : decode cL_isKey 9 = .ok (.iload 7, 2) := by decide +kernel
theorem dL_isKey_11 : decode cL_isKey 11 = .ok (.aload_n 2, 1) := by decide +kernel
theorem dL_isKey_12 : decode cL_isKey 12 = .ok (.iconst 0, 1) := by decide +kernel
theorem dL_isKey_13 : decode cL_isKey 13 = .ok (.iaload, 1) := by decide +kernel
theorem dL_isKey_14 : decode cL_isKey 14 = .ok (.if_icmp .ge 65, 3) := by decide +kernel
theorem dL_isKey_17 : decode cL_isKey 17 = .ok (.aload_n 3, 1) := by decide +kernel
theorem dL_isKey_18 : decode cL_isKey 18 = .ok (.bipush 6, 2) := by decide +kernel
theorem dL_isKey_20 : decode cL_isKey 20 = .ok (.iload_n 1, 1) := by decide +kernel
theorem dL_isKey_21 : decode cL_isKey 21 = .ok (.imul, 1) := by decide +kernel
theorem dL_isKey_22 : decode cL_isKey 22 = .ok (.iaload, 1) := by decide +kernel
theorem dL_isKey_23 : decode cL_isKey 23 = .ok (.aload_n 3, 1) := by decide +kernel
theorem dL_isKey_24 : decode cL_isKey 24 = .ok (.bipush 6, 2) := by decide +kernel
theorem dL_isKey_26 : decode cL_isKey 26 = .ok (.iload 7, 2) := by decide +kernel
theorem dL_isKey_28 : decode cL_isKey 28 = .ok (.imul, 1) := by decide +kernel
theorem dL_isKey_29 : decode cL_isKey 29 = .ok (.iaload, 1) := by decide +kernel
theorem dL_isKey_30 : decode cL_isKey 30 = .ok (.invokestatic 92, 3) := by decide +kernel
theorem dL_isKey_33 : decode cL_isKey 33 = .ok (.istore 8, 2) := by decide +kernel
theorem dL_isKey_35 : decode cL_isKey 35 = .ok (.iload 5, 2) := by decide +kernel
theorem dL_isKey_37 : decode cL_isKey 37 = .ok (.iload 8, 2) := by decide +kernel
theorem dL_isKey_39 : decode cL_isKey 39 = .ok (.iconst 4, 1) := by decide +kernel
theorem dL_isKey_40 : decode cL_isKey 40 = .ok (.if_icmp .ne 10, 3) := by decide +kernel
theorem dL_isKey_43 : decode cL_isKey 43 = .ok (.iconst 1, 1) := by decide +kernel
theorem dL_isKey_44 : decode cL_isKey 44 = .ok (.iload 7, 2) := by decide +kernel
theorem dL_isKey_46 : decode cL_isKey 46 = .ok (.ishl, 1) := by decide +kernel
theorem dL_isKey_47 : decode cL_isKey 47 = .ok (.goto 4, 3) := by decide +kernel
theorem dL_isKey_50 : decode cL_isKey 50 = .ok (.iconst 0, 1) := by decide +kernel
theorem dL_isKey_51 : decode cL_isKey 51 = .ok (.ior, 1) := by decide +kernel
theorem dL_isKey_52 : decode cL_isKey 52 = .ok (.istore 5, 2) := by decide +kernel
theorem dL_isKey_54 : decode cL_isKey 54 = .ok (.iload 6, 2) := by decide +kernel
theorem dL_isKey_56 : decode cL_isKey 56 = .ok (.iload 8, 2) := by decide +kernel
theorem dL_isKey_58 : decode cL_isKey 58 = .ok (.iconst 5, 1) := by decide +kernel
theorem dL_isKey_59 : decode cL_isKey 59 = .ok (.if_icmp .ne 10, 3) := by decide +kernel
theorem dL_isKey_62 : decode cL_isKey 62 = .ok (.iconst 1, 1) := by decide +kernel
theorem dL_isKey_63 : decode cL_isKey 63 = .ok (.iload 7, 2) := by decide +kernel
theorem dL_isKey_65 : decode cL_isKey 65 = .ok (.ishl, 1) := by decide +kernel
theorem dL_isKey_66 : decode cL_isKey 66 = .ok (.goto 4, 3) := by decide +kernel
theorem dL_isKey_69 : decode cL_isKey 69 = .ok (.iconst 0, 1) := by decide +kernel
theorem dL_isKey_70 : decode cL_isKey 70 = .ok (.ior, 1) := by decide +kernel
theorem dL_isKey_71 : decode cL_isKey 71 = .ok (.istore 6, 2) := by decide +kernel
theorem dL_isKey_73 : decode cL_isKey 73 = .ok (.iinc 7 1, 3) := by decide +kernel
theorem dL_isKey_76 : decode cL_isKey 76 = .ok (.goto (-67), 3) := by decide +kernel
theorem dL_isKey_79 : decode cL_isKey 79 = .ok (.aload_n 0, 1) := by decide +kernel
theorem dL_isKey_80 : decode cL_isKey 80 = .ok (.iload_n 1, 1) := by decide +kernel
theorem dL_isKey_81 : decode cL_isKey 81 = .ok (.iconst 0, 1) := by decide +kernel
theorem dL_isKey_82 : decode cL_isKey 82 = .ok (.invokestatic 117, 3) := by decide +kernel
theorem dL_isKey_85 : decode cL_isKey 85 = .ok (.aload_n 3, 1) := by decide +kernel
theorem dL_isKey_86 : decode cL_isKey 86 = .ok (.bipush 6, 2) := by decide +kernel
theorem dL_isKey_88 : decode cL_isKey 88 = .ok (.iload_n 1, 1) := by decide +kernel
theorem dL_isKey_89 : decode cL_isKey 89 = .ok (.imul, 1) := by decide +kernel
theorem dL_isKey_90 : decode cL_isKey 90 = .ok (.iaload, 1) := by decide +kernel
theorem dL_isKey_91 : decode cL_isKey 91 = .ok (.if_icmp .ne 156, 3) := by decide +kernel
theorem dL_isKey_94 : decode cL_isKey 94 = .ok (.aload_n 0, 1) := by decide +kernel
theorem dL_isKey_95 : decode cL_isKey 95 = .ok (.iload_n 1, 1) := by decide +kernel
theorem dL_isKey_96 : decode cL_isKey 96 = .ok (.iconst 1, 1) := by decide +kernel
theorem dL_isKey_97 : decode cL_isKey 97 = .ok (.invokestatic 117, 3) := by decide +kernel
theorem dL_isKey_100 : decode cL_isKey 100 = .ok (.aload_n 3, 1) := by decide +kernel
theorem dL_isKey_101 : decode cL_isKey 101 = .ok (.bipush 6, 2) := by decide +kernel
theorem dL_isKey_103 : decode cL_isKey 103 = .ok (.iload_n 1, 1) := by decide +kernel
theorem dL_isKey_104 : decode cL_isKey 104 = .ok (.imul, 1) := by decide +kernel
theorem dL_isKey_105 : decode cL_isKey 105 = .ok (.iaload, 1) := by decide +kernel
theorem dL_isKey_106 : decode cL_isKey 106 = .ok (.invokestatic 154, 3) := by decide +kernel
theorem dL_isKey_109 : decode cL_isKey 109 = .ok (.if_icmp .ne 138, 3) := by decide +kernel
theorem dL_isKey_112 : decode cL_isKey 112 = .ok (.aload_n 0, 1) := by decide +kernel
theorem dL_isKey_113 : decode cL_isKey 113 = .ok (.iload_n 1, 1) := by decide +kernel
theorem dL_isKey_114 : decode cL_isKey 114 = .ok (.iconst 2, 1) := by decide +kernel
theorem dL_isKey_115 : decode cL_isKey 115 = .ok (.invokestatic 117, 3) := by decide +kernel
theorem dL_isKey_118 : decode cL_isKey 118 = .ok (.aload_n 3, 1) := by decide +kernel
theorem dL_isKey_119 : decode cL_isKey 119 = .ok (.bipush 6, 2) := by decide +kernel
theorem dL_isKey_121 : decode cL_isKey 121 = .ok (.iload_n 1, 1) := by decide +kernel
theorem dL_isKey_122 : decode cL_isKey 122 = .ok (.imul, 1) := by decide +kernel
theorem dL_isKey_123 : decode cL_isKey 123 = .ok (.iconst 3, 1) := by decide +kernel
theorem dL_isKey_124 : decode cL_isKey 124 = .ok (.iadd, 1) := by decide +kernel
theorem dL_isKey_125 : decode cL_isKey 125 = .ok (.iaload, 1) := by decide +kernel
theorem dL_isKey_126 : decode cL_isKey 126 = .ok (.if_icmp .ne 121, 3) := by decide +kernel
theorem dL_isKey_129 : decode cL_isKey 129 = .ok (.aload_n 0, 1) := by decide +kernel
theorem dL_isKey_130 : decode cL_isKey 130 = .ok (.iload_n 1, 1) := by decide +kernel
theorem dL_isKey_131 : decode cL_isKey 131 = .ok (.iconst 3, 1) := by decide +kernel
theorem dL_isKey_132 : decode cL_isKey 132 = .ok (.invokestatic 117, 3) := by decide +kernel
theorem dL_isKey_135 : decode cL_isKey 135 = .ok (.aload_n 3, 1) := by decide +kernel
theorem dL_isKey_136 : decode cL_isKey 136 = .ok (.bipush 6, 2) := by decide +kernel
theorem dL_isKey_138 : decode cL_isKey 138 = .ok (.iload_n 1, 1) := by decide +kernel
theorem dL_isKey_139 : decode cL_isKey 139 = .ok (.imul, 1) := by decide +kernel
theorem dL_isKey_140 : decode cL_isKey 140 = .ok (.iconst 4, 1) := by decide +kernel
theorem dL_isKey_141 : decode cL_isKey 141 = .ok (.iadd, 1) := by decide +kernel
theorem dL_isKey_142 : decode cL_isKey 142 = .ok (.iaload, 1) := by decide +kernel
theorem dL_isKey_143 : decode cL_isKey 143 = .ok (.if_icmp .ne 104, 3) := by decide +kernel
theorem dL_isKey_146 : decode cL_isKey 146 = .ok (.aload_n 0, 1) := by decide +kernel
theorem dL_isKey_147 : decode cL_isKey 147 = .ok (.iload_n 1, 1) := by decide +kernel
theorem dL_isKey_148 : decode cL_isKey 148 = .ok (.iconst 4, 1) := by decide +kernel
theorem dL_isKey_149 : decode cL_isKey 149 = .ok (.invokestatic 117, 3) := by decide +kernel
theorem dL_isKey_152 : decode cL_isKey 152 = .ok (.aload_n 3, 1) := by decide +kernel
theorem dL_isKey_153 : decode cL_isKey 153 = .ok (.bipush 6, 2) := by decide +kernel
theorem dL_isKey_155 : decode cL_isKey 155 = .ok (.iload_n 1, 1) := by decide +kernel
theorem dL_isKey_156 : decode cL_isKey 156 = .ok (.imul, 1) := by decide +kernel
theorem dL_isKey_157 : decode cL_isKey 157 = .ok (.iconst 1, 1) := by decide +kernel
theorem dL_isKey_158 : decode cL_isKey 158 = .ok (.iadd, 1) := by decide +kernel
theorem dL_isKey_159 : decode cL_isKey 159 = .ok (.iaload, 1) := by decide +kernel
theorem dL_isKey_160 : decode cL_isKey 160 = .ok (.if_icmp .ne 87, 3) := by decide +kernel
theorem dL_isKey_163 : decode cL_isKey 163 = .ok (.aload_n 0, 1) := by decide +kernel
theorem dL_isKey_164 : decode cL_isKey 164 = .ok (.iload_n 1, 1) := by decide +kernel
theorem dL_isKey_165 : decode cL_isKey 165 = .ok (.iconst 5, 1) := by decide +kernel
theorem dL_isKey_166 : decode cL_isKey 166 = .ok (.invokestatic 117, 3) := by decide +kernel
theorem dL_isKey_169 : decode cL_isKey 169 = .ok (.aload_n 3, 1) := by decide +kernel
theorem dL_isKey_170 : decode cL_isKey 170 = .ok (.bipush 6, 2) := by decide +kernel
theorem dL_isKey_172 : decode cL_isKey 172 = .ok (.iload_n 1, 1) := by decide +kernel
theorem dL_isKey_173 : decode cL_isKey 173 = .ok (.imul, 1) := by decide +kernel
theorem dL_isKey_174 : decode cL_isKey 174 = .ok (.iconst 2, 1) := by decide +kernel
theorem dL_isKey_175 : decode cL_isKey 175 = .ok (.iadd, 1) := by decide +kernel
theorem dL_isKey_176 : decode cL_isKey 176 = .ok (.iaload, 1) := by decide +kernel
theorem dL_isKey_177 : decode cL_isKey 177 = .ok (.if_icmp .ne 70, 3) := by decide +kernel
theorem dL_isKey_180 : decode cL_isKey 180 = .ok (.aload_n 0, 1) := by decide +kernel
theorem dL_isKey_181 : decode cL_isKey 181 = .ok (.iload_n 1, 1) := by decide +kernel
theorem dL_isKey_182 : decode cL_isKey 182 = .ok (.bipush 6, 2) := by decide +kernel
theorem dL_isKey_184 : decode cL_isKey 184 = .ok (.invokestatic 117, 3) := by decide +kernel
theorem dL_isKey_187 : decode cL_isKey 187 = .ok (.aload_n 3, 1) := by decide +kernel
theorem dL_isKey_188 : decode cL_isKey 188 = .ok (.bipush 6, 2) := by decide +kernel
theorem dL_isKey_190 : decode cL_isKey 190 = .ok (.iload_n 1, 1) := by decide +kernel
theorem dL_isKey_191 : decode cL_isKey 191 = .ok (.imul, 1) := by decide +kernel
theorem dL_isKey_192 : decode cL_isKey 192 = .ok (.iaload, 1) := by decide +kernel
theorem dL_isKey_193 : decode cL_isKey 193 = .ok (.aload 4, 2) := by decide +kernel
theorem dL_isKey_195 : decode cL_isKey 195 = .ok (.invokestatic 164, 3) := by decide +kernel
theorem dL_isKey_198 : decode cL_isKey 198 = .ok (.if_icmp .ne 49, 3) := by decide +kernel
theorem dL_isKey_201 : decode cL_isKey 201 = .ok (.aload_n 0, 1) := by decide +kernel
theorem dL_isKey_202 : decode cL_isKey 202 = .ok (.iload_n 1, 1) := by decide +kernel
theorem dL_isKey_203 : decode cL_isKey 203 = .ok (.bipush 7, 2) := by decide +kernel
theorem dL_isKey_205 : decode cL_isKey 205 = .ok (.invokestatic 117, 3) := by decide +kernel
theorem dL_isKey_208 : decode cL_isKey 208 = .ok (.iload 5, 2) := by decide +kernel
theorem dL_isKey_210 : decode cL_isKey 210 = .ok (.if_icmp .ne 37, 3) := by decide +kernel
theorem dL_isKey_213 : decode cL_isKey 213 = .ok (.aload_n 0, 1) := by decide +kernel
theorem dL_isKey_214 : decode cL_isKey 214 = .ok (.iload_n 1, 1) := by decide +kernel
theorem dL_isKey_215 : decode cL_isKey 215 = .ok (.bipush 8, 2) := by decide +kernel
theorem dL_isKey_217 : decode cL_isKey 217 = .ok (.invokestatic 117, 3) := by decide +kernel
theorem dL_isKey_220 : decode cL_isKey 220 = .ok (.iload 6, 2) := by decide +kernel
theorem dL_isKey_222 : decode cL_isKey 222 = .ok (.if_icmp .ne 25, 3) := by decide +kernel
theorem dL_isKey_225 : decode cL_isKey 225 = .ok (.aload_n 0, 1) := by decide +kernel
theorem dL_isKey_226 : decode cL_isKey 226 = .ok (.iload_n 1, 1) := by decide +kernel
theorem dL_isKey_227 : decode cL_isKey 227 = .ok (.bipush 9, 2) := by decide +kernel
theorem dL_isKey_229 : decode cL_isKey 229 = .ok (.invokestatic 117, 3) := by decide +kernel
theorem dL_isKey_232 : decode cL_isKey 232 = .ok (.aload_n 3, 1) := by decide +kernel
theorem dL_isKey_233 : decode cL_isKey 233 = .ok (.bipush 6, 2) := by decide +kernel
theorem dL_isKey_235 : decode cL_isKey 235 = .ok (.iload_n 1, 1) := by decide +kernel
theorem dL_isKey_236 : decode cL_isKey 236 = .ok (.imul, 1) := by decide +kernel
theorem dL_isKey_237 : decode cL_isKey 237 = .ok (.iconst 5, 1) := by decide +kernel
theorem dL_isKey_238 : decode cL_isKey 238 = .ok (.iadd, 1) := by decide +kernel
theorem dL_isKey_239 : decode cL_isKey 239 = .ok (.iaload, 1) := by decide +kernel
theorem dL_isKey_240 : decode cL_isKey 240 = .ok (.if_icmp .ne 7, 3) := by decide +kernel
theorem dL_isKey_243 : decode cL_isKey 243 = .ok (.iconst 1, 1) := by decide +kernel
theorem dL_isKey_244 : decode cL_isKey 244 = .ok (.goto 4, 3) := by decide +kernel
theorem dL_isKey_247 : decode cL_isKey 247 = .ok (.iconst 0, 1) := by decide +kernel
theorem dL_isKey_248 : decode cL_isKey 248 = .ok (.istore 7, 2) := by decide +kernel
theorem dL_isKey_250 : decode cL_isKey 250 = .ok (.iconst 0, 1) := by decide +kernel
theorem dL_isKey_251 : decode cL_isKey 251 = .ok (.istore 8, 2) := by decide +kernel
theorem dL_isKey_253 : decode cL_isKey 253 = .ok (.iload 8, 2) := by decide +kernel
theorem dL_isKey_255 : decode cL_isKey 255 = .ok (.iconst 4, 1) := by decide +kernel
theorem dL_isKey_256 : decode cL_isKey 256 = .ok (.if_icmp .ge 39, 3) := by decide +kernel
theorem dL_isKey_259 : decode cL_isKey 259 = .ok (.iload 7, 2) := by decide +kernel
theorem dL_isKey_261 : decode cL_isKey 261 = .ok (.ifCond .eq 25, 3) := by decide +kernel
theorem dL_isKey_264 : decode cL_isKey 264 = .ok (.aload_n 0, 1) := by decide +kernel
theorem dL_isKey_265 : decode cL_isKey 265 = .ok (.iload_n 1, 1) := by decide +kernel
theorem dL_isKey_266 : decode cL_isKey 266 = .ok (.iload 8, 2) := by decide +kernel
theorem dL_isKey_268 : decode cL_isKey 268 = .ok (.invokestatic 171, 3) := by decide +kernel
theorem dL_isKey_271 : decode cL_isKey 271 = .ok (.iload_n 1, 1) := by decide +kernel
theorem dL_isKey_272 : decode cL_isKey 272 = .ok (.iload 8, 2) := by decide +kernel
theorem dL_isKey_274 : decode cL_isKey 274 = .ok (.aload_n 2, 1) := by decide +kernel
theorem dL_isKey_275 : decode cL_isKey 275 = .ok (.aload_n 3, 1) := by decide +kernel
theorem dL_isKey_276 : decode cL_isKey 276 = .ok (.invokestatic 157, 3) := by decide +kernel
theorem dL_isKey_279 : decode cL_isKey 279 = .ok (.if_icmp .ne 7, 3) := by decide +kernel
theorem dL_isKey_282 : decode cL_isKey 282 = .ok (.iconst 1, 1) := by decide +kernel
theorem dL_isKey_283 : decode cL_isKey 283 = .ok (.goto 4, 3) := by decide +kernel
theorem dL_isKey_286 : decode cL_isKey 286 = .ok (.iconst 0, 1) := by decide +kernel
theorem dL_isKey_287 : decode cL_isKey 287 = .ok (.istore 7, 2) := by decide +kernel
theorem dL_isKey_289 : decode cL_isKey 289 = .ok (.iinc 8 1, 3) := by decide +kernel
theorem dL_isKey_292 : decode cL_isKey 292 = .ok (.goto (-39), 3) := by decide +kernel
theorem dL_isKey_295 : decode cL_isKey 295 = .ok (.iload 7, 2) := by decide +kernel
theorem dL_isKey_297 : decode cL_isKey 297 = .ok (.ireturn, 1) := by decide +kernel
theorem dL_isLock_0 : decode cL_isLock 0 = .ok (.aload 4, 2) := by decide +kernel
theorem dL_isLock_2 : decode cL_isLock 2 = .ok (.iconst 4, 1) := by decide +kernel
theorem dL_isLock_3 : decode cL_isLock 3 = .ok (.iload_n 1, 1) := by decide +kernel
theorem dL_isLock_4 : decode cL_isLock 4 = .ok (.imul, 1) := by decide +kernel
theorem dL_isLock_5 : decode cL_isLock 5 = .ok (.iaload, 1) := by decide +kernel
theorem dL_isLock_6 : decode cL_isLock 6 = .ok (.ifCond .ge 39, 3) := by decide +kernel
theorem dL_isLock_9 : decode cL_isLock 9 = .ok (.aload_n 0, 1) := by decide +kernel
theorem dL_isLock_10 : decode cL_isLock 10 = .ok (.iload_n 1, 1) := by decide +kernel
theorem dL_isLock_11 : decode cL_isLock 11 = .ok (.iconst 0, 1) := by decide +kernel
theorem dL_isLock_12 : decode cL_isLock 12 = .ok (.invokestatic 124, 3) := by decide +kernel
theorem dL_isLock_15 : decode cL_isLock 15 = .ok (.iconst (-1), 1) := by decide +kernel
theorem dL_isLock_16 : decode cL_isLock 16 = .ok (.if_icmp .ne 27, 3) := by decide +kernel
theorem dL_isLock_19 : decode cL_isLock 19 = .ok (.aload_n 0, 1) := by decide +kernel
theorem dL_isLock_20 : decode cL_isLock 20 = .ok (.iload_n 1, 1) := by decide +kernel
theorem dL_isLock_21 : decode cL_isLock 21 = .ok (.iconst 2, 1) := by decide +kernel
theorem dL_isLock_22 : decode cL_isLock 22 = .ok (.invokestatic 124, 3) := by decide +kernel
theorem dL_isLock_25 : decode cL_isLock 25 = .ok (.iconst (-1), 1) := by decide +kernel
theorem dL_isLock_26 : decode cL_isLock 26 = .ok (.if_icmp .ne 17, 3) := by decide +kernel
theorem dL_isLock_29 : decode cL_isLock 29 = .ok (.aload_n 0, 1) := by decide +kernel
theorem dL_isLock_30 : decode cL_isLock 30 = .ok (.iload_n 1, 1) := by decide +kernel
theorem dL_isLock_31 : decode cL_isLock 31 = .ok (.iconst 5, 1) := by decide +kernel
theorem dL_isLock_32 : decode cL_isLock 32 = .ok (.invokestatic 124, 3) := by decide +kernel
theorem dL_isLock_35 : decode cL_isLock 35 = .ok (.iconst (-1), 1) := by decide +kernel
theorem dL_isLock_36 : decode cL_isLock 36 = .ok (.if_icmp .ne 7, 3) := by decide +kernel
theorem dL_isLock_39 : decode cL_isLock 39 = .ok (.iconst 1, 1) := by decide +kernel
theorem dL_isLock_40 : decode cL_isLock 40 = .ok (.goto 4, 3) := by decide +kernel
theorem dL_isLock_43 : decode cL_isLock 43 = .ok (.iconst 0, 1) := by decide +kernel
theorem dL_isLock_44 : decode cL_isLock 44 = .ok (.ireturn, 1) := by decide +kernel
theorem dL_isLock_45 : decode cL_isLock 45 = .ok (.iconst 0, 1) := by decide +kernel
theorem dL_isLock_46 : decode cL_isLock 46 = .ok (.istore 5, 2) := by decide +kernel
theorem dL_isLock_48 : decode cL_isLock 48 = .ok (.iconst 0, 1) := by decide +kernel
theorem dL_isLock_49 : decode cL_isLock 49 = .ok (.istore 6, 2) := by decide +kernel
theorem dL_isLock_51 : decode cL_isLock 51 = .ok (.iconst 0, 1) := by decide +kernel
theorem dL_isLock_52 : decode cL_isLock 52 = .ok (.istore 7, 2) := by decide +kernel
theorem dL_isLock_54 : decode cL_isLock 54 = .ok (.iload 7, 2) := by decide +kernel
theorem dL_isLock_56 : decode cL_isLock 56 = .ok (.aload_n 2, 1) := by decide +kernel
theorem dL_isLock_57 : decode cL_isLock 57 = .ok (.iconst 0, 1) := by decide +kernel
theorem dL_isLock_58 : decode cL_isLock 58 = .ok (.iaload, 1) := by decide +kernel
theorem dL_isLock_59 : decode cL_isLock 59 = .ok (.if_icmp .ge 85, 3) := by decide +kernel
theorem dL_isLock_62 : decode cL_isLock 62 = .ok (.aload_n 3, 1) := by decide +kernel
theorem dL_isLock_63 : decode cL_isLock 63 = .ok (.bipush 6, 2) := by decide +kernel
theorem dL_isLock_65 : decode cL_isLock 65 = .ok (.iload 7, 2) := by decide +kernel
theorem dL_isLock_67 : decode cL_isLock 67 = .ok (.imul, 1) := by decide +kernel
theorem dL_isLock_68 : decode cL_isLock 68 = .ok (.iaload, 1) := by decide +kernel
theorem dL_isLock_69 : decode cL_isLock 69 = .ok (.iload_n 1, 1) := by decide +kernel
theorem dL_isLock_70 : decode cL_isLock 70 = .ok (.aload 4, 2) := by decide +kernel
theorem dL_isLock_72 : decode cL_isLock 72 = .ok (.invokestatic 106, 3) := by decide +kernel
theorem dL_isLock_75 : decode cL_isLock 75 = .ok (.istore 8, 2) := by decide +kernel
theorem dL_isLock_77 : decode cL_isLock 77 = .ok (.iload 5, 2) := by decide +kernel
theorem dL_isLock_79 : decode cL_isLock 79 = .ok (.iload 8, 2) := by decide +kernel
theorem dL_isLock_81 : decode cL_isLock 81 = .ok (.ifCond .eq 10, 3) := by decide +kernel
theorem dL_isLock_84 : decode cL_isLock 84 = .ok (.iconst 1, 1) := by decide +kernel
theorem dL_isLock_85 : decode cL_isLock 85 = .ok (.iload 7, 2) := by decide +kernel
theorem dL_isLock_87 : decode cL_isLock 87 = .ok (.ishl, 1) := by decide +kernel
theorem dL_isLock_88 : decode cL_isLock 88 = .ok (.goto 4, 3) := by decide +kernel
theorem dL_isLock_91 : decode cL_isLock 91 = .ok (.iconst 0, 1) := by decide +kernel
theorem dL_isLock_92 : decode cL_isLock 92 = .ok (.ior, 1) := by decide +kernel
theorem dL_isLock_93 : decode cL_isLock 93 = .ok (.istore 5, 2) := by decide +kernel
theorem dL_isLock_95 : decode cL_isLock 95 = .ok (.iload 6, 2) := by decide +kernel
theorem dL_isLock_97 : decode cL_isLock 97 = .ok (.iload 8, 2) := by decide +kernel
theorem dL_isLock_99 : decode cL_isLock 99 = .ok (.ifCond .ne 7, 3) := by decide +kernel
theorem dL_isLock_102 : decode cL_isLock 102 = .ok (.iconst 0, 1) := by decide +kernel
theorem dL_isLock_103 : decode cL_isLock 103 = .ok (.goto 32, 3) := by decide +kernel
theorem dL_isLock_106 : decode cL_isLock 106 = .ok (.aload_n 3, 1) := by decide +kernel
theorem dL_isLock_107 : decode cL_isLock 107 = .ok (.bipush 6, 2) := by decide +kernel
theorem dL_isLock_109 : decode cL_isLock 109 = .ok (.iload 7, 2) := by decide +kernel
theorem dL_isLock_111 : decode cL_isLock 111 = .ok (.imul, 1) := by decide +kernel
theorem dL_isLock_112 : decode cL_isLock 112 = .ok (.iconst 2, 1) := by decide +kernel
theorem dL_isLock_113 : decode cL_isLock 113 = .ok (.iadd, 1) := by decide +kernel
theorem dL_isLock_114 : decode cL_isLock 114 = .ok (.iaload, 1) := by decide +kernel
theorem dL_isLock_115 : decode cL_isLock 115 = .ok (.iconst 1, 1) := by decide +kernel
theorem dL_isLock_116 : decode cL_isLock 116 = .ok (.if_icmp .ne 8, 3) := by decide +kernel
theorem dL_isLock_119 : decode cL_isLock 119 = .ok (.bipush 16, 2) := by decide +kernel
theorem dL_isLock_121 : decode cL_isLock 121 = .ok (.goto 14, 3) := by decide +kernel
theorem dL_isLock_124 : decode cL_isLock 124 = .ok (.iconst 1, 1) := by decide +kernel
theorem dL_isLock_125 : decode cL_isLock 125 = .ok (.aload_n 3, 1) := by decide +kernel
theorem dL_isLock_126 : decode cL_isLock 126 = .ok (.bipush 6, 2) := by decide +kernel
theorem dL_isLock_128 : decode cL_isLock 128 = .ok (.iload 7, 2) := by decide +kernel
theorem dL_isLock_130 : decode cL_isLock 130 = .ok (.imul, 1) := by decide +kernel
theorem dL_isLock_131 : decode cL_isLock 131 = .ok (.iconst 1, 1) := by decide +kernel
theorem dL_isLock_132 : decode cL_isLock 132 = .ok (.iadd, 1) := by decide +kernel
theorem dL_isLock_133 : decode cL_isLock 133 = .ok (.iaload, 1) := by decide +kernel
theorem dL_isLock_134 : decode cL_isLock 134 = .ok (.ishl, 1) := by decide +kernel
theorem dL_isLock_135 : decode cL_isLock 135 = .ok (.ior, 1) := by decide +kernel
theorem dL_isLock_136 : decode cL_isLock 136 = .ok (.istore 6, 2) := by decide +kernel
theorem dL_isLock_138 : decode cL_isLock 138 = .ok (.iinc 7 1, 3) := by decide +kernel
theorem dL_isLock_141 : decode cL_isLock 141 = .ok (.goto (-87), 3) := by decide +kernel
theorem dL_isLock_144 : decode cL_isLock 144 = .ok (.aload_n 0, 1) := by decide +kernel
theorem dL_isLock_145 : decode cL_isLock 145 = .ok (.iload_n 1, 1) := by decide +kernel
theorem dL_isLock_146 : decode cL_isLock 146 = .ok (.iconst 0, 1) := by decide +kernel
theorem dL_isLock_147 : decode cL_isLock 147 = .ok (.invokestatic 124, 3) := by decide +kernel
theorem dL_isLock_150 : decode cL_isLock 150 = .ok (.aload 4, 2) := by decide +kernel
theorem dL_isLock_152 : decode cL_isLock 152 = .ok (.iconst 4, 1) := by decide +kernel
theorem dL_isLock_153 : decode cL_isLock 153 = .ok (.iload_n 1, 1) := by decide +kernel
theorem dL_isLock_154 : decode cL_isLock 154 = .ok (.imul, 1) := by decide +kernel
theorem dL_isLock_155 : decode cL_isLock 155 = .ok (.iaload, 1) := by decide +kernel
theorem dL_isLock_156 : decode cL_isLock 156 = .ok (.if_icmp .ne 80, 3) := by decide +kernel
theorem dL_isLock_159 : decode cL_isLock 159 = .ok (.aload_n 0, 1) := by decide +kernel
theorem dL_isLock_160 : decode cL_isLock 160 = .ok (.iload_n 1, 1) := by decide +kernel
theorem dL_isLock_161 : decode cL_isLock 161 = .ok (.iconst 1, 1) := by decide +kernel
theorem dL_isLock_162 : decode cL_isLock 162 = .ok (.invokestatic 124, 3) := by decide +kernel
theorem dL_isLock_165 : decode cL_isLock 165 = .ok (.aload 4, 2) := by decide +kernel
theorem dL_isLock_167 : decode cL_isLock 167 = .ok (.iconst 4, 1) := by decide +kernel
theorem dL_isLock_168 : decode cL_isLock 168 = .ok (.iload_n 1, 1) := by decide +kernel
theorem dL_isLock_169 : decode cL_isLock 169 = .ok (.imul, 1) := by decide +kernel
theorem dL_isLock_170 : decode cL_isLock 170 = .ok (.iconst 1, 1) := by decide +kernel
theorem dL_isLock_171 : decode cL_isLock 171 = .ok (.iadd, 1) := by decide +kernel
theorem dL_isLock_172 : decode cL_isLock 172 = .ok (.iaload, 1) := by decide +kernel
theorem dL_isLock_173 : decode cL_isLock 173 = .ok (.if_icmp .ne 63, 3) := by decide +kernel
theorem dL_isLock_176 : decode cL_isLock 176 = .ok (.aload_n 0, 1) := by decide +kernel
theorem dL_isLock_177 : decode cL_isLock 177 = .ok (.iload_n 1, 1) := by decide +kernel
theorem dL_isLock_178 : decode cL_isLock 178 = .ok (.iconst 2, 1) := by decide +kernel
theorem dL_isLock_179 : decode cL_isLock 179 = .ok (.invokestatic 124, 3) := by decide +kernel
theorem dL_isLock_182 : decode cL_isLock 182 = .ok (.iload 5, 2) := by decide +kernel
theorem dL_isLock_184 : decode cL_isLock 184 = .ok (.if_icmp .ne 52, 3) := by decide +kernel
theorem dL_isLock_187 : decode cL_isLock 187 = .ok (.aload_n 0, 1) := by decide +kernel
theorem dL_isLock_188 : decode cL_isLock 188 = .ok (.iload_n 1, 1) := by decide +kernel
theorem dL_isLock_189 : decode cL_isLock 189 = .ok (.iconst 3, 1) := by decide +kernel
theorem dL_isLock_190 : decode cL_isLock 190 = .ok (.invokestatic 124, 3) := by decide +kernel
theorem dL_isLock_193 : decode cL_isLock 193 = .ok (.aload 4, 2) := by decide +kernel
theorem dL_isLock_195 : decode cL_isLock 195 = .ok (.iconst 4, 1) := by decide +kernel
theorem dL_isLock_196 : decode cL_isLock 196 = .ok (.iload_n 1, 1) := by decide +kernel
theorem dL_isLock_197 : decode cL_isLock 197 = .ok (.imul, 1) := by decide +kernel
theorem dL_isLock_198 : decode cL_isLock 198 = .ok (.iconst 2, 1) := by decide +kernel
theorem dL_isLock_199 : decode cL_isLock 199 = .ok (.iadd, 1) := by decide +kernel
theorem dL_isLock_200 : decode cL_isLock 200 = .ok (.iaload, 1) := by decide +kernel
theorem dL_isLock_201 : decode cL_isLock 201 = .ok (.if_icmp .ne 35, 3) := by decide +kernel
theorem dL_isLock_204 : decode cL_isLock 204 = .ok (.aload_n 0, 1) := by decide +kernel
theorem dL_isLock_205 : decode cL_isLock 205 = .ok (.iload_n 1, 1) := by decide +kernel
theorem dL_isLock_206 : decode cL_isLock 206 = .ok (.iconst 4, 1) := by decide +kernel
theorem dL_isLock_207 : decode cL_isLock 207 = .ok (.invokestatic 124, 3) := by decide +kernel
theorem dL_isLock_210 : decode cL_isLock 210 = .ok (.aload 4, 2) := by decide +kernel
theorem dL_isLock_212 : decode cL_isLock 212 = .ok (.iconst 4, 1) := by decide +kernel
theorem dL_isLock_213 : decode cL_isLock 213 = .ok (.iload_n 1, 1) := by decide +kernel
theorem dL_isLock_214 : decode cL_isLock 214 = .ok (.imul, 1) := by decide +kernel
theorem dL_isLock_215 : decode cL_isLock 215 = .ok (.iconst 3, 1) := by decide +kernel
theorem dL_isLock_216 : decode cL_isLock 216 = .ok (.iadd, 1) := by decide +kernel
theorem dL_isLock_217 : decode cL_isLock 217 = .ok (.iaload, 1) := by decide +kernel
theorem dL_isLock_218 : decode cL_isLock 218 = .ok (.if_icmp .ne 18, 3) := by decide +kernel
theorem dL_isLock_221 : decode cL_isLock 221 = .ok (.aload_n 0, 1) := by decide +kernel
theorem dL_isLock_222 : decode cL_isLock 222 = .ok (.iload_n 1, 1) := by decide +kernel
theorem dL_isLock_223 : decode cL_isLock 223 = .ok (.iconst 5, 1) := by decide +kernel
theorem dL_isLock_224 : decode cL_isLock 224 = .ok (.invokestatic 124, 3) := by decide +kernel
theorem dL_isLock_227 : decode cL_isLock 227 = .ok (.iload 6, 2) := by decide +kernel
theorem dL_isLock_229 : decode cL_isLock 229 = .ok (.if_icmp .ne 7, 3) := by decide +kernel
theorem dL_isLock_232 : decode cL_isLock 232 = .ok (.iconst 1, 1) := by decide +kernel
theorem dL_isLock_233 : decode cL_isLock 233 = .ok (.goto 4, 3) := by decide +kernel
theorem dL_isLock_236 : decode cL_isLock 236 = .ok (.iconst 0, 1) := by decide +kernel
theorem dL_isLock_237 : decode cL_isLock 237 = .ok (.ireturn, 1) := by decide +kernel
theorem dL_isPerson_0 : decode cL_isPerson 0 = .ok (.iconst 0, 1) := by decide +kernel
theorem dL_isPerson_1 : decode cL_isPerson 1 = .ok (.istore 5, 2) := by decide +kernel
theorem dL_isPerson_3 : decode cL_isPerson 3 = .ok (.iconst 0, 1) := by decide +kernel
theorem dL_isPerson_4 : decode cL_isPerson 4 = .ok (.istore 6, 2) := by decide +kernel
theorem dL_isPerson_6 : decode cL_isPerson 6 = .ok (.iconst 0, 1) := by decide +kernel
theorem dL_isPerson_7 : decode cL_isPerson 7 = .ok (.istore 7, 2) := by decide +kernel
theorem dL_isPerson_9 : decode cL_isPerson 9 = .ok (.iload 7, 2) := by decide +kernel
theorem dL_isPerson_11 : decode cL_isPerson 11 = .ok (.aload_n 2, 1) := by decide +kernel
theorem dL_isPerson_12 : decode cL_isPerson 12 = .ok (.iconst 0, 1) := by decide +kernel
theorem dL_isPerson_13 : decode cL_isPerson 13 = .ok (.iaload, 1) := by decide +kernel
theorem dL_isPerson_14 : decode cL_isPerson 14 = .ok (.if_icmp .ge 81, 3) := by decide +kernel
theorem dL_isPerson_17 : decode cL_isPerson 17 = .ok (.iload 5, 2) := by decide +kernel
theorem dL_isPerson_19 : decode cL_isPerson 19 = .ok (.aload_n 3, 1) := by decide +kernel
theorem dL_isPerson_20 : decode cL_isPerson 20 = .ok (.bipush 6, 2) := by decide +kernel
theorem dL_isPerson_22 : decode cL_isPerson 22 = .ok (.iload 7, 2) := by decide +kernel
theorem dL_isPerson_24 : decode cL_isPerson 24 = .ok (.imul, 1) := by decide +kernel
theorem dL_isPerson_25 : decode cL_isPerson 25 = .ok (.iconst 1, 1) := by decide +kernel
theorem dL_isPerson_26 : decode cL_isPerson 26 = .ok (.iadd, 1) := by decide +kernel
theorem dL_isPerson_27 : decode cL_isPerson 27 = .ok (.iaload, 1) := by decide +kernel
theorem dL_isPerson_28 : decode cL_isPerson 28 = .ok (.iload_n 1, 1) := by decide +kernel
theorem dL_isPerson_29 : decode cL_isPerson 29 = .ok (.if_icmp .ne 10, 3) := by decide +kernel
theorem dL_isPerson_32 : decode cL_isPerson 32 = .ok (.iconst 1, 1) := by decide +kernel
theorem dL_isPerson_33 : decode cL_isPerson 33 = .ok (.iload 7, 2) := by decide +kernel
theorem dL_isPerson_35 : decode cL_isPerson 35 = .ok (.ishl, 1) := by decide +kernel
theorem dL_isPerson_36 : decode cL_isPerson 36 = .ok (.goto 4, 3) := by decide +kernel
theorem dL_isPerson_39 : decode cL_isPerson 39 = .ok (.iconst 0, 1) := by decide +kernel
theorem dL_isPerson_40 : decode cL_isPerson 40 = .ok (.ior, 1) := by decide +kernel
theorem dL_isPerson_41 : decode cL_isPerson 41 = .ok (.istore 5, 2) := by decide +kernel
theorem dL_isPerson_43 : decode cL_isPerson 43 = .ok (.iload 6, 2) := by decide +kernel
theorem dL_isPerson_45 : decode cL_isPerson 45 = .ok (.aload_n 3, 1) := by decide +kernel
theorem dL_isPerson_46 : decode cL_isPerson 46 = .ok (.bipush 6, 2) := by decide +kernel
theorem dL_isPerson_48 : decode cL_isPerson 48 = .ok (.iload 7, 2) := by decide +kernel
theorem dL_isPerson_50 : decode cL_isPerson 50 = .ok (.imul, 1) := by decide +kernel
theorem dL_isPerson_51 : decode cL_isPerson 51 = .ok (.iconst 1, 1) := by decide +kernel
theorem dL_isPerson_52 : decode cL_isPerson 52 = .ok (.iadd, 1) := by decide +kernel
theorem dL_isPerson_53 : decode cL_isPerson 53 = .ok (.iaload, 1) := by decide +kernel
theorem dL_isPerson_54 : decode cL_isPerson 54 = .ok (.iload_n 1, 1) := by decide +kernel
theorem dL_isPerson_55 : decode cL_isPerson 55 = .ok (.if_icmp .ne 30, 3) := by decide +kernel
theorem dL_isPerson_58 : decode cL_isPerson 58 = .ok (.aload_n 3, 1) := by decide +kernel
theorem dL_isPerson_59 : decode cL_isPerson 59 = .ok (.bipush 6, 2) := by decide +kernel
theorem dL_isPerson_61 : decode cL_isPerson 61 = .ok (.iload 7, 2) := by decide +kernel
theorem dL_isPerson_63 : decode cL_isPerson 63 = .ok (.imul, 1) := by decide +kernel
theorem dL_isPerson_64 : decode cL_isPerson 64 = .ok (.iconst 2, 1) := by decide +kernel
theorem dL_isPerson_65 : decode cL_isPerson 65 = .ok (.iadd, 1) := by decide +kernel
theorem dL_isPerson_66 : decode cL_isPerson 66 = .ok (.iaload, 1) := by decide +kernel
theorem dL_isPerson_67 : decode cL_isPerson 67 = .ok (.ifCond .ne 18, 3) := by decide +kernel
theorem dL_isPerson_70 : decode cL_isPerson 70 = .ok (.aload_n 3, 1) := by decide +kernel
theorem dL_isPerson_71 : decode cL_isPerson 71 = .ok (.bipush 6, 2) := by decide +kernel
theorem dL_isPerson_73 : decode cL_isPerson 73 = .ok (.iload 7, 2) := by decide +kernel
theorem dL_isPerson_75 : decode cL_isPerson 75 = .ok (.imul, 1) := by decide +kernel
theorem dL_isPerson_76 : decode cL_isPerson 76 = .ok (.iaload, 1) := by decide +kernel
theorem dL_isPerson_77 : decode cL_isPerson 77 = .ok (.aload 4, 2) := by decide +kernel
theorem dL_isPerson_79 : decode cL_isPerson 79 = .ok (.invokestatic 164, 3) := by decide +kernel
theorem dL_isPerson_82 : decode cL_isPerson 82 = .ok (.goto 4, 3) := by decide +kernel
theorem dL_isPerson_85 : decode cL_isPerson 85 = .ok (.iconst 0, 1) := by decide +kernel
theorem dL_isPerson_86 : decode cL_isPerson 86 = .ok (.ior, 1) := by decide +kernel
theorem dL_isPerson_87 : decode cL_isPerson 87 = .ok (.istore 6, 2) := by decide +kernel
theorem dL_isPerson_89 : decode cL_isPerson 89 = .ok (.iinc 7 1, 3) := by decide +kernel
theorem dL_isPerson_92 : decode cL_isPerson 92 = .ok (.goto (-83), 3) := by decide +kernel
theorem dL_isPerson_95 : decode cL_isPerson 95 = .ok (.aload_n 0, 1) := by decide +kernel
theorem dL_isPerson_96 : decode cL_isPerson 96 = .ok (.iload_n 1, 1) := by decide +kernel
theorem dL_isPerson_97 : decode cL_isPerson 97 = .ok (.iconst 0, 1) := by decide +kernel
theorem dL_isPerson_98 : decode cL_isPerson 98 = .ok (.invokestatic 126, 3) := by decide +kernel
theorem dL_isPerson_101 : decode cL_isPerson 101 = .ok (.iload 5, 2) := by decide +kernel
theorem dL_isPerson_103 : decode cL_isPerson 103 = .ok (.if_icmp .ne 33, 3) := by decide +kernel
theorem dL_isPerson_106 : decode cL_isPerson 106 = .ok (.aload_n 0, 1) := by decide +kernel
theorem dL_isPerson_107 : decode cL_isPerson 107 = .ok (.iload_n 1, 1) := by decide +kernel
theorem dL_isPerson_108 : decode cL_isPerson 108 = .ok (.iconst 1, 1) := by decide +kernel
theorem dL_isPerson_109 : decode cL_isPerson 109 = .ok (.invokestatic 126, 3) := by decide +kernel
theorem dL_isPerson_112 : decode cL_isPerson 112 = .ok (.iload 6, 2) := by decide +kernel
theorem dL_isPerson_114 : decode cL_isPerson 114 = .ok (.if_icmp .ne 22, 3) := by decide +kernel
theorem dL_isPerson_117 : decode cL_isPerson 117 = .ok (.aload_n 0, 1) := by decide +kernel
theorem dL_isPerson_118 : decode cL_isPerson 118 = .ok (.iload_n 1, 1) := by decide +kernel
theorem dL_isPerson_119 : decode cL_isPerson 119 = .ok (.iconst 2, 1) := by decide +kernel
theorem dL_isPerson_120 : decode cL_isPerson 120 = .ok (.invokestatic 126, 3) := by decide +kernel
theorem dL_isPerson_123 : decode cL_isPerson 123 = .ok (.aload_n 2, 1) := by decide +kernel
theorem dL_isPerson_124 : decode cL_isPerson 124 = .ok (.bipush 10, 2) := by decide +kernel
theorem dL_isPerson_126 : decode cL_isPerson 126 = .ok (.iload_n 1, 1) := by decide +kernel
theorem dL_isPerson_127 : decode cL_isPerson 127 = .ok (.iadd, 1) := by decide +kernel
theorem dL_isPerson_128 : decode cL_isPerson 128 = .ok (.iaload, 1) := by decide +kernel
theorem dL_isPerson_129 : decode cL_isPerson 129 = .ok (.if_icmp .ne 7, 3) := by decide +kernel
theorem dL_isPerson_132 : decode cL_isPerson 132 = .ok (.iconst 1, 1) := by decide +kernel
theorem dL_isPerson_133 : decode cL_isPerson 133 = .ok (.goto 4, 3) := by decide +kernel
theorem dL_isPerson_136 : decode cL_isPerson 136 = .ok (.iconst 0, 1) := by decide +kernel
theorem dL_isPerson_137 : decode cL_isPerson 137 = .ok (.ireturn, 1) := by decide +kernel
theorem dL_areCounts_0 : decode cL_areCounts 0 = .ok (.iconst 0, 1) := by decide +kernel
theorem dL_areCounts_1 : decode cL_areCounts 1 = .ok (.istore 4, 2) := by decide +kernel
theorem dL_areCounts_3 : decode cL_areCounts 3 = .ok (.iconst 0, 1) := by decide +kernel
theorem dL_areCounts_4 : decode cL_areCounts 4 = .ok (.istore 5, 2) := by decide +kernel
theorem dL_areCounts_6 : decode cL_areCounts 6 = .ok (.iconst 0, 1) := by decide +kernel
theorem dL_areCounts_7 : decode cL_areCounts 7 = .ok (.istore 6, 2) := by decide +kernel
theorem dL_areCounts_9 : decode cL_areCounts 9 = .ok (.iconst 0, 1) := by decide +kernel
theorem dL_areCounts_10 : decode cL_areCounts 10 = .ok (.istore 7, 2) := by decide +kernel
theorem dL_areCounts_12 : decode cL_areCounts 12 = .ok (.iconst 0, 1) := by decide +kernel
theorem dL_areCounts_13 : decode cL_areCounts 13 = .ok (.istore 8, 2) := by decide +kernel
theorem dL_areCounts_15 : decode cL_areCounts 15 = .ok (.iconst 0, 1) := by decide +kernel
theorem dL_areCounts_16 : decode cL_areCounts 16 = .ok (.istore 9, 2) := by decide +kernel
theorem dL_areCounts_18 : decode cL_areCounts 18 = .ok (.iload 9, 2) := by decide +kernel
theorem dL_areCounts_20 : decode cL_areCounts 20 = .ok (.aload_n 1, 1) := by decide +kernel
theorem dL_areCounts_21 : decode cL_areCounts 21 = .ok (.iconst 0, 1) := by decide +kernel
theorem dL_areCounts_22 : decode cL_areCounts 22 = .ok (.iaload, 1) := by decide +kernel
theorem dL_areCounts_23 : decode cL_areCounts 23 = .ok (.if_icmp .ge 69, 3) := by decide +kernel
theorem dL_areCounts_26 : decode cL_areCounts 26 = .ok (.iload 4, 2) := by decide +kernel
theorem dL_areCounts_28 : decode cL_areCounts 28 = .ok (.aload_n 2, 1) := by decide +kernel
theorem dL_areCounts_29 : decode cL_areCounts 29 = .ok (.bipush 6, 2) := by decide +kernel
theorem dL_areCounts_31 : decode cL_areCounts 31 = .ok (.iload 9, 2) := by decide +kernel
theorem dL_areCounts_33 : decode cL_areCounts 33 = .ok (.imul, 1) := by decide +kernel
theorem dL_areCounts_34 : decode cL_areCounts 34 = .ok (.iconst 2, 1) := by decide +kernel
theorem dL_areCounts_35 : decode cL_areCounts 35 = .ok (.iadd, 1) := by decide +kernel
theorem dL_areCounts_36 : decode cL_areCounts 36 = .ok (.iaload, 1) := by decide +kernel
theorem dL_areCounts_37 : decode cL_areCounts 37 = .ok (.iadd, 1) := by decide +kernel
theorem dL_areCounts_38 : decode cL_areCounts 38 = .ok (.istore 4, 2) := by decide +kernel
theorem dL_areCounts_40 : decode cL_areCounts 40 = .ok (.iconst 0, 1) := by decide +kernel
theorem dL_areCounts_41 : decode cL_areCounts 41 = .ok (.istore 10, 2) := by decide +kernel
theorem dL_areCounts_43 : decode cL_areCounts 43 = .ok (.iload 10, 2) := by decide +kernel
theorem dL_areCounts_45 : decode cL_areCounts 45 = .ok (.iload 9, 2) := by decide +kernel
theorem dL_areCounts_47 : decode cL_areCounts 47 = .ok (.if_icmp .ge 39, 3) := by decide +kernel
theorem dL_areCounts_50 : decode cL_areCounts 50 = .ok (.iload 6, 2) := by decide +kernel
theorem dL_areCounts_52 : decode cL_areCounts 52 = .ok (.aload_n 2, 1) := by decide +kernel
theorem dL_areCounts_53 : decode cL_areCounts 53 = .ok (.bipush 6, 2) := by decide +kernel
theorem dL_areCounts_55 : decode cL_areCounts 55 = .ok (.iload 9, 2) := by decide +kernel
theorem dL_areCounts_57 : decode cL_areCounts 57 = .ok (.imul, 1) := by decide +kernel
theorem dL_areCounts_58 : decode cL_areCounts 58 = .ok (.iaload, 1) := by decide +kernel
theorem dL_areCounts_59 : decode cL_areCounts 59 = .ok (.aload_n 2, 1) := by decide +kernel
theorem dL_areCounts_60 : decode cL_areCounts 60 = .ok (.bipush 6, 2) := by decide +kernel
theorem dL_areCounts_62 : decode cL_areCounts 62 = .ok (.iload 10, 2) := by decide +kernel
theorem dL_areCounts_64 : decode cL_areCounts 64 = .ok (.imul, 1) := by decide +kernel
theorem dL_areCounts_65 : decode cL_areCounts 65 = .ok (.iaload, 1) := by decide +kernel
theorem dL_areCounts_66 : decode cL_areCounts 66 = .ok (.invokestatic 92, 3) := by decide +kernel
theorem dL_areCounts_69 : decode cL_areCounts 69 = .ok (.ifCond .le 7, 3) := by decide +kernel
theorem dL_areCounts_72 : decode cL_areCounts 72 = .ok (.iconst 1, 1) := by decide +kernel
theorem dL_areCounts_73 : decode cL_areCounts 73 = .ok (.goto 4, 3) := by decide +kernel
theorem dL_areCounts_76 : decode cL_areCounts 76 = .ok (.iconst 0, 1) := by decide +kernel
theorem dL_areCounts_77 : decode cL_areCounts 77 = .ok (.iadd, 1) := by decide +kernel
theorem dL_areCounts_78 : decode cL_areCounts 78 = .ok (.istore 6, 2) := by decide +kernel
theorem dL_areCounts_80 : decode cL_areCounts 80 = .ok (.iinc 10 1, 3) := by decide +kernel
theorem dL_areCounts_83 : decode cL_areCounts 83 = .ok (.goto (-40), 3) := by decide +kernel
theorem dL_areCounts_86 : decode cL_areCounts 86 = .ok (.iinc 9 1, 3) := by decide +kernel
theorem dL_areCounts_89 : decode cL_areCounts 89 = .ok (.goto (-71), 3) := by decide +kernel
theorem dL_areCounts_92 : decode cL_areCounts 92 = .ok (.iconst 0, 1) := by decide +kernel
theorem dL_areCounts_93 : decode cL_areCounts 93 = .ok (.istore 9, 2) := by decide +kernel
theorem dL_areCounts_95 : decode cL_areCounts 95 = .ok (.iload 9, 2) := by decide +kernel
theorem dL_areCounts_97 : decode cL_areCounts 97 = .ok (.bipush 6, 2) := by decide +kernel
theorem dL_areCounts_99 : decode cL_areCounts 99 = .ok (.if_icmp .ge 28, 3) := by decide +kernel
theorem dL_areCounts_102 : decode cL_areCounts 102 = .ok (.iload 5, 2) := by decide +kernel
theorem dL_areCounts_104 : decode cL_areCounts 104 = .ok (.aload_n 3, 1) := by decide +kernel
theorem dL_areCounts_105 : decode cL_areCounts 105 = .ok (.iconst 4, 1) := by decide +kernel
theorem dL_areCounts_106 : decode cL_areCounts 106 = .ok (.iload 9, 2) := by decide +kernel
theorem dL_areCounts_108 : decode cL_areCounts 108 = .ok (.imul, 1) := by decide +kernel
theorem dL_areCounts_109 : decode cL_areCounts 109 = .ok (.iaload, 1) := by decide +kernel
theorem dL_areCounts_110 : decode cL_areCounts 110 = .ok (.ifCond .ge 7, 3) := by decide +kernel
theorem dL_areCounts_113 : decode cL_areCounts 113 = .ok (.iconst 0, 1) := by decide +kernel
theorem dL_areCounts_114 : decode cL_areCounts 114 = .ok (.goto 4, 3) := by decide +kernel
theorem dL_areCounts_117 : decode cL_areCounts 117 = .ok (.iconst 1, 1) := by decide +kernel
theorem dL_areCounts_118 : decode cL_areCounts 118 = .ok (.iadd, 1) := by decide +kernel
theorem dL_areCounts_119 : decode cL_areCounts 119 = .ok (.istore 5, 2) := by decide +kernel
theorem dL_areCounts_121 : decode cL_areCounts 121 = .ok (.iinc 9 1, 3) := by decide +kernel
theorem dL_areCounts_124 : decode cL_areCounts 124 = .ok (.goto (-29), 3) := by decide +kernel
theorem dL_areCounts_127 : decode cL_areCounts 127 = .ok (.iconst 0, 1) := by decide +kernel
theorem dL_areCounts_128 : decode cL_areCounts 128 = .ok (.istore 9, 2) := by decide +kernel
theorem dL_areCounts_130 : decode cL_areCounts 130 = .ok (.iload 9, 2) := by decide +kernel
theorem dL_areCounts_132 : decode cL_areCounts 132 = .ok (.bipush 81, 2) := by decide +kernel
theorem dL_areCounts_134 : decode cL_areCounts 134 = .ok (.if_icmp .ge 58, 3) := by decide +kernel
theorem dL_areCounts_137 : decode cL_areCounts 137 = .ok (.iload 7, 2) := by decide +kernel
theorem dL_areCounts_139 : decode cL_areCounts 139 = .ok (.iload 9, 2) := by decide +kernel
theorem dL_areCounts_141 : decode cL_areCounts 141 = .ok (.aload_n 1, 1) := by decide +kernel
theorem dL_areCounts_142 : decode cL_areCounts 142 = .ok (.invokestatic 95, 3) := by decide +kernel
theorem dL_areCounts_145 : decode cL_areCounts 145 = .ok (.ifCond .eq 7, 3) := by decide +kernel
theorem dL_areCounts_148 : decode cL_areCounts 148 = .ok (.iconst 1, 1) := by decide +kernel
theorem dL_areCounts_149 : decode cL_areCounts 149 = .ok (.goto 4, 3) := by decide +kernel
theorem dL_areCounts_152 : decode cL_areCounts 152 = .ok (.iconst 0, 1) := by decide +kernel
theorem dL_areCounts_153 : decode cL_areCounts 153 = .ok (.iadd, 1) := by decide +kernel
theorem dL_areCounts_154 : decode cL_areCounts 154 = .ok (.istore 7, 2) := by decide +kernel
theorem dL_areCounts_156 : decode cL_areCounts 156 = .ok (.iload 8, 2) := by decide +kernel
theorem dL_areCounts_158 : decode cL_areCounts 158 = .ok (.iload 9, 2) := by decide +kernel
theorem dL_areCounts_160 : decode cL_areCounts 160 = .ok (.aload_n 1, 1) := by decide +kernel
theorem dL_areCounts_161 : decode cL_areCounts 161 = .ok (.invokestatic 95, 3) := by decide +kernel
theorem dL_areCounts_164 : decode cL_areCounts 164 = .ok (.ifCond .eq 18, 3) := by decide +kernel
theorem dL_areCounts_167 : decode cL_areCounts 167 = .ok (.iload 9, 2) := by decide +kernel
theorem dL_areCounts_169 : decode cL_areCounts 169 = .ok (.iconst (-1), 1) := by decide +kernel
theorem dL_areCounts_170 : decode cL_areCounts 170 = .ok (.aload_n 1, 1) := by decide +kernel
theorem dL_areCounts_171 : decode cL_areCounts 171 = .ok (.aload_n 2, 1) := by decide +kernel
theorem dL_areCounts_172 : decode cL_areCounts 172 = .ok (.invokestatic 99, 3) := by decide +kernel
theorem dL_areCounts_175 : decode cL_areCounts 175 = .ok (.ifCond .ne 7, 3) := by decide +kernel
theorem dL_areCounts_178 : decode cL_areCounts 178 = .ok (.iconst 1, 1) := by decide +kernel
theorem dL_areCounts_179 : decode cL_areCounts 179 = .ok (.goto 4, 3) := by decide +kernel
theorem dL_areCounts_182 : decode cL_areCounts 182 = .ok (.iconst 0, 1) := by decide +kernel
theorem dL_areCounts_183 : decode cL_areCounts 183 = .ok (.iadd, 1) := by decide +kernel
theorem dL_areCounts_184 : decode cL_areCounts 184 = .ok (.istore 8, 2) := by decide +kernel
theorem dL_areCounts_186 : decode cL_areCounts 186 = .ok (.iinc 9 1, 3) := by decide +kernel
theorem dL_areCounts_189 : decode cL_areCounts 189 = .ok (.goto (-59), 3) := by decide +kernel
theorem dL_areCounts_192 : decode cL_areCounts 192 = .ok (.aload_n 0, 1) := by decide +kernel
theorem dL_areCounts_193 : decode cL_areCounts 193 = .ok (.iconst 0, 1) := by decide +kernel
theorem dL_areCounts_194 : decode cL_areCounts 194 = .ok (.invokestatic 114, 3) := by decide +kernel
theorem dL_areCounts_197 : decode cL_areCounts 197 = .ok (.aload_n 1, 1) := by decide +kernel
theorem dL_areCounts_198 : decode cL_areCounts 198 = .ok (.iconst 0, 1) := by decide +kernel
theorem dL_areCounts_199 : decode cL_areCounts 199 = .ok (.iaload, 1) := by decide +kernel
theorem dL_areCounts_200 : decode cL_areCounts 200 = .ok (.if_icmp .ne 74, 3) := by decide +kernel
theorem dL_areCounts_203 : decode cL_areCounts 203 = .ok (.aload_n 0, 1) := by decide +kernel
theorem dL_areCounts_204 : decode cL_areCounts 204 = .ok (.iconst 1, 1) := by decide +kernel
theorem dL_areCounts_205 : decode cL_areCounts 205 = .ok (.invokestatic 114, 3) := by decide +kernel
theorem dL_areCounts_208 : decode cL_areCounts 208 = .ok (.iload 4, 2) := by decide +kernel
theorem dL_areCounts_210 : decode cL_areCounts 210 = .ok (.if_icmp .ne 64, 3) := by decide +kernel
theorem dL_areCounts_213 : decode cL_areCounts 213 = .ok (.aload_n 0, 1) := by decide +kernel
theorem dL_areCounts_214 : decode cL_areCounts 214 = .ok (.iconst 2, 1) := by decide +kernel
theorem dL_areCounts_215 : decode cL_areCounts 215 = .ok (.invokestatic 114, 3) := by decide +kernel
theorem dL_areCounts_218 : decode cL_areCounts 218 = .ok (.iload 5, 2) := by decide +kernel
theorem dL_areCounts_220 : decode cL_areCounts 220 = .ok (.if_icmp .ne 54, 3) := by decide +kernel
theorem dL_areCounts_223 : decode cL_areCounts 223 = .ok (.aload_n 0, 1) := by decide +kernel
theorem dL_areCounts_224 : decode cL_areCounts 224 = .ok (.iconst 3, 1) := by decide +kernel
theorem dL_areCounts_225 : decode cL_areCounts 225 = .ok (.invokestatic 114, 3) := by decide +kernel
theorem dL_areCounts_228 : decode cL_areCounts 228 = .ok (.iload 6, 2) := by decide +kernel
theorem dL_areCounts_230 : decode cL_areCounts 230 = .ok (.if_icmp .ne 44, 3) := by decide +kernel
theorem dL_areCounts_233 : decode cL_areCounts 233 = .ok (.aload_n 0, 1) := by decide +kernel
theorem dL_areCounts_234 : decode cL_areCounts 234 = .ok (.bipush 9, 2) := by decide +kernel
theorem dL_areCounts_236 : decode cL_areCounts 236 = .ok (.invokestatic 114, 3) := by decide +kernel
theorem dL_areCounts_239 : decode cL_areCounts 239 = .ok (.iload 7, 2) := by decide +kernel
theorem dL_areCounts_241 : decode cL_areCounts 241 = .ok (.if_icmp .ne 33, 3) := by decide +kernel
theorem dL_areCounts_244 : decode cL_areCounts 244 = .ok (.aload_n 0, 1) := by decide +kernel
theorem dL_areCounts_245 : decode cL_areCounts 245 = .ok (.bipush 10, 2) := by decide +kernel
theorem dL_areCounts_247 : decode cL_areCounts 247 = .ok (.invokestatic 114, 3) := by decide +kernel
theorem dL_areCounts_250 : decode cL_areCounts 250 = .ok (.iload 8, 2) := by decide +kernel
theorem dL_areCounts_252 : decode cL_areCounts 252 = .ok (.if_icmp .ne 22, 3) := by decide +kernel
theorem dL_areCounts_255 : decode cL_areCounts 255 = .ok (.aload_n 0, 1) := by decide +kernel
theorem dL_areCounts_256 : decode cL_areCounts 256 = .ok (.invokevirtual 173, 3) := by decide +kernel
theorem dL_areCounts_259 : decode cL_areCounts 259 = .ok (.iload 8, 2) := by decide +kernel
theorem dL_areCounts_261 : decode cL_areCounts 261 = .ok (.i2d, 1) := by decide +kernel
theorem dL_areCounts_262 : decode cL_areCounts 262 = .ok (.iload 7, 2) := by decide +kernel
theorem dL_areCounts_264 : decode cL_areCounts 264 = .ok (.i2d, 1) := by decide +kernel
theorem dL_areCounts_265 : decode cL_areCounts 265 = .ok (.ddiv, 1) := by decide +kernel
theorem dL_areCounts_266 : decode cL_areCounts 266 = .ok (.dcmp .l, 1) := by decide +kernel
theorem dL_areCounts_267 : decode cL_areCounts 267 = .ok (.ifCond .ne 7, 3) := by decide +kernel
theorem dL_areCounts_270 : decode cL_areCounts 270 = .ok (.iconst 1, 1) := by decide +kernel
theorem dL_areCounts_271 : decode cL_areCounts 271 = .ok (.goto 4, 3) := by decide +kernel
theorem dL_areCounts_274 : decode cL_areCounts 274 = .ok (.iconst 0, 1) := by decide +kernel
theorem dL_areCounts_275 : decode cL_areCounts 275 = .ok (.istore 9, 2) := by decide +kernel
theorem dL_areCounts_277 : decode cL_areCounts 277 = .ok (.iconst 1, 1) := by decide +kernel
theorem dL_areCounts_278 : decode cL_areCounts 278 = .ok (.istore 10, 2) := by decide +kernel
theorem dL_areCounts_280 : decode cL_areCounts 280 = .ok (.iload 10, 2) := by decide +kernel
theorem dL_areCounts_282 : decode cL_areCounts 282 = .ok (.bipush 6, 2) := by decide +kernel
theorem dL_areCounts_284 : decode cL_areCounts 284 = .ok (.if_icmp .ge 36, 3) := by decide +kernel
theorem dL_areCounts_287 : decode cL_areCounts 287 = .ok (.iload 9, 2) := by decide +kernel
theorem dL_areCounts_289 : decode cL_areCounts 289 = .ok (.ifCond .eq 22, 3) := by decide +kernel
theorem dL_areCounts_292 : decode cL_areCounts 292 = .ok (.aload_n 0, 1) := by decide +kernel
theorem dL_areCounts_293 : decode cL_areCounts 293 = .ok (.iconst 3, 1) := by decide +kernel
theorem dL_areCounts_294 : decode cL_areCounts 294 = .ok (.iload 10, 2) := by decide +kernel
theorem dL_areCounts_296 : decode cL_areCounts 296 = .ok (.iadd, 1) := by decide +kernel
theorem dL_areCounts_297 : decode cL_areCounts 297 = .ok (.invokestatic 114, 3) := by decide +kernel
theorem dL_areCounts_300 : decode cL_areCounts 300 = .ok (.aload_n 1, 1) := by decide +kernel
theorem dL_areCounts_301 : decode cL_areCounts 301 = .ok (.iload 10, 2) := by decide +kernel
theorem dL_areCounts_303 : decode cL_areCounts 303 = .ok (.iaload, 1) := by decide +kernel
theorem dL_areCounts_304 : decode cL_areCounts 304 = .ok (.if_icmp .ne 7, 3) := by decide +kernel
theorem dL_areCounts_307 : decode cL_areCounts 307 = .ok (.iconst 1, 1) := by decide +kernel
theorem dL_areCounts_308 : decode cL_areCounts 308 = .ok (.goto 4, 3) := by decide +kernel
theorem dL_areCounts_311 : decode cL_areCounts 311 = .ok (.iconst 0, 1) := by decide +kernel
theorem dL_areCounts_312 : decode cL_areCounts 312 = .ok (.istore 9, 2) := by decide +kernel
theorem dL_areCounts_314 : decode cL_areCounts 314 = .ok (.iinc 10 1, 3) := by decide +kernel
theorem dL_areCounts_317 : decode cL_areCounts 317 = .ok (.goto (-37), 3) := by decide +kernel
theorem dL_areCounts_320 : decode cL_areCounts 320 = .ok (.iload 9, 2) := by decide +kernel
theorem dL_areCounts_322 : decode cL_areCounts 322 = .ok (.ireturn, 1) := by decide +kernel
theorem dL_isChosen_0 : decode cL_isChosen 0 = .ok (.aload_n 0, 1) := by decide +kernel
theorem dL_isChosen_1 : decode cL_isChosen 1 = .ok (.iconst 1, 1) := by decide +kernel
theorem dL_isChosen_2 : decode cL_isChosen 2 = .ok (.invokestatic 177, 3) := by decide +kernel
theorem dL_isChosen_5 : decode cL_isChosen 5 = .ok (.istore_n 3, 1) := by decide +kernel
theorem dL_isChosen_6 : decode cL_isChosen 6 = .ok (.aload_n 0, 1) := by decide +kernel
theorem dL_isChosen_7 : decode cL_isChosen 7 = .ok (.iconst 0, 1) := by decide +kernel
theorem dL_isChosen_8 : decode cL_isChosen 8 = .ok (.invokestatic 177, 3) := by decide +kernel
theorem dL_isChosen_11 : decode cL_isChosen 11 = .ok (.iload_n 3, 1) := by decide +kernel
theorem dL_isChosen_12 : decode cL_isChosen 12 = .ok (.if_icmp .ne 22, 3) := by decide +kernel
theorem dL_isChosen_15 : decode cL_isChosen 15 = .ok (.aload_n 0, 1) := by decide +kernel
theorem dL_isChosen_16 : decode cL_isChosen 16 = .ok (.iload_n 3, 1) := by decide +kernel
theorem dL_isChosen_17 : decode cL_isChosen 17 = .ok (.invokestatic 179, 3) := by decide +kernel
theorem dL_isChosen_20 : decode cL_isChosen 20 = .ok (.iconst (-1), 1) := by decide +kernel
theorem dL_isChosen_21 : decode cL_isChosen 21 = .ok (.if_icmp .ne 13, 3) := by decide +kernel
theorem dL_isChosen_24 : decode cL_isChosen 24 = .ok (.aload_n 0, 1) := by decide +kernel
theorem dL_isChosen_25 : decode cL_isChosen 25 = .ok (.iconst (-1), 1) := by decide +kernel
theorem dL_isChosen_26 : decode cL_isChosen 26 = .ok (.invokestatic 179, 3) := by decide +kernel
theorem dL_isChosen_29 : decode cL_isChosen 29 = .ok (.bipush (-101), 2) := by decide +kernel
theorem dL_isChosen_31 : decode cL_isChosen 31 = .ok (.if_icmp .eq 5, 3) := by decide +kernel
theorem dL_isChosen_34 : decode cL_isChosen 34 = .ok (.iconst 0, 1) := by decide +kernel
theorem dL_isChosen_35 : decode cL_isChosen 35 = .ok (.ireturn, 1) := by decide +kernel
theorem dL_isChosen_36 : decode cL_isChosen 36 = .ok (.bipush 20, 2) := by decide +kernel
theorem dL_isChosen_38 : decode cL_isChosen 38 = .ok (.newarray .int, 2) := by decide +kernel
theorem dL_isChosen_40 : decode cL_isChosen 40 = .ok (.astore 4, 2) := by decide +kernel
theorem dL_isChosen_42 : decode cL_isChosen 42 = .ok (.iconst 0, 1) := by decide +kernel
theorem dL_isChosen_43 : decode cL_isChosen 43 = .ok (.istore 5, 2) := by decide +kernel
theorem dL_isChosen_45 : decode cL_isChosen 45 = .ok (.iload 5, 2) := by decide +kernel
theorem dL_isChosen_47 : decode cL_isChosen 47 = .ok (.iload_n 3, 1) := by decide +kernel
theorem dL_isChosen_48 : decode cL_isChosen 48 = .ok (.if_icmp .ge 124, 3) := by decide +kernel
theorem dL_isChosen_51 : decode cL_isChosen 51 = .ok (.aload 4, 2) := by decide +kernel
theorem dL_isChosen_53 : decode cL_isChosen 53 = .ok (.iload 5, 2) := by decide +kernel
theorem dL_isChosen_55 : decode cL_isChosen 55 = .ok (.aload_n 0, 1) := by decide +kernel
theorem dL_isChosen_56 : decode cL_isChosen 56 = .ok (.iload 5, 2) := by decide +kernel
theorem dL_isChosen_58 : decode cL_isChosen 58 = .ok (.invokestatic 179, 3) := by decide +kernel
theorem dL_isChosen_61 : decode cL_isChosen 61 = .ok (.iastore, 1) := by decide +kernel
theorem dL_isChosen_62 : decode cL_isChosen 62 = .ok (.aload 4, 2) := by decide +kernel
theorem dL_isChosen_64 : decode cL_isChosen 64 = .ok (.iload 5, 2) := by decide +kernel
theorem dL_isChosen_66 : decode cL_isChosen 66 = .ok (.iaload, 1) := by decide +kernel
theorem dL_isChosen_67 : decode cL_isChosen 67 = .ok (.aload_n 1, 1) := by decide +kernel
theorem dL_isChosen_68 : decode cL_isChosen 68 = .ok (.invokestatic 95, 3) := by decide +kernel
theorem dL_isChosen_71 : decode cL_isChosen 71 = .ok (.ifCond .eq 41, 3) := by decide +kernel
theorem dL_isChosen_74 : decode cL_isChosen 74 = .ok (.aload 4, 2) := by decide +kernel
theorem dL_isChosen_76 : decode cL_isChosen 76 = .ok (.iload 5, 2) := by decide +kernel
theorem dL_isChosen_78 : decode cL_isChosen 78 = .ok (.iaload, 1) := by decide +kernel
theorem dL_isChosen_79 : decode cL_isChosen 79 = .ok (.iconst (-1), 1) := by decide +kernel
theorem dL_isChosen_80 : decode cL_isChosen 80 = .ok (.aload_n 1, 1) := by decide +kernel
theorem dL_isChosen_81 : decode cL_isChosen 81 = .ok (.aload_n 2, 1) := by decide +kernel
theorem dL_isChosen_82 : decode cL_isChosen 82 = .ok (.invokestatic 99, 3) := by decide +kernel
theorem dL_isChosen_85 : decode cL_isChosen 85 = .ok (.ifCond .ne 27, 3) := by decide +kernel
theorem dL_isChosen_88 : decode cL_isChosen 88 = .ok (.iload 5, 2) := by decide +kernel
theorem dL_isChosen_90 : decode cL_isChosen 90 = .ok (.ifCond .eq 18, 3) := by decide +kernel
theorem dL_isChosen_93 : decode cL_isChosen 93 = .ok (.aload 4, 2) := by decide +kernel
theorem dL_isChosen_95 : decode cL_isChosen 95 = .ok (.iload 5, 2) := by decide +kernel
theorem dL_isChosen_97 : decode cL_isChosen 97 = .ok (.iaload, 1) := by decide +kernel
theorem dL_isChosen_98 : decode cL_isChosen 98 = .ok (.aload 4, 2) := by decide +kernel
theorem dL_isChosen_100 : decode cL_isChosen 100 = .ok (.iload 5, 2) := by decide +kernel
theorem dL_isChosen_102 : decode cL_isChosen 102 = .ok (.iconst 1, 1) := by decide +kernel
theorem dL_isChosen_103 : decode cL_isChosen 103 = .ok (.isub, 1) := by decide +kernel
theorem dL_isChosen_104 : decode cL_isChosen 104 = .ok (.iaload, 1) := by decide +kernel
theorem dL_isChosen_105 : decode cL_isChosen 105 = .ok (.if_icmp .le 7, 3) := by decide +kernel
theorem dL_isChosen_108 : decode cL_isChosen 108 = .ok (.iconst 1, 1) := by decide +kernel
theorem dL_isChosen_109 : decode cL_isChosen 109 = .ok (.goto 4, 3) := by decide +kernel
theorem dL_isChosen_112 : decode cL_isChosen 112 = .ok (.iconst 0, 1) := by decide +kernel
theorem dL_isChosen_113 : decode cL_isChosen 113 = .ok (.istore 6, 2) := by decide +kernel
theorem dL_isChosen_115 : decode cL_isChosen 115 = .ok (.iconst 0, 1) := by decide +kernel
theorem dL_isChosen_116 : decode cL_isChosen 116 = .ok (.istore 7, 2) := by decide +kernel
theorem dL_isChosen_118 : decode cL_isChosen 118 = .ok (.iload 7, 2) := by decide +kernel
theorem dL_isChosen_120 : decode cL_isChosen 120 = .ok (.iload 5, 2) := by decide +kernel
theorem dL_isChosen_122 : decode cL_isChosen 122 = .ok (.if_icmp .ge 37, 3) := by decide +kernel
theorem dL_isChosen_125 : decode cL_isChosen 125 = .ok (.iload 6, 2) := by decide +kernel
theorem dL_isChosen_127 : decode cL_isChosen 127 = .ok (.ifCond .eq 23, 3) := by decide +kernel
theorem dL_isChosen_130 : decode cL_isChosen 130 = .ok (.aload 4, 2) := by decide +kernel
theorem dL_isChosen_132 : decode cL_isChosen 132 = .ok (.iload 7, 2) := by decide +kernel
theorem dL_isChosen_134 : decode cL_isChosen 134 = .ok (.iaload, 1) := by decide +kernel
theorem dL_isChosen_135 : decode cL_isChosen 135 = .ok (.aload 4, 2) := by decide +kernel
theorem dL_isChosen_137 : decode cL_isChosen 137 = .ok (.iload 5, 2) := by decide +kernel
theorem dL_isChosen_139 : decode cL_isChosen 139 = .ok (.iaload, 1) := by decide +kernel
theorem dL_isChosen_140 : decode cL_isChosen 140 = .ok (.invokestatic 92, 3) := by decide +kernel
theorem dL_isChosen_143 : decode cL_isChosen 143 = .ok (.ifCond .ne 7, 3) := by decide +kernel
theorem dL_isChosen_146 : decode cL_isChosen 146 = .ok (.iconst 1, 1) := by decide +kernel
theorem dL_isChosen_147 : decode cL_isChosen 147 = .ok (.goto 4, 3) := by decide +kernel
theorem dL_isChosen_150 : decode cL_isChosen 150 = .ok (.iconst 0, 1) := by decide +kernel
theorem dL_isChosen_151 : decode cL_isChosen 151 = .ok (.istore 6, 2) := by decide +kernel
theorem dL_isChosen_153 : decode cL_isChosen 153 = .ok (.iinc 7 1, 3) := by decide +kernel
theorem dL_isChosen_156 : decode cL_isChosen 156 = .ok (.goto (-38), 3) := by decide +kernel
theorem dL_isChosen_159 : decode cL_isChosen 159 = .ok (.iload 6, 2) := by decide +kernel
theorem dL_isChosen_161 : decode cL_isChosen 161 = .ok (.ifCond .ne 5, 3) := by decide +kernel
theorem dL_isChosen_164 : decode cL_isChosen 164 = .ok (.iconst 0, 1) := by decide +kernel
theorem dL_isChosen_165 : decode cL_isChosen 165 = .ok (.ireturn, 1) := by decide +kernel
theorem dL_isChosen_166 : decode cL_isChosen 166 = .ok (.iinc 5 1, 3) := by decide +kernel
theorem dL_isChosen_169 : decode cL_isChosen 169 = .ok (.goto (-124), 3) := by decide +kernel
theorem dL_isChosen_172 : decode cL_isChosen 172 = .ok (.iconst 0, 1) := by decide +kernel
theorem dL_isChosen_173 : decode cL_isChosen 173 = .ok (.istore 5, 2) := by decide +kernel
theorem dL_isChosen_175 : decode cL_isChosen 175 = .ok (.iload 5, 2) := by decide +kernel
theorem dL_isChosen_177 : decode cL_isChosen 177 = .ok (.bipush 81, 2) := by decide +kernel
theorem dL_isChosen_179 : decode cL_isChosen 179 = .ok (.if_icmp .ge 83, 3) := by decide +kernel
theorem dL_isChosen_182 : decode cL_isChosen 182 = .ok (.iload 5, 2) := by decide +kernel
theorem dL_isChosen_184 : decode cL_isChosen 184 = .ok (.aload_n 1, 1) := by decide +kernel
theorem dL_isChosen_185 : decode cL_isChosen 185 = .ok (.invokestatic 95, 3) := by decide +kernel
theorem dL_isChosen_188 : decode cL_isChosen 188 = .ok (.ifCond .eq 18, 3) := by decide +kernel
theorem dL_isChosen_191 : decode cL_isChosen 191 = .ok (.iload 5, 2) := by decide +kernel
theorem dL_isChosen_193 : decode cL_isChosen 193 = .ok (.iconst (-1), 1) := by decide +kernel
theorem dL_isChosen_194 : decode cL_isChosen 194 = .ok (.aload_n 1, 1) := by decide +kernel
theorem dL_isChosen_195 : decode cL_isChosen 195 = .ok (.aload_n 2, 1) := by decide +kernel
theorem dL_isChosen_196 : decode cL_isChosen 196 = .ok (.invokestatic 99, 3) := by decide +kernel
theorem dL_isChosen_199 : decode cL_isChosen 199 = .ok (.ifCond .ne 7, 3) := by decide +kernel
theorem dL_isChosen_202 : decode cL_isChosen 202 = .ok (.iconst 1, 1) := by decide +kernel
theorem dL_isChosen_203 : decode cL_isChosen 203 = .ok (.goto 4, 3) := by decide +kernel
theorem dL_isChosen_206 : decode cL_isChosen 206 = .ok (.iconst 0, 1) := by decide +kernel
theorem dL_isChosen_207 : decode cL_isChosen 207 = .ok (.istore 6, 2) := by decide +kernel
theorem dL_isChosen_209 : decode cL_isChosen 209 = .ok (.iconst 0, 1) := by decide +kernel
theorem dL_isChosen_210 : decode cL_isChosen 210 = .ok (.istore 7, 2) := by decide +kernel
theorem dL_isChosen_212 : decode cL_isChosen 212 = .ok (.iload 7, 2) := by decide +kernel
theorem dL_isChosen_214 : decode cL_isChosen 214 = .ok (.iload_n 3, 1) := by decide +kernel
theorem dL_isChosen_215 : decode cL_isChosen 215 = .ok (.if_icmp .ge 34, 3) := by decide +kernel
theorem dL_isChosen_218 : decode cL_isChosen 218 = .ok (.iload 6, 2) := by decide +kernel
theorem dL_isChosen_220 : decode cL_isChosen 220 = .ok (.ifCond .eq 20, 3) := by decide +kernel
theorem dL_isChosen_223 : decode cL_isChosen 223 = .ok (.aload 4, 2) := by decide +kernel
theorem dL_isChosen_225 : decode cL_isChosen 225 = .ok (.iload 7, 2) := by decide +kernel
theorem dL_isChosen_227 : decode cL_isChosen 227 = .ok (.iaload, 1) := by decide +kernel
theorem dL_isChosen_228 : decode cL_isChosen 228 = .ok (.iload 5, 2) := by decide +kernel
theorem dL_isChosen_230 : decode cL_isChosen 230 = .ok (.invokestatic 92, 3) := by decide +kernel
theorem dL_isChosen_233 : decode cL_isChosen 233 = .ok (.ifCond .ne 7, 3) := by decide +kernel
theorem dL_isChosen_236 : decode cL_isChosen 236 = .ok (.iconst 1, 1) := by decide +kernel
theorem dL_isChosen_237 : decode cL_isChosen 237 = .ok (.goto 4, 3) := by decide +kernel
theorem dL_isChosen_240 : decode cL_isChosen 240 = .ok (.iconst 0, 1) := by decide +kernel
theorem dL_isChosen_241 : decode cL_isChosen 241 = .ok (.istore 6, 2) := by decide +kernel
theorem dL_isChosen_243 : decode cL_isChosen 243 = .ok (.iinc 7 1, 3) := by decide +kernel
theorem dL_isChosen_246 : decode cL_isChosen 246 = .ok (.goto (-34), 3) := by decide +kernel
theorem dL_isChosen_249 : decode cL_isChosen 249 = .ok (.iload 6, 2) := by decide +kernel
theorem dL_isChosen_251 : decode cL_isChosen 251 = .ok (.ifCond .eq 5, 3) := by decide +kernel
theorem dL_isChosen_254 : decode cL_isChosen 254 = .ok (.iconst 0, 1) := by decide +kernel
theorem dL_isChosen_255 : decode cL_isChosen 255 = .ok (.ireturn, 1) := by decide +kernel
theorem dL_isChosen_256 : decode cL_isChosen 256 = .ok (.iinc 5 1, 3) := by decide +kernel
theorem dL_isChosen_259 : decode cL_isChosen 259 = .ok (.goto (-84), 3) := by decide +kernel
theorem dL_isChosen_262 : decode cL_isChosen 262 = .ok (.iconst 1, 1) := by decide +kernel
theorem dL_isChosen_263 : decode cL_isChosen 263 = .ok (.ireturn, 1) := by decide +kernel
theorem dL_isSo_0 : decode cL_isSo 0 = .ok (.aload_n 0, 1) := by decide +kernel
theorem dL_isSo_1 : decode cL_isSo 1 = .ok (.aload_n 3, 1) := by decide +kernel
theorem dL_isSo_2 : decode cL_isSo 2 = .ok (.aload 4, 2) := by decide +kernel
theorem dL_isSo_4 : decode cL_isSo 4 = .ok (.aload 5, 2) := by decide +kernel
theorem dL_isSo_6 : decode cL_isSo 6 = .ok (.invokestatic 181, 3) := by decide +kernel
theorem dL_isSo_9 : decode cL_isSo 9 = .ok (.ifCond .eq 57, 3) := by decide +kernel
theorem dL_isSo_12 : decode cL_isSo 12 = .ok (.aload_n 0, 1) := by decide +kernel
theorem dL_isSo_13 : decode cL_isSo 13 = .ok (.aload_n 3, 1) := by decide +kernel
theorem dL_isSo_14 : decode cL_isSo 14 = .ok (.iconst 0, 1) := by decide +kernel
theorem dL_isSo_15 : decode cL_isSo 15 = .ok (.iaload, 1) := by decide +kernel
theorem dL_isSo_16 : decode cL_isSo 16 = .ok (.iconst 0, 1) := by decide +kernel
theorem dL_isSo_17 : decode cL_isSo 17 = .ok (.invokestatic 117, 3) := by decide +kernel
theorem dL_isSo_20 : decode cL_isSo 20 = .ok (.bipush (-101), 2) := by decide +kernel
theorem dL_isSo_22 : decode cL_isSo 22 = .ok (.if_icmp .ne 44, 3) := by decide +kernel
theorem dL_isSo_25 : decode cL_isSo 25 = .ok (.aload_n 0, 1) := by decide +kernel
theorem dL_isSo_26 : decode cL_isSo 26 = .ok (.iload_n 1, 1) := by decide +kernel
theorem dL_isSo_27 : decode cL_isSo 27 = .ok (.iconst 4, 1) := by decide +kernel
theorem dL_isSo_28 : decode cL_isSo 28 = .ok (.invokestatic 185, 3) := by decide +kernel
theorem dL_isSo_31 : decode cL_isSo 31 = .ok (.aload_n 3, 1) := by decide +kernel
theorem dL_isSo_32 : decode cL_isSo 32 = .ok (.aload 4, 2) := by decide +kernel
theorem dL_isSo_34 : decode cL_isSo 34 = .ok (.aload 5, 2) := by decide +kernel
theorem dL_isSo_36 : decode cL_isSo 36 = .ok (.invokestatic 188, 3) := by decide +kernel
theorem dL_isSo_39 : decode cL_isSo 39 = .ok (.ifCond .eq 27, 3) := by decide +kernel
theorem dL_isSo_42 : decode cL_isSo 42 = .ok (.aload_n 0, 1) := by decide +kernel
theorem dL_isSo_43 : decode cL_isSo 43 = .ok (.iload_n 1, 1) := by decide +kernel
theorem dL_isSo_44 : decode cL_isSo 44 = .ok (.iconst 2, 1) := by decide +kernel
theorem dL_isSo_45 : decode cL_isSo 45 = .ok (.ishr, 1) := by decide +kernel
theorem dL_isSo_46 : decode cL_isSo 46 = .ok (.bipush 6, 2) := by decide +kernel
theorem dL_isSo_48 : decode cL_isSo 48 = .ok (.invokestatic 185, 3) := by decide +kernel
theorem dL_isSo_51 : decode cL_isSo 51 = .ok (.aload_n 3, 1) := by decide +kernel
theorem dL_isSo_52 : decode cL_isSo 52 = .ok (.aload 4, 2) := by decide +kernel
theorem dL_isSo_54 : decode cL_isSo 54 = .ok (.aload 5, 2) := by decide +kernel
theorem dL_isSo_56 : decode cL_isSo 56 = .ok (.invokestatic 192, 3) := by decide +kernel
theorem dL_isSo_59 : decode cL_isSo 59 = .ok (.ifCond .eq 7, 3) := by decide +kernel
theorem dL_isSo_62 : decode cL_isSo 62 = .ok (.iconst 1, 1) := by decide +kernel
theorem dL_isSo_63 : decode cL_isSo 63 = .ok (.goto 4, 3) := by decide +kernel
theorem dL_isSo_66 : decode cL_isSo 66 = .ok (.iconst 0, 1) := by decide +kernel
theorem dL_isSo_67 : decode cL_isSo 67 = .ok (.istore 6, 2) := by decide +kernel
theorem dL_isSo_69 : decode cL_isSo 69 = .ok (.iload_n 1, 1) := by decide +kernel
theorem dL_isSo_70 : decode cL_isSo 70 = .ok (.iconst 5, 1) := by decide +kernel
theorem dL_isSo_71 : decode cL_isSo 71 = .ok (.ishr, 1) := by decide +kernel
theorem dL_isSo_72 : decode cL_isSo 72 = .ok (.bipush 81, 2) := by decide +kernel
theorem dL_isSo_74 : decode cL_isSo 74 = .ok (.invokestatic 185, 3) := by decide +kernel
theorem dL_isSo_77 : decode cL_isSo 77 = .ok (.istore 7, 2) := by decide +kernel
theorem dL_isSo_79 : decode cL_isSo 79 = .ok (.iconst 0, 1) := by decide +kernel
theorem dL_isSo_80 : decode cL_isSo 80 = .ok (.istore 8, 2) := by decide +kernel
theorem dL_isSo_82 : decode cL_isSo 82 = .ok (.iconst (-1), 1) := by decide +kernel
theorem dL_isSo_83 : decode cL_isSo 83 = .ok (.istore 9, 2) := by decide +kernel
theorem dL_isSo_85 : decode cL_isSo 85 = .ok (.bipush 80, 2) := by decide +kernel
theorem dL_isSo_87 : decode cL_isSo 87 = .ok (.aload 5, 2) := by decide +kernel
theorem dL_isSo_89 : decode cL_isSo 89 = .ok (.invokestatic 164, 3) := by decide +kernel
theorem dL_isSo_92 : decode cL_isSo 92 = .ok (.iload_n 1, 1) := by decide +kernel
theorem dL_isSo_93 : decode cL_isSo 93 = .ok (.bipush 8, 2) := by decide +kernel
theorem dL_isSo_95 : decode cL_isSo 95 = .ok (.ishr, 1) := by decide +kernel
theorem dL_isSo_96 : decode cL_isSo 96 = .ok (.bipush 64, 2) := by decide +kernel
theorem dL_isSo_98 : decode cL_isSo 98 = .ok (.invokestatic 185, 3) := by decide +kernel
theorem dL_isSo_101 : decode cL_isSo 101 = .ok (.iand, 1) := by decide +kernel
theorem dL_isSo_102 : decode cL_isSo 102 = .ok (.istore 10, 2) := by decide +kernel
theorem dL_isSo_104 : decode cL_isSo 104 = .ok (.iconst 0, 1) := by decide +kernel
theorem dL_isSo_105 : decode cL_isSo 105 = .ok (.istore 11, 2) := by decide +kernel
theorem dL_isSo_107 : decode cL_isSo 107 = .ok (.iload 11, 2) := by decide +kernel
theorem dL_isSo_109 : decode cL_isSo 109 = .ok (.bipush 81, 2) := by decide +kernel
theorem dL_isSo_111 : decode cL_isSo 111 = .ok (.if_icmp .ge 102, 3) := by decide +kernel
theorem dL_isSo_114 : decode cL_isSo 114 = .ok (.iload 8, 2) := by decide +kernel
theorem dL_isSo_116 : decode cL_isSo 116 = .ok (.iload 7, 2) := by decide +kernel
theorem dL_isSo_118 : decode cL_isSo 118 = .ok (.iload 11, 2) := by decide +kernel
theorem dL_isSo_120 : decode cL_isSo 120 = .ok (.invokestatic 92, 3) := by decide +kernel
theorem dL_isSo_123 : decode cL_isSo 123 = .ok (.iconst 4, 1) := by decide +kernel
theorem dL_isSo_124 : decode cL_isSo 124 = .ok (.if_icmp .ne 16, 3) := by decide +kernel
theorem dL_isSo_127 : decode cL_isSo 127 = .ok (.iload 11, 2) := by decide +kernel
theorem dL_isSo_129 : decode cL_isSo 129 = .ok (.aload_n 3, 1) := by decide +kernel
theorem dL_isSo_130 : decode cL_isSo 130 = .ok (.invokestatic 95, 3) := by decide +kernel
theorem dL_isSo_133 : decode cL_isSo 133 = .ok (.ifCond .eq 7, 3) := by decide +kernel
theorem dL_isSo_136 : decode cL_isSo 136 = .ok (.iconst 1, 1) := by decide +kernel
theorem dL_isSo_137 : decode cL_isSo 137 = .ok (.goto 4, 3) := by decide +kernel
theorem dL_isSo_140 : decode cL_isSo 140 = .ok (.iconst 0, 1) := by decide +kernel
theorem dL_isSo_141 : decode cL_isSo 141 = .ok (.iadd, 1) := by decide +kernel
theorem dL_isSo_142 : decode cL_isSo 142 = .ok (.istore 8, 2) := by decide +kernel
theorem dL_isSo_144 : decode cL_isSo 144 = .ok (.iload 11, 2) := by decide +kernel
theorem dL_isSo_146 : decode cL_isSo 146 = .ok (.aload_n 3, 1) := by decide +kernel
theorem dL_isSo_147 : decode cL_isSo 147 = .ok (.invokestatic 95, 3) := by decide +kernel
theorem dL_isSo_150 : decode cL_isSo 150 = .ok (.ifCond .eq 22, 3) := by decide +kernel
theorem dL_isSo_153 : decode cL_isSo 153 = .ok (.iload 11, 2) := by decide +kernel
theorem dL_isSo_155 : decode cL_isSo 155 = .ok (.aload 5, 2) := by decide +kernel
theorem dL_isSo_157 : decode cL_isSo 157 = .ok (.invokestatic 164, 3) := by decide +kernel
theorem dL_isSo_160 : decode cL_isSo 160 = .ok (.iload 10, 2) := by decide +kernel
theorem dL_isSo_162 : decode cL_isSo 162 = .ok (.iand, 1) := by decide +kernel
theorem dL_isSo_163 : decode cL_isSo 163 = .ok (.iload 10, 2) := by decide +kernel
theorem dL_isSo_165 : decode cL_isSo 165 = .ok (.if_icmp .ne 7, 3) := by decide +kernel
theorem dL_isSo_168 : decode cL_isSo 168 = .ok (.iconst 1, 1) := by decide +kernel
theorem dL_isSo_169 : decode cL_isSo 169 = .ok (.goto 4, 3) := by decide +kernel
theorem dL_isSo_172 : decode cL_isSo 172 = .ok (.iconst 0, 1) := by decide +kernel
theorem dL_isSo_173 : decode cL_isSo 173 = .ok (.istore 12, 2) := by decide +kernel
theorem dL_isSo_175 : decode cL_isSo 175 = .ok (.iload 12, 2) := by decide +kernel
theorem dL_isSo_177 : decode cL_isSo 177 = .ok (.ifCond .eq 26, 3) := by decide +kernel
theorem dL_isSo_180 : decode cL_isSo 180 = .ok (.iload 9, 2) := by decide +kernel
theorem dL_isSo_182 : decode cL_isSo 182 = .ok (.ifCond .lt 16, 3) := by decide +kernel
theorem dL_isSo_185 : decode cL_isSo 185 = .ok (.iload 11, 2) := by decide +kernel
theorem dL_isSo_187 : decode cL_isSo 187 = .ok (.invokestatic 154, 3) := by decide +kernel
theorem dL_isSo_190 : decode cL_isSo 190 = .ok (.iload 9, 2) := by decide +kernel
theorem dL_isSo_192 : decode cL_isSo 192 = .ok (.invokestatic 154, 3) := by decide +kernel
theorem dL_isSo_195 : decode cL_isSo 195 = .ok (.if_icmp .ge 8, 3) := by decide +kernel
theorem dL_isSo_198 : decode cL_isSo 198 = .ok (.iload 11, 2) := by decide +kernel
theorem dL_isSo_200 : decode cL_isSo 200 = .ok (.goto 5, 3) := by decide +kernel
theorem dL_isSo_203 : decode cL_isSo 203 = .ok (.iload 9, 2) := by decide +kernel
theorem dL_isSo_205 : decode cL_isSo 205 = .ok (.istore 9, 2) := by decide +kernel
theorem dL_isSo_207 : decode cL_isSo 207 = .ok (.iinc 11 1, 3) := by decide +kernel
theorem dL_isSo_210 : decode cL_isSo 210 = .ok (.goto (-103), 3) := by decide +kernel
theorem dL_isSo_213 : decode cL_isSo 213 = .ok (.iload 7, 2) := by decide +kernel
theorem dL_isSo_215 : decode cL_isSo 215 = .ok (.aload_n 3, 1) := by decide +kernel
theorem dL_isSo_216 : decode cL_isSo 216 = .ok (.aload 4, 2) := by decide +kernel
theorem dL_isSo_218 : decode cL_isSo 218 = .ok (.invokestatic 150, 3) := by decide +kernel
theorem dL_isSo_221 : decode cL_isSo 221 = .ok (.istore 11, 2) := by decide +kernel
theorem dL_isSo_223 : decode cL_isSo 223 = .ok (.iload 6, 2) := by decide +kernel
theorem dL_isSo_225 : decode cL_isSo 225 = .ok (.ifCond .eq 106, 3) := by decide +kernel
theorem dL_isSo_228 : decode cL_isSo 228 = .ok (.aload_n 0, 1) := by decide +kernel
theorem dL_isSo_229 : decode cL_isSo 229 = .ok (.iload 7, 2) := by decide +kernel
theorem dL_isSo_231 : decode cL_isSo 231 = .ok (.iconst 0, 1) := by decide +kernel
theorem dL_isSo_232 : decode cL_isSo 232 = .ok (.invokestatic 195, 3) := by decide +kernel
theorem dL_isSo_235 : decode cL_isSo 235 = .ok (.iload 7, 2) := by decide +kernel
theorem dL_isSo_237 : decode cL_isSo 237 = .ok (.invokestatic 154, 3) := by decide +kernel
theorem dL_isSo_240 : decode cL_isSo 240 = .ok (.if_icmp .ne 91, 3) := by decide +kernel
theorem dL_isSo_243 : decode cL_isSo 243 = .ok (.aload_n 0, 1) := by decide +kernel
theorem dL_isSo_244 : decode cL_isSo 244 = .ok (.iload 7, 2) := by decide +kernel
theorem dL_isSo_246 : decode cL_isSo 246 = .ok (.iconst 1, 1) := by decide +kernel
theorem dL_isSo_247 : decode cL_isSo 247 = .ok (.invokestatic 195, 3) := by decide +kernel
theorem dL_isSo_250 : decode cL_isSo 250 = .ok (.iload 7, 2) := by decide +kernel
theorem dL_isSo_252 : decode cL_isSo 252 = .ok (.aload_n 3, 1) := by decide +kernel
theorem dL_isSo_253 : decode cL_isSo 253 = .ok (.invokestatic 95, 3) := by decide +kernel
theorem dL_isSo_256 : decode cL_isSo 256 = .ok (.ifCond .eq 7, 3) := by decide +kernel
theorem dL_isSo_259 : decode cL_isSo 259 = .ok (.iconst 1, 1) := by decide +kernel
theorem dL_isSo_260 : decode cL_isSo 260 = .ok (.goto 4, 3) := by decide +kernel
theorem dL_isSo_263 : decode cL_isSo 263 = .ok (.iconst 0, 1) := by decide +kernel
theorem dL_isSo_264 : decode cL_isSo 264 = .ok (.if_icmp .ne 67, 3) := by decide +kernel
theorem dL_isSo_267 : decode cL_isSo 267 = .ok (.aload_n 0, 1) := by decide +kernel
theorem dL_isSo_268 : decode cL_isSo 268 = .ok (.iload 7, 2) := by decide +kernel
theorem dL_isSo_270 : decode cL_isSo 270 = .ok (.iconst 2, 1) := by decide +kernel
theorem dL_isSo_271 : decode cL_isSo 271 = .ok (.invokestatic 195, 3) := by decide +kernel
theorem dL_isSo_274 : decode cL_isSo 274 = .ok (.iload 11, 2) := by decide +kernel
theorem dL_isSo_276 : decode cL_isSo 276 = .ok (.if_icmp .ne 55, 3) := by decide +kernel
theorem dL_isSo_279 : decode cL_isSo 279 = .ok (.aload_n 0, 1) := by decide +kernel
theorem dL_isSo_280 : decode cL_isSo 280 = .ok (.iload 7, 2) := by decide +kernel
theorem dL_isSo_282 : decode cL_isSo 282 = .ok (.iconst 3, 1) := by decide +kernel
theorem dL_isSo_283 : decode cL_isSo 283 = .ok (.invokestatic 195, 3) := by decide +kernel
theorem dL_isSo_286 : decode cL_isSo 286 = .ok (.iload 8, 2) := by decide +kernel
theorem dL_isSo_288 : decode cL_isSo 288 = .ok (.if_icmp .ne 43, 3) := by decide +kernel
theorem dL_isSo_291 : decode cL_isSo 291 = .ok (.aload_n 0, 1) := by decide +kernel
theorem dL_isSo_292 : decode cL_isSo 292 = .ok (.iload 7, 2) := by decide +kernel
theorem dL_isSo_294 : decode cL_isSo 294 = .ok (.iconst 5, 1) := by decide +kernel
theorem dL_isSo_295 : decode cL_isSo 295 = .ok (.invokestatic 195, 3) := by decide +kernel
theorem dL_isSo_298 : decode cL_isSo 298 = .ok (.iload 7, 2) := by decide +kernel
theorem dL_isSo_300 : decode cL_isSo 300 = .ok (.aload_n 3, 1) := by decide +kernel
theorem dL_isSo_301 : decode cL_isSo 301 = .ok (.invokestatic 95, 3) := by decide +kernel
theorem dL_isSo_304 : decode cL_isSo 304 = .ok (.ifCond .eq 19, 3) := by decide +kernel
theorem dL_isSo_307 : decode cL_isSo 307 = .ok (.iload 7, 2) := by decide +kernel
theorem dL_isSo_309 : decode cL_isSo 309 = .ok (.iconst (-1), 1) := by decide +kernel
theorem dL_isSo_310 : decode cL_isSo 310 = .ok (.aload_n 3, 1) := by decide +kernel
theorem dL_isSo_311 : decode cL_isSo 311 = .ok (.aload 4, 2) := by decide +kernel
theorem dL_isSo_313 : decode cL_isSo 313 = .ok (.invokestatic 99, 3) := by decide +kernel
theorem dL_isSo_316 : decode cL_isSo 316 = .ok (.ifCond .ne 7, 3) := by decide +kernel
theorem dL_isSo_319 : decode cL_isSo 319 = .ok (.iconst 1, 1) := by decide +kernel
theorem dL_isSo_320 : decode cL_isSo 320 = .ok (.goto 4, 3) := by decide +kernel
theorem dL_isSo_323 : decode cL_isSo 323 = .ok (.iconst 0, 1) := by decide +kernel
theorem dL_isSo_324 : decode cL_isSo 324 = .ok (.if_icmp .ne 7, 3) := by decide +kernel
theorem dL_isSo_327 : decode cL_isSo 327 = .ok (.iconst 1, 1) := by decide +kernel
theorem dL_isSo_328 : decode cL_isSo 328 = .ok (.goto 4, 3) := by decide +kernel
theorem dL_isSo_331 : decode cL_isSo 331 = .ok (.iconst 0, 1) := by decide +kernel
theorem dL_isSo_332 : decode cL_isSo 332 = .ok (.istore 6, 2) := by decide +kernel
theorem dL_isSo_334 : decode cL_isSo 334 = .ok (.iload 6, 2) := by decide +kernel
theorem dL_isSo_336 : decode cL_isSo 336 = .ok (.ifCond .eq 28, 3) := by decide +kernel
theorem dL_isSo_339 : decode cL_isSo 339 = .ok (.aload_n 0, 1) := by decide +kernel
theorem dL_isSo_340 : decode cL_isSo 340 = .ok (.iload 10, 2) := by decide +kernel
theorem dL_isSo_342 : decode cL_isSo 342 = .ok (.invokestatic 197, 3) := by decide +kernel
theorem dL_isSo_345 : decode cL_isSo 345 = .ok (.iload 10, 2) := by decide +kernel
theorem dL_isSo_347 : decode cL_isSo 347 = .ok (.ifCond .ne 8, 3) := by decide +kernel
theorem dL_isSo_350 : decode cL_isSo 350 = .ok (.bipush (-102), 2) := by decide +kernel
theorem dL_isSo_352 : decode cL_isSo 352 = .ok (.goto 5, 3) := by decide +kernel
theorem dL_isSo_355 : decode cL_isSo 355 = .ok (.iload 9, 2) := by decide +kernel
theorem dL_isSo_357 : decode cL_isSo 357 = .ok (.if_icmp .ne 7, 3) := by decide +kernel
theorem dL_isSo_360 : decode cL_isSo 360 = .ok (.iconst 1, 1) := by decide +kernel
theorem dL_isSo_361 : decode cL_isSo 361 = .ok (.goto 4, 3) := by decide +kernel
theorem dL_isSo_364 : decode cL_isSo 364 = .ok (.iconst 0, 1) := by decide +kernel
theorem dL_isSo_365 : decode cL_isSo 365 = .ok (.istore 6, 2) := by decide +kernel
theorem dL_isSo_367 : decode cL_isSo 367 = .ok (.iload 6, 2) := by decide +kernel
theorem dL_isSo_369 : decode cL_isSo 369 = .ok (.ifCond .eq 49, 3) := by decide +kernel
theorem dL_isSo_372 : decode cL_isSo 372 = .ok (.aload_n 3, 1) := by decide +kernel
theorem dL_isSo_373 : decode cL_isSo 373 = .ok (.iconst 0, 1) := by decide +kernel
theorem dL_isSo_374 : decode cL_isSo 374 = .ok (.iaload, 1) := by decide +kernel
theorem dL_isSo_375 : decode cL_isSo 375 = .ok (.ifCond .eq 25, 3) := by decide +kernel
theorem dL_isSo_378 : decode cL_isSo 378 = .ok (.aload_n 0, 1) := by decide +kernel
theorem dL_isSo_379 : decode cL_isSo 379 = .ok (.iload_n 1, 1) := by decide +kernel
theorem dL_isSo_380 : decode cL_isSo 380 = .ok (.bipush 12, 2) := by decide +kernel
theorem dL_isSo_382 : decode cL_isSo 382 = .ok (.ishr, 1) := by decide +kernel
theorem dL_isSo_383 : decode cL_isSo 383 = .ok (.aload_n 3, 1) := by decide +kernel
theorem dL_isSo_384 : decode cL_isSo 384 = .ok (.iconst 0, 1) := by decide +kernel
theorem dL_isSo_385 : decode cL_isSo 385 = .ok (.iaload, 1) := by decide +kernel
theorem dL_isSo_386 : decode cL_isSo 386 = .ok (.invokestatic 185, 3) := by decide +kernel
theorem dL_isSo_389 : decode cL_isSo 389 = .ok (.aload_n 3, 1) := by decide +kernel
theorem dL_isSo_390 : decode cL_isSo 390 = .ok (.aload 4, 2) := by decide +kernel
theorem dL_isSo_392 : decode cL_isSo 392 = .ok (.aload 5, 2) := by decide +kernel
theorem dL_isSo_394 : decode cL_isSo 394 = .ok (.invokestatic 199, 3) := by decide +kernel
theorem dL_isSo_397 : decode cL_isSo 397 = .ok (.ifCond .eq 21, 3) := by decide +kernel
theorem dL_isSo_400 : decode cL_isSo 400 = .ok (.iload_n 2, 1) := by decide +kernel
theorem dL_isSo_401 : decode cL_isSo 401 = .ok (.ifCond .eq 13, 3) := by decide +kernel
theorem dL_isSo_404 : decode cL_isSo 404 = .ok (.aload_n 0, 1) := by decide +kernel
theorem dL_isSo_405 : decode cL_isSo 405 = .ok (.aload_n 3, 1) := by decide +kernel
theorem dL_isSo_406 : decode cL_isSo 406 = .ok (.aload 4, 2) := by decide +kernel
theorem dL_isSo_408 : decode cL_isSo 408 = .ok (.invokestatic 202, 3) := by decide +kernel
theorem dL_isSo_411 : decode cL_isSo 411 = .ok (.ifCond .eq 7, 3) := by decide +kernel
theorem dL_isSo_414 : decode cL_isSo 414 = .ok (.iconst 1, 1) := by decide +kernel
theorem dL_isSo_415 : decode cL_isSo 415 = .ok (.goto 4, 3) := by decide +kernel
theorem dL_isSo_418 : decode cL_isSo 418 = .ok (.iconst 0, 1) := by decide +kernel
theorem dL_isSo_419 : decode cL_isSo 419 = .ok (.ireturn, 1) := by decide +kernel
end
section
theorem dL_law_0 : decode cL_law 0 = .ok (.new 11, 3) := by decide +kernel
theorem dL_law_3 : decode cL_law 3 = .ok (.dup, 1) := by decide +kernel
theorem dL_law_4 : decode cL_law 4 = .ok (.invokespecial 206, 3) := by decide +kernel
theorem dL_law_7 : decode cL_law 7 = .ok (.astore_n 1, 1) := by decide +kernel
theorem dL_law_8 : decode cL_law 8 = .ok (.bipush 14, 2) := by decide +kernel
theorem dL_law_10 : decode cL_law 10 = .ok (.newarray .int, 2) := by decide +kernel
theorem dL_law_12 : decode cL_law 12 = .ok (.astore_n 2, 1) := by decide +kernel
theorem dL_law_13 : decode cL_law 13 = .ok (.bipush 64, 2) := by decide +kernel
theorem dL_law_15 : decode cL_law 15 = .ok (.newarray .int, 2) := by decide +kernel
theorem dL_law_17 : decode cL_law 17 = .ok (.astore_n 3, 1) := by decide +kernel
theorem dL_law_18 : decode cL_law 18 = .ok (.bipush 24, 2) := by decide +kernel
theorem dL_law_20 : decode cL_law 20 = .ok (.newarray .int, 2) := by decide +kernel
theorem dL_law_22 : decode cL_law 22 = .ok (.astore 4, 2) := by decide +kernel
theorem dL_law_24 : decode cL_law 24 = .ok (.aload_n 2, 1) := by decide +kernel
theorem dL_law_25 : decode cL_law 25 = .ok (.bipush 6, 2) := by decide +kernel
theorem dL_law_27 : decode cL_law 27 = .ok (.iconst 2, 1) := by decide +kernel
theorem dL_law_28 : decode cL_law 28 = .ok (.iastore, 1) := by decide +kernel
theorem dL_law_29 : decode cL_law 29 = .ok (.aload_n 2, 1) := by decide +kernel
theorem dL_law_30 : decode cL_law 30 = .ok (.bipush 7, 2) := by decide +kernel
theorem dL_law_32 : decode cL_law 32 = .ok (.iconst 2, 1) := by decide +kernel
theorem dL_law_33 : decode cL_law 33 = .ok (.iastore, 1) := by decide +kernel
theorem dL_law_34 : decode cL_law 34 = .ok (.aload_n 2, 1) := by decide +kernel
theorem dL_law_35 : decode cL_law 35 = .ok (.bipush 8, 2) := by decide +kernel
theorem dL_law_37 : decode cL_law 37 = .ok (.iconst 4, 1) := by decide +kernel
theorem dL_law_38 : decode cL_law 38 = .ok (.iastore, 1) := by decide +kernel
theorem dL_law_39 : decode cL_law 39 = .ok (.aload_n 2, 1) := by decide +kernel
theorem dL_law_40 : decode cL_law 40 = .ok (.bipush 9, 2) := by decide +kernel
theorem dL_law_42 : decode cL_law 42 = .ok (.iconst 1, 1) := by decide +kernel
theorem dL_law_43 : decode cL_law 43 = .ok (.iastore, 1) := by decide +kernel
theorem dL_law_44 : decode cL_law 44 = .ok (.iconst 0, 1) := by decide +kernel
theorem dL_law_45 : decode cL_law 45 = .ok (.istore 5, 2) := by decide +kernel
theorem dL_law_47 : decode cL_law 47 = .ok (.iload 5, 2) := by decide +kernel
theorem dL_law_49 : decode cL_law 49 = .ok (.bipush 6, 2) := by decide +kernel
theorem dL_law_51 : decode cL_law 51 = .ok (.if_icmp .ge 27, 3) := by decide +kernel
theorem dL_law_54 : decode cL_law 54 = .ok (.aload 4, 2) := by decide +kernel
theorem dL_law_56 : decode cL_law 56 = .ok (.iconst 4, 1) := by decide +kernel
theorem dL_law_57 : decode cL_law 57 = .ok (.iload 5, 2) := by decide +kernel
theorem dL_law_59 : decode cL_law 59 = .ok (.imul, 1) := by decide +kernel
theorem dL_law_60 : decode cL_law 60 = .ok (.iconst (-1), 1) := by decide +kernel
theorem dL_law_61 : decode cL_law 61 = .ok (.iastore, 1) := by decide +kernel
theorem dL_law_62 : decode cL_law 62 = .ok (.aload 4, 2) := by decide +kernel
theorem dL_law_64 : decode cL_law 64 = .ok (.iconst 4, 1) := by decide +kernel
theorem dL_law_65 : decode cL_law 65 = .ok (.iload 5, 2) := by decide +kernel
theorem dL_law_67 : decode cL_law 67 = .ok (.imul, 1) := by decide +kernel
theorem dL_law_68 : decode cL_law 68 = .ok (.iconst 1, 1) := by decide +kernel
theorem dL_law_69 : decode cL_law 69 = .ok (.iadd, 1) := by decide +kernel
theorem dL_law_70 : decode cL_law 70 = .ok (.iconst (-1), 1) := by decide +kernel
theorem dL_law_71 : decode cL_law 71 = .ok (.iastore, 1) := by decide +kernel
theorem dL_law_72 : decode cL_law 72 = .ok (.iinc 5 1, 3) := by decide +kernel
theorem dL_law_75 : decode cL_law 75 = .ok (.goto (-28), 3) := by decide +kernel
theorem dL_law_78 : decode cL_law 78 = .ok (.iconst 0, 1) := by decide +kernel
theorem dL_law_79 : decode cL_law 79 = .ok (.istore 5, 2) := by decide +kernel
theorem dL_law_81 : decode cL_law 81 = .ok (.iload 5, 2) := by decide +kernel
theorem dL_law_83 : decode cL_law 83 = .ok (.bipush 44, 2) := by decide +kernel
theorem dL_law_85 : decode cL_law 85 = .ok (.if_icmp .ge 609, 3) := by decide +kernel
theorem dL_law_88 : decode cL_law 88 = .ok (.aload_n 0, 1) := by decide +kernel
theorem dL_law_89 : decode cL_law 89 = .ok (.iconst 2, 1) := by decide +kernel
theorem dL_law_90 : decode cL_law 90 = .ok (.iload 5, 2) := by decide +kernel
theorem dL_law_92 : decode cL_law 92 = .ok (.imul, 1) := by decide +kernel
theorem dL_law_93 : decode cL_law 93 = .ok (.invokestatic 207, 3) := by decide +kernel
theorem dL_law_96 : decode cL_law 96 = .ok (.istore 6, 2) := by decide +kernel
theorem dL_law_98 : decode cL_law 98 = .ok (.aload_n 0, 1) := by decide +kernel
theorem dL_law_99 : decode cL_law 99 = .ok (.iconst 2, 1) := by decide +kernel
theorem dL_law_100 : decode cL_law 100 = .ok (.iload 5, 2) := by decide +kernel
theorem dL_law_102 : decode cL_law 102 = .ok (.imul, 1) := by decide +kernel
theorem dL_law_103 : decode cL_law 103 = .ok (.iconst 1, 1) := by decide +kernel
theorem dL_law_104 : decode cL_law 104 = .ok (.iadd, 1) := by decide +kernel
theorem dL_law_105 : decode cL_law 105 = .ok (.invokestatic 207, 3) := by decide +kernel
theorem dL_law_108 : decode cL_law 108 = .ok (.istore 7, 2) := by decide +kernel
theorem dL_law_110 : decode cL_law 110 = .ok (.iload 6, 2) := by decide +kernel
theorem dL_law_112 : decode cL_law 112 = .ok (.bipush 22, 2) := by decide +kernel
theorem dL_law_114 : decode cL_law 114 = .ok (.invokestatic 185, 3) := by decide +kernel
theorem dL_law_117 : decode cL_law 117 = .ok (.istore 8, 2) := by decide +kernel
theorem dL_law_119 : decode cL_law 119 = .ok (.iload 8, 2) := by decide +kernel
theorem dL_law_121 : decode cL_law 121 = .ok (.bipush 7, 2) := by decide +kernel
theorem dL_law_123 : decode cL_law 123 = .ok (.if_icmp .ge 19, 3) := by decide +kernel
theorem dL_law_126 : decode cL_law 126 = .ok (.aload_n 2, 1) := by decide +kernel
theorem dL_law_127 : decode cL_law 127 = .ok (.iconst 0, 1) := by decide +kernel
theorem dL_law_128 : decode cL_law 128 = .ok (.iaload, 1) := by decide +kernel
theorem dL_law_129 : decode cL_law 129 = .ok (.bipush 10, 2) := by decide +kernel
theorem dL_law_131 : decode cL_law 131 = .ok (.if_icmp .ge 7, 3) := by decide +kernel
theorem dL_law_134 : decode cL_law 134 = .ok (.iconst 0, 1) := by decide +kernel
theorem dL_law_135 : decode cL_law 135 = .ok (.goto 129, 3) := by decide +kernel
theorem dL_law_138 : decode cL_law 138 = .ok (.iconst 2, 1) := by decide +kernel
theorem dL_law_139 : decode cL_law 139 = .ok (.goto 125, 3) := by decide +kernel
theorem dL_law_142 : decode cL_law 142 = .ok (.iload 8, 2) := by decide +kernel
theorem dL_law_144 : decode cL_law 144 = .ok (.bipush 7, 2) := by decide +kernel
theorem dL_law_146 : decode cL_law 146 = .ok (.if_icmp .ne 7, 3) := by decide +kernel
theorem dL_law_149 : decode cL_law 149 = .ok (.iconst 1, 1) := by decide +kernel
theorem dL_law_150 : decode cL_law 150 = .ok (.goto 114, 3) := by decide +kernel
theorem dL_law_153 : decode cL_law 153 = .ok (.iload 8, 2) := by decide +kernel
theorem dL_law_155 : decode cL_law 155 = .ok (.bipush 8, 2) := by decide +kernel
theorem dL_law_157 : decode cL_law 157 = .ok (.if_icmp .ne 19, 3) := by decide +kernel
theorem dL_law_160 : decode cL_law 160 = .ok (.iload 5, 2) := by decide +kernel
theorem dL_law_162 : decode cL_law 162 = .ok (.iconst 3, 1) := by decide +kernel
theorem dL_law_163 : decode cL_law 163 = .ok (.irem, 1) := by decide +kernel
theorem dL_law_164 : decode cL_law 164 = .ok (.ifCond .ne 7, 3) := by decide +kernel
theorem dL_law_167 : decode cL_law 167 = .ok (.iconst 2, 1) := by decide +kernel
theorem dL_law_168 : decode cL_law 168 = .ok (.goto 96, 3) := by decide +kernel
theorem dL_law_171 : decode cL_law 171 = .ok (.bipush 9, 2) := by decide +kernel
theorem dL_law_173 : decode cL_law 173 = .ok (.goto 91, 3) := by decide +kernel
theorem dL_law_176 : decode cL_law 176 = .ok (.iload 8, 2) := by decide +kernel
theorem dL_law_178 : decode cL_law 178 = .ok (.bipush 11, 2) := by decide +kernel
theorem dL_law_180 : decode cL_law 180 = .ok (.if_icmp .ge 11, 3) := by decide +kernel
theorem dL_law_183 : decode cL_law 183 = .ok (.iload 8, 2) := by decide +kernel
theorem dL_law_185 : decode cL_law 185 = .ok (.bipush 6, 2) := by decide +kernel
theorem dL_law_187 : decode cL_law 187 = .ok (.isub, 1) := by decide +kernel
theorem dL_law_188 : decode cL_law 188 = .ok (.goto 76, 3) := by decide +kernel
theorem dL_law_191 : decode cL_law 191 = .ok (.iload 8, 2) := by decide +kernel
theorem dL_law_193 : decode cL_law 193 = .ok (.bipush 14, 2) := by decide +kernel
theorem dL_law_195 : decode cL_law 195 = .ok (.if_icmp .ge 8, 3) := by decide +kernel
theorem dL_law_198 : decode cL_law 198 = .ok (.bipush 6, 2) := by decide +kernel
theorem dL_law_200 : decode cL_law 200 = .ok (.goto 64, 3) := by decide +kernel
theorem dL_law_203 : decode cL_law 203 = .ok (.iload 8, 2) := by decide +kernel
theorem dL_law_205 : decode cL_law 205 = .ok (.bipush 14, 2) := by decide +kernel
theorem dL_law_207 : decode cL_law 207 = .ok (.if_icmp .ne 8, 3) := by decide +kernel
theorem dL_law_210 : decode cL_law 210 = .ok (.bipush 7, 2) := by decide +kernel
theorem dL_law_212 : decode cL_law 212 = .ok (.goto 52, 3) := by decide +kernel
theorem dL_law_215 : decode cL_law 215 = .ok (.iload 8, 2) := by decide +kernel
theorem dL_law_217 : decode cL_law 217 = .ok (.bipush 15, 2) := by decide +kernel
theorem dL_law_219 : decode cL_law 219 = .ok (.if_icmp .ne 20, 3) := by decide +kernel
theorem dL_law_222 : decode cL_law 222 = .ok (.iload 5, 2) := by decide +kernel
theorem dL_law_224 : decode cL_law 224 = .ok (.iconst 4, 1) := by decide +kernel
theorem dL_law_225 : decode cL_law 225 = .ok (.irem, 1) := by decide +kernel
theorem dL_law_226 : decode cL_law 226 = .ok (.ifCond .ne 8, 3) := by decide +kernel
theorem dL_law_229 : decode cL_law 229 = .ok (.bipush 8, 2) := by decide +kernel
theorem dL_law_231 : decode cL_law 231 = .ok (.goto 33, 3) := by decide +kernel
theorem dL_law_234 : decode cL_law 234 = .ok (.bipush 9, 2) := by decide +kernel
theorem dL_law_236 : decode cL_law 236 = .ok (.goto 28, 3) := by decide +kernel
theorem dL_law_239 : decode cL_law 239 = .ok (.iload 8, 2) := by decide +kernel
theorem dL_law_241 : decode cL_law 241 = .ok (.bipush 16, 2) := by decide +kernel
theorem dL_law_243 : decode cL_law 243 = .ok (.if_icmp .ne 8, 3) := by decide +kernel
theorem dL_law_246 : decode cL_law 246 = .ok (.bipush 10, 2) := by decide +kernel
theorem dL_law_248 : decode cL_law 248 = .ok (.goto 16, 3) := by decide +kernel
theorem dL_law_251 : decode cL_law 251 = .ok (.iload 8, 2) := by decide +kernel
theorem dL_law_253 : decode cL_law 253 = .ok (.bipush 17, 2) := by decide +kernel
theorem dL_law_255 : decode cL_law 255 = .ok (.if_icmp .ne 7, 3) := by decide +kernel
theorem dL_law_258 : decode cL_law 258 = .ok (.iconst 5, 1) := by decide +kernel
theorem dL_law_259 : decode cL_law 259 = .ok (.goto 5, 3) := by decide +kernel
theorem dL_law_262 : decode cL_law 262 = .ok (.bipush 9, 2) := by decide +kernel
theorem dL_law_264 : decode cL_law 264 = .ok (.istore 8, 2) := by decide +kernel
theorem dL_law_266 : decode cL_law 266 = .ok (.iload 8, 2) := by decide +kernel
theorem dL_law_268 : decode cL_law 268 = .ok (.ifCond .ne 13, 3) := by decide +kernel
theorem dL_law_271 : decode cL_law 271 = .ok (.iload 7, 2) := by decide +kernel
theorem dL_law_273 : decode cL_law 273 = .ok (.bipush 81, 2) := by decide +kernel
theorem dL_law_275 : decode cL_law 275 = .ok (.invokestatic 185, 3) := by decide +kernel
theorem dL_law_278 : decode cL_law 278 = .ok (.goto 53, 3) := by decide +kernel
theorem dL_law_281 : decode cL_law 281 = .ok (.iload 8, 2) := by decide +kernel
theorem dL_law_283 : decode cL_law 283 = .ok (.bipush 6, 2) := by decide +kernel
theorem dL_law_285 : decode cL_law 285 = .ok (.if_icmp .lt 10, 3) := by decide +kernel
theorem dL_law_288 : decode cL_law 288 = .ok (.iload 8, 2) := by decide +kernel
theorem dL_law_290 : decode cL_law 290 = .ok (.bipush 9, 2) := by decide +kernel
theorem dL_law_292 : decode cL_law 292 = .ok (.if_icmp .ne 16, 3) := by decide +kernel
theorem dL_law_295 : decode cL_law 295 = .ok (.iload 7, 2) := by decide +kernel
theorem dL_law_297 : decode cL_law 297 = .ok (.aload_n 2, 1) := by decide +kernel
theorem dL_law_298 : decode cL_law 298 = .ok (.iconst 0, 1) := by decide +kernel
theorem dL_law_299 : decode cL_law 299 = .ok (.iaload, 1) := by decide +kernel
theorem dL_law_300 : decode cL_law 300 = .ok (.iconst 1, 1) := by decide +kernel
theorem dL_law_301 : decode cL_law 301 = .ok (.iadd, 1) := by decide +kernel
theorem dL_law_302 : decode cL_law 302 = .ok (.invokestatic 185, 3) := by decide +kernel
theorem dL_law_305 : decode cL_law 305 = .ok (.goto 26, 3) := by decide +kernel
theorem dL_law_308 : decode cL_law 308 = .ok (.iload 8, 2) := by decide +kernel
theorem dL_law_310 : decode cL_law 310 = .ok (.bipush 10, 2) := by decide +kernel
theorem dL_law_312 : decode cL_law 312 = .ok (.if_icmp .ne 12, 3) := by decide +kernel
theorem dL_law_315 : decode cL_law 315 = .ok (.iload 7, 2) := by decide +kernel
theorem dL_law_317 : decode cL_law 317 = .ok (.iconst 4, 1) := by decide +kernel
theorem dL_law_318 : decode cL_law 318 = .ok (.invokestatic 185, 3) := by decide +kernel
theorem dL_law_321 : decode cL_law 321 = .ok (.goto 10, 3) := by decide +kernel
theorem dL_law_324 : decode cL_law 324 = .ok (.iload 7, 2) := by decide +kernel
theorem dL_law_326 : decode cL_law 326 = .ok (.bipush 6, 2) := by decide +kernel
theorem dL_law_328 : decode cL_law 328 = .ok (.invokestatic 185, 3) := by decide +kernel
theorem dL_law_331 : decode cL_law 331 = .ok (.istore 9, 2) := by decide +kernel
theorem dL_law_333 : decode cL_law 333 = .ok (.iload 8, 2) := by decide +kernel
theorem dL_law_335 : decode cL_law 335 = .ok (.ifCond .eq 15, 3) := by decide +kernel
theorem dL_law_338 : decode cL_law 338 = .ok (.iload 8, 2) := by decide +kernel
theorem dL_law_340 : decode cL_law 340 = .ok (.iconst 3, 1) := by decide +kernel
theorem dL_law_341 : decode cL_law 341 = .ok (.if_icmp .eq 9, 3) := by decide +kernel
theorem dL_law_344 : decode cL_law 344 = .ok (.iload 8, 2) := by decide +kernel
theorem dL_law_346 : decode cL_law 346 = .ok (.iconst 1, 1) := by decide +kernel
theorem dL_law_347 : decode cL_law 347 = .ok (.if_icmp .ne 15, 3) := by decide +kernel
theorem dL_law_350 : decode cL_law 350 = .ok (.iload 7, 2) := by decide +kernel
theorem dL_law_352 : decode cL_law 352 = .ok (.bipush 7, 2) := by decide +kernel
theorem dL_law_354 : decode cL_law 354 = .ok (.ishr, 1) := by decide +kernel
theorem dL_law_355 : decode cL_law 355 = .ok (.iconst 4, 1) := by decide +kernel
theorem dL_law_356 : decode cL_law 356 = .ok (.invokestatic 185, 3) := by decide +kernel
theorem dL_law_359 : decode cL_law 359 = .ok (.goto 160, 3) := by decide +kernel
theorem dL_law_362 : decode cL_law 362 = .ok (.iload 8, 2) := by decide +kernel
theorem dL_law_364 : decode cL_law 364 = .ok (.bipush 6, 2) := by decide +kernel
theorem dL_law_366 : decode cL_law 366 = .ok (.if_icmp .ne 33, 3) := by decide +kernel
theorem dL_law_369 : decode cL_law 369 = .ok (.iload 7, 2) := by decide +kernel
theorem dL_law_371 : decode cL_law 371 = .ok (.bipush 7, 2) := by decide +kernel
theorem dL_law_373 : decode cL_law 373 = .ok (.ishr, 1) := by decide +kernel
theorem dL_law_374 : decode cL_law 374 = .ok (.iload 7, 2) := by decide +kernel
theorem dL_law_376 : decode cL_law 376 = .ok (.bipush 20, 2) := by decide +kernel
theorem dL_law_378 : decode cL_law 378 = .ok (.ishr, 1) := by decide +kernel
theorem dL_law_379 : decode cL_law 379 = .ok (.iconst 2, 1) := by decide +kernel
theorem dL_law_380 : decode cL_law 380 = .ok (.invokestatic 185, 3) := by decide +kernel
theorem dL_law_383 : decode cL_law 383 = .ok (.ifCond .ne 8, 3) := by decide +kernel
theorem dL_law_386 : decode cL_law 386 = .ok (.bipush 14, 2) := by decide +kernel
theorem dL_law_388 : decode cL_law 388 = .ok (.goto 5, 3) := by decide +kernel
theorem dL_law_391 : decode cL_law 391 = .ok (.bipush 81, 2) := by decide +kernel
theorem dL_law_393 : decode cL_law 393 = .ok (.invokestatic 185, 3) := by decide +kernel
theorem dL_law_396 : decode cL_law 396 = .ok (.goto 123, 3) := by decide +kernel
theorem dL_law_399 : decode cL_law 399 = .ok (.iload 8, 2) := by decide +kernel
theorem dL_law_401 : decode cL_law 401 = .ok (.bipush 7, 2) := by decide +kernel
theorem dL_law_403 : decode cL_law 403 = .ok (.if_icmp .ne 18, 3) := by decide +kernel
theorem dL_law_406 : decode cL_law 406 = .ok (.iload 7, 2) := by decide +kernel
theorem dL_law_408 : decode cL_law 408 = .ok (.bipush 7, 2) := by decide +kernel
theorem dL_law_410 : decode cL_law 410 = .ok (.ishr, 1) := by decide +kernel
theorem dL_law_411 : decode cL_law 411 = .ok (.bipush 82, 2) := by decide +kernel
theorem dL_law_413 : decode cL_law 413 = .ok (.invokestatic 185, 3) := by decide +kernel
theorem dL_law_416 : decode cL_law 416 = .ok (.iconst 1, 1) := by decide +kernel
theorem dL_law_417 : decode cL_law 417 = .ok (.isub, 1) := by decide +kernel
theorem dL_law_418 : decode cL_law 418 = .ok (.goto 101, 3) := by decide +kernel
theorem dL_law_421 : decode cL_law 421 = .ok (.iload 8, 2) := by decide +kernel
theorem dL_law_423 : decode cL_law 423 = .ok (.bipush 9, 2) := by decide +kernel
theorem dL_law_425 : decode cL_law 425 = .ok (.if_icmp .ne 16, 3) := by decide +kernel
theorem dL_law_428 : decode cL_law 428 = .ok (.iload 7, 2) := by decide +kernel
theorem dL_law_430 : decode cL_law 430 = .ok (.bipush 7, 2) := by decide +kernel
theorem dL_law_432 : decode cL_law 432 = .ok (.ishr, 1) := by decide +kernel
theorem dL_law_433 : decode cL_law 433 = .ok (.bipush 6, 2) := by decide +kernel
theorem dL_law_435 : decode cL_law 435 = .ok (.invokestatic 185, 3) := by decide +kernel
theorem dL_law_438 : decode cL_law 438 = .ok (.goto 81, 3) := by decide +kernel
theorem dL_law_441 : decode cL_law 441 = .ok (.iload 8, 2) := by decide +kernel
theorem dL_law_443 : decode cL_law 443 = .ok (.bipush 10, 2) := by decide +kernel
theorem dL_law_445 : decode cL_law 445 = .ok (.if_icmp .ne 73, 3) := by decide +kernel
theorem dL_law_448 : decode cL_law 448 = .ok (.iload 9, 2) := by decide +kernel
theorem dL_law_450 : decode cL_law 450 = .ok (.ifCond .ne 17, 3) := by decide +kernel
theorem dL_law_453 : decode cL_law 453 = .ok (.iconst 1, 1) := by decide +kernel
theorem dL_law_454 : decode cL_law 454 = .ok (.iload 7, 2) := by decide +kernel
theorem dL_law_456 : decode cL_law 456 = .ok (.bipush 7, 2) := by decide +kernel
theorem dL_law_458 : decode cL_law 458 = .ok (.ishr, 1) := by decide +kernel
theorem dL_law_459 : decode cL_law 459 = .ok (.iconst 2, 1) := by decide +kernel
theorem dL_law_460 : decode cL_law 460 = .ok (.invokestatic 185, 3) := by decide +kernel
theorem dL_law_463 : decode cL_law 463 = .ok (.iadd, 1) := by decide +kernel
theorem dL_law_464 : decode cL_law 464 = .ok (.goto 55, 3) := by decide +kernel
theorem dL_law_467 : decode cL_law 467 = .ok (.iload 9, 2) := by decide +kernel
theorem dL_law_469 : decode cL_law 469 = .ok (.iconst 1, 1) := by decide +kernel
theorem dL_law_470 : decode cL_law 470 = .ok (.if_icmp .ne 18, 3) := by decide +kernel
theorem dL_law_473 : decode cL_law 473 = .ok (.iconst 1, 1) := by decide +kernel
theorem dL_law_474 : decode cL_law 474 = .ok (.iload 7, 2) := by decide +kernel
theorem dL_law_476 : decode cL_law 476 = .ok (.bipush 7, 2) := by decide +kernel
theorem dL_law_478 : decode cL_law 478 = .ok (.ishr, 1) := by decide +kernel
theorem dL_law_479 : decode cL_law 479 = .ok (.bipush 9, 2) := by decide +kernel
theorem dL_law_481 : decode cL_law 481 = .ok (.invokestatic 185, 3) := by decide +kernel
theorem dL_law_484 : decode cL_law 484 = .ok (.iadd, 1) := by decide +kernel
theorem dL_law_485 : decode cL_law 485 = .ok (.goto 34, 3) := by decide +kernel
theorem dL_law_488 : decode cL_law 488 = .ok (.iload 9, 2) := by decide +kernel
theorem dL_law_490 : decode cL_law 490 = .ok (.iconst 2, 1) := by decide +kernel
theorem dL_law_491 : decode cL_law 491 = .ok (.if_icmp .ne 15, 3) := by decide +kernel
theorem dL_law_494 : decode cL_law 494 = .ok (.iload 7, 2) := by decide +kernel
theorem dL_law_496 : decode cL_law 496 = .ok (.bipush 7, 2) := by decide +kernel
theorem dL_law_498 : decode cL_law 498 = .ok (.ishr, 1) := by decide +kernel
theorem dL_law_499 : decode cL_law 499 = .ok (.iconst 5, 1) := by decide +kernel
theorem dL_law_500 : decode cL_law 500 = .ok (.invokestatic 185, 3) := by decide +kernel
theorem dL_law_503 : decode cL_law 503 = .ok (.goto 16, 3) := by decide +kernel
theorem dL_law_506 : decode cL_law 506 = .ok (.iload 7, 2) := by decide +kernel
theorem dL_law_508 : decode cL_law 508 = .ok (.bipush 7, 2) := by decide +kernel
theorem dL_law_510 : decode cL_law 510 = .ok (.ishr, 1) := by decide +kernel
theorem dL_law_511 : decode cL_law 511 = .ok (.iconst 2, 1) := by decide +kernel
theorem dL_law_512 : decode cL_law 512 = .ok (.invokestatic 185, 3) := by decide +kernel
theorem dL_law_515 : decode cL_law 515 = .ok (.goto 4, 3) := by decide +kernel
theorem dL_law_518 : decode cL_law 518 = .ok (.iconst 0, 1) := by decide +kernel
theorem dL_law_519 : decode cL_law 519 = .ok (.istore 10, 2) := by decide +kernel
theorem dL_law_521 : decode cL_law 521 = .ok (.aload_n 1, 1) := by decide +kernel
theorem dL_law_522 : decode cL_law 522 = .ok (.invokestatic 211, 3) := by decide +kernel
theorem dL_law_525 : decode cL_law 525 = .ok (.lstore 11, 2) := by decide +kernel
theorem dL_law_527 : decode cL_law 527 = .ok (.aload_n 1, 1) := by decide +kernel
theorem dL_law_528 : decode cL_law 528 = .ok (.iload 8, 2) := by decide +kernel
theorem dL_law_530 : decode cL_law 530 = .ok (.iload 9, 2) := by decide +kernel
theorem dL_law_532 : decode cL_law 532 = .ok (.iload 10, 2) := by decide +kernel
theorem dL_law_534 : decode cL_law 534 = .ok (.invokestatic 215, 3) := by decide +kernel
theorem dL_law_537 : decode cL_law 537 = .ok (.istore 13, 2) := by decide +kernel
theorem dL_law_539 : decode cL_law 539 = .ok (.iload 13, 2) := by decide +kernel
theorem dL_law_541 : decode cL_law 541 = .ok (.bipush (-100), 2) := by decide +kernel
theorem dL_law_543 : decode cL_law 543 = .ok (.if_icmp .ge 16, 3) := by decide +kernel
theorem dL_law_546 : decode cL_law 546 = .ok (.aload_n 1, 1) := by decide +kernel
theorem dL_law_547 : decode cL_law 547 = .ok (.invokestatic 211, 3) := by decide +kernel
theorem dL_law_550 : decode cL_law 550 = .ok (.lload 11, 2) := by decide +kernel
theorem dL_law_552 : decode cL_law 552 = .ok (.lcmp, 1) := by decide +kernel
theorem dL_law_553 : decode cL_law 553 = .ok (.ifCond .eq 50, 3) := by decide +kernel
theorem dL_law_556 : decode cL_law 556 = .ok (.goto 45, 3) := by decide +kernel
theorem dL_law_559 : decode cL_law 559 = .ok (.iload 6, 2) := by decide +kernel
theorem dL_law_561 : decode cL_law 561 = .ok (.bipush 24, 2) := by decide +kernel
theorem dL_law_563 : decode cL_law 563 = .ok (.ishr, 1) := by decide +kernel
theorem dL_law_564 : decode cL_law 564 = .ok (.iconst 3, 1) := by decide +kernel
theorem dL_law_565 : decode cL_law 565 = .ok (.iand, 1) := by decide +kernel
theorem dL_law_566 : decode cL_law 566 = .ok (.ifCond .ne 37, 3) := by decide +kernel
theorem dL_law_569 : decode cL_law 569 = .ok (.aload_n 1, 1) := by decide +kernel
theorem dL_law_570 : decode cL_law 570 = .ok (.invokestatic 219, 3) := by decide +kernel
theorem dL_law_573 : decode cL_law 573 = .ok (.ifCond .lt 28, 3) := by decide +kernel
theorem dL_law_576 : decode cL_law 576 = .ok (.aload_n 1, 1) := by decide +kernel
theorem dL_law_577 : decode cL_law 577 = .ok (.invokestatic 211, 3) := by decide +kernel
theorem dL_law_580 : decode cL_law 580 = .ok (.lload 11, 2) := by decide +kernel
theorem dL_law_582 : decode cL_law 582 = .ok (.lcmp, 1) := by decide +kernel
theorem dL_law_583 : decode cL_law 583 = .ok (.ifCond .ne 18, 3) := by decide +kernel
theorem dL_law_586 : decode cL_law 586 = .ok (.aload_n 1, 1) := by decide +kernel
theorem dL_law_587 : decode cL_law 587 = .ok (.iload 8, 2) := by decide +kernel
theorem dL_law_589 : decode cL_law 589 = .ok (.iload 9, 2) := by decide +kernel
theorem dL_law_591 : decode cL_law 591 = .ok (.iload 10, 2) := by decide +kernel
theorem dL_law_593 : decode cL_law 593 = .ok (.invokestatic 215, 3) := by decide +kernel
theorem dL_law_596 : decode cL_law 596 = .ok (.iload 13, 2) := by decide +kernel
theorem dL_law_598 : decode cL_law 598 = .ok (.if_icmp .eq 5, 3) := by decide +kernel
theorem dL_law_601 : decode cL_law 601 = .ok (.iconst 0, 1) := by decide +kernel
theorem dL_law_602 : decode cL_law 602 = .ok (.ireturn, 1) := by decide +kernel
theorem dL_law_603 : decode cL_law 603 = .ok (.iload 8, 2) := by decide +kernel
theorem dL_law_605 : decode cL_law 605 = .ok (.bipush 6, 2) := by decide +kernel
theorem dL_law_607 : decode cL_law 607 = .ok (.if_icmp .lt 10, 3) := by decide +kernel
theorem dL_law_610 : decode cL_law 610 = .ok (.iload 8, 2) := by decide +kernel
theorem dL_law_612 : decode cL_law 612 = .ok (.bipush 9, 2) := by decide +kernel
theorem dL_law_614 : decode cL_law 614 = .ok (.if_icmp .ne 19, 3) := by decide +kernel
theorem dL_law_617 : decode cL_law 617 = .ok (.iload 8, 2) := by decide +kernel
theorem dL_law_619 : decode cL_law 619 = .ok (.iload 9, 2) := by decide +kernel
theorem dL_law_621 : decode cL_law 621 = .ok (.iload 10, 2) := by decide +kernel
theorem dL_law_623 : decode cL_law 623 = .ok (.aload_n 2, 1) := by decide +kernel
theorem dL_law_624 : decode cL_law 624 = .ok (.aload_n 3, 1) := by decide +kernel
theorem dL_law_625 : decode cL_law 625 = .ok (.aload 4, 2) := by decide +kernel
theorem dL_law_627 : decode cL_law 627 = .ok (.invokestatic 222, 3) := by decide +kernel
theorem dL_law_630 : decode cL_law 630 = .ok (.goto 16, 3) := by decide +kernel
theorem dL_law_633 : decode cL_law 633 = .ok (.iload 8, 2) := by decide +kernel
theorem dL_law_635 : decode cL_law 635 = .ok (.iload 9, 2) := by decide +kernel
theorem dL_law_637 : decode cL_law 637 = .ok (.iload 10, 2) := by decide +kernel
theorem dL_law_639 : decode cL_law 639 = .ok (.aload_n 2, 1) := by decide +kernel
theorem dL_law_640 : decode cL_law 640 = .ok (.aload_n 3, 1) := by decide +kernel
theorem dL_law_641 : decode cL_law 641 = .ok (.aload 4, 2) := by decide +kernel
theorem dL_law_643 : decode cL_law 643 = .ok (.invokestatic 226, 3) := by decide +kernel
theorem dL_law_646 : decode cL_law 646 = .ok (.istore 14, 2) := by decide +kernel
theorem dL_law_648 : decode cL_law 648 = .ok (.iload 13, 2) := by decide +kernel
theorem dL_law_650 : decode cL_law 650 = .ok (.iload 14, 2) := by decide +kernel
theorem dL_law_652 : decode cL_law 652 = .ok (.if_icmp .ne 34, 3) := by decide +kernel
theorem dL_law_655 : decode cL_law 655 = .ok (.aload_n 1, 1) := by decide +kernel
theorem dL_law_656 : decode cL_law 656 = .ok (.iload 7, 2) := by decide +kernel
theorem dL_law_658 : decode cL_law 658 = .ok (.bipush 9, 2) := by decide +kernel
theorem dL_law_660 : decode cL_law 660 = .ok (.ishr, 1) := by decide +kernel
theorem dL_law_661 : decode cL_law 661 = .ok (.iload 5, 2) := by decide +kernel
theorem dL_law_663 : decode cL_law 663 = .ok (.bipush 11, 2) := by decide +kernel
theorem dL_law_665 : decode cL_law 665 = .ok (.irem, 1) := by decide +kernel
theorem dL_law_666 : decode cL_law 666 = .ok (.bipush 10, 2) := by decide +kernel
theorem dL_law_668 : decode cL_law 668 = .ok (.if_icmp .ne 7, 3) := by decide +kernel
theorem dL_law_671 : decode cL_law 671 = .ok (.iconst 1, 1) := by decide +kernel
theorem dL_law_672 : decode cL_law 672 = .ok (.goto 4, 3) := by decide +kernel
theorem dL_law_675 : decode cL_law 675 = .ok (.iconst 0, 1) := by decide +kernel
theorem dL_law_676 : decode cL_law 676 = .ok (.aload_n 2, 1) := by decide +kernel
theorem dL_law_677 : decode cL_law 677 = .ok (.aload_n 3, 1) := by decide +kernel
theorem dL_law_678 : decode cL_law 678 = .ok (.aload 4, 2) := by decide +kernel
theorem dL_law_680 : decode cL_law 680 = .ok (.invokestatic 229, 3) := by decide +kernel
theorem dL_law_683 : decode cL_law 683 = .ok (.ifCond .ne 5, 3) := by decide +kernel
theorem dL_law_686 : decode cL_law 686 = .ok (.iconst 0, 1) := by decide +kernel
theorem dL_law_687 : decode cL_law 687 = .ok (.ireturn, 1) := by decide +kernel
theorem dL_law_688 : decode cL_law 688 = .ok (.iinc 5 1, 3) := by decide +kernel
theorem dL_law_691 : decode cL_law 691 = .ok (.goto (-610), 3) := by decide +kernel
theorem dL_law_694 : decode cL_law 694 = .ok (.iconst 1, 1) := by decide +kernel
theorem dL_law_695 : decode cL_law 695 = .ok (.ireturn, 1) := by decide +kernel
end
section
theorem zz_first9 : True := True.intro
end

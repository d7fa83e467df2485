section A13
theorem inR_f1 {x : Int32} {N : Nat} (h : x < 0) : inR x N = false := by
  have zq_1 : x.toInt < (0 : Int32).toInt := Int32.lt_iff_toInt_lt.mp h
  have zq_2 : (0 : Int32).toInt = 0 := by decide
  exact decide_eq_false (by omega)
theorem inR_f2 {x : Int32} {N : Nat} (hN : N < 2 ^ 31) (h : nI N ≤ x) : inR x N = false := by
  have zq_1 := Int32.le_iff_toInt_le.mp h
  rw [nI_toInt hN] at zq_1
  exact decide_eq_false (by omega)
theorem inR_t {x : Int32} {N : Nat} (hN : N < 2 ^ 31) (h1 : ¬ x < 0) (h2 : ¬ nI N ≤ x) : inR x N = true := by
  have zq_1 : ¬ x.toInt < (0 : Int32).toInt := fun z => h1 (Int32.lt_iff_toInt_lt.mpr z)
  have zq_2 : (0 : Int32).toInt = 0 := by decide
  have zq_3 : ¬ (nI N).toInt ≤ x.toInt := fun z => h2 (Int32.le_iff_toInt_le.mpr z)
  rw [nI_toInt hN] at zq_3
  exact decide_eq_true (by omega)
theorem inR_le {x : Int32} {N N' : Nat} (h : N ≤ N') (h2 : inR x N' = false) : inR x N = false := by
  have zq_1 : ¬ (0 ≤ x.toInt ∧ x.toInt < N') := of_decide_eq_false h2
  exact decide_eq_false (by omega)
theorem iz {x y : Int32} {b c : Bool} (hx : x = bI b) (h : c = b) : some (Value.int x) = some (Value.int (bI c)) := by rw [hx, h]

set_option maxRecDepth 20000 in
set_option maxHeartbeats 4000000 in
theorem K_X6_isCode (x : Int32) : CS yX6_isCode cX6_isCode 1 (some .boolean) 0 0 [.int x] (.int (bI (inR x 81))) := by
  refine CS.of ok_X6_isCode (Nat.le_of_ble_eq_true rfl) (fun M9 G9 p9 l9 e9 s9 m9 ar9 be9 me9 co9 C hr => ?_)
  refine a_iload_n C dX6_isCode_0 rfl rfl ?_
  refine a_if_lt (tgt := 14) C dX6_isCode_1 (by decide) (fun h_1 => ?_) (fun h_1 => ?_)
  · refine a_iconst (v := nI 0) C dX6_isCode_14 (by decide) ?_
    refine a_iret C hr ?_ dX6_isCode_15 rfl rfl ⟨?_, rfl⟩
    · first | exact bI_narrow _ | rfl
    · exact bI_fal (inR_f1 h_1)
  · refine a_iload_n C dX6_isCode_4 rfl rfl ?_
    refine a_bipush (v := nI 81) C dX6_isCode_5 (by decide) ?_
    refine a_icmp_ge (tgt := 14) C dX6_isCode_7 (by decide) (fun h_7 => ?_) (fun h_7 => ?_)
    · refine a_iconst (v := nI 0) C dX6_isCode_14 (by decide) ?_
      refine a_iret C hr ?_ dX6_isCode_15 rfl rfl ⟨?_, rfl⟩
      · first | exact bI_narrow _ | rfl
      · first | exact bI_fal (inR_f2 (by decide) h_7) | exact bI_tru (inR_t (by decide) h_1 h_7)
    · refine a_iconst (v := nI 1) C dX6_isCode_10 (by decide) ?_
      refine a_goto (tgt := 15) C dX6_isCode_11 (by decide) ?_
      refine a_iret C hr ?_ dX6_isCode_15 rfl rfl ⟨?_, rfl⟩
      · first | exact bI_narrow _ | rfl
      · first | exact bI_fal (inR_f2 (by decide) h_7) | exact bI_tru (inR_t (by decide) h_1 h_7)

set_option maxRecDepth 20000 in
set_option maxHeartbeats 4000000 in
theorem K_X6_isPerson (x : Int32) : CS yX6_isPerson cX6_isPerson 1 (some .boolean) 0 0 [.int x] (.int (bI (inR x 4))) := by
  refine CS.of ok_X6_isPerson (Nat.le_of_ble_eq_true rfl) (fun M9 G9 p9 l9 e9 s9 m9 ar9 be9 me9 co9 C hr => ?_)
  refine a_iload_n C dX6_isPerson_0 rfl rfl ?_
  refine a_if_lt (tgt := 13) C dX6_isPerson_1 (by decide) (fun h_1 => ?_) (fun h_1 => ?_)
  · refine a_iconst (v := nI 0) C dX6_isPerson_13 (by decide) ?_
    refine a_iret C hr ?_ dX6_isPerson_14 rfl rfl ⟨?_, rfl⟩
    · first | exact bI_narrow _ | rfl
    · exact bI_fal (inR_f1 h_1)
  · refine a_iload_n C dX6_isPerson_4 rfl rfl ?_
    refine a_iconst (v := nI 4) C dX6_isPerson_5 (by decide) ?_
    refine a_icmp_ge (tgt := 13) C dX6_isPerson_6 (by decide) (fun h_6 => ?_) (fun h_6 => ?_)
    · refine a_iconst (v := nI 0) C dX6_isPerson_13 (by decide) ?_
      refine a_iret C hr ?_ dX6_isPerson_14 rfl rfl ⟨?_, rfl⟩
      · first | exact bI_narrow _ | rfl
      · first | exact bI_fal (inR_f2 (by decide) h_6) | exact bI_tru (inR_t (by decide) h_1 h_6)
    · refine a_iconst (v := nI 1) C dX6_isPerson_9 (by decide) ?_
      refine a_goto (tgt := 14) C dX6_isPerson_10 (by decide) ?_
      refine a_iret C hr ?_ dX6_isPerson_14 rfl rfl ⟨?_, rfl⟩
      · first | exact bI_narrow _ | rfl
      · first | exact bI_fal (inR_f2 (by decide) h_6) | exact bI_tru (inR_t (by decide) h_1 h_6)

set_option maxRecDepth 20000 in
set_option maxHeartbeats 4000000 in
theorem K_X6_isNotch (x : Int32) : CS yX6_isNotch cX6_isNotch 1 (some .boolean) 0 0 [.int x] (.int (bI (inR x 4))) := by
  refine CS.of ok_X6_isNotch (Nat.le_of_ble_eq_true rfl) (fun M9 G9 p9 l9 e9 s9 m9 ar9 be9 me9 co9 C hr => ?_)
  refine a_iload_n C dX6_isNotch_0 rfl rfl ?_
  refine a_if_lt (tgt := 13) C dX6_isNotch_1 (by decide) (fun h_1 => ?_) (fun h_1 => ?_)
  · refine a_iconst (v := nI 0) C dX6_isNotch_13 (by decide) ?_
    refine a_iret C hr ?_ dX6_isNotch_14 rfl rfl ⟨?_, rfl⟩
    · first | exact bI_narrow _ | rfl
    · exact bI_fal (inR_f1 h_1)
  · refine a_iload_n C dX6_isNotch_4 rfl rfl ?_
    refine a_iconst (v := nI 4) C dX6_isNotch_5 (by decide) ?_
    refine a_icmp_ge (tgt := 13) C dX6_isNotch_6 (by decide) (fun h_6 => ?_) (fun h_6 => ?_)
    · refine a_iconst (v := nI 0) C dX6_isNotch_13 (by decide) ?_
      refine a_iret C hr ?_ dX6_isNotch_14 rfl rfl ⟨?_, rfl⟩
      · first | exact bI_narrow _ | rfl
      · first | exact bI_fal (inR_f2 (by decide) h_6) | exact bI_tru (inR_t (by decide) h_1 h_6)
    · refine a_iconst (v := nI 1) C dX6_isNotch_9 (by decide) ?_
      refine a_goto (tgt := 14) C dX6_isNotch_10 (by decide) ?_
      refine a_iret C hr ?_ dX6_isNotch_14 rfl rfl ⟨?_, rfl⟩
      · first | exact bI_narrow _ | rfl
      · first | exact bI_fal (inR_f2 (by decide) h_6) | exact bI_tru (inR_t (by decide) h_1 h_6)

set_option maxRecDepth 20000 in
set_option maxHeartbeats 4000000 in
theorem K_X6_isPlace (x : Int32) : CS yX6_isPlace cX6_isPlace 1 (some .boolean) 0 0 [.int x] (.int (bI (inR x 6))) := by
  refine CS.of ok_X6_isPlace (Nat.le_of_ble_eq_true rfl) (fun M9 G9 p9 l9 e9 s9 m9 ar9 be9 me9 co9 C hr => ?_)
  refine a_iload_n C dX6_isPlace_0 rfl rfl ?_
  refine a_if_lt (tgt := 14) C dX6_isPlace_1 (by decide) (fun h_1 => ?_) (fun h_1 => ?_)
  · refine a_iconst (v := nI 0) C dX6_isPlace_14 (by decide) ?_
    refine a_iret C hr ?_ dX6_isPlace_15 rfl rfl ⟨?_, rfl⟩
    · first | exact bI_narrow _ | rfl
    · exact bI_fal (inR_f1 h_1)
  · refine a_iload_n C dX6_isPlace_4 rfl rfl ?_
    refine a_bipush (v := nI 6) C dX6_isPlace_5 (by decide) ?_
    refine a_icmp_ge (tgt := 14) C dX6_isPlace_7 (by decide) (fun h_7 => ?_) (fun h_7 => ?_)
    · refine a_iconst (v := nI 0) C dX6_isPlace_14 (by decide) ?_
      refine a_iret C hr ?_ dX6_isPlace_15 rfl rfl ⟨?_, rfl⟩
      · first | exact bI_narrow _ | rfl
      · first | exact bI_fal (inR_f2 (by decide) h_7) | exact bI_tru (inR_t (by decide) h_1 h_7)
    · refine a_iconst (v := nI 1) C dX6_isPlace_10 (by decide) ?_
      refine a_goto (tgt := 15) C dX6_isPlace_11 (by decide) ?_
      refine a_iret C hr ?_ dX6_isPlace_15 rfl rfl ⟨?_, rfl⟩
      · first | exact bI_narrow _ | rfl
      · first | exact bI_fal (inR_f2 (by decide) h_7) | exact bI_tru (inR_t (by decide) h_1 h_7)

set_option maxRecDepth 20000 in
set_option maxHeartbeats 4000000 in
theorem K_X6_isSetting (x : Int32) : CS yX6_isSetting cX6_isSetting 1 (some .boolean) 0 0 [.int x] (.int (bI (inR x 4))) := by
  refine CS.of ok_X6_isSetting (Nat.le_of_ble_eq_true rfl) (fun M9 G9 p9 l9 e9 s9 m9 ar9 be9 me9 co9 C hr => ?_)
  refine a_iload_n C dX6_isSetting_0 rfl rfl ?_
  refine a_if_lt (tgt := 13) C dX6_isSetting_1 (by decide) (fun h_1 => ?_) (fun h_1 => ?_)
  · refine a_iconst (v := nI 0) C dX6_isSetting_13 (by decide) ?_
    refine a_iret C hr ?_ dX6_isSetting_14 rfl rfl ⟨?_, rfl⟩
    · first | exact bI_narrow _ | rfl
    · exact bI_fal (inR_f1 h_1)
  · refine a_iload_n C dX6_isSetting_4 rfl rfl ?_
    refine a_iconst (v := nI 4) C dX6_isSetting_5 (by decide) ?_
    refine a_icmp_ge (tgt := 13) C dX6_isSetting_6 (by decide) (fun h_6 => ?_) (fun h_6 => ?_)
    · refine a_iconst (v := nI 0) C dX6_isSetting_13 (by decide) ?_
      refine a_iret C hr ?_ dX6_isSetting_14 rfl rfl ⟨?_, rfl⟩
      · first | exact bI_narrow _ | rfl
      · first | exact bI_fal (inR_f2 (by decide) h_6) | exact bI_tru (inR_t (by decide) h_1 h_6)
    · refine a_iconst (v := nI 1) C dX6_isSetting_9 (by decide) ?_
      refine a_goto (tgt := 14) C dX6_isSetting_10 (by decide) ?_
      refine a_iret C hr ?_ dX6_isSetting_14 rfl rfl ⟨?_, rfl⟩
      · first | exact bI_narrow _ | rfl
      · first | exact bI_fal (inR_f2 (by decide) h_6) | exact bI_tru (inR_t (by decide) h_1 h_6)

set_option maxRecDepth 20000 in
theorem mkU_all : (List.range 81).all (fun c => (List.range 81).all fun d => decide (nI (mkN c) &&& (nI (mkN d) ^^^ (-1)) = 0) == rch d c) = true := by decide +kernel
set_option maxRecDepth 20000 in
theorem mkX_all : (List.range 81).all (fun c => (List.range 81).all fun d => decide (mkN c &&& mkN d = mkN c ∨ mkN c &&& mkN d = mkN d) == crs c d) = true := by decide +kernel
set_option maxRecDepth 20000 in
theorem mk_all : (List.range 81).all (fun c => decide (mkN c < 256)) = true := by decide +kernel
theorem mkU {c d : Nat} (hc : c < 81) (hd : d < 81) : (nI (mkN c) &&& (nI (mkN d) ^^^ (-1)) = 0) ↔ rch d c = true := by
  have zq_1 := eq_of_beq (all81b (P := fun c d => decide (nI (mkN c) &&& (nI (mkN d) ^^^ (-1)) = 0) == rch d c) mkU_all hc hd)
  rw [← zq_1, decide_eq_true_iff]
theorem mkX {c d : Nat} (hc : c < 81) (hd : d < 81) : (mkN c &&& mkN d = mkN c ∨ mkN c &&& mkN d = mkN d) ↔ crs c d = true := by
  have zq_1 := eq_of_beq (all81b (P := fun c d => decide (mkN c &&& mkN d = mkN c ∨ mkN c &&& mkN d = mkN d) == crs c d) mkX_all hc hd)
  rw [← zq_1, decide_eq_true_iff]
theorem mk_lt {c : Nat} (hc : c < 81) : mkN c < 2 ^ 31 := Nat.lt_trans (of_decide_eq_true (all81 (P := fun c => decide (mkN c < 256)) mk_all hc)) (by decide)
theorem und_ir (c : Nat) : und c c = false := by simp [und]
theorem rch_und {c d : Nat} (h : ¬ c = d) : rch d c = und c d := by
  have : (d == c) = false := by simp; exact fun z => h z.symm
  simp [rch, this]
theorem spN_le (c : Nat) : spN c ≤ 2 := by
  have h : ∀ k, dep c k < 3 := fun k => Nat.mod_lt _ (by decide)
  have h0 := h 0
  have h1 := h 1
  have h2 := h 2
  have h3 := h 3
  unfold spN dfN
  omega
set_option maxRecDepth 20000 in
set_option maxHeartbeats 4000000 in
theorem K_X1_isUnderOrLike {w : Wd} {c d : Nat} (hc : c < 81) (hd : d < 81) : CP yX1_isUnderOrLike cX1_isUnderOrLike 3 (some .boolean) 0 0 [.ref 50, .int (nI c), .int (nI d)] w (.int (bI (rch d c))) := by
  have zq_m1 := mk_lt hc
  have zq_m2 := mk_lt hd
  refine CF.of ok_X1_isUnderOrLike (Nat.le_of_ble_eq_true rfl) (fun ex us G9 p9 l9 e9 s9 m9 ar9 be9 me9 co9 C hr => ?_)
  refine a_aload_n C dX1_isUnderOrLike_0 rfl rfl ?_
  refine a_getfF C fX1_9 dX1_isUnderOrLike_1 (tw (by first | decide | omega)) (by first | decide | omega) rfl rfl ?_
  refine a_iload_n C dX1_isUnderOrLike_4 rfl rfl ?_
  refine n_iald C dX1_isUnderOrLike_5 (tw (by first | decide | omega)) (by first | decide | omega) rfl rfl (by first | decide | omega) (by decide) rfl ?_
  refine a_aload_n C dX1_isUnderOrLike_6 rfl rfl ?_
  refine a_getfF C fX1_9 dX1_isUnderOrLike_7 (tw (by first | decide | omega)) (by first | decide | omega) rfl rfl ?_
  refine a_iload_n C dX1_isUnderOrLike_10 rfl rfl ?_
  refine n_iald C dX1_isUnderOrLike_11 (tw (by first | decide | omega)) (by first | decide | omega) rfl rfl (by first | decide | omega) (by decide) rfl ?_
  refine a_iconst (v := (-1)) C dX1_isUnderOrLike_12 (by decide) ?_
  refine a_ixor C dX1_isUnderOrLike_13 ?_
  refine a_iand C dX1_isUnderOrLike_14 ?_
  refine a_if_ne (tgt := 22) C dX1_isUnderOrLike_15 (by decide) (fun h_15 => ?_) (fun h_15 => ?_)
  · refine a_iconst (v := nI 0) C dX1_isUnderOrLike_22 (by decide) ?_
    refine f_iret C hr ?_ dX1_isUnderOrLike_23 ⟨?_, rfl⟩
    · first | exact bI_narrow _ | rfl
    · first | exact bI_fal (Bool.eq_false_iff.mpr (fun zq_1 => h_15 ((mkU hc hd).mpr zq_1))) | exact bI_tru ((mkU hc hd).mp h_15)
  · refine a_iconst (v := nI 1) C dX1_isUnderOrLike_18 (by decide) ?_
    refine a_goto (tgt := 23) C dX1_isUnderOrLike_19 (by decide) ?_
    refine f_iret C hr ?_ dX1_isUnderOrLike_23 ⟨?_, rfl⟩
    · first | exact bI_narrow _ | rfl
    · first | exact bI_fal (Bool.eq_false_iff.mpr (fun zq_1 => h_15 ((mkU hc hd).mpr zq_1))) | exact bI_tru ((mkU hc hd).mp h_15)

set_option maxRecDepth 20000 in
set_option maxHeartbeats 4000000 in
theorem K_X1_liesUnder {w : Wd} {c d : Nat} (hc : c < 81) (hd : d < 81) : CP yX1_liesUnder cX1_liesUnder 3 (some .boolean) 0 0 [.ref 50, .int (nI c), .int (nI d)] w (.int (bI (und c d))) := by
  have zq_m1 := mk_lt hc
  have zq_m2 := mk_lt hd
  refine CF.of ok_X1_liesUnder (Nat.le_of_ble_eq_true rfl) (fun ex us G9 p9 l9 e9 s9 m9 ar9 be9 me9 co9 C hr => ?_)
  refine a_iload_n C dX1_liesUnder_0 rfl rfl ?_
  refine a_iload_n C dX1_liesUnder_1 rfl rfl ?_
  first | refine n_icmp_eq (tgt := 27) C dX1_liesUnder_2 (by decide) (by first | decide | omega) (by first | decide | omega) (fun h_2 => ?_) (fun h_2 => ?_) | refine a_icmp_eq (tgt := 27) C dX1_liesUnder_2 (by decide) (fun h_2 => ?_) (fun h_2 => ?_)
  · subst h_2
    refine a_iconst (v := nI 0) C dX1_liesUnder_27 (by decide) ?_
    refine f_iret C hr ?_ dX1_liesUnder_28 ⟨?_, rfl⟩
    · first | exact bI_narrow _ | rfl
    · first | exact bI_fal (und_ir _) | exact bI_fal (by rw [← rch_und h_2]; exact Bool.eq_false_iff.mpr (fun zq_1 => h_20 ((mkU hc hd).mpr zq_1))) | exact bI_tru (by rw [← rch_und h_2]; exact (mkU hc hd).mp h_20)
  · refine a_aload_n C dX1_liesUnder_5 rfl rfl ?_
    refine a_getfF C fX1_9 dX1_liesUnder_6 (tw (by first | decide | omega)) (by first | decide | omega) rfl rfl ?_
    refine a_iload_n C dX1_liesUnder_9 rfl rfl ?_
    refine n_iald C dX1_liesUnder_10 (tw (by first | decide | omega)) (by first | decide | omega) rfl rfl (by first | decide | omega) (by decide) rfl ?_
    refine a_aload_n C dX1_liesUnder_11 rfl rfl ?_
    refine a_getfF C fX1_9 dX1_liesUnder_12 (tw (by first | decide | omega)) (by first | decide | omega) rfl rfl ?_
    refine a_iload_n C dX1_liesUnder_15 rfl rfl ?_
    refine n_iald C dX1_liesUnder_16 (tw (by first | decide | omega)) (by first | decide | omega) rfl rfl (by first | decide | omega) (by decide) rfl ?_
    refine a_iconst (v := (-1)) C dX1_liesUnder_17 (by decide) ?_
    refine a_ixor C dX1_liesUnder_18 ?_
    refine a_iand C dX1_liesUnder_19 ?_
    refine a_if_ne (tgt := 27) C dX1_liesUnder_20 (by decide) (fun h_20 => ?_) (fun h_20 => ?_)
    · refine a_iconst (v := nI 0) C dX1_liesUnder_27 (by decide) ?_
      refine f_iret C hr ?_ dX1_liesUnder_28 ⟨?_, rfl⟩
      · first | exact bI_narrow _ | rfl
      · first | exact bI_fal (und_ir _) | exact bI_fal (by rw [← rch_und h_2]; exact Bool.eq_false_iff.mpr (fun zq_1 => h_20 ((mkU hc hd).mpr zq_1))) | exact bI_tru (by rw [← rch_und h_2]; exact (mkU hc hd).mp h_20)
    · refine a_iconst (v := nI 1) C dX1_liesUnder_23 (by decide) ?_
      refine a_goto (tgt := 28) C dX1_liesUnder_24 (by decide) ?_
      refine f_iret C hr ?_ dX1_liesUnder_28 ⟨?_, rfl⟩
      · first | exact bI_narrow _ | rfl
      · first | exact bI_fal (und_ir _) | exact bI_fal (by rw [← rch_und h_2]; exact Bool.eq_false_iff.mpr (fun zq_1 => h_20 ((mkU hc hd).mpr zq_1))) | exact bI_tru (by rw [← rch_und h_2]; exact (mkU hc hd).mp h_20)

set_option maxRecDepth 20000 in
set_option maxHeartbeats 4000000 in
theorem K_X1_areCrossed {w : Wd} {c d : Nat} (hc : c < 81) (hd : d < 81) : CP yX1_areCrossed cX1_areCrossed 4 (some .boolean) 0 0 [.ref 50, .int (nI c), .int (nI d)] w (.int (bI (crs c d))) := by
  have zq_m1 := mk_lt hc
  have zq_m2 := mk_lt hd
  refine CF.of ok_X1_areCrossed (Nat.le_of_ble_eq_true rfl) (fun ex us G9 p9 l9 e9 s9 m9 ar9 be9 me9 co9 C hr => ?_)
  refine a_pad 1 ?_
  refine a_eq (L' := [some (.ref 50), some (.int (nI c)), some (.int (nI d)), none]) rfl rfl rfl ?_
  refine a_aload_n C dX1_areCrossed_0 rfl rfl ?_
  refine a_getfF C fX1_9 dX1_areCrossed_1 (tw (by first | decide | omega)) (by first | decide | omega) rfl rfl ?_
  refine a_iload_n C dX1_areCrossed_4 rfl rfl ?_
  refine n_iald C dX1_areCrossed_5 (tw (by first | decide | omega)) (by first | decide | omega) rfl rfl (by first | decide | omega) (by decide) rfl ?_
  refine a_aload_n C dX1_areCrossed_6 rfl rfl ?_
  refine a_getfF C fX1_9 dX1_areCrossed_7 (tw (by first | decide | omega)) (by first | decide | omega) rfl rfl ?_
  refine a_iload_n C dX1_areCrossed_10 rfl rfl ?_
  refine n_iald C dX1_areCrossed_11 (tw (by first | decide | omega)) (by first | decide | omega) rfl rfl (by first | decide | omega) (by decide) rfl ?_
  first | refine n_iand C dX1_areCrossed_12 ?_ | refine a_iand C dX1_areCrossed_12 ?_
  refine a_istore_n C dX1_areCrossed_13 rfl (by decide) ?_
  refine a_iload_n C dX1_areCrossed_14 rfl rfl ?_
  refine a_aload_n C dX1_areCrossed_15 rfl rfl ?_
  refine a_getfF C fX1_9 dX1_areCrossed_16 (tw (by first | decide | omega)) (by first | decide | omega) rfl rfl ?_
  refine a_iload_n C dX1_areCrossed_19 rfl rfl ?_
  refine n_iald C dX1_areCrossed_20 (tw (by first | decide | omega)) (by first | decide | omega) rfl rfl (by first | decide | omega) (by decide) rfl ?_
  refine n_icmp_eq (tgt := 34) C dX1_areCrossed_21 (by decide) (Nat.lt_of_le_of_lt Nat.and_le_left zq_m1) zq_m1 (fun h_21 => ?_) (fun h_21 => ?_)
  · refine a_iconst (v := nI 1) C dX1_areCrossed_34 (by decide) ?_
    refine a_goto (tgt := 39) C dX1_areCrossed_35 (by decide) ?_
    refine f_iret C hr ?_ dX1_areCrossed_39 ⟨?_, rfl⟩
    · first | exact bI_narrow _ | rfl
    · first | exact bI_tru ((mkX hc hd).mp (Or.inl h_21)) | exact bI_tru ((mkX hc hd).mp (Or.inr h_31)) | exact bI_fal (Bool.eq_false_iff.mpr (fun zq_1 => ((mkX hc hd).mpr zq_1).elim h_21 h_31))
  · refine a_iload_n C dX1_areCrossed_24 rfl rfl ?_
    refine a_aload_n C dX1_areCrossed_25 rfl rfl ?_
    refine a_getfF C fX1_9 dX1_areCrossed_26 (tw (by first | decide | omega)) (by first | decide | omega) rfl rfl ?_
    refine a_iload_n C dX1_areCrossed_29 rfl rfl ?_
    refine n_iald C dX1_areCrossed_30 (tw (by first | decide | omega)) (by first | decide | omega) rfl rfl (by first | decide | omega) (by decide) rfl ?_
    refine n_icmp_ne (tgt := 38) C dX1_areCrossed_31 (by decide) (Nat.lt_of_le_of_lt Nat.and_le_left zq_m1) zq_m2 (fun h_31 => ?_) (fun h_31 => ?_)
    · refine a_iconst (v := nI 0) C dX1_areCrossed_38 (by decide) ?_
      refine f_iret C hr ?_ dX1_areCrossed_39 ⟨?_, rfl⟩
      · first | exact bI_narrow _ | rfl
      · first | exact bI_tru ((mkX hc hd).mp (Or.inl h_21)) | exact bI_tru ((mkX hc hd).mp (Or.inr h_31)) | exact bI_fal (Bool.eq_false_iff.mpr (fun zq_1 => ((mkX hc hd).mpr zq_1).elim h_21 h_31))
    · refine a_iconst (v := nI 1) C dX1_areCrossed_34 (by decide) ?_
      refine a_goto (tgt := 39) C dX1_areCrossed_35 (by decide) ?_
      refine f_iret C hr ?_ dX1_areCrossed_39 ⟨?_, rfl⟩
      · first | exact bI_narrow _ | rfl
      · first | exact bI_tru ((mkX hc hd).mp (Or.inl h_21)) | exact bI_tru ((mkX hc hd).mp (Or.inr h_31)) | exact bI_fal (Bool.eq_false_iff.mpr (fun zq_1 => ((mkX hc hd).mpr zq_1).elim h_21 h_31))

theorem KC_iul {w : Wd} {c d : Nat} {x : Int32} (hx : x = nI c) (hc : c < 81) (hd : d < 81) : CP yX1_isUnderOrLike cX1_isUnderOrLike 3 (some .boolean) 0 0 [.ref 50, .int x, .int (nI d)] w (.int (bI (rch d c))) := by
  rw [hx]
  exact K_X1_isUnderOrLike hc hd
end A13

section A12
set_option maxRecDepth 20000 in
set_option maxHeartbeats 4000000 in
theorem K_X7_ones {x : Nat} (hx : x < 2 ^ 31) : CS yX7_ones cX7_ones 3 (some .int) 0 0 [.int (nI x)] (.int (nI (onesN x))) := by
  refine CS.of ok_X7_ones (Nat.le_of_ble_eq_true rfl) (fun M9 G9 p9 l9 e9 s9 m9 ar9 be9 me9 co9 C hr => ?_)
  have ZL4 : ∀ (zd4 : Nat) (k : Nat), 12 + 1 ≤ k + zd4 → k ≤ 12 → WA G9 p9 l9 e9 (RM 0 0) s9 m9 ar9 be9 me9 co9 (QS G9 be9 ar9 s9 M9 (.int (nI (onesN x)))) 3 (M9.1 + M9.2.1) M9.2.2.1 4 [some (.int (nI x)), some (.int (nI (sumN (oneP x) k))), some (.int (nI k))] [] M9 := by
    intro zd4
    induction zd4 with
    | zero => intro k zm4 zh4_0; exfalso; omega
    | succ zd4 zih4 =>
      intro k zm4 zh4_0
      refine a_iload_n C dX7_ones_4 rfl rfl ?_
      refine a_bipush (v := nI 12) C dX7_ones_5 (by decide) ?_
      first | refine n_icmp_ge (tgt := 24) C dX7_ones_7 (by decide) (by first | decide | omega) (by first | decide | omega) (fun h_7 => ?_) (fun h_7 => ?_) | refine a_icmp_ge (tgt := 24) C dX7_ones_7 (by decide) (fun h_7 => ?_) (fun h_7 => ?_)
      · obtain rfl : k = 12 := by omega
        refine a_iload_n C dX7_ones_24 rfl rfl ?_
        refine a_iret C hr ?_ dX7_ones_25 rfl rfl ⟨?_, rfl⟩
        · rfl
        · rfl
      · refine a_iload_n C dX7_ones_10 rfl rfl ?_
        refine a_iload_n C dX7_ones_11 rfl rfl ?_
        refine a_iload_n C dX7_ones_12 rfl rfl ?_
        refine n_ishr C dX7_ones_13 (by first | decide | omega) (by first | decide | omega) ?_
        refine a_iconst (v := nI 1) C dX7_ones_14 (by decide) ?_
        first | refine n_iand C dX7_ones_15 ?_ | refine a_iand C dX7_ones_15 ?_
        first | refine n_iadd C dX7_ones_16 ?_ | refine a_iadd C dX7_ones_16 ?_
        refine a_istore_n C dX7_ones_17 rfl (by decide) ?_
        refine n_iinc C dX7_ones_18 rfl (by decide) ?_
        refine a_goto (tgt := 4) C dX7_ones_21 (by decide) ?_
        refine a_join (aLe_s ?_ (aLe_s ?_ (aLe_s ?_ aLe_nil))) rfl rfl (zih4 (k + 1) (by omega) (by omega))
        · first | with_reducible rfl | exact gl (by first | with_reducible rfl | (refine iF ?_; simp [sumN, oneP, h_7]; done) | (refine iT ?_; simp [sumN, oneP, h_7]; done) | (refine iB ?_; simp [sumN, oneP, h_7]; done) | (simp [sumN, oneP, h_7]; done) | (simp [sumN, oneP, h_7]; omega) | omega)
        · first | with_reducible rfl | exact gl (by first | with_reducible rfl | (refine iF ?_; simp [sumN, oneP, h_7]; done) | (refine iT ?_; simp [sumN, oneP, h_7]; done) | (refine iB ?_; simp [sumN, oneP, h_7]; done) | (simp [sumN, oneP, h_7]; done) | (simp [sumN, oneP, h_7]; omega) | omega)
        · first | with_reducible rfl | exact gl (by first | with_reducible rfl | (refine iF ?_; simp [sumN, oneP, h_7]; done) | (refine iT ?_; simp [sumN, oneP, h_7]; done) | (refine iB ?_; simp [sumN, oneP, h_7]; done) | (simp [sumN, oneP, h_7]; done) | (simp [sumN, oneP, h_7]; omega) | omega)
  refine a_pad 2 ?_
  refine a_eq (L' := [some (.int (nI x)), none, none]) rfl rfl rfl ?_
  refine a_iconst (v := nI 0) C dX7_ones_0 (by decide) ?_
  refine a_istore_n C dX7_ones_1 rfl (by decide) ?_
  refine a_iconst (v := nI 0) C dX7_ones_2 (by decide) ?_
  refine a_istore_n C dX7_ones_3 rfl (by decide) ?_
  refine a_join (aLe_s ?_ (aLe_s ?_ (aLe_s ?_ aLe_nil))) rfl rfl (ZL4 (12 + 1) 0 (by omega) (by omega))
  · first | with_reducible rfl | exact gl (by first | with_reducible rfl | (refine iF ?_; simp [sumN, oneP]; done) | (refine iT ?_; simp [sumN, oneP]; done) | (refine iB ?_; simp [sumN, oneP]; done) | (simp [sumN, oneP]; done) | (simp [sumN, oneP]; omega) | omega | rfl)
  · first | with_reducible rfl | exact gl (by first | with_reducible rfl | (refine iF ?_; simp [sumN, oneP]; done) | (refine iT ?_; simp [sumN, oneP]; done) | (refine iB ?_; simp [sumN, oneP]; done) | (simp [sumN, oneP]; done) | (simp [sumN, oneP]; omega) | omega | rfl)
  · first | with_reducible rfl | exact gl (by first | with_reducible rfl | (refine iF ?_; simp [sumN, oneP]; done) | (refine iT ?_; simp [sumN, oneP]; done) | (refine iB ?_; simp [sumN, oneP]; done) | (simp [sumN, oneP]; done) | (simp [sumN, oneP]; omega) | omega | rfl)

set_option maxRecDepth 20000 in
set_option maxHeartbeats 4000000 in
theorem K_X7_keysOf {w : Wd} {A : St} (hR : RR w A) (hA : AOK A) {p : Nat} (hp : p < 6) : CP yX7_keysOf cX7_keysOf 4 (some .int) 5 108 [.ref 204, .int (nI p)] w (.int (nI (kysA A p))) := by
  have zq_n := hA.n12
  refine CF.of ok_X7_keysOf (Nat.le_of_ble_eq_true rfl) (fun ex us G9 p9 l9 e9 s9 m9 ar9 be9 me9 co9 C hr => ?_)
  have ZL4 : ∀ (zd4 : Nat) (k : Nat), kN A + 1 ≤ k + zd4 → k ≤ kN A → WA G9 p9 l9 e9 (RM 5 108) s9 m9 ar9 be9 me9 co9 (QP G9 be9 ar9 s9 w ex us (.int (nI (kysA A p)))) 4 (219 + ex) us 4 [some (.ref 204), some (.int (nI p)), some (.int (nI (mskN (kyP A p) k))), some (.int (nI k))] [] (fzM w ex us) := by
    intro zd4
    induction zd4 with
    | zero => intro k zm4 zh4_0; exfalso; omega
    | succ zd4 zih4 =>
      intro k zm4 zh4_0
      refine a_iload_n C dX7_keysOf_4 rfl rfl ?_
      refine a_aload_n C dX7_keysOf_5 rfl rfl ?_
      refine a_getfF C fX7_7 dX7_keysOf_6 (show _ < 219 from (by first | decide | omega)) (by first | decide | omega) rfl rfl ?_
      refine a_iconst (v := nI 0) C dX7_keysOf_9 (by decide) ?_
      refine n_iald C dX7_keysOf_10 (show _ < 219 from (by first | decide | omega)) (by first | decide | omega) rfl rfl (by first | decide | omega) (by decide) (RR_n hR hA) ?_
      first | refine n_icmp_ge (tgt := 44) C dX7_keysOf_11 (by decide) (by first | decide | omega) (by first | decide | omega) (fun h_11 => ?_) (fun h_11 => ?_) | refine a_icmp_ge (tgt := 44) C dX7_keysOf_11 (by decide) (fun h_11 => ?_) (fun h_11 => ?_)
      · obtain rfl : k = kN A := by omega
        refine a_iload_n C dX7_keysOf_44 rfl rfl ?_
        refine f_iret C hr ?_ dX7_keysOf_45 ⟨?_, rfl⟩
        · rfl
        · rfl
      · refine a_iload_n C dX7_keysOf_14 rfl rfl ?_
        refine a_via 36 (nI (if kyP A p k then 2 ^ k else 0)) ?_ (fun zJ36 => ?_)
        · first | refine n_ior C dX7_keysOf_36 ?_ | refine a_ior C dX7_keysOf_36 ?_
          refine a_istore_n C dX7_keysOf_37 rfl (by decide) ?_
          refine n_iinc C dX7_keysOf_38 rfl (by decide) ?_
          refine a_goto (tgt := 4) C dX7_keysOf_41 (by decide) ?_
          refine a_join (aLe_s ?_ (aLe_s ?_ (aLe_s ?_ (aLe_s ?_ aLe_nil)))) rfl rfl (zih4 (k + 1) (by omega) (by omega))
          · first | with_reducible rfl | exact gl (by first | with_reducible rfl | (refine iF ?_; simp [mskN, kyP, h_11]; done) | (refine iT ?_; simp [mskN, kyP, h_11]; done) | (refine iB ?_; simp [mskN, kyP, h_11]; done) | (simp [mskN, kyP, h_11]; done) | (simp [mskN, kyP, h_11]; omega) | omega)
          · first | with_reducible rfl | exact gl (by first | with_reducible rfl | (refine iF ?_; simp [mskN, kyP, h_11]; done) | (refine iT ?_; simp [mskN, kyP, h_11]; done) | (refine iB ?_; simp [mskN, kyP, h_11]; done) | (simp [mskN, kyP, h_11]; done) | (simp [mskN, kyP, h_11]; omega) | omega)
          · first | with_reducible rfl | exact gl (by first | with_reducible rfl | (refine iF ?_; simp [mskN, kyP, h_11]; done) | (refine iT ?_; simp [mskN, kyP, h_11]; done) | (refine iB ?_; simp [mskN, kyP, h_11]; done) | (simp [mskN, kyP, h_11]; done) | (simp [mskN, kyP, h_11]; omega) | omega)
          · first | with_reducible rfl | exact gl (by first | with_reducible rfl | (refine iF ?_; simp [mskN, kyP, h_11]; done) | (refine iT ?_; simp [mskN, kyP, h_11]; done) | (refine iB ?_; simp [mskN, kyP, h_11]; done) | (simp [mskN, kyP, h_11]; done) | (simp [mskN, kyP, h_11]; omega) | omega)
        · have zq_c := hA.c81 (k := k) (by omega)
          refine a_aload_n C dX7_keysOf_15 rfl rfl ?_
          refine a_aload_n C dX7_keysOf_16 rfl rfl ?_
          refine a_iload_n C dX7_keysOf_17 rfl rfl ?_
          refine a_iconst (v := nI 0) C dX7_keysOf_18 (by decide) ?_
          refine p_callV C (KC_ofKey0 hR hA (by first | assumption | decide | omega)) vX7_85 rfl (by first | decide | omega) rfl rfl dX7_keysOf_19 (Nat.le_of_ble_eq_true rfl) ⟨by decide, by decide⟩ ?_
          refine a_iload_n C dX7_keysOf_22 rfl rfl ?_
          refine p_callV C (K_X7_opens hR hA (by first | assumption | decide | omega) (by first | assumption | decide | omega)) vX7_101 rfl (by first | decide | omega) rfl rfl dX7_keysOf_23 (Nat.le_of_ble_eq_true rfl) ⟨by decide, by decide⟩ ?_
          first | refine b_if_eq (tgt := 35) C dX7_keysOf_26 (by decide) (fun h_26 => ?_) (fun h_26 => ?_) | refine n_if_eq (tgt := 35) C dX7_keysOf_26 (by decide) (by first | decide | omega) (fun h_26 => ?_) (fun h_26 => ?_) | refine a_if_eq (tgt := 35) C dX7_keysOf_26 (by decide) (fun h_26 => ?_) (fun h_26 => ?_)
          · refine a_iconst (v := nI 0) C dX7_keysOf_35 (by decide) ?_
            refine a_eq rfl (gl1 ?_) rfl zJ36
            · first | with_reducible rfl | (refine iF ?_; simp [mskN, kyP, h_11, h_26]; done) | (refine iT ?_; simp [mskN, kyP, h_11, h_26]; done) | (refine iB ?_; simp [mskN, kyP, h_11, h_26]; done) | (simp [mskN, kyP, h_11, h_26]; done) | (simp [mskN, kyP, h_11, h_26]; omega) | omega
          · refine a_iconst (v := nI 1) C dX7_keysOf_29 (by decide) ?_
            refine a_iload_n C dX7_keysOf_30 rfl rfl ?_
            refine n_ishl C dX7_keysOf_31 (by omega) (p12_lt (by omega)) ?_
            refine a_goto (tgt := 36) C dX7_keysOf_32 (by decide) ?_
            refine a_eq rfl (gl1 ?_) rfl zJ36
            · first | with_reducible rfl | (refine iF ?_; simp [mskN, kyP, h_11, h_26]; done) | (refine iT ?_; simp [mskN, kyP, h_11, h_26]; done) | (refine iB ?_; simp [mskN, kyP, h_11, h_26]; done) | (simp [mskN, kyP, h_11, h_26]; done) | (simp [mskN, kyP, h_11, h_26]; omega) | omega
  refine a_pad 2 ?_
  refine a_eq (L' := [some (.ref 204), some (.int (nI p)), none, none]) rfl rfl rfl ?_
  refine a_iconst (v := nI 0) C dX7_keysOf_0 (by decide) ?_
  refine a_istore_n C dX7_keysOf_1 rfl (by decide) ?_
  refine a_iconst (v := nI 0) C dX7_keysOf_2 (by decide) ?_
  refine a_istore_n C dX7_keysOf_3 rfl (by decide) ?_
  refine a_join (aLe_s ?_ (aLe_s ?_ (aLe_s ?_ (aLe_s ?_ aLe_nil)))) rfl rfl (ZL4 (kN A + 1) 0 (by omega) (by omega))
  · first | with_reducible rfl | exact gl (by first | with_reducible rfl | (refine iF ?_; simp [mskN, kyP]; done) | (refine iT ?_; simp [mskN, kyP]; done) | (refine iB ?_; simp [mskN, kyP]; done) | (simp [mskN, kyP]; done) | (simp [mskN, kyP]; omega) | omega | rfl)
  · first | with_reducible rfl | exact gl (by first | with_reducible rfl | (refine iF ?_; simp [mskN, kyP]; done) | (refine iT ?_; simp [mskN, kyP]; done) | (refine iB ?_; simp [mskN, kyP]; done) | (simp [mskN, kyP]; done) | (simp [mskN, kyP]; omega) | omega | rfl)
  · first | with_reducible rfl | exact gl (by first | with_reducible rfl | (refine iF ?_; simp [mskN, kyP]; done) | (refine iT ?_; simp [mskN, kyP]; done) | (refine iB ?_; simp [mskN, kyP]; done) | (simp [mskN, kyP]; done) | (simp [mskN, kyP]; omega) | omega | rfl)
  · first | with_reducible rfl | exact gl (by first | with_reducible rfl | (refine iF ?_; simp [mskN, kyP]; done) | (refine iT ?_; simp [mskN, kyP]; done) | (refine iB ?_; simp [mskN, kyP]; done) | (simp [mskN, kyP]; done) | (simp [mskN, kyP]; omega) | omega | rfl)

set_option maxRecDepth 20000 in
set_option maxHeartbeats 4000000 in
theorem K_X7_wears {w : Wd} {A : St} (hR : RR w A) (hA : AOK A) (x : Int32) : CP yX7_wears cX7_wears 2 (some .boolean) 0 0 [.ref 204, .int x] w (.int (bI (wrA A x))) := by
  have zq_n := hA.n12
  have zq_s := hA.s10 (j := 2) (by decide)
  refine CF.of ok_X7_wears (Nat.le_of_ble_eq_true rfl) (fun ex us G9 p9 l9 e9 s9 m9 ar9 be9 me9 co9 C hr => ?_)
  refine a_aload_n C dX7_wears_0 rfl rfl ?_
  refine a_getfF C fX7_7 dX7_wears_1 (show _ < 219 from (by first | decide | omega)) (by first | decide | omega) rfl rfl ?_
  refine a_bipush (v := nI 10) C dX7_wears_4 (by decide) ?_
  refine n_iald C dX7_wears_6 (show _ < 219 from (by first | decide | omega)) (by first | decide | omega) rfl rfl (by first | decide | omega) (by decide) (RR_s hR hA (j := 2) (by decide)) ?_
  first | refine n_if_le (tgt := 26) C dX7_wears_7 (by decide) (by first | decide | omega) (fun h_7 => ?_) (fun h_7 => ?_) | refine a_if_le (tgt := 26) C dX7_wears_7 (by decide) (fun h_7 => ?_) (fun h_7 => ?_)
  · refine a_iconst (v := nI 0) C dX7_wears_26 (by decide) ?_
    refine f_iret C hr ?_ dX7_wears_27 ⟨?_, rfl⟩
    · first | exact bI_narrow _ | rfl
    · first | with_reducible rfl | exact gl (by first | with_reducible rfl | (refine iF ?_; simp [wrA, h_7]; done) | (refine iT ?_; simp [wrA, h_7]; done) | (refine iB ?_; simp [wrA, h_7]; done) | (simp [wrA, h_7]; done) | (simp [wrA, h_7]; omega) | omega)
  · refine a_iload_n C dX7_wears_10 rfl rfl ?_
    refine a_aload_n C dX7_wears_11 rfl rfl ?_
    refine a_getfF C fX7_7 dX7_wears_12 (show _ < 219 from (by first | decide | omega)) (by first | decide | omega) rfl rfl ?_
    refine a_bipush (v := nI 10) C dX7_wears_15 (by decide) ?_
    refine n_iald C dX7_wears_17 (show _ < 219 from (by first | decide | omega)) (by first | decide | omega) rfl rfl (by first | decide | omega) (by decide) (RR_s hR hA (j := 2) (by decide)) ?_
    refine a_irem C dX7_wears_18 (nI_ne0 (by omega) (by omega)) ?_
    refine a_if_ne (tgt := 26) C dX7_wears_19 (by decide) (fun h_19 => ?_) (fun h_19 => ?_)
    · refine a_iconst (v := nI 0) C dX7_wears_26 (by decide) ?_
      refine f_iret C hr ?_ dX7_wears_27 ⟨?_, rfl⟩
      · first | exact bI_narrow _ | rfl
      · first | with_reducible rfl | exact gl (by first | with_reducible rfl | (refine iF ?_; simp [wrA, h_7, h_19, (beq_eq_false_iff_ne.mpr h_19), (bne_iff_ne.mpr h_19)]; done) | (refine iT ?_; simp [wrA, h_7, h_19, (beq_eq_false_iff_ne.mpr h_19), (bne_iff_ne.mpr h_19)]; done) | (refine iB ?_; simp [wrA, h_7, h_19, (beq_eq_false_iff_ne.mpr h_19), (bne_iff_ne.mpr h_19)]; done) | (simp [wrA, h_7, h_19, (beq_eq_false_iff_ne.mpr h_19), (bne_iff_ne.mpr h_19)]; done) | (simp [wrA, h_7, h_19, (beq_eq_false_iff_ne.mpr h_19), (bne_iff_ne.mpr h_19)]; omega) | omega)
    · refine a_iconst (v := nI 1) C dX7_wears_22 (by decide) ?_
      refine a_goto (tgt := 27) C dX7_wears_23 (by decide) ?_
      refine f_iret C hr ?_ dX7_wears_27 ⟨?_, rfl⟩
      · first | exact bI_narrow _ | rfl
      · first | with_reducible rfl | exact gl (by first | with_reducible rfl | (refine iF ?_; simp [wrA, h_7, (eq_true h_19), (beq_iff_eq.mpr h_19), (bne_eq_false_iff_eq.mpr h_19)]; done) | (refine iT ?_; simp [wrA, h_7, (eq_true h_19), (beq_iff_eq.mpr h_19), (bne_eq_false_iff_eq.mpr h_19)]; done) | (refine iB ?_; simp [wrA, h_7, (eq_true h_19), (beq_iff_eq.mpr h_19), (bne_eq_false_iff_eq.mpr h_19)]; done) | (simp [wrA, h_7, (eq_true h_19), (beq_iff_eq.mpr h_19), (bne_eq_false_iff_eq.mpr h_19)]; done) | (simp [wrA, h_7, (eq_true h_19), (beq_iff_eq.mpr h_19), (bne_eq_false_iff_eq.mpr h_19)]; omega) | omega)

theorem woN_lt {c : Nat} (hc : c < 81) : woN c < 81 := by
  have : (List.range 81).all (fun c => decide (woN c < 81)) = true := by decide +kernel
  exact of_decide_eq_true (List.all_eq_true.mp this c (List.mem_range.mpr hc))
theorem bhA_lt {A : St} (hA : AOK A) {k : Nat} (hk : k < kN A) : ∀ u, bhA A k u < 81
  | 0 => hA.c81 (Nat.lt_of_lt_of_le hk hA.n12)
  | u + 1 => by
    have h := bhA_lt hA hk u
    show (if wrA A (A (40 + 6 * k + 4) + nI (u + 1)) then woN (bhA A k u) else bhA A k u) < 81
    split
    · exact woN_lt h
    · exact h
set_option maxRecDepth 20000 in
set_option maxHeartbeats 4000000 in
theorem K_X7_behind {w : Wd} {A : St} (hR : RR w A) (hA : AOK A) {k u : Nat} (hk : k < kN A) (hu : u < 1000) : CP yX7_behind cX7_behind 5 (some .int) 3 63 [.ref 204, .int (nI k), .int (nI u)] w (.int (nI (bhA A k u))) := by
  have zq_n := hA.n12
  refine CF.of ok_X7_behind (Nat.le_of_ble_eq_true rfl) (fun ex us G9 p9 l9 e9 s9 m9 ar9 be9 me9 co9 C hr => ?_)
  have ZL10 : ∀ (zd10 : Nat) (j : Nat), u + 1 ≤ j + zd10 → j ≤ u → WA G9 p9 l9 e9 (RM 3 63) s9 m9 ar9 be9 me9 co9 (QP G9 be9 ar9 s9 w ex us (.int (nI (bhA A k u)))) 5 (219 + ex) us 10 [some (.ref 204), some (.int (nI k)), some (.int (nI u)), some (.int (nI (bhA A k j))), some (.int (nI (j + 1)))] [] (fzM w ex us) := by
    intro zd10
    induction zd10 with
    | zero => intro j zm10 zh10_0; exfalso; omega
    | succ zd10 zih10 =>
      intro j zm10 zh10_0
      have zq_b := bhA_lt hA hk j
      refine a_iload C dX7_behind_10 rfl ?_
      refine a_iload_n C dX7_behind_12 rfl rfl ?_
      first | refine n_icmp_gt (tgt := 47) C dX7_behind_13 (by decide) (by first | decide | omega) (by first | decide | omega) (fun h_13 => ?_) (fun h_13 => ?_) | refine a_icmp_gt (tgt := 47) C dX7_behind_13 (by decide) (fun h_13 => ?_) (fun h_13 => ?_)
      · obtain rfl : j = u := by omega
        refine a_iload_n C dX7_behind_47 rfl rfl ?_
        refine f_iret C hr ?_ dX7_behind_48 ⟨?_, rfl⟩
        · rfl
        · rfl
      · refine a_via 40 (nI (bhA A k (j + 1))) ?_ (fun zJ40 => ?_)
        · refine a_istore_n C dX7_behind_40 rfl (by decide) ?_
          refine n_iinc C dX7_behind_41 rfl (by decide) ?_
          refine a_goto (tgt := 10) C dX7_behind_44 (by decide) ?_
          refine a_join (aLe_s ?_ (aLe_s ?_ (aLe_s ?_ (aLe_s ?_ (aLe_s ?_ aLe_nil))))) rfl rfl (zih10 (j + 1) (by omega) (by omega))
          · first | with_reducible rfl | exact gl (by first | with_reducible rfl | (refine iF ?_; simp [bhA, h_13]; done) | (refine iT ?_; simp [bhA, h_13]; done) | (refine iB ?_; simp [bhA, h_13]; done) | (simp [bhA, h_13]; done) | (simp [bhA, h_13]; omega) | omega)
          · first | with_reducible rfl | exact gl (by first | with_reducible rfl | (refine iF ?_; simp [bhA, h_13]; done) | (refine iT ?_; simp [bhA, h_13]; done) | (refine iB ?_; simp [bhA, h_13]; done) | (simp [bhA, h_13]; done) | (simp [bhA, h_13]; omega) | omega)
          · first | with_reducible rfl | exact gl (by first | with_reducible rfl | (refine iF ?_; simp [bhA, h_13]; done) | (refine iT ?_; simp [bhA, h_13]; done) | (refine iB ?_; simp [bhA, h_13]; done) | (simp [bhA, h_13]; done) | (simp [bhA, h_13]; omega) | omega)
          · first | with_reducible rfl | exact gl (by first | with_reducible rfl | (refine iF ?_; simp [bhA, h_13]; done) | (refine iT ?_; simp [bhA, h_13]; done) | (refine iB ?_; simp [bhA, h_13]; done) | (simp [bhA, h_13]; done) | (simp [bhA, h_13]; omega) | omega)
          · first | with_reducible rfl | exact gl (by first | with_reducible rfl | (refine iF ?_; simp [bhA, h_13]; done) | (refine iT ?_; simp [bhA, h_13]; done) | (refine iB ?_; simp [bhA, h_13]; done) | (simp [bhA, h_13]; done) | (simp [bhA, h_13]; omega) | omega)
        · refine a_aload_n C dX7_behind_16 rfl rfl ?_
          refine a_aload_n C dX7_behind_17 rfl rfl ?_
          refine a_iload_n C dX7_behind_18 rfl rfl ?_
          refine a_iconst (v := nI 4) C dX7_behind_19 (by decide) ?_
          refine p_callV C (K_X7_ofKey (j := 4) hR (by first | assumption | decide | omega)) vX7_85 rfl (by first | decide | omega) rfl rfl dX7_behind_20 (Nat.le_of_ble_eq_true rfl) ⟨by decide, by decide⟩ ?_
          refine a_iload C dX7_behind_23 rfl ?_
          first | refine n_iadd C dX7_behind_25 ?_ | refine a_iadd C dX7_behind_25 ?_
          refine p_callV C (K_X7_wears hR hA _) vX7_107 rfl (by first | decide | omega) rfl rfl dX7_behind_26 (Nat.le_of_ble_eq_true rfl) ⟨by decide, by decide⟩ ?_
          first | refine b_if_eq (tgt := 39) C dX7_behind_29 (by decide) (fun h_29 => ?_) (fun h_29 => ?_) | refine n_if_eq (tgt := 39) C dX7_behind_29 (by decide) (by first | decide | omega) (fun h_29 => ?_) (fun h_29 => ?_) | refine a_if_eq (tgt := 39) C dX7_behind_29 (by decide) (fun h_29 => ?_) (fun h_29 => ?_)
          · refine a_iload_n C dX7_behind_39 rfl rfl ?_
            refine a_eq rfl (gl1 ?_) rfl zJ40
            · first | with_reducible rfl | (refine iF ?_; simp [bhA, h_13, h_29]; done) | (refine iT ?_; simp [bhA, h_13, h_29]; done) | (refine iB ?_; simp [bhA, h_13, h_29]; done) | (simp [bhA, h_13, h_29]; done) | (simp [bhA, h_13, h_29]; omega) | omega
          · refine a_iload_n C dX7_behind_32 rfl rfl ?_
            refine p_callS C ((K_X7_wornCode (by first | assumption | decide | omega))).cp sX7_110 rfl dX7_behind_33 (Nat.le_of_ble_eq_true rfl) ⟨by decide, by decide⟩ ?_
            refine a_goto (tgt := 40) C dX7_behind_36 (by decide) ?_
            refine a_eq rfl (gl1 ?_) rfl zJ40
            · first | with_reducible rfl | (refine iF ?_; simp [bhA, h_13, h_29]; done) | (refine iT ?_; simp [bhA, h_13, h_29]; done) | (refine iB ?_; simp [bhA, h_13, h_29]; done) | (simp [bhA, h_13, h_29]; done) | (simp [bhA, h_13, h_29]; omega) | omega
  refine a_pad 2 ?_
  refine a_eq (L' := [some (.ref 204), some (.int (nI k)), some (.int (nI u)), none, none]) rfl rfl rfl ?_
  refine a_aload_n C dX7_behind_0 rfl rfl ?_
  refine a_iload_n C dX7_behind_1 rfl rfl ?_
  refine a_iconst (v := nI 0) C dX7_behind_2 (by decide) ?_
  refine p_callV C (KC_ofKey0 hR hA (by first | assumption | decide | omega)) vX7_85 rfl (by first | decide | omega) rfl rfl dX7_behind_3 (Nat.le_of_ble_eq_true rfl) ⟨by decide, by decide⟩ ?_
  refine a_istore_n C dX7_behind_6 rfl (by decide) ?_
  refine a_iconst (v := nI 1) C dX7_behind_7 (by decide) ?_
  refine a_istore C dX7_behind_8 (by decide) ?_
  refine a_join (aLe_s ?_ (aLe_s ?_ (aLe_s ?_ (aLe_s ?_ (aLe_s ?_ aLe_nil))))) rfl rfl (ZL10 (u + 1) 0 (by omega) (by omega))
  · first | with_reducible rfl | exact gl (by first | with_reducible rfl | (refine iF ?_; simp [bhA]; done) | (refine iT ?_; simp [bhA]; done) | (refine iB ?_; simp [bhA]; done) | (simp [bhA]; done) | (simp [bhA]; omega) | omega | rfl)
  · first | with_reducible rfl | exact gl (by first | with_reducible rfl | (refine iF ?_; simp [bhA]; done) | (refine iT ?_; simp [bhA]; done) | (refine iB ?_; simp [bhA]; done) | (simp [bhA]; done) | (simp [bhA]; omega) | omega | rfl)
  · first | with_reducible rfl | exact gl (by first | with_reducible rfl | (refine iF ?_; simp [bhA]; done) | (refine iT ?_; simp [bhA]; done) | (refine iB ?_; simp [bhA]; done) | (simp [bhA]; done) | (simp [bhA]; omega) | omega | rfl)
  · first | with_reducible rfl | exact gl (by first | with_reducible rfl | (refine iF ?_; simp [bhA]; done) | (refine iT ?_; simp [bhA]; done) | (refine iB ?_; simp [bhA]; done) | (simp [bhA]; done) | (simp [bhA]; omega) | omega | rfl)
  · rfl

set_option maxRecDepth 20000 in
set_option maxHeartbeats 4000000 in
theorem K_X7_isCrossedWith {w : Wd} {A : St} (hR : RR w A) (hA : AOK A) {k c : Nat} (hk : k < 1000) (hc : c < 81) : CP yX7_isCrossedWith cX7_isCrossedWith 5 (some .boolean) 4 85 [.ref 204, .int (nI k), .int (nI c)] w (.int (bI (xwA A k c))) := by
  have zq_n := hA.n12
  refine CF.of ok_X7_isCrossedWith (Nat.le_of_ble_eq_true rfl) (fun ex us G9 p9 l9 e9 s9 m9 ar9 be9 me9 co9 C hr => ?_)
  have ZL5 : ∀ (zd5 : Nat) (j : Nat), kN A + 1 ≤ j + zd5 → j ≤ kN A → WA G9 p9 l9 e9 (RM 4 85) s9 m9 ar9 be9 me9 co9 (QP G9 be9 ar9 s9 w ex us (.int (bI (xwA A k c)))) 5 (219 + ex) us 5 [some (.ref 204), some (.int (nI k)), some (.int (nI c)), some (.int (bI (anyN (xwP A k c) j))), some (.int (nI j))] [] (fzM w ex us) := by
    intro zd5
    induction zd5 with
    | zero => intro j zm5 zh5_0; exfalso; omega
    | succ zd5 zih5 =>
      intro j zm5 zh5_0
      refine a_iload C dX7_isCrossedWith_5 rfl ?_
      refine a_aload_n C dX7_isCrossedWith_7 rfl rfl ?_
      refine a_getfF C fX7_7 dX7_isCrossedWith_8 (show _ < 219 from (by first | decide | omega)) (by first | decide | omega) rfl rfl ?_
      refine a_iconst (v := nI 0) C dX7_isCrossedWith_11 (by decide) ?_
      refine n_iald C dX7_isCrossedWith_12 (show _ < 219 from (by first | decide | omega)) (by first | decide | omega) rfl rfl (by first | decide | omega) (by decide) (RR_n hR hA) ?_
      first | refine n_icmp_ge (tgt := 52) C dX7_isCrossedWith_13 (by decide) (by first | decide | omega) (by first | decide | omega) (fun h_13 => ?_) (fun h_13 => ?_) | refine a_icmp_ge (tgt := 52) C dX7_isCrossedWith_13 (by decide) (fun h_13 => ?_) (fun h_13 => ?_)
      · obtain rfl : j = kN A := by omega
        refine a_iload_n C dX7_isCrossedWith_52 rfl rfl ?_
        refine f_iret C hr ?_ dX7_isCrossedWith_53 ⟨?_, rfl⟩
        · first | exact bI_narrow _ | rfl
        · rfl
      · refine a_via 45 (bI (anyN (xwP A k c) (j + 1))) ?_ (fun zJ45 => ?_)
        · refine a_istore_n C dX7_isCrossedWith_45 rfl (by decide) ?_
          refine n_iinc C dX7_isCrossedWith_46 rfl (by decide) ?_
          refine a_goto (tgt := 5) C dX7_isCrossedWith_49 (by decide) ?_
          refine a_join (aLe_s ?_ (aLe_s ?_ (aLe_s ?_ (aLe_s ?_ (aLe_s ?_ aLe_nil))))) rfl rfl (zih5 (j + 1) (by omega) (by omega))
          · first | with_reducible rfl | exact gl (by first | with_reducible rfl | (refine iF ?_; simp [anyN, xwP, h_13]; done) | (refine iT ?_; simp [anyN, xwP, h_13]; done) | (refine iB ?_; simp [anyN, xwP, h_13]; done) | (simp [anyN, xwP, h_13]; done) | (simp [anyN, xwP, h_13]; omega) | omega)
          · first | with_reducible rfl | exact gl (by first | with_reducible rfl | (refine iF ?_; simp [anyN, xwP, h_13]; done) | (refine iT ?_; simp [anyN, xwP, h_13]; done) | (refine iB ?_; simp [anyN, xwP, h_13]; done) | (simp [anyN, xwP, h_13]; done) | (simp [anyN, xwP, h_13]; omega) | omega)
          · first | with_reducible rfl | exact gl (by first | with_reducible rfl | (refine iF ?_; simp [anyN, xwP, h_13]; done) | (refine iT ?_; simp [anyN, xwP, h_13]; done) | (refine iB ?_; simp [anyN, xwP, h_13]; done) | (simp [anyN, xwP, h_13]; done) | (simp [anyN, xwP, h_13]; omega) | omega)
          · first | with_reducible rfl | exact gl (by first | with_reducible rfl | (refine iF ?_; simp [anyN, xwP, h_13]; done) | (refine iT ?_; simp [anyN, xwP, h_13]; done) | (refine iB ?_; simp [anyN, xwP, h_13]; done) | (simp [anyN, xwP, h_13]; done) | (simp [anyN, xwP, h_13]; omega) | omega)
          · first | with_reducible rfl | exact gl (by first | with_reducible rfl | (refine iF ?_; simp [anyN, xwP, h_13]; done) | (refine iT ?_; simp [anyN, xwP, h_13]; done) | (refine iB ?_; simp [anyN, xwP, h_13]; done) | (simp [anyN, xwP, h_13]; done) | (simp [anyN, xwP, h_13]; omega) | omega)
        · have zq_c := hA.c81 (k := j) (by omega)
          refine a_iload_n C dX7_isCrossedWith_16 rfl rfl ?_
          first | refine b_if_ne (tgt := 40) C dX7_isCrossedWith_17 (by decide) (fun h_17 => ?_) (fun h_17 => ?_) | refine n_if_ne (tgt := 40) C dX7_isCrossedWith_17 (by decide) (by first | decide | omega) (fun h_17 => ?_) (fun h_17 => ?_) | refine a_if_ne (tgt := 40) C dX7_isCrossedWith_17 (by decide) (fun h_17 => ?_) (fun h_17 => ?_)
          · refine a_iconst (v := nI 1) C dX7_isCrossedWith_40 (by decide) ?_
            refine a_goto (tgt := 45) C dX7_isCrossedWith_41 (by decide) ?_
            refine a_eq rfl (gl1 ?_) rfl zJ45
            · first | with_reducible rfl | (refine iF ?_; simp [anyN, xwP, h_13, h_17]; done) | (refine iT ?_; simp [anyN, xwP, h_13, h_17]; done) | (refine iB ?_; simp [anyN, xwP, h_13, h_17]; done) | (simp [anyN, xwP, h_13, h_17]; done) | (simp [anyN, xwP, h_13, h_17]; omega) | omega
          · refine a_iload C dX7_isCrossedWith_20 rfl ?_
            refine a_iload_n C dX7_isCrossedWith_22 rfl rfl ?_
            first | refine n_icmp_eq (tgt := 44) C dX7_isCrossedWith_23 (by decide) (by first | decide | omega) (by first | decide | omega) (fun h_23 => ?_) (fun h_23 => ?_) | refine a_icmp_eq (tgt := 44) C dX7_isCrossedWith_23 (by decide) (fun h_23 => ?_) (fun h_23 => ?_)
            · refine a_iconst (v := nI 0) C dX7_isCrossedWith_44 (by decide) ?_
              refine a_eq rfl (gl1 ?_) rfl zJ45
              · first | with_reducible rfl | (refine iF ?_; simp [anyN, xwP, h_13, h_17, (eq_true h_23), (beq_iff_eq.mpr h_23), (bne_eq_false_iff_eq.mpr h_23)]; done) | (refine iT ?_; simp [anyN, xwP, h_13, h_17, (eq_true h_23), (beq_iff_eq.mpr h_23), (bne_eq_false_iff_eq.mpr h_23)]; done) | (refine iB ?_; simp [anyN, xwP, h_13, h_17, (eq_true h_23), (beq_iff_eq.mpr h_23), (bne_eq_false_iff_eq.mpr h_23)]; done) | (simp [anyN, xwP, h_13, h_17, (eq_true h_23), (beq_iff_eq.mpr h_23), (bne_eq_false_iff_eq.mpr h_23)]; done) | (simp [anyN, xwP, h_13, h_17, (eq_true h_23), (beq_iff_eq.mpr h_23), (bne_eq_false_iff_eq.mpr h_23)]; omega) | omega
            · refine a_iload_n C dX7_isCrossedWith_26 rfl rfl ?_
              refine a_aload_n C dX7_isCrossedWith_27 rfl rfl ?_
              refine a_iload C dX7_isCrossedWith_28 rfl ?_
              refine a_iconst (v := nI 0) C dX7_isCrossedWith_30 (by decide) ?_
              refine p_callV C (KC_ofKey0 hR hA (by first | assumption | decide | omega)) vX7_85 rfl (by first | decide | omega) rfl rfl dX7_isCrossedWith_31 (Nat.le_of_ble_eq_true rfl) ⟨by decide, by decide⟩ ?_
              refine p_callS C ((KC_isCrossed (by first | assumption | decide | omega) (by first | assumption | decide | omega))).cp sX7_227 rfl dX7_isCrossedWith_34 (Nat.le_of_ble_eq_true rfl) ⟨by decide, by decide⟩ ?_
              first | refine b_if_eq (tgt := 44) C dX7_isCrossedWith_37 (by decide) (fun h_37 => ?_) (fun h_37 => ?_) | refine n_if_eq (tgt := 44) C dX7_isCrossedWith_37 (by decide) (by first | decide | omega) (fun h_37 => ?_) (fun h_37 => ?_) | refine a_if_eq (tgt := 44) C dX7_isCrossedWith_37 (by decide) (fun h_37 => ?_) (fun h_37 => ?_)
              · refine a_iconst (v := nI 0) C dX7_isCrossedWith_44 (by decide) ?_
                refine a_eq rfl (gl1 ?_) rfl zJ45
                · first | with_reducible rfl | (refine iF ?_; simp [anyN, xwP, h_13, h_17, h_23, (beq_eq_false_iff_ne.mpr h_23), (bne_iff_ne.mpr h_23), h_37]; done) | (refine iT ?_; simp [anyN, xwP, h_13, h_17, h_23, (beq_eq_false_iff_ne.mpr h_23), (bne_iff_ne.mpr h_23), h_37]; done) | (refine iB ?_; simp [anyN, xwP, h_13, h_17, h_23, (beq_eq_false_iff_ne.mpr h_23), (bne_iff_ne.mpr h_23), h_37]; done) | (simp [anyN, xwP, h_13, h_17, h_23, (beq_eq_false_iff_ne.mpr h_23), (bne_iff_ne.mpr h_23), h_37]; done) | (simp [anyN, xwP, h_13, h_17, h_23, (beq_eq_false_iff_ne.mpr h_23), (bne_iff_ne.mpr h_23), h_37]; omega) | omega
              · refine a_iconst (v := nI 1) C dX7_isCrossedWith_40 (by decide) ?_
                refine a_goto (tgt := 45) C dX7_isCrossedWith_41 (by decide) ?_
                refine a_eq rfl (gl1 ?_) rfl zJ45
                · first | with_reducible rfl | (refine iF ?_; simp [anyN, xwP, h_13, h_17, h_23, (beq_eq_false_iff_ne.mpr h_23), (bne_iff_ne.mpr h_23), h_37]; done) | (refine iT ?_; simp [anyN, xwP, h_13, h_17, h_23, (beq_eq_false_iff_ne.mpr h_23), (bne_iff_ne.mpr h_23), h_37]; done) | (refine iB ?_; simp [anyN, xwP, h_13, h_17, h_23, (beq_eq_false_iff_ne.mpr h_23), (bne_iff_ne.mpr h_23), h_37]; done) | (simp [anyN, xwP, h_13, h_17, h_23, (beq_eq_false_iff_ne.mpr h_23), (bne_iff_ne.mpr h_23), h_37]; done) | (simp [anyN, xwP, h_13, h_17, h_23, (beq_eq_false_iff_ne.mpr h_23), (bne_iff_ne.mpr h_23), h_37]; omega) | omega
  refine a_pad 2 ?_
  refine a_eq (L' := [some (.ref 204), some (.int (nI k)), some (.int (nI c)), none, none]) rfl rfl rfl ?_
  refine a_iconst (v := nI 0) C dX7_isCrossedWith_0 (by decide) ?_
  refine a_istore_n C dX7_isCrossedWith_1 rfl (by decide) ?_
  refine a_iconst (v := nI 0) C dX7_isCrossedWith_2 (by decide) ?_
  refine a_istore C dX7_isCrossedWith_3 (by decide) ?_
  refine a_join (aLe_s ?_ (aLe_s ?_ (aLe_s ?_ (aLe_s ?_ (aLe_s ?_ aLe_nil))))) rfl rfl (ZL5 (kN A + 1) 0 (by omega) (by omega))
  · first | with_reducible rfl | exact gl (by first | with_reducible rfl | (refine iF ?_; simp [anyN, xwP]; done) | (refine iT ?_; simp [anyN, xwP]; done) | (refine iB ?_; simp [anyN, xwP]; done) | (simp [anyN, xwP]; done) | (simp [anyN, xwP]; omega) | omega | rfl)
  · first | with_reducible rfl | exact gl (by first | with_reducible rfl | (refine iF ?_; simp [anyN, xwP]; done) | (refine iT ?_; simp [anyN, xwP]; done) | (refine iB ?_; simp [anyN, xwP]; done) | (simp [anyN, xwP]; done) | (simp [anyN, xwP]; omega) | omega | rfl)
  · first | with_reducible rfl | exact gl (by first | with_reducible rfl | (refine iF ?_; simp [anyN, xwP]; done) | (refine iT ?_; simp [anyN, xwP]; done) | (refine iB ?_; simp [anyN, xwP]; done) | (simp [anyN, xwP]; done) | (simp [anyN, xwP]; omega) | omega | rfl)
  · first | with_reducible rfl | exact gl (by first | with_reducible rfl | (refine iF ?_; simp [anyN, xwP]; done) | (refine iT ?_; simp [anyN, xwP]; done) | (refine iB ?_; simp [anyN, xwP]; done) | (simp [anyN, xwP]; done) | (simp [anyN, xwP]; omega) | omega | rfl)
  · first | with_reducible rfl | exact gl (by first | with_reducible rfl | (refine iF ?_; simp [anyN, xwP]; done) | (refine iT ?_; simp [anyN, xwP]; done) | (refine iB ?_; simp [anyN, xwP]; done) | (simp [anyN, xwP]; done) | (simp [anyN, xwP]; omega) | omega | rfl)

set_option maxRecDepth 20000 in
set_option maxHeartbeats 4000000 in
theorem K_X7_firstCrossed {w : Wd} {A : St} (hR : RR w A) (hA : AOK A) {k : Nat} (hk : k < kN A) : CP yX7_firstCrossed cX7_firstCrossed 3 (some .int) 5 109 [.ref 204, .int (nI k)] w (.int (fcA A k)) := by
  have zq_n := hA.n12
  refine CF.of ok_X7_firstCrossed (Nat.le_of_ble_eq_true rfl) (fun ex us G9 p9 l9 e9 s9 m9 ar9 be9 me9 co9 C hr => ?_)
  have ZL2 : ∀ (zd2 : Nat) (u : Nat), 100 + 1 ≤ u + zd2 → u ≤ 100 → fstF (fcP A k) (100 - u) u = fcA A k → WA G9 p9 l9 e9 (RM 5 109) s9 m9 ar9 be9 me9 co9 (QP G9 be9 ar9 s9 w ex us (.int (fcA A k))) 3 (219 + ex) us 2 [some (.ref 204), some (.int (nI k)), some (.int (nI u))] [] (fzM w ex us) := by
    intro zd2
    induction zd2 with
    | zero => intro u zm2 zh2_0 zh2_1; exfalso; omega
    | succ zd2 zih2 =>
      intro u zm2 zh2_0 zh2_1
      have zq_b := bhA_lt hA hk u
      refine a_iload_n C dX7_firstCrossed_2 rfl rfl ?_
      refine a_bipush (v := nI 100) C dX7_firstCrossed_3 (by decide) ?_
      first | refine n_icmp_ge (tgt := 30) C dX7_firstCrossed_5 (by decide) (by first | decide | omega) (by first | decide | omega) (fun h_5 => ?_) (fun h_5 => ?_) | refine a_icmp_ge (tgt := 30) C dX7_firstCrossed_5 (by decide) (fun h_5 => ?_) (fun h_5 => ?_)
      · obtain rfl : u = 100 := by omega
        refine a_iconst (v := (-1)) C dX7_firstCrossed_30 (by decide) ?_
        refine f_iret C hr ?_ dX7_firstCrossed_31 ⟨?_, rfl⟩
        · rfl
        · rw [← zh2_1]; rfl
      · refine a_aload_n C dX7_firstCrossed_8 rfl rfl ?_
        refine a_iload_n C dX7_firstCrossed_9 rfl rfl ?_
        refine a_aload_n C dX7_firstCrossed_10 rfl rfl ?_
        refine a_iload_n C dX7_firstCrossed_11 rfl rfl ?_
        refine a_iload_n C dX7_firstCrossed_12 rfl rfl ?_
        refine p_callV C (K_X7_behind hR hA (by first | assumption | decide | omega) (by first | assumption | decide | omega)) vX7_280 rfl (by first | decide | omega) rfl rfl dX7_firstCrossed_13 (Nat.le_of_ble_eq_true rfl) ⟨by decide, by decide⟩ ?_
        refine p_callV C (K_X7_isCrossedWith hR hA (by first | assumption | decide | omega) (by first | assumption | decide | omega)) vX7_283 rfl (by first | decide | omega) rfl rfl dX7_firstCrossed_16 (Nat.le_of_ble_eq_true rfl) ⟨by decide, by decide⟩ ?_
        first | refine b_if_eq (tgt := 24) C dX7_firstCrossed_19 (by decide) (fun h_19 => ?_) (fun h_19 => ?_) | refine n_if_eq (tgt := 24) C dX7_firstCrossed_19 (by decide) (by first | decide | omega) (fun h_19 => ?_) (fun h_19 => ?_) | refine a_if_eq (tgt := 24) C dX7_firstCrossed_19 (by decide) (fun h_19 => ?_) (fun h_19 => ?_)
        · refine n_iinc C dX7_firstCrossed_24 rfl (by decide) ?_
          refine a_goto (tgt := 2) C dX7_firstCrossed_27 (by decide) ?_
          refine a_join (aLe_s ?_ (aLe_s ?_ (aLe_s ?_ aLe_nil))) rfl rfl (zih2 (u + 1) (by omega) (by omega) (by rw [← fstF_fal (by omega) (show fcP A k u = false from h_19)]; exact zh2_1))
          · first | with_reducible rfl | exact gl (by first | with_reducible rfl | (refine iF ?_; simp [h_5, h_19]; done) | (refine iT ?_; simp [h_5, h_19]; done) | (refine iB ?_; simp [h_5, h_19]; done) | (simp [h_5, h_19]; done) | (simp [h_5, h_19]; omega) | omega)
          · first | with_reducible rfl | exact gl (by first | with_reducible rfl | (refine iF ?_; simp [h_5, h_19]; done) | (refine iT ?_; simp [h_5, h_19]; done) | (refine iB ?_; simp [h_5, h_19]; done) | (simp [h_5, h_19]; done) | (simp [h_5, h_19]; omega) | omega)
          · first | with_reducible rfl | exact gl (by first | with_reducible rfl | (refine iF ?_; simp [h_5, h_19]; done) | (refine iT ?_; simp [h_5, h_19]; done) | (refine iB ?_; simp [h_5, h_19]; done) | (simp [h_5, h_19]; done) | (simp [h_5, h_19]; omega) | omega)
        · have zq_v := fstF_tru (P := fcP A k) (B := 100) (u := u) (by omega) h_19
          refine a_iload_n C dX7_firstCrossed_22 rfl rfl ?_
          refine f_iret C hr ?_ dX7_firstCrossed_23 ⟨?_, rfl⟩
          · rfl
          · rw [← zh2_1, zq_v]
  refine a_pad 1 ?_
  refine a_eq (L' := [some (.ref 204), some (.int (nI k)), none]) rfl rfl rfl ?_
  refine a_iconst (v := nI 0) C dX7_firstCrossed_0 (by decide) ?_
  refine a_istore_n C dX7_firstCrossed_1 rfl (by decide) ?_
  refine a_join (aLe_s ?_ (aLe_s ?_ (aLe_s ?_ aLe_nil))) rfl rfl (ZL2 (100 + 1) 0 (by omega) (by omega) rfl)
  · first | with_reducible rfl | exact gl (by first | with_reducible rfl | (refine iF ?_; simp []; done) | (refine iT ?_; simp []; done) | (refine iB ?_; simp []; done) | (simp []; done) | (simp []; omega) | omega | rfl)
  · first | with_reducible rfl | exact gl (by first | with_reducible rfl | (refine iF ?_; simp []; done) | (refine iT ?_; simp []; done) | (refine iB ?_; simp []; done) | (simp []; done) | (simp []; omega) | omega | rfl)
  · first | with_reducible rfl | exact gl (by first | with_reducible rfl | (refine iF ?_; simp []; done) | (refine iT ?_; simp []; done) | (refine iB ?_; simp []; done) | (simp []; done) | (simp []; omega) | omega | rfl)

set_option maxRecDepth 20000 in
set_option maxHeartbeats 4000000 in
theorem K_X7_codesBeside (b : Bool) {w : Wd} {A : St} (hR : RR w A) (hA : AOK A) {k : Nat} (hk : k < kN A) : CP yX7_codesBeside cX7_codesBeside 7 (some .int) 3 64 [.ref 204, .int (nI k), .int (bI b)] w (.int (nI (cbA A b (cN A k)))) := by
  have zq_n := hA.n12
  have zq_k := hA.c81 (k := k) (by omega)
  refine CF.of ok_X7_codesBeside (Nat.le_of_ble_eq_true rfl) (fun ex us G9 p9 l9 e9 s9 m9 ar9 be9 me9 co9 C hr => ?_)
  have ZL13 : ∀ (zd13 : Nat) (j : Nat), kN A + 1 ≤ j + zd13 → j ≤ kN A → WA G9 p9 l9 e9 (RM 3 64) s9 m9 ar9 be9 me9 co9 (QP G9 be9 ar9 s9 w ex us (.int (nI (cbA A b (cN A k))))) 7 (219 + ex) us 13 [some (.ref 204), some (.int (nI k)), some (.int (bI b)), some (.int (nI (cN A k))), some (.int (nI (mskN (cbP A b (cN A k)) j))), some (.int (nI j)), none] [] (fzM w ex us) := by
    intro zd13
    induction zd13 with
    | zero => intro j zm13 zh13_0; exfalso; omega
    | succ zd13 zih13 =>
      intro j zm13 zh13_0
      refine a_iload C dX7_codesBeside_13 rfl ?_
      refine a_aload_n C dX7_codesBeside_15 rfl rfl ?_
      refine a_getfF C fX7_7 dX7_codesBeside_16 (show _ < 219 from (by first | decide | omega)) (by first | decide | omega) rfl rfl ?_
      refine a_iconst (v := nI 0) C dX7_codesBeside_19 (by decide) ?_
      refine n_iald C dX7_codesBeside_20 (show _ < 219 from (by first | decide | omega)) (by first | decide | omega) rfl rfl (by first | decide | omega) (by decide) (RR_n hR hA) ?_
      first | refine n_icmp_ge (tgt := 77) C dX7_codesBeside_21 (by decide) (by first | decide | omega) (by first | decide | omega) (fun h_21 => ?_) (fun h_21 => ?_) | refine a_icmp_ge (tgt := 77) C dX7_codesBeside_21 (by decide) (fun h_21 => ?_) (fun h_21 => ?_)
      · obtain rfl : j = kN A := by omega
        refine a_iload C dX7_codesBeside_77 rfl ?_
        refine f_iret C hr ?_ dX7_codesBeside_79 ⟨?_, rfl⟩
        · rfl
        · rfl
      · have zq_c := hA.c81 (k := j) (by omega)
        refine a_aload_n C dX7_codesBeside_24 rfl rfl ?_
        refine a_iload C dX7_codesBeside_25 rfl ?_
        refine a_iconst (v := nI 0) C dX7_codesBeside_27 (by decide) ?_
        refine p_callV C (KC_ofKey0 hR hA (by first | assumption | decide | omega)) vX7_85 rfl (by first | decide | omega) rfl rfl dX7_codesBeside_28 (Nat.le_of_ble_eq_true rfl) ⟨by decide, by decide⟩ ?_
        refine a_istore C dX7_codesBeside_31 (by decide) ?_
        refine a_iload C dX7_codesBeside_33 rfl ?_
        refine a_via 68 (nI (if cbP A b (cN A k) j then 2 ^ j else 0)) ?_ (fun zJ68 => ?_)
        · first | refine n_ior C dX7_codesBeside_68 ?_ | refine a_ior C dX7_codesBeside_68 ?_
          refine a_istore C dX7_codesBeside_69 (by decide) ?_
          refine n_iinc C dX7_codesBeside_71 rfl (by decide) ?_
          refine a_goto (tgt := 13) C dX7_codesBeside_74 (by decide) ?_
          refine a_join (aLe_s ?_ (aLe_s ?_ (aLe_s ?_ (aLe_s ?_ (aLe_s ?_ (aLe_s ?_ (aLe_n aLe_nil))))))) rfl rfl (zih13 (j + 1) (by omega) (by omega))
          · first | with_reducible rfl | exact gl (by first | with_reducible rfl | (refine iF ?_; simp [mskN, cbP, h_21]; done) | (refine iT ?_; simp [mskN, cbP, h_21]; done) | (refine iB ?_; simp [mskN, cbP, h_21]; done) | (simp [mskN, cbP, h_21]; done) | (simp [mskN, cbP, h_21]; omega) | omega)
          · first | with_reducible rfl | exact gl (by first | with_reducible rfl | (refine iF ?_; simp [mskN, cbP, h_21]; done) | (refine iT ?_; simp [mskN, cbP, h_21]; done) | (refine iB ?_; simp [mskN, cbP, h_21]; done) | (simp [mskN, cbP, h_21]; done) | (simp [mskN, cbP, h_21]; omega) | omega)
          · first | with_reducible rfl | exact gl (by first | with_reducible rfl | (refine iF ?_; simp [mskN, cbP, h_21]; done) | (refine iT ?_; simp [mskN, cbP, h_21]; done) | (refine iB ?_; simp [mskN, cbP, h_21]; done) | (simp [mskN, cbP, h_21]; done) | (simp [mskN, cbP, h_21]; omega) | omega)
          · first | with_reducible rfl | exact gl (by first | with_reducible rfl | (refine iF ?_; simp [mskN, cbP, h_21]; done) | (refine iT ?_; simp [mskN, cbP, h_21]; done) | (refine iB ?_; simp [mskN, cbP, h_21]; done) | (simp [mskN, cbP, h_21]; done) | (simp [mskN, cbP, h_21]; omega) | omega)
          · first | with_reducible rfl | exact gl (by first | with_reducible rfl | (refine iF ?_; simp [mskN, cbP, h_21]; done) | (refine iT ?_; simp [mskN, cbP, h_21]; done) | (refine iB ?_; simp [mskN, cbP, h_21]; done) | (simp [mskN, cbP, h_21]; done) | (simp [mskN, cbP, h_21]; omega) | omega)
          · first | with_reducible rfl | exact gl (by first | with_reducible rfl | (refine iF ?_; simp [mskN, cbP, h_21]; done) | (refine iT ?_; simp [mskN, cbP, h_21]; done) | (refine iB ?_; simp [mskN, cbP, h_21]; done) | (simp [mskN, cbP, h_21]; done) | (simp [mskN, cbP, h_21]; omega) | omega)
        · refine a_iload_n C dX7_codesBeside_35 rfl rfl ?_
          first | refine b_if_eq (tgt := 51) C dX7_codesBeside_36 (by decide) (fun h_36 => ?_) (fun h_36 => ?_) | refine n_if_eq (tgt := 51) C dX7_codesBeside_36 (by decide) (by first | decide | omega) (fun h_36 => ?_) (fun h_36 => ?_) | refine a_if_eq (tgt := 51) C dX7_codesBeside_36 (by decide) (fun h_36 => ?_) (fun h_36 => ?_)
          · refine a_iload C dX7_codesBeside_51 rfl ?_
            refine a_iload_n C dX7_codesBeside_53 rfl rfl ?_
            refine p_callS C ((K_X7_liesUnder (by first | assumption | decide | omega) (by first | assumption | decide | omega))).cp sX7_49 rfl dX7_codesBeside_54 (Nat.le_of_ble_eq_true rfl) ⟨by decide, by decide⟩ ?_
            first | refine b_if_eq (tgt := 67) C dX7_codesBeside_57 (by decide) (fun h_57 => ?_) (fun h_57 => ?_) | refine n_if_eq (tgt := 67) C dX7_codesBeside_57 (by decide) (by first | decide | omega) (fun h_57 => ?_) (fun h_57 => ?_) | refine a_if_eq (tgt := 67) C dX7_codesBeside_57 (by decide) (fun h_57 => ?_) (fun h_57 => ?_)
            · refine a_iconst (v := nI 0) C dX7_codesBeside_67 (by decide) ?_
              refine a_eq rfl (gl1 ?_) rfl zJ68
              · first | with_reducible rfl | (refine iF ?_; simp [mskN, cbP, h_21, h_36, h_57]; done) | (refine iT ?_; simp [mskN, cbP, h_21, h_36, h_57]; done) | (refine iB ?_; simp [mskN, cbP, h_21, h_36, h_57]; done) | (simp [mskN, cbP, h_21, h_36, h_57]; done) | (simp [mskN, cbP, h_21, h_36, h_57]; omega) | omega
            · refine a_iconst (v := nI 1) C dX7_codesBeside_60 (by decide) ?_
              refine a_iload C dX7_codesBeside_61 rfl ?_
              refine n_ishl C dX7_codesBeside_63 (by omega) (p12_lt (by omega)) ?_
              refine a_goto (tgt := 68) C dX7_codesBeside_64 (by decide) ?_
              refine a_eq rfl (gl1 ?_) rfl zJ68
              · first | with_reducible rfl | (refine iF ?_; simp [mskN, cbP, h_21, h_36, h_57]; done) | (refine iT ?_; simp [mskN, cbP, h_21, h_36, h_57]; done) | (refine iB ?_; simp [mskN, cbP, h_21, h_36, h_57]; done) | (simp [mskN, cbP, h_21, h_36, h_57]; done) | (simp [mskN, cbP, h_21, h_36, h_57]; omega) | omega
          · refine a_iload_n C dX7_codesBeside_39 rfl rfl ?_
            refine a_iload C dX7_codesBeside_40 rfl ?_
            refine p_callS C ((K_X7_liesUnder (by first | assumption | decide | omega) (by first | assumption | decide | omega))).cp sX7_49 rfl dX7_codesBeside_42 (Nat.le_of_ble_eq_true rfl) ⟨by decide, by decide⟩ ?_
            first | refine b_if_eq (tgt := 67) C dX7_codesBeside_45 (by decide) (fun h_45 => ?_) (fun h_45 => ?_) | refine n_if_eq (tgt := 67) C dX7_codesBeside_45 (by decide) (by first | decide | omega) (fun h_45 => ?_) (fun h_45 => ?_) | refine a_if_eq (tgt := 67) C dX7_codesBeside_45 (by decide) (fun h_45 => ?_) (fun h_45 => ?_)
            · refine a_iconst (v := nI 0) C dX7_codesBeside_67 (by decide) ?_
              refine a_eq rfl (gl1 ?_) rfl zJ68
              · first | with_reducible rfl | (refine iF ?_; simp [mskN, cbP, h_21, h_36, h_45]; done) | (refine iT ?_; simp [mskN, cbP, h_21, h_36, h_45]; done) | (refine iB ?_; simp [mskN, cbP, h_21, h_36, h_45]; done) | (simp [mskN, cbP, h_21, h_36, h_45]; done) | (simp [mskN, cbP, h_21, h_36, h_45]; omega) | omega
            · refine a_goto (tgt := 60) C dX7_codesBeside_48 (by decide) ?_
              refine a_iconst (v := nI 1) C dX7_codesBeside_60 (by decide) ?_
              refine a_iload C dX7_codesBeside_61 rfl ?_
              refine n_ishl C dX7_codesBeside_63 (by omega) (p12_lt (by omega)) ?_
              refine a_goto (tgt := 68) C dX7_codesBeside_64 (by decide) ?_
              refine a_eq rfl (gl1 ?_) rfl zJ68
              · first | with_reducible rfl | (refine iF ?_; simp [mskN, cbP, h_21, h_36, h_45]; done) | (refine iT ?_; simp [mskN, cbP, h_21, h_36, h_45]; done) | (refine iB ?_; simp [mskN, cbP, h_21, h_36, h_45]; done) | (simp [mskN, cbP, h_21, h_36, h_45]; done) | (simp [mskN, cbP, h_21, h_36, h_45]; omega) | omega
  refine a_pad 4 ?_
  refine a_eq (L' := [some (.ref 204), some (.int (nI k)), some (.int (bI b)), none, none, none, none]) rfl rfl rfl ?_
  refine a_aload_n C dX7_codesBeside_0 rfl rfl ?_
  refine a_iload_n C dX7_codesBeside_1 rfl rfl ?_
  refine a_iconst (v := nI 0) C dX7_codesBeside_2 (by decide) ?_
  refine p_callV C (KC_ofKey0 hR hA (by first | assumption | decide | omega)) vX7_85 rfl (by first | decide | omega) rfl rfl dX7_codesBeside_3 (Nat.le_of_ble_eq_true rfl) ⟨by decide, by decide⟩ ?_
  refine a_istore_n C dX7_codesBeside_6 rfl (by decide) ?_
  refine a_iconst (v := nI 0) C dX7_codesBeside_7 (by decide) ?_
  refine a_istore C dX7_codesBeside_8 (by decide) ?_
  refine a_iconst (v := nI 0) C dX7_codesBeside_10 (by decide) ?_
  refine a_istore C dX7_codesBeside_11 (by decide) ?_
  refine a_join (aLe_s ?_ (aLe_s ?_ (aLe_s ?_ (aLe_s ?_ (aLe_s ?_ (aLe_s ?_ (aLe_n aLe_nil))))))) rfl rfl (ZL13 (kN A + 1) 0 (by omega) (by omega))
  · first | with_reducible rfl | exact gl (by first | with_reducible rfl | (refine iF ?_; simp [mskN, cbP]; done) | (refine iT ?_; simp [mskN, cbP]; done) | (refine iB ?_; simp [mskN, cbP]; done) | (simp [mskN, cbP]; done) | (simp [mskN, cbP]; omega) | omega | rfl)
  · first | with_reducible rfl | exact gl (by first | with_reducible rfl | (refine iF ?_; simp [mskN, cbP]; done) | (refine iT ?_; simp [mskN, cbP]; done) | (refine iB ?_; simp [mskN, cbP]; done) | (simp [mskN, cbP]; done) | (simp [mskN, cbP]; omega) | omega | rfl)
  · first | with_reducible rfl | exact gl (by first | with_reducible rfl | (refine iF ?_; simp [mskN, cbP]; done) | (refine iT ?_; simp [mskN, cbP]; done) | (refine iB ?_; simp [mskN, cbP]; done) | (simp [mskN, cbP]; done) | (simp [mskN, cbP]; omega) | omega | rfl)
  · first | with_reducible rfl | exact gl (by first | with_reducible rfl | (refine iF ?_; simp [mskN, cbP]; done) | (refine iT ?_; simp [mskN, cbP]; done) | (refine iB ?_; simp [mskN, cbP]; done) | (simp [mskN, cbP]; done) | (simp [mskN, cbP]; omega) | omega | rfl)
  · first | with_reducible rfl | exact gl (by first | with_reducible rfl | (refine iF ?_; simp [mskN, cbP]; done) | (refine iT ?_; simp [mskN, cbP]; done) | (refine iB ?_; simp [mskN, cbP]; done) | (simp [mskN, cbP]; done) | (simp [mskN, cbP]; omega) | omega | rfl)
  · first | with_reducible rfl | exact gl (by first | with_reducible rfl | (refine iF ?_; simp [mskN, cbP]; done) | (refine iT ?_; simp [mskN, cbP]; done) | (refine iB ?_; simp [mskN, cbP]; done) | (simp [mskN, cbP]; done) | (simp [mskN, cbP]; omega) | omega | rfl)

set_option maxRecDepth 20000 in
set_option maxHeartbeats 4000000 in
theorem K_X7_tellsKey {w : Wd} {A : St} (hR : RR w A) (hA : AOK A) {k j : Nat} (hk : k < kN A) (hj : j < 10) : CP yX7_tellsKey cX7_tellsKey 4 (some .int) 6 131 [.ref 204, .int (nI k), .int (nI j)] w (.int (tkA A k j)) := by
  have zq_n := hA.n12
  have zq_k := hA.c81 (k := k) (by omega)
  refine CF.of ok_X7_tellsKey (Nat.le_of_ble_eq_true rfl) (fun ex us G9 p9 l9 e9 s9 m9 ar9 be9 me9 co9 C hr => ?_)
  refine a_pad 1 ?_
  refine a_eq (L' := [some (.ref 204), some (.int (nI k)), some (.int (nI j)), none]) rfl rfl rfl ?_
  refine a_aload_n C dX7_tellsKey_0 rfl rfl ?_
  refine a_iload_n C dX7_tellsKey_1 rfl rfl ?_
  refine a_iconst (v := nI 0) C dX7_tellsKey_2 (by decide) ?_
  refine p_callV C (KC_ofKey0 hR hA (by first | assumption | decide | omega)) vX7_85 rfl (by first | decide | omega) rfl rfl dX7_tellsKey_3 (Nat.le_of_ble_eq_true rfl) ⟨by decide, by decide⟩ ?_
  refine a_istore_n C dX7_tellsKey_6 rfl (by decide) ?_
  refine a_iload_n C dX7_tellsKey_7 rfl rfl ?_
  obtain rfl | rfl | rfl | rfl | rfl | rfl | rfl | rfl | rfl | rfl : j = 0 ∨ j = 1 ∨ j = 2 ∨ j = 3 ∨ j = 4 ∨ j = 5 ∨ j = 6 ∨ j = 7 ∨ j = 8 ∨ j = 9 := by omega
  · refine a_tableIn (x := nI 0) (tgt := 60) C dX7_tellsKey_8 (by decide) (by decide) rfl (by decide) ?_
    refine a_iload_n C dX7_tellsKey_60 rfl rfl ?_
    refine f_iret C hr ?_ dX7_tellsKey_61 ⟨?_, rfl⟩
    · rfl
    · first | with_reducible rfl | exact gl (by first | with_reducible rfl | (refine iF ?_; simp [tkA]; done) | (refine iT ?_; simp [tkA]; done) | (refine iB ?_; simp [tkA]; done) | (simp [tkA]; done) | (simp [tkA]; omega) | omega)
  · refine a_tableIn (x := nI 1) (tgt := 62) C dX7_tellsKey_8 (by decide) (by decide) rfl (by decide) ?_
    refine a_iload_n C dX7_tellsKey_62 rfl rfl ?_
    refine p_callS C ((K_X7_levelOf (by first | assumption | decide | omega))).cp sX7_104 rfl dX7_tellsKey_63 (Nat.le_of_ble_eq_true rfl) ⟨by decide, by decide⟩ ?_
    refine f_iret C hr ?_ dX7_tellsKey_66 ⟨?_, rfl⟩
    · rfl
    · first | with_reducible rfl | exact gl (by first | with_reducible rfl | (refine iF ?_; simp [tkA]; done) | (refine iT ?_; simp [tkA]; done) | (refine iB ?_; simp [tkA]; done) | (simp [tkA]; done) | (simp [tkA]; omega) | omega)
  · refine a_tableIn (x := nI 2) (tgt := 67) C dX7_tellsKey_8 (by decide) (by decide) rfl (by decide) ?_
    refine a_aload_n C dX7_tellsKey_67 rfl rfl ?_
    refine a_iload_n C dX7_tellsKey_68 rfl rfl ?_
    refine a_iconst (v := nI 3) C dX7_tellsKey_69 (by decide) ?_
    refine p_callV C (K_X7_ofKey (j := 3) hR (by first | assumption | decide | omega)) vX7_85 rfl (by first | decide | omega) rfl rfl dX7_tellsKey_70 (Nat.le_of_ble_eq_true rfl) ⟨by decide, by decide⟩ ?_
    refine f_iret C hr ?_ dX7_tellsKey_73 ⟨?_, rfl⟩
    · rfl
    · first | with_reducible rfl | exact gl (by first | with_reducible rfl | (refine iF ?_; simp [tkA]; done) | (refine iT ?_; simp [tkA]; done) | (refine iB ?_; simp [tkA]; done) | (simp [tkA]; done) | (simp [tkA]; omega) | omega)
  · refine a_tableIn (x := nI 3) (tgt := 74) C dX7_tellsKey_8 (by decide) (by decide) rfl (by decide) ?_
    refine a_aload_n C dX7_tellsKey_74 rfl rfl ?_
    refine a_iload_n C dX7_tellsKey_75 rfl rfl ?_
    refine a_iconst (v := nI 4) C dX7_tellsKey_76 (by decide) ?_
    refine p_callV C (K_X7_ofKey (j := 4) hR (by first | assumption | decide | omega)) vX7_85 rfl (by first | decide | omega) rfl rfl dX7_tellsKey_77 (Nat.le_of_ble_eq_true rfl) ⟨by decide, by decide⟩ ?_
    refine f_iret C hr ?_ dX7_tellsKey_80 ⟨?_, rfl⟩
    · rfl
    · first | with_reducible rfl | exact gl (by first | with_reducible rfl | (refine iF ?_; simp [tkA]; done) | (refine iT ?_; simp [tkA]; done) | (refine iB ?_; simp [tkA]; done) | (simp [tkA]; done) | (simp [tkA]; omega) | omega)
  · refine a_tableIn (x := nI 4) (tgt := 81) C dX7_tellsKey_8 (by decide) (by decide) rfl (by decide) ?_
    refine a_aload_n C dX7_tellsKey_81 rfl rfl ?_
    refine a_iload_n C dX7_tellsKey_82 rfl rfl ?_
    refine a_iconst (v := nI 1) C dX7_tellsKey_83 (by decide) ?_
    refine p_callV C (KC_ofKey1 hR hA (by first | assumption | decide | omega)) vX7_85 rfl (by first | decide | omega) rfl rfl dX7_tellsKey_84 (Nat.le_of_ble_eq_true rfl) ⟨by decide, by decide⟩ ?_
    refine f_iret C hr ?_ dX7_tellsKey_87 ⟨?_, rfl⟩
    · rfl
    · first | with_reducible rfl | exact gl (by first | with_reducible rfl | (refine iF ?_; simp [tkA]; done) | (refine iT ?_; simp [tkA]; done) | (refine iB ?_; simp [tkA]; done) | (simp [tkA]; done) | (simp [tkA]; omega) | omega)
  · refine a_tableIn (x := nI 5) (tgt := 88) C dX7_tellsKey_8 (by decide) (by decide) rfl (by decide) ?_
    refine a_aload_n C dX7_tellsKey_88 rfl rfl ?_
    refine a_iload_n C dX7_tellsKey_89 rfl rfl ?_
    refine a_iconst (v := nI 2) C dX7_tellsKey_90 (by decide) ?_
    refine p_callV C (KC_ofKey2 hR hA (by first | assumption | decide | omega)) vX7_85 rfl (by first | decide | omega) rfl rfl dX7_tellsKey_91 (Nat.le_of_ble_eq_true rfl) ⟨by decide, by decide⟩ ?_
    refine f_iret C hr ?_ dX7_tellsKey_94 ⟨?_, rfl⟩
    · rfl
    · first | with_reducible rfl | exact gl (by first | with_reducible rfl | (refine iF ?_; simp [tkA]; done) | (refine iT ?_; simp [tkA]; done) | (refine iB ?_; simp [tkA]; done) | (simp [tkA]; done) | (simp [tkA]; omega) | omega)
  · refine a_tableIn (x := nI 6) (tgt := 95) C dX7_tellsKey_8 (by decide) (by decide) rfl (by decide) ?_
    refine a_aload_n C dX7_tellsKey_95 rfl rfl ?_
    refine a_iload_n C dX7_tellsKey_96 rfl rfl ?_
    refine p_callV C (K_X7_locksOf hR hA (by first | assumption | decide | omega)) vX7_113 rfl (by first | decide | omega) rfl rfl dX7_tellsKey_97 (Nat.le_of_ble_eq_true rfl) ⟨by decide, by decide⟩ ?_
    refine f_iret C hr ?_ dX7_tellsKey_100 ⟨?_, rfl⟩
    · rfl
    · first | with_reducible rfl | exact gl (by first | with_reducible rfl | (refine iF ?_; simp [tkA]; done) | (refine iT ?_; simp [tkA]; done) | (refine iB ?_; simp [tkA]; done) | (simp [tkA]; done) | (simp [tkA]; omega) | omega)
  · refine a_tableIn (x := nI 7) (tgt := 101) C dX7_tellsKey_8 (by decide) (by decide) rfl (by decide) ?_
    refine a_aload_n C dX7_tellsKey_101 rfl rfl ?_
    refine a_iload_n C dX7_tellsKey_102 rfl rfl ?_
    refine a_iconst (v := nI 1) C dX7_tellsKey_103 (by decide) ?_
    refine p_callV C (K_X7_codesBeside true hR hA (by first | assumption | decide | omega)) vX7_199 rfl (by first | decide | omega) rfl rfl dX7_tellsKey_104 (Nat.le_of_ble_eq_true rfl) ⟨by decide, by decide⟩ ?_
    refine f_iret C hr ?_ dX7_tellsKey_107 ⟨?_, rfl⟩
    · rfl
    · first | with_reducible rfl | exact gl (by first | with_reducible rfl | (refine iF ?_; simp [tkA]; done) | (refine iT ?_; simp [tkA]; done) | (refine iB ?_; simp [tkA]; done) | (simp [tkA]; done) | (simp [tkA]; omega) | omega)
  · refine a_tableIn (x := nI 8) (tgt := 108) C dX7_tellsKey_8 (by decide) (by decide) rfl (by decide) ?_
    refine a_aload_n C dX7_tellsKey_108 rfl rfl ?_
    refine a_iload_n C dX7_tellsKey_109 rfl rfl ?_
    refine a_iconst (v := nI 0) C dX7_tellsKey_110 (by decide) ?_
    refine p_callV C (K_X7_codesBeside false hR hA (by first | assumption | decide | omega)) vX7_199 rfl (by first | decide | omega) rfl rfl dX7_tellsKey_111 (Nat.le_of_ble_eq_true rfl) ⟨by decide, by decide⟩ ?_
    refine f_iret C hr ?_ dX7_tellsKey_114 ⟨?_, rfl⟩
    · rfl
    · first | with_reducible rfl | exact gl (by first | with_reducible rfl | (refine iF ?_; simp [tkA]; done) | (refine iT ?_; simp [tkA]; done) | (refine iB ?_; simp [tkA]; done) | (simp [tkA]; done) | (simp [tkA]; omega) | omega)
  · refine a_tableOut (x := nI 9) (tgt := 115) C dX7_tellsKey_8 (by decide) (by decide) ?_
    refine a_aload_n C dX7_tellsKey_115 rfl rfl ?_
    refine a_iload_n C dX7_tellsKey_116 rfl rfl ?_
    refine a_iconst (v := nI 5) C dX7_tellsKey_117 (by decide) ?_
    refine p_callV C (K_X7_ofKey (j := 5) hR (by first | assumption | decide | omega)) vX7_85 rfl (by first | decide | omega) rfl rfl dX7_tellsKey_118 (Nat.le_of_ble_eq_true rfl) ⟨by decide, by decide⟩ ?_
    refine f_iret C hr ?_ dX7_tellsKey_121 ⟨?_, rfl⟩
    · rfl
    · first | with_reducible rfl | exact gl (by first | with_reducible rfl | (refine iF ?_; simp [tkA]; done) | (refine iT ?_; simp [tkA]; done) | (refine iB ?_; simp [tkA]; done) | (simp [tkA]; done) | (simp [tkA]; omega) | omega)

set_option maxRecDepth 20000 in
set_option maxHeartbeats 4000000 in
theorem K_X7_whoOpens {w : Wd} {A : St} (hR : RR w A) (hA : AOK A) {p : Nat} (hp : p < 6) : CP yX7_whoOpens cX7_whoOpens 5 (some .int) 5 108 [.ref 204, .int (nI p)] w (.int (nI (whoA A p))) := by
  have zq_n := hA.n12
  refine CF.of ok_X7_whoOpens (Nat.le_of_ble_eq_true rfl) (fun ex us G9 p9 l9 e9 s9 m9 ar9 be9 me9 co9 C hr => ?_)
  have ZL4 : ∀ (zd4 : Nat) (k : Nat), kN A + 1 ≤ k + zd4 → k ≤ kN A → WA G9 p9 l9 e9 (RM 5 108) s9 m9 ar9 be9 me9 co9 (QP G9 be9 ar9 s9 w ex us (.int (nI (whoA A p)))) 5 (219 + ex) us 4 [some (.ref 204), some (.int (nI p)), some (.int (nI (orN (whV A p) k))), some (.int (nI k)), none] [] (fzM w ex us) := by
    intro zd4
    induction zd4 with
    | zero => intro k zm4 zh4_0; exfalso; omega
    | succ zd4 zih4 =>
      intro k zm4 zh4_0
      refine a_iload_n C dX7_whoOpens_4 rfl rfl ?_
      refine a_aload_n C dX7_whoOpens_5 rfl rfl ?_
      refine a_getfF C fX7_7 dX7_whoOpens_6 (show _ < 219 from (by first | decide | omega)) (by first | decide | omega) rfl rfl ?_
      refine a_iconst (v := nI 0) C dX7_whoOpens_9 (by decide) ?_
      refine n_iald C dX7_whoOpens_10 (show _ < 219 from (by first | decide | omega)) (by first | decide | omega) rfl rfl (by first | decide | omega) (by decide) (RR_n hR hA) ?_
      first | refine n_icmp_ge (tgt := 67) C dX7_whoOpens_11 (by decide) (by first | decide | omega) (by first | decide | omega) (fun h_11 => ?_) (fun h_11 => ?_) | refine a_icmp_ge (tgt := 67) C dX7_whoOpens_11 (by decide) (fun h_11 => ?_) (fun h_11 => ?_)
      · obtain rfl : k = kN A := by omega
        refine a_iload_n C dX7_whoOpens_67 rfl rfl ?_
        refine f_iret C hr ?_ dX7_whoOpens_68 ⟨?_, rfl⟩
        · rfl
        · rfl
      · refine a_via 34 (nI (whB A k)) ?_ (fun zJ34 => ?_)
        · refine a_istore C dX7_whoOpens_34 (by decide) ?_
          refine a_iload_n C dX7_whoOpens_36 rfl rfl ?_
          refine a_via 59 (nI (whV A p k)) ?_ (fun zJ59 => ?_)
          · first | refine n_ior C dX7_whoOpens_59 ?_ | refine a_ior C dX7_whoOpens_59 ?_
            refine a_istore_n C dX7_whoOpens_60 rfl (by decide) ?_
            refine n_iinc C dX7_whoOpens_61 rfl (by decide) ?_
            refine a_goto (tgt := 4) C dX7_whoOpens_64 (by decide) ?_
            refine a_join (aLe_s ?_ (aLe_s ?_ (aLe_s ?_ (aLe_s ?_ (aLe_n aLe_nil))))) rfl rfl (zih4 (k + 1) (by omega) (by omega))
            · first | with_reducible rfl | exact gl (by first | with_reducible rfl | (refine iF ?_; simp [orN, h_11]; done) | (refine iT ?_; simp [orN, h_11]; done) | (refine iB ?_; simp [orN, h_11]; done) | (simp [orN, h_11]; done) | (simp [orN, h_11]; omega) | omega)
            · first | with_reducible rfl | exact gl (by first | with_reducible rfl | (refine iF ?_; simp [orN, h_11]; done) | (refine iT ?_; simp [orN, h_11]; done) | (refine iB ?_; simp [orN, h_11]; done) | (simp [orN, h_11]; done) | (simp [orN, h_11]; omega) | omega)
            · first | with_reducible rfl | exact gl (by first | with_reducible rfl | (refine iF ?_; simp [orN, h_11]; done) | (refine iT ?_; simp [orN, h_11]; done) | (refine iB ?_; simp [orN, h_11]; done) | (simp [orN, h_11]; done) | (simp [orN, h_11]; omega) | omega)
            · first | with_reducible rfl | exact gl (by first | with_reducible rfl | (refine iF ?_; simp [orN, h_11]; done) | (refine iT ?_; simp [orN, h_11]; done) | (refine iB ?_; simp [orN, h_11]; done) | (simp [orN, h_11]; done) | (simp [orN, h_11]; omega) | omega)
          · have zq_c := hA.c81 (k := k) (by omega)
            refine a_aload_n C dX7_whoOpens_37 rfl rfl ?_
            refine a_aload_n C dX7_whoOpens_38 rfl rfl ?_
            refine a_iload_n C dX7_whoOpens_39 rfl rfl ?_
            refine a_iconst (v := nI 0) C dX7_whoOpens_40 (by decide) ?_
            refine p_callV C (KC_ofKey0 hR hA (by first | assumption | decide | omega)) vX7_85 rfl (by first | decide | omega) rfl rfl dX7_whoOpens_41 (Nat.le_of_ble_eq_true rfl) ⟨by decide, by decide⟩ ?_
            refine a_iload_n C dX7_whoOpens_44 rfl rfl ?_
            refine p_callV C (K_X7_opens hR hA (by first | assumption | decide | omega) (by first | assumption | decide | omega)) vX7_101 rfl (by first | decide | omega) rfl rfl dX7_whoOpens_45 (Nat.le_of_ble_eq_true rfl) ⟨by decide, by decide⟩ ?_
            first | refine b_if_eq (tgt := 58) C dX7_whoOpens_48 (by decide) (fun h_48 => ?_) (fun h_48 => ?_) | refine n_if_eq (tgt := 58) C dX7_whoOpens_48 (by decide) (by first | decide | omega) (fun h_48 => ?_) (fun h_48 => ?_) | refine a_if_eq (tgt := 58) C dX7_whoOpens_48 (by decide) (fun h_48 => ?_) (fun h_48 => ?_)
            · refine a_iconst (v := nI 0) C dX7_whoOpens_58 (by decide) ?_
              refine a_eq rfl (gl1 ?_) rfl zJ59
              · first | with_reducible rfl | (refine iF ?_; simp [whV, h_11, h_48]; done) | (refine iT ?_; simp [whV, h_11, h_48]; done) | (refine iB ?_; simp [whV, h_11, h_48]; done) | (simp [whV, h_11, h_48]; done) | (simp [whV, h_11, h_48]; omega) | omega
            · refine a_iconst (v := nI 1) C dX7_whoOpens_51 (by decide) ?_
              refine a_iload C dX7_whoOpens_52 rfl ?_
              refine n_ishl C dX7_whoOpens_54 (Nat.lt_of_le_of_lt (whB_le hA (by omega)) (by decide)) (p4_lt (whB_le hA (by omega))) ?_
              refine a_goto (tgt := 59) C dX7_whoOpens_55 (by decide) ?_
              refine a_eq rfl (gl1 ?_) rfl zJ59
              · first | with_reducible rfl | (refine iF ?_; simp [whV, h_11, h_48]; done) | (refine iT ?_; simp [whV, h_11, h_48]; done) | (refine iB ?_; simp [whV, h_11, h_48]; done) | (simp [whV, h_11, h_48]; done) | (simp [whV, h_11, h_48]; omega) | omega
        · have zq_c := hA.c81 (k := k) (by omega)
          refine a_aload_n C dX7_whoOpens_14 rfl rfl ?_
          refine a_iload_n C dX7_whoOpens_15 rfl rfl ?_
          refine a_iconst (v := nI 2) C dX7_whoOpens_16 (by decide) ?_
          refine p_callV C (KC_ofKey2 hR hA (by first | assumption | decide | omega)) vX7_85 rfl (by first | decide | omega) rfl rfl dX7_whoOpens_17 (Nat.le_of_ble_eq_true rfl) ⟨by decide, by decide⟩ ?_
          refine a_iconst (v := nI 1) C dX7_whoOpens_20 (by decide) ?_
          refine b_icmp1_ne (tgt := 28) C dX7_whoOpens_21 (by decide) (fun h_21 => ?_) (fun h_21 => ?_)
          · refine a_aload_n C dX7_whoOpens_28 rfl rfl ?_
            refine a_iload_n C dX7_whoOpens_29 rfl rfl ?_
            refine a_iconst (v := nI 1) C dX7_whoOpens_30 (by decide) ?_
            refine p_callV C (KC_ofKey1 hR hA (by first | assumption | decide | omega)) vX7_85 rfl (by first | decide | omega) rfl rfl dX7_whoOpens_31 (Nat.le_of_ble_eq_true rfl) ⟨by decide, by decide⟩ ?_
            refine a_eq rfl (gl1 ?_) rfl zJ34
            · first | with_reducible rfl | (refine iF ?_; simp [whB, h_11, h_21]; done) | (refine iT ?_; simp [whB, h_11, h_21]; done) | (refine iB ?_; simp [whB, h_11, h_21]; done) | (simp [whB, h_11, h_21]; done) | (simp [whB, h_11, h_21]; omega) | omega
          · refine a_iconst (v := nI 4) C dX7_whoOpens_24 (by decide) ?_
            refine a_goto (tgt := 34) C dX7_whoOpens_25 (by decide) ?_
            refine a_eq rfl (gl1 ?_) rfl zJ34
            · first | with_reducible rfl | (refine iF ?_; simp [whB, h_11, h_21]; done) | (refine iT ?_; simp [whB, h_11, h_21]; done) | (refine iB ?_; simp [whB, h_11, h_21]; done) | (simp [whB, h_11, h_21]; done) | (simp [whB, h_11, h_21]; omega) | omega
  refine a_pad 3 ?_
  refine a_eq (L' := [some (.ref 204), some (.int (nI p)), none, none, none]) rfl rfl rfl ?_
  refine a_iconst (v := nI 0) C dX7_whoOpens_0 (by decide) ?_
  refine a_istore_n C dX7_whoOpens_1 rfl (by decide) ?_
  refine a_iconst (v := nI 0) C dX7_whoOpens_2 (by decide) ?_
  refine a_istore_n C dX7_whoOpens_3 rfl (by decide) ?_
  refine a_join (aLe_s ?_ (aLe_s ?_ (aLe_s ?_ (aLe_s ?_ (aLe_n aLe_nil))))) rfl rfl (ZL4 (kN A + 1) 0 (by omega) (by omega))
  · first | with_reducible rfl | exact gl (by first | with_reducible rfl | (refine iF ?_; simp [orN]; done) | (refine iT ?_; simp [orN]; done) | (refine iB ?_; simp [orN]; done) | (simp [orN]; done) | (simp [orN]; omega) | omega | rfl)
  · first | with_reducible rfl | exact gl (by first | with_reducible rfl | (refine iF ?_; simp [orN]; done) | (refine iT ?_; simp [orN]; done) | (refine iB ?_; simp [orN]; done) | (simp [orN]; done) | (simp [orN]; omega) | omega | rfl)
  · first | with_reducible rfl | exact gl (by first | with_reducible rfl | (refine iF ?_; simp [orN]; done) | (refine iT ?_; simp [orN]; done) | (refine iB ?_; simp [orN]; done) | (simp [orN]; done) | (simp [orN]; omega) | omega | rfl)
  · first | with_reducible rfl | exact gl (by first | with_reducible rfl | (refine iF ?_; simp [orN]; done) | (refine iT ?_; simp [orN]; done) | (refine iB ?_; simp [orN]; done) | (simp [orN]; done) | (simp [orN]; omega) | omega | rfl)

set_option maxRecDepth 20000 in
set_option maxHeartbeats 4000000 in
theorem K_X7_tellsLock {w : Wd} {A : St} (hR : RR w A) (hA : AOK A) {p j : Nat} (hp : p < 6) (hj : j < 6) : CP yX7_tellsLock cX7_tellsLock 3 (some .int) 6 132 [.ref 204, .int (nI p), .int (nI j)] w (.int (tlA A p j)) := by
  have zq_n := hA.n12
  refine CF.of ok_X7_tellsLock (Nat.le_of_ble_eq_true rfl) (fun ex us G9 p9 l9 e9 s9 m9 ar9 be9 me9 co9 C hr => ?_)
  refine a_aload_n C dX7_tellsLock_0 rfl rfl ?_
  refine a_iload_n C dX7_tellsLock_1 rfl rfl ?_
  refine p_callV C (K_X7_isLock hR hA (by first | assumption | decide | omega)) vX7_95 rfl (by first | decide | omega) rfl rfl dX7_tellsLock_2 (Nat.le_of_ble_eq_true rfl) ⟨by decide, by decide⟩ ?_
  first | refine b_if_ne (tgt := 10) C dX7_tellsLock_5 (by decide) (fun h_5 => ?_) (fun h_5 => ?_) | refine n_if_ne (tgt := 10) C dX7_tellsLock_5 (by decide) (by first | decide | omega) (fun h_5 => ?_) (fun h_5 => ?_) | refine a_if_ne (tgt := 10) C dX7_tellsLock_5 (by decide) (fun h_5 => ?_) (fun h_5 => ?_)
  · refine a_iload_n C dX7_tellsLock_10 rfl rfl ?_
    obtain rfl | rfl | rfl | rfl | rfl | rfl : j = 0 ∨ j = 1 ∨ j = 2 ∨ j = 3 ∨ j = 4 ∨ j = 5 := by omega
    · refine a_tableIn (x := nI 0) (tgt := 44) C dX7_tellsLock_11 (by decide) (by decide) rfl (by decide) ?_
      refine a_aload_n C dX7_tellsLock_44 rfl rfl ?_
      refine a_iload_n C dX7_tellsLock_45 rfl rfl ?_
      refine a_iconst (v := nI 0) C dX7_tellsLock_46 (by decide) ?_
      refine p_callV C (K_X7_ofLock (j := 0) hR (by first | assumption | decide | omega)) vX7_61 rfl (by first | decide | omega) rfl rfl dX7_tellsLock_47 (Nat.le_of_ble_eq_true rfl) ⟨by decide, by decide⟩ ?_
      refine f_iret C hr ?_ dX7_tellsLock_50 ⟨?_, rfl⟩
      · rfl
      · first | with_reducible rfl | exact gl (by first | with_reducible rfl | (refine iF ?_; simp [tlA, h_5]; done) | (refine iT ?_; simp [tlA, h_5]; done) | (refine iB ?_; simp [tlA, h_5]; done) | (simp [tlA, h_5]; done) | (simp [tlA, h_5]; omega) | omega)
    · refine a_tableIn (x := nI 1) (tgt := 51) C dX7_tellsLock_11 (by decide) (by decide) rfl (by decide) ?_
      refine a_aload_n C dX7_tellsLock_51 rfl rfl ?_
      refine a_iload_n C dX7_tellsLock_52 rfl rfl ?_
      refine a_iconst (v := nI 1) C dX7_tellsLock_53 (by decide) ?_
      refine p_callV C (K_X7_ofLock (j := 1) hR (by first | assumption | decide | omega)) vX7_61 rfl (by first | decide | omega) rfl rfl dX7_tellsLock_54 (Nat.le_of_ble_eq_true rfl) ⟨by decide, by decide⟩ ?_
      refine f_iret C hr ?_ dX7_tellsLock_57 ⟨?_, rfl⟩
      · rfl
      · first | with_reducible rfl | exact gl (by first | with_reducible rfl | (refine iF ?_; simp [tlA, h_5]; done) | (refine iT ?_; simp [tlA, h_5]; done) | (refine iB ?_; simp [tlA, h_5]; done) | (simp [tlA, h_5]; done) | (simp [tlA, h_5]; omega) | omega)
    · refine a_tableIn (x := nI 2) (tgt := 58) C dX7_tellsLock_11 (by decide) (by decide) rfl (by decide) ?_
      refine a_aload_n C dX7_tellsLock_58 rfl rfl ?_
      refine a_iload_n C dX7_tellsLock_59 rfl rfl ?_
      refine p_callV C (K_X7_keysOf hR hA (by first | assumption | decide | omega)) vX7_149 rfl (by first | decide | omega) rfl rfl dX7_tellsLock_60 (Nat.le_of_ble_eq_true rfl) ⟨by decide, by decide⟩ ?_
      refine f_iret C hr ?_ dX7_tellsLock_63 ⟨?_, rfl⟩
      · rfl
      · first | with_reducible rfl | exact gl (by first | with_reducible rfl | (refine iF ?_; simp [tlA, h_5]; done) | (refine iT ?_; simp [tlA, h_5]; done) | (refine iB ?_; simp [tlA, h_5]; done) | (simp [tlA, h_5]; done) | (simp [tlA, h_5]; omega) | omega)
    · refine a_tableIn (x := nI 3) (tgt := 64) C dX7_tellsLock_11 (by decide) (by decide) rfl (by decide) ?_
      refine a_aload_n C dX7_tellsLock_64 rfl rfl ?_
      refine a_iload_n C dX7_tellsLock_65 rfl rfl ?_
      refine a_iconst (v := nI 2) C dX7_tellsLock_66 (by decide) ?_
      refine p_callV C (K_X7_ofLock (j := 2) hR (by first | assumption | decide | omega)) vX7_61 rfl (by first | decide | omega) rfl rfl dX7_tellsLock_67 (Nat.le_of_ble_eq_true rfl) ⟨by decide, by decide⟩ ?_
      refine f_iret C hr ?_ dX7_tellsLock_70 ⟨?_, rfl⟩
      · rfl
      · first | with_reducible rfl | exact gl (by first | with_reducible rfl | (refine iF ?_; simp [tlA, h_5]; done) | (refine iT ?_; simp [tlA, h_5]; done) | (refine iB ?_; simp [tlA, h_5]; done) | (simp [tlA, h_5]; done) | (simp [tlA, h_5]; omega) | omega)
    · refine a_tableIn (x := nI 4) (tgt := 71) C dX7_tellsLock_11 (by decide) (by decide) rfl (by decide) ?_
      refine a_aload_n C dX7_tellsLock_71 rfl rfl ?_
      refine a_iload_n C dX7_tellsLock_72 rfl rfl ?_
      refine a_iconst (v := nI 3) C dX7_tellsLock_73 (by decide) ?_
      refine p_callV C (K_X7_ofLock (j := 3) hR (by first | assumption | decide | omega)) vX7_61 rfl (by first | decide | omega) rfl rfl dX7_tellsLock_74 (Nat.le_of_ble_eq_true rfl) ⟨by decide, by decide⟩ ?_
      refine f_iret C hr ?_ dX7_tellsLock_77 ⟨?_, rfl⟩
      · rfl
      · first | with_reducible rfl | exact gl (by first | with_reducible rfl | (refine iF ?_; simp [tlA, h_5]; done) | (refine iT ?_; simp [tlA, h_5]; done) | (refine iB ?_; simp [tlA, h_5]; done) | (simp [tlA, h_5]; done) | (simp [tlA, h_5]; omega) | omega)
    · refine a_tableOut (x := nI 5) (tgt := 78) C dX7_tellsLock_11 (by decide) (by decide) ?_
      refine a_aload_n C dX7_tellsLock_78 rfl rfl ?_
      refine a_iload_n C dX7_tellsLock_79 rfl rfl ?_
      refine p_callV C (K_X7_whoOpens hR hA (by first | assumption | decide | omega)) vX7_206 rfl (by first | decide | omega) rfl rfl dX7_tellsLock_80 (Nat.le_of_ble_eq_true rfl) ⟨by decide, by decide⟩ ?_
      refine f_iret C hr ?_ dX7_tellsLock_83 ⟨?_, rfl⟩
      · rfl
      · first | with_reducible rfl | exact gl (by first | with_reducible rfl | (refine iF ?_; simp [tlA, h_5]; done) | (refine iT ?_; simp [tlA, h_5]; done) | (refine iB ?_; simp [tlA, h_5]; done) | (simp [tlA, h_5]; done) | (simp [tlA, h_5]; omega) | omega)
  · refine a_iconst (v := (-1)) C dX7_tellsLock_8 (by decide) ?_
    refine f_iret C hr ?_ dX7_tellsLock_9 ⟨?_, rfl⟩
    · rfl
    · first | with_reducible rfl | exact gl (by first | with_reducible rfl | (refine iF ?_; simp [tlA, h_5]; done) | (refine iT ?_; simp [tlA, h_5]; done) | (refine iB ?_; simp [tlA, h_5]; done) | (simp [tlA, h_5]; done) | (simp [tlA, h_5]; omega) | omega)

set_option maxRecDepth 20000 in
set_option maxHeartbeats 4000000 in
theorem K_X7_tellsPerson {w : Wd} {A : St} (hR : RR w A) (hA : AOK A) {q j : Nat} (hq : q < 4) (hj : j < 3) : CP yX7_tellsPerson cX7_tellsPerson 7 (some .int) 6 131 [.ref 204, .int (nI q), .int (nI j)] w (.int (tpA A q j)) := by
  have zq_n := hA.n12
  refine CF.of ok_X7_tellsPerson (Nat.le_of_ble_eq_true rfl) (fun ex us G9 p9 l9 e9 s9 m9 ar9 be9 me9 co9 C hr => ?_)
  have ZL8 : ∀ (zd8 : Nat) (k : Nat), kN A + 1 ≤ k + zd8 → k ≤ kN A → WA G9 p9 l9 e9 (RM 6 131) s9 m9 ar9 be9 me9 co9 (QP G9 be9 ar9 s9 w ex us (.int (tpA A q j))) 7 (219 + ex) us 8 [some (.ref 204), some (.int (nI q)), some (.int (nI j)), some (.int (nI (mskN (pkP A q) k))), some (.int (nI (orN (plV A q) k))), some (.int (nI k)), none] [] (fzM w ex us) := by
    intro zd8
    induction zd8 with
    | zero => intro k zm8 zh8_0; exfalso; omega
    | succ zd8 zih8 =>
      intro k zm8 zh8_0
      refine a_iload C dX7_tellsPerson_8 rfl ?_
      refine a_aload_n C dX7_tellsPerson_10 rfl rfl ?_
      refine a_getfF C fX7_7 dX7_tellsPerson_11 (show _ < 219 from (by first | decide | omega)) (by first | decide | omega) rfl rfl ?_
      refine a_iconst (v := nI 0) C dX7_tellsPerson_14 (by decide) ?_
      refine n_iald C dX7_tellsPerson_15 (show _ < 219 from (by first | decide | omega)) (by first | decide | omega) rfl rfl (by first | decide | omega) (by decide) (RR_n hR hA) ?_
      first | refine n_icmp_ge (tgt := 94) C dX7_tellsPerson_16 (by decide) (by first | decide | omega) (by first | decide | omega) (fun h_16 => ?_) (fun h_16 => ?_) | refine a_icmp_ge (tgt := 94) C dX7_tellsPerson_16 (by decide) (fun h_16 => ?_) (fun h_16 => ?_)
      · obtain rfl : k = kN A := by omega
        refine a_iload_n C dX7_tellsPerson_94 rfl rfl ?_
        first | refine b_if_ne (tgt := 102) C dX7_tellsPerson_95 (by decide) (fun h_95 => ?_) (fun h_95 => ?_) | refine n_if_ne (tgt := 102) C dX7_tellsPerson_95 (by decide) (by first | decide | omega) (fun h_95 => ?_) (fun h_95 => ?_) | refine a_if_ne (tgt := 102) C dX7_tellsPerson_95 (by decide) (fun h_95 => ?_) (fun h_95 => ?_)
        · refine a_iload_n C dX7_tellsPerson_102 rfl rfl ?_
          refine a_iconst (v := nI 1) C dX7_tellsPerson_103 (by decide) ?_
          first | refine n_icmp_ne (tgt := 112) C dX7_tellsPerson_104 (by decide) (by first | decide | omega) (by first | decide | omega) (fun h_104 => ?_) (fun h_104 => ?_) | refine a_icmp_ne (tgt := 112) C dX7_tellsPerson_104 (by decide) (fun h_104 => ?_) (fun h_104 => ?_)
          · obtain rfl : j = 2 := by omega
            refine a_aload_n C dX7_tellsPerson_112 rfl rfl ?_
            refine a_getfF C fX7_7 dX7_tellsPerson_113 (show _ < 219 from (by first | decide | omega)) (by first | decide | omega) rfl rfl ?_
            refine a_bipush (v := nI 12) C dX7_tellsPerson_116 (by decide) ?_
            refine a_iload_n C dX7_tellsPerson_118 rfl rfl ?_
            first | refine n_iadd C dX7_tellsPerson_119 ?_ | refine a_iadd C dX7_tellsPerson_119 ?_
            refine n_iald C dX7_tellsPerson_120 (show _ < 219 from (by first | decide | omega)) (by first | decide | omega) rfl rfl (by first | decide | omega) (by decide) hR.at ?_
            refine f_iret C hr ?_ dX7_tellsPerson_121 ⟨?_, rfl⟩
            · rfl
            · rfl
          · subst h_104
            refine a_iload C dX7_tellsPerson_107 rfl ?_
            refine a_goto (tgt := 121) C dX7_tellsPerson_109 (by decide) ?_
            refine f_iret C hr ?_ dX7_tellsPerson_121 ⟨?_, rfl⟩
            · rfl
            · rfl
        · subst h_95
          refine a_iload_n C dX7_tellsPerson_98 rfl rfl ?_
          refine a_goto (tgt := 121) C dX7_tellsPerson_99 (by decide) ?_
          refine f_iret C hr ?_ dX7_tellsPerson_121 ⟨?_, rfl⟩
          · rfl
          · rfl
      · refine a_via 35 (bI (pkP A q k)) ?_ (fun zJ35 => ?_)
        · refine a_istore C dX7_tellsPerson_35 (by decide) ?_
          refine a_iload_n C dX7_tellsPerson_37 rfl rfl ?_
          refine a_via 51 (nI (if pkP A q k then 2 ^ k else 0)) ?_ (fun zJ51 => ?_)
          · first | refine n_ior C dX7_tellsPerson_51 ?_ | refine a_ior C dX7_tellsPerson_51 ?_
            refine a_istore_n C dX7_tellsPerson_52 rfl (by decide) ?_
            refine a_iload C dX7_tellsPerson_53 rfl ?_
            refine a_via 85 (nI (plV A q k)) ?_ (fun zJ85 => ?_)
            · first | refine n_ior C dX7_tellsPerson_85 ?_ | refine a_ior C dX7_tellsPerson_85 ?_
              refine a_istore C dX7_tellsPerson_86 (by decide) ?_
              refine n_iinc C dX7_tellsPerson_88 rfl (by decide) ?_
              refine a_goto (tgt := 8) C dX7_tellsPerson_91 (by decide) ?_
              refine a_join (aLe_s ?_ (aLe_s ?_ (aLe_s ?_ (aLe_s ?_ (aLe_s ?_ (aLe_s ?_ (aLe_n aLe_nil))))))) rfl rfl (zih8 (k + 1) (by omega) (by omega))
              · first | with_reducible rfl | exact gl (by first | with_reducible rfl | (refine iF ?_; simp [mskN, orN, h_16]; done) | (refine iT ?_; simp [mskN, orN, h_16]; done) | (refine iB ?_; simp [mskN, orN, h_16]; done) | (simp [mskN, orN, h_16]; done) | (simp [mskN, orN, h_16]; omega) | omega)
              · first | with_reducible rfl | exact gl (by first | with_reducible rfl | (refine iF ?_; simp [mskN, orN, h_16]; done) | (refine iT ?_; simp [mskN, orN, h_16]; done) | (refine iB ?_; simp [mskN, orN, h_16]; done) | (simp [mskN, orN, h_16]; done) | (simp [mskN, orN, h_16]; omega) | omega)
              · first | with_reducible rfl | exact gl (by first | with_reducible rfl | (refine iF ?_; simp [mskN, orN, h_16]; done) | (refine iT ?_; simp [mskN, orN, h_16]; done) | (refine iB ?_; simp [mskN, orN, h_16]; done) | (simp [mskN, orN, h_16]; done) | (simp [mskN, orN, h_16]; omega) | omega)
              · first | with_reducible rfl | exact gl (by first | with_reducible rfl | (refine iF ?_; simp [mskN, orN, h_16]; done) | (refine iT ?_; simp [mskN, orN, h_16]; done) | (refine iB ?_; simp [mskN, orN, h_16]; done) | (simp [mskN, orN, h_16]; done) | (simp [mskN, orN, h_16]; omega) | omega)
              · first | with_reducible rfl | exact gl (by first | with_reducible rfl | (refine iF ?_; simp [mskN, orN, h_16]; done) | (refine iT ?_; simp [mskN, orN, h_16]; done) | (refine iB ?_; simp [mskN, orN, h_16]; done) | (simp [mskN, orN, h_16]; done) | (simp [mskN, orN, h_16]; omega) | omega)
              · first | with_reducible rfl | exact gl (by first | with_reducible rfl | (refine iF ?_; simp [mskN, orN, h_16]; done) | (refine iT ?_; simp [mskN, orN, h_16]; done) | (refine iB ?_; simp [mskN, orN, h_16]; done) | (simp [mskN, orN, h_16]; done) | (simp [mskN, orN, h_16]; omega) | omega)
            · have zq_c := hA.c81 (k := k) (by omega)
              refine a_iload C dX7_tellsPerson_55 rfl ?_
              first | refine b_if_eq (tgt := 84) C dX7_tellsPerson_57 (by decide) (fun h_57 => ?_) (fun h_57 => ?_) | refine n_if_eq (tgt := 84) C dX7_tellsPerson_57 (by decide) (by first | decide | omega) (fun h_57 => ?_) (fun h_57 => ?_) | refine a_if_eq (tgt := 84) C dX7_tellsPerson_57 (by decide) (fun h_57 => ?_) (fun h_57 => ?_)
              · refine a_iconst (v := nI 0) C dX7_tellsPerson_84 (by decide) ?_
                refine a_eq rfl (gl1 ?_) rfl zJ85
                · first | with_reducible rfl | (refine iF ?_; simp [plV, h_16, h_57]; done) | (refine iT ?_; simp [plV, h_16, h_57]; done) | (refine iB ?_; simp [plV, h_16, h_57]; done) | (simp [plV, h_16, h_57]; done) | (simp [plV, h_16, h_57]; omega) | omega
              · refine a_aload_n C dX7_tellsPerson_60 rfl rfl ?_
                refine a_iload C dX7_tellsPerson_61 rfl ?_
                refine a_iconst (v := nI 2) C dX7_tellsPerson_63 (by decide) ?_
                refine p_callV C (KC_ofKey2 hR hA (by first | assumption | decide | omega)) vX7_85 rfl (by first | decide | omega) rfl rfl dX7_tellsPerson_64 (Nat.le_of_ble_eq_true rfl) ⟨by decide, by decide⟩ ?_
                first | refine b_if_ne (tgt := 84) C dX7_tellsPerson_67 (by decide) (fun h_67 => ?_) (fun h_67 => ?_) | refine n_if_ne (tgt := 84) C dX7_tellsPerson_67 (by decide) (by first | decide | omega) (fun h_67 => ?_) (fun h_67 => ?_) | refine a_if_ne (tgt := 84) C dX7_tellsPerson_67 (by decide) (fun h_67 => ?_) (fun h_67 => ?_)
                · refine a_iconst (v := nI 0) C dX7_tellsPerson_84 (by decide) ?_
                  refine a_eq rfl (gl1 ?_) rfl zJ85
                  · first | with_reducible rfl | (refine iF ?_; simp [plV, h_16, h_57, h_67]; done) | (refine iT ?_; simp [plV, h_16, h_57, h_67]; done) | (refine iB ?_; simp [plV, h_16, h_57, h_67]; done) | (simp [plV, h_16, h_57, h_67]; done) | (simp [plV, h_16, h_57, h_67]; omega) | omega
                · refine a_aload_n C dX7_tellsPerson_70 rfl rfl ?_
                  refine a_aload_n C dX7_tellsPerson_71 rfl rfl ?_
                  refine a_iload C dX7_tellsPerson_72 rfl ?_
                  refine a_iconst (v := nI 0) C dX7_tellsPerson_74 (by decide) ?_
                  refine p_callV C (KC_ofKey0 hR hA (by first | assumption | decide | omega)) vX7_85 rfl (by first | decide | omega) rfl rfl dX7_tellsPerson_75 (Nat.le_of_ble_eq_true rfl) ⟨by decide, by decide⟩ ?_
                  refine p_callV C (K_X7_locksOf hR hA (by first | assumption | decide | omega)) vX7_113 rfl (by first | decide | omega) rfl rfl dX7_tellsPerson_78 (Nat.le_of_ble_eq_true rfl) ⟨by decide, by decide⟩ ?_
                  refine a_goto (tgt := 85) C dX7_tellsPerson_81 (by decide) ?_
                  refine a_eq rfl (gl1 ?_) rfl zJ85
                  · first | with_reducible rfl | (refine iF ?_; simp [plV, h_16, h_57, h_67]; done) | (refine iT ?_; simp [plV, h_16, h_57, h_67]; done) | (refine iB ?_; simp [plV, h_16, h_57, h_67]; done) | (simp [plV, h_16, h_57, h_67]; done) | (simp [plV, h_16, h_57, h_67]; omega) | omega
          · refine a_iload C dX7_tellsPerson_38 rfl ?_
            first | refine b_if_eq (tgt := 50) C dX7_tellsPerson_40 (by decide) (fun h_40 => ?_) (fun h_40 => ?_) | refine n_if_eq (tgt := 50) C dX7_tellsPerson_40 (by decide) (by first | decide | omega) (fun h_40 => ?_) (fun h_40 => ?_) | refine a_if_eq (tgt := 50) C dX7_tellsPerson_40 (by decide) (fun h_40 => ?_) (fun h_40 => ?_)
            · refine a_iconst (v := nI 0) C dX7_tellsPerson_50 (by decide) ?_
              refine a_eq rfl (gl1 ?_) rfl zJ51
              · first | with_reducible rfl | (refine iF ?_; simp [mskN, orN, h_16, h_40]; done) | (refine iT ?_; simp [mskN, orN, h_16, h_40]; done) | (refine iB ?_; simp [mskN, orN, h_16, h_40]; done) | (simp [mskN, orN, h_16, h_40]; done) | (simp [mskN, orN, h_16, h_40]; omega) | omega
            · refine a_iconst (v := nI 1) C dX7_tellsPerson_43 (by decide) ?_
              refine a_iload C dX7_tellsPerson_44 rfl ?_
              refine n_ishl C dX7_tellsPerson_46 (by omega) (p12_lt (by omega)) ?_
              refine a_goto (tgt := 51) C dX7_tellsPerson_47 (by decide) ?_
              refine a_eq rfl (gl1 ?_) rfl zJ51
              · first | with_reducible rfl | (refine iF ?_; simp [mskN, orN, h_16, h_40]; done) | (refine iT ?_; simp [mskN, orN, h_16, h_40]; done) | (refine iB ?_; simp [mskN, orN, h_16, h_40]; done) | (simp [mskN, orN, h_16, h_40]; done) | (simp [mskN, orN, h_16, h_40]; omega) | omega
        · have zq_c := hA.c81 (k := k) (by omega)
          have zq_o := hA.o4 (k := k) (by omega)
          refine a_aload_n C dX7_tellsPerson_19 rfl rfl ?_
          refine a_iload C dX7_tellsPerson_20 rfl ?_
          refine a_iconst (v := nI 1) C dX7_tellsPerson_22 (by decide) ?_
          refine p_callV C (KC_ofKey1 hR hA (by first | assumption | decide | omega)) vX7_85 rfl (by first | decide | omega) rfl rfl dX7_tellsPerson_23 (Nat.le_of_ble_eq_true rfl) ⟨by decide, by decide⟩ ?_
          refine a_iload_n C dX7_tellsPerson_26 rfl rfl ?_
          first | refine n_icmp_ne (tgt := 34) C dX7_tellsPerson_27 (by decide) (by first | decide | omega) (by first | decide | omega) (fun h_27 => ?_) (fun h_27 => ?_) | refine a_icmp_ne (tgt := 34) C dX7_tellsPerson_27 (by decide) (fun h_27 => ?_) (fun h_27 => ?_)
          · refine a_iconst (v := nI 0) C dX7_tellsPerson_34 (by decide) ?_
            refine a_eq rfl (gl1 ?_) rfl zJ35
            · first | with_reducible rfl | (refine iF ?_; simp [pkP, h_16, h_27, (beq_eq_false_iff_ne.mpr h_27), (bne_iff_ne.mpr h_27)]; done) | (refine iT ?_; simp [pkP, h_16, h_27, (beq_eq_false_iff_ne.mpr h_27), (bne_iff_ne.mpr h_27)]; done) | (refine iB ?_; simp [pkP, h_16, h_27, (beq_eq_false_iff_ne.mpr h_27), (bne_iff_ne.mpr h_27)]; done) | (simp [pkP, h_16, h_27, (beq_eq_false_iff_ne.mpr h_27), (bne_iff_ne.mpr h_27)]; done) | (simp [pkP, h_16, h_27, (beq_eq_false_iff_ne.mpr h_27), (bne_iff_ne.mpr h_27)]; omega) | omega
          · refine a_iconst (v := nI 1) C dX7_tellsPerson_30 (by decide) ?_
            refine a_goto (tgt := 35) C dX7_tellsPerson_31 (by decide) ?_
            refine a_eq rfl (gl1 ?_) rfl zJ35
            · first | with_reducible rfl | (refine iF ?_; simp [pkP, h_16, (eq_true h_27), (beq_iff_eq.mpr h_27), (bne_eq_false_iff_eq.mpr h_27)]; done) | (refine iT ?_; simp [pkP, h_16, (eq_true h_27), (beq_iff_eq.mpr h_27), (bne_eq_false_iff_eq.mpr h_27)]; done) | (refine iB ?_; simp [pkP, h_16, (eq_true h_27), (beq_iff_eq.mpr h_27), (bne_eq_false_iff_eq.mpr h_27)]; done) | (simp [pkP, h_16, (eq_true h_27), (beq_iff_eq.mpr h_27), (bne_eq_false_iff_eq.mpr h_27)]; done) | (simp [pkP, h_16, (eq_true h_27), (beq_iff_eq.mpr h_27), (bne_eq_false_iff_eq.mpr h_27)]; omega) | omega
  refine a_pad 4 ?_
  refine a_eq (L' := [some (.ref 204), some (.int (nI q)), some (.int (nI j)), none, none, none, none]) rfl rfl rfl ?_
  refine a_iconst (v := nI 0) C dX7_tellsPerson_0 (by decide) ?_
  refine a_istore_n C dX7_tellsPerson_1 rfl (by decide) ?_
  refine a_iconst (v := nI 0) C dX7_tellsPerson_2 (by decide) ?_
  refine a_istore C dX7_tellsPerson_3 (by decide) ?_
  refine a_iconst (v := nI 0) C dX7_tellsPerson_5 (by decide) ?_
  refine a_istore C dX7_tellsPerson_6 (by decide) ?_
  refine a_join (aLe_s ?_ (aLe_s ?_ (aLe_s ?_ (aLe_s ?_ (aLe_s ?_ (aLe_s ?_ (aLe_n aLe_nil))))))) rfl rfl (ZL8 (kN A + 1) 0 (by omega) (by omega))
  · first | with_reducible rfl | exact gl (by first | with_reducible rfl | (refine iF ?_; simp [mskN, orN]; done) | (refine iT ?_; simp [mskN, orN]; done) | (refine iB ?_; simp [mskN, orN]; done) | (simp [mskN, orN]; done) | (simp [mskN, orN]; omega) | omega | rfl)
  · first | with_reducible rfl | exact gl (by first | with_reducible rfl | (refine iF ?_; simp [mskN, orN]; done) | (refine iT ?_; simp [mskN, orN]; done) | (refine iB ?_; simp [mskN, orN]; done) | (simp [mskN, orN]; done) | (simp [mskN, orN]; omega) | omega | rfl)
  · first | with_reducible rfl | exact gl (by first | with_reducible rfl | (refine iF ?_; simp [mskN, orN]; done) | (refine iT ?_; simp [mskN, orN]; done) | (refine iB ?_; simp [mskN, orN]; done) | (simp [mskN, orN]; done) | (simp [mskN, orN]; omega) | omega | rfl)
  · first | with_reducible rfl | exact gl (by first | with_reducible rfl | (refine iF ?_; simp [mskN, orN]; done) | (refine iT ?_; simp [mskN, orN]; done) | (refine iB ?_; simp [mskN, orN]; done) | (simp [mskN, orN]; done) | (simp [mskN, orN]; omega) | omega | rfl)
  · first | with_reducible rfl | exact gl (by first | with_reducible rfl | (refine iF ?_; simp [mskN, orN]; done) | (refine iT ?_; simp [mskN, orN]; done) | (refine iB ?_; simp [mskN, orN]; done) | (simp [mskN, orN]; done) | (simp [mskN, orN]; omega) | omega | rfl)
  · first | with_reducible rfl | exact gl (by first | with_reducible rfl | (refine iF ?_; simp [mskN, orN]; done) | (refine iT ?_; simp [mskN, orN]; done) | (refine iB ?_; simp [mskN, orN]; done) | (simp [mskN, orN]; done) | (simp [mskN, orN]; omega) | omega | rfl)

set_option maxRecDepth 20000 in
set_option maxHeartbeats 4000000 in
theorem K_X7_soundBeside (b : Bool) {w : Wd} {A : St} (hR : RR w A) (hA : AOK A) {c : Nat} (hc : c < 81) : CP yX7_soundBeside cX7_soundBeside 6 (some .int) 3 65 [.ref 204, .int (nI c), .int (bI b)] w (.int (nI (sbA A b c))) := by
  have zq_n := hA.n12
  refine CF.of ok_X7_soundBeside (Nat.le_of_ble_eq_true rfl) (fun ex us G9 p9 l9 e9 s9 m9 ar9 be9 me9 co9 C hr => ?_)
  have ZL5 : ∀ (zd5 : Nat) (d : Nat), 81 + 1 ≤ d + zd5 → d ≤ 81 → WA G9 p9 l9 e9 (RM 3 65) s9 m9 ar9 be9 me9 co9 (QP G9 be9 ar9 s9 w ex us (.int (nI (sbA A b c)))) 6 (219 + ex) us 5 [some (.ref 204), some (.int (nI c)), some (.int (bI b)), some (.int (nI (cntN (sbP A b c) d))), some (.int (nI d)), none] [] (fzM w ex us) := by
    intro zd5
    induction zd5 with
    | zero => intro d zm5 zh5_0; exfalso; omega
    | succ zd5 zih5 =>
      intro d zm5 zh5_0
      refine a_iload C dX7_soundBeside_5 rfl ?_
      refine a_bipush (v := nI 81) C dX7_soundBeside_7 (by decide) ?_
      first | refine n_icmp_ge (tgt := 61) C dX7_soundBeside_9 (by decide) (by first | decide | omega) (by first | decide | omega) (fun h_9 => ?_) (fun h_9 => ?_) | refine a_icmp_ge (tgt := 61) C dX7_soundBeside_9 (by decide) (fun h_9 => ?_) (fun h_9 => ?_)
      · obtain rfl : d = 81 := by omega
        refine a_iload_n C dX7_soundBeside_61 rfl rfl ?_
        refine f_iret C hr ?_ dX7_soundBeside_62 ⟨?_, rfl⟩
        · rfl
        · rfl
      · refine a_via 31 (bI (if b then und c d else und d c)) ?_ (fun zJ31 => ?_)
        · refine a_istore C dX7_soundBeside_31 (by decide) ?_
          refine a_iload_n C dX7_soundBeside_33 rfl rfl ?_
          refine a_via 53 (nI (if sbP A b c d then 1 else 0)) ?_ (fun zJ53 => ?_)
          · first | refine n_iadd C dX7_soundBeside_53 ?_ | refine a_iadd C dX7_soundBeside_53 ?_
            refine a_istore_n C dX7_soundBeside_54 rfl (by decide) ?_
            refine n_iinc C dX7_soundBeside_55 rfl (by decide) ?_
            refine a_goto (tgt := 5) C dX7_soundBeside_58 (by decide) ?_
            refine a_join (aLe_s ?_ (aLe_s ?_ (aLe_s ?_ (aLe_s ?_ (aLe_s ?_ (aLe_n aLe_nil)))))) rfl rfl (zih5 (d + 1) (by omega) (by omega))
            · first | with_reducible rfl | exact gl (by first | with_reducible rfl | (refine iF ?_; simp [cntN, sbP, h_9]; done) | (refine iT ?_; simp [cntN, sbP, h_9]; done) | (refine iB ?_; simp [cntN, sbP, h_9]; done) | (simp [cntN, sbP, h_9]; done) | (simp [cntN, sbP, h_9]; omega) | omega)
            · first | with_reducible rfl | exact gl (by first | with_reducible rfl | (refine iF ?_; simp [cntN, sbP, h_9]; done) | (refine iT ?_; simp [cntN, sbP, h_9]; done) | (refine iB ?_; simp [cntN, sbP, h_9]; done) | (simp [cntN, sbP, h_9]; done) | (simp [cntN, sbP, h_9]; omega) | omega)
            · first | with_reducible rfl | exact gl (by first | with_reducible rfl | (refine iF ?_; simp [cntN, sbP, h_9]; done) | (refine iT ?_; simp [cntN, sbP, h_9]; done) | (refine iB ?_; simp [cntN, sbP, h_9]; done) | (simp [cntN, sbP, h_9]; done) | (simp [cntN, sbP, h_9]; omega) | omega)
            · first | with_reducible rfl | exact gl (by first | with_reducible rfl | (refine iF ?_; simp [cntN, sbP, h_9]; done) | (refine iT ?_; simp [cntN, sbP, h_9]; done) | (refine iB ?_; simp [cntN, sbP, h_9]; done) | (simp [cntN, sbP, h_9]; done) | (simp [cntN, sbP, h_9]; omega) | omega)
            · first | with_reducible rfl | exact gl (by first | with_reducible rfl | (refine iF ?_; simp [cntN, sbP, h_9]; done) | (refine iT ?_; simp [cntN, sbP, h_9]; done) | (refine iB ?_; simp [cntN, sbP, h_9]; done) | (simp [cntN, sbP, h_9]; done) | (simp [cntN, sbP, h_9]; omega) | omega)
          · refine a_iload C dX7_soundBeside_34 rfl ?_
            first | refine b_if_eq (tgt := 52) C dX7_soundBeside_36 (by decide) (fun h_36 => ?_) (fun h_36 => ?_) | refine n_if_eq (tgt := 52) C dX7_soundBeside_36 (by decide) (by first | decide | omega) (fun h_36 => ?_) (fun h_36 => ?_) | refine a_if_eq (tgt := 52) C dX7_soundBeside_36 (by decide) (fun h_36 => ?_) (fun h_36 => ?_)
            · refine a_iconst (v := nI 0) C dX7_soundBeside_52 (by decide) ?_
              refine a_eq rfl (gl1 ?_) rfl zJ53
              · first | with_reducible rfl | (refine iF ?_; simp [cntN, sbP, h_9, h_36]; done) | (refine iT ?_; simp [cntN, sbP, h_9, h_36]; done) | (refine iB ?_; simp [cntN, sbP, h_9, h_36]; done) | (simp [cntN, sbP, h_9, h_36]; done) | (simp [cntN, sbP, h_9, h_36]; omega) | omega
            · refine a_aload_n C dX7_soundBeside_39 rfl rfl ?_
              refine a_iload C dX7_soundBeside_40 rfl ?_
              refine p_callV C (K_X7_isSound hR hA (by first | assumption | decide | omega)) vX7_88 rfl (by first | decide | omega) rfl rfl dX7_soundBeside_42 (Nat.le_of_ble_eq_true rfl) ⟨by decide, by decide⟩ ?_
              first | refine b_if_eq (tgt := 52) C dX7_soundBeside_45 (by decide) (fun h_45 => ?_) (fun h_45 => ?_) | refine n_if_eq (tgt := 52) C dX7_soundBeside_45 (by decide) (by first | decide | omega) (fun h_45 => ?_) (fun h_45 => ?_) | refine a_if_eq (tgt := 52) C dX7_soundBeside_45 (by decide) (fun h_45 => ?_) (fun h_45 => ?_)
              · refine a_iconst (v := nI 0) C dX7_soundBeside_52 (by decide) ?_
                refine a_eq rfl (gl1 ?_) rfl zJ53
                · first | with_reducible rfl | (refine iF ?_; simp [cntN, sbP, h_9, h_36, h_45]; done) | (refine iT ?_; simp [cntN, sbP, h_9, h_36, h_45]; done) | (refine iB ?_; simp [cntN, sbP, h_9, h_36, h_45]; done) | (simp [cntN, sbP, h_9, h_36, h_45]; done) | (simp [cntN, sbP, h_9, h_36, h_45]; omega) | omega
              · refine a_iconst (v := nI 1) C dX7_soundBeside_48 (by decide) ?_
                refine a_goto (tgt := 53) C dX7_soundBeside_49 (by decide) ?_
                refine a_eq rfl (gl1 ?_) rfl zJ53
                · first | with_reducible rfl | (refine iF ?_; simp [cntN, sbP, h_9, h_36, h_45]; done) | (refine iT ?_; simp [cntN, sbP, h_9, h_36, h_45]; done) | (refine iB ?_; simp [cntN, sbP, h_9, h_36, h_45]; done) | (simp [cntN, sbP, h_9, h_36, h_45]; done) | (simp [cntN, sbP, h_9, h_36, h_45]; omega) | omega
        · refine a_iload_n C dX7_soundBeside_12 rfl rfl ?_
          first | refine b_if_eq (tgt := 25) C dX7_soundBeside_13 (by decide) (fun h_13 => ?_) (fun h_13 => ?_) | refine n_if_eq (tgt := 25) C dX7_soundBeside_13 (by decide) (by first | decide | omega) (fun h_13 => ?_) (fun h_13 => ?_) | refine a_if_eq (tgt := 25) C dX7_soundBeside_13 (by decide) (fun h_13 => ?_) (fun h_13 => ?_)
          · refine a_iload C dX7_soundBeside_25 rfl ?_
            refine a_iload_n C dX7_soundBeside_27 rfl rfl ?_
            refine p_callS C ((K_X7_liesUnder (by first | assumption | decide | omega) (by first | assumption | decide | omega))).cp sX7_49 rfl dX7_soundBeside_28 (Nat.le_of_ble_eq_true rfl) ⟨by decide, by decide⟩ ?_
            refine a_eq rfl (gl1 ?_) rfl zJ31
            · first | with_reducible rfl | (refine iF ?_; simp [cntN, sbP, h_9, h_13]; done) | (refine iT ?_; simp [cntN, sbP, h_9, h_13]; done) | (refine iB ?_; simp [cntN, sbP, h_9, h_13]; done) | (simp [cntN, sbP, h_9, h_13]; done) | (simp [cntN, sbP, h_9, h_13]; omega) | omega
          · refine a_iload_n C dX7_soundBeside_16 rfl rfl ?_
            refine a_iload C dX7_soundBeside_17 rfl ?_
            refine p_callS C ((K_X7_liesUnder (by first | assumption | decide | omega) (by first | assumption | decide | omega))).cp sX7_49 rfl dX7_soundBeside_19 (Nat.le_of_ble_eq_true rfl) ⟨by decide, by decide⟩ ?_
            refine a_goto (tgt := 31) C dX7_soundBeside_22 (by decide) ?_
            refine a_eq rfl (gl1 ?_) rfl zJ31
            · first | with_reducible rfl | (refine iF ?_; simp [cntN, sbP, h_9, h_13]; done) | (refine iT ?_; simp [cntN, sbP, h_9, h_13]; done) | (refine iB ?_; simp [cntN, sbP, h_9, h_13]; done) | (simp [cntN, sbP, h_9, h_13]; done) | (simp [cntN, sbP, h_9, h_13]; omega) | omega
  refine a_pad 3 ?_
  refine a_eq (L' := [some (.ref 204), some (.int (nI c)), some (.int (bI b)), none, none, none]) rfl rfl rfl ?_
  refine a_iconst (v := nI 0) C dX7_soundBeside_0 (by decide) ?_
  refine a_istore_n C dX7_soundBeside_1 rfl (by decide) ?_
  refine a_iconst (v := nI 0) C dX7_soundBeside_2 (by decide) ?_
  refine a_istore C dX7_soundBeside_3 (by decide) ?_
  refine a_join (aLe_s ?_ (aLe_s ?_ (aLe_s ?_ (aLe_s ?_ (aLe_s ?_ (aLe_n aLe_nil)))))) rfl rfl (ZL5 (81 + 1) 0 (by omega) (by omega))
  · first | with_reducible rfl | exact gl (by first | with_reducible rfl | (refine iF ?_; simp [cntN, sbP]; done) | (refine iT ?_; simp [cntN, sbP]; done) | (refine iB ?_; simp [cntN, sbP]; done) | (simp [cntN, sbP]; done) | (simp [cntN, sbP]; omega) | omega | rfl)
  · first | with_reducible rfl | exact gl (by first | with_reducible rfl | (refine iF ?_; simp [cntN, sbP]; done) | (refine iT ?_; simp [cntN, sbP]; done) | (refine iB ?_; simp [cntN, sbP]; done) | (simp [cntN, sbP]; done) | (simp [cntN, sbP]; omega) | omega | rfl)
  · first | with_reducible rfl | exact gl (by first | with_reducible rfl | (refine iF ?_; simp [cntN, sbP]; done) | (refine iT ?_; simp [cntN, sbP]; done) | (refine iB ?_; simp [cntN, sbP]; done) | (simp [cntN, sbP]; done) | (simp [cntN, sbP]; omega) | omega | rfl)
  · first | with_reducible rfl | exact gl (by first | with_reducible rfl | (refine iF ?_; simp [cntN, sbP]; done) | (refine iT ?_; simp [cntN, sbP]; done) | (refine iB ?_; simp [cntN, sbP]; done) | (simp [cntN, sbP]; done) | (simp [cntN, sbP]; omega) | omega | rfl)
  · first | with_reducible rfl | exact gl (by first | with_reducible rfl | (refine iF ?_; simp [cntN, sbP]; done) | (refine iT ?_; simp [cntN, sbP]; done) | (refine iB ?_; simp [cntN, sbP]; done) | (simp [cntN, sbP]; done) | (simp [cntN, sbP]; omega) | omega | rfl)

set_option maxRecDepth 20000 in
set_option maxHeartbeats 4000000 in
theorem K_X7_tellsCode {w : Wd} {A : St} (hR : RR w A) (hA : AOK A) {c j : Nat} (hc : c < 81) (hj : j < 6) : CP yX7_tellsCode cX7_tellsCode 3 (some .int) 5 112 [.ref 204, .int (nI c), .int (nI j)] w (.int (tcA A c j)) := by
  have zq_n := hA.n12
  refine CF.of ok_X7_tellsCode (Nat.le_of_ble_eq_true rfl) (fun ex us G9 p9 l9 e9 s9 m9 ar9 be9 me9 co9 C hr => ?_)
  refine a_iload_n C dX7_tellsCode_0 rfl rfl ?_
  obtain rfl | rfl | rfl | rfl | rfl | rfl : j = 0 ∨ j = 1 ∨ j = 2 ∨ j = 3 ∨ j = 4 ∨ j = 5 := by omega
  · refine a_tableIn (x := nI 0) (tgt := 36) C dX7_tellsCode_1 (by decide) (by decide) rfl (by decide) ?_
    refine a_iload_n C dX7_tellsCode_36 rfl rfl ?_
    refine p_callS C ((K_X7_levelOf (by first | assumption | decide | omega))).cp sX7_104 rfl dX7_tellsCode_37 (Nat.le_of_ble_eq_true rfl) ⟨by decide, by decide⟩ ?_
    refine f_iret C hr ?_ dX7_tellsCode_40 ⟨?_, rfl⟩
    · rfl
    · first | with_reducible rfl | exact gl (by first | with_reducible rfl | (refine iF ?_; simp [tcA]; done) | (refine iT ?_; simp [tcA]; done) | (refine iB ?_; simp [tcA]; done) | (simp [tcA]; done) | (simp [tcA]; omega) | omega)
  · refine a_tableIn (x := nI 1) (tgt := 41) C dX7_tellsCode_1 (by decide) (by decide) rfl (by decide) ?_
    refine a_aload_n C dX7_tellsCode_41 rfl rfl ?_
    refine a_iload_n C dX7_tellsCode_42 rfl rfl ?_
    refine p_callV C (K_X7_isSound hR hA (by first | assumption | decide | omega)) vX7_88 rfl (by first | decide | omega) rfl rfl dX7_tellsCode_43 (Nat.le_of_ble_eq_true rfl) ⟨by decide, by decide⟩ ?_
    first | refine b_if_eq (tgt := 53) C dX7_tellsCode_46 (by decide) (fun h_46 => ?_) (fun h_46 => ?_) | refine n_if_eq (tgt := 53) C dX7_tellsCode_46 (by decide) (by first | decide | omega) (fun h_46 => ?_) (fun h_46 => ?_) | refine a_if_eq (tgt := 53) C dX7_tellsCode_46 (by decide) (fun h_46 => ?_) (fun h_46 => ?_)
    · refine a_iconst (v := nI 0) C dX7_tellsCode_53 (by decide) ?_
      refine f_iret C hr ?_ dX7_tellsCode_54 ⟨?_, rfl⟩
      · rfl
      · first | with_reducible rfl | exact gl (by first | with_reducible rfl | (refine iF ?_; simp [tcA, h_46]; done) | (refine iT ?_; simp [tcA, h_46]; done) | (refine iB ?_; simp [tcA, h_46]; done) | (simp [tcA, h_46]; done) | (simp [tcA, h_46]; omega) | omega)
    · refine a_iconst (v := nI 1) C dX7_tellsCode_49 (by decide) ?_
      refine a_goto (tgt := 54) C dX7_tellsCode_50 (by decide) ?_
      refine f_iret C hr ?_ dX7_tellsCode_54 ⟨?_, rfl⟩
      · rfl
      · first | with_reducible rfl | exact gl (by first | with_reducible rfl | (refine iF ?_; simp [tcA, h_46]; done) | (refine iT ?_; simp [tcA, h_46]; done) | (refine iB ?_; simp [tcA, h_46]; done) | (simp [tcA, h_46]; done) | (simp [tcA, h_46]; omega) | omega)
  · refine a_tableIn (x := nI 2) (tgt := 55) C dX7_tellsCode_1 (by decide) (by decide) rfl (by decide) ?_
    refine a_aload_n C dX7_tellsCode_55 rfl rfl ?_
    refine a_iload_n C dX7_tellsCode_56 rfl rfl ?_
    refine p_callV C (K_X7_whyNotCut hR hA (by first | assumption | decide | omega)) vX7_125 rfl (by first | decide | omega) rfl rfl dX7_tellsCode_57 (Nat.le_of_ble_eq_true rfl) ⟨by decide, by decide⟩ ?_
    refine f_iret C hr ?_ dX7_tellsCode_60 ⟨?_, rfl⟩
    · rfl
    · first | with_reducible rfl | exact gl (by first | with_reducible rfl | (refine iF ?_; simp [tcA]; done) | (refine iT ?_; simp [tcA]; done) | (refine iB ?_; simp [tcA]; done) | (simp [tcA]; done) | (simp [tcA]; omega) | omega)
  · refine a_tableIn (x := nI 3) (tgt := 61) C dX7_tellsCode_1 (by decide) (by decide) rfl (by decide) ?_
    refine a_aload_n C dX7_tellsCode_61 rfl rfl ?_
    refine a_iload_n C dX7_tellsCode_62 rfl rfl ?_
    refine a_iconst (v := nI 1) C dX7_tellsCode_63 (by decide) ?_
    refine p_callV C (K_X7_soundBeside true hR hA (by first | assumption | decide | omega)) vX7_215 rfl (by first | decide | omega) rfl rfl dX7_tellsCode_64 (Nat.le_of_ble_eq_true rfl) ⟨by decide, by decide⟩ ?_
    refine f_iret C hr ?_ dX7_tellsCode_67 ⟨?_, rfl⟩
    · rfl
    · first | with_reducible rfl | exact gl (by first | with_reducible rfl | (refine iF ?_; simp [tcA]; done) | (refine iT ?_; simp [tcA]; done) | (refine iB ?_; simp [tcA]; done) | (simp [tcA]; done) | (simp [tcA]; omega) | omega)
  · refine a_tableIn (x := nI 4) (tgt := 68) C dX7_tellsCode_1 (by decide) (by decide) rfl (by decide) ?_
    refine a_aload_n C dX7_tellsCode_68 rfl rfl ?_
    refine a_iload_n C dX7_tellsCode_69 rfl rfl ?_
    refine a_iconst (v := nI 0) C dX7_tellsCode_70 (by decide) ?_
    refine p_callV C (K_X7_soundBeside false hR hA (by first | assumption | decide | omega)) vX7_215 rfl (by first | decide | omega) rfl rfl dX7_tellsCode_71 (Nat.le_of_ble_eq_true rfl) ⟨by decide, by decide⟩ ?_
    refine f_iret C hr ?_ dX7_tellsCode_74 ⟨?_, rfl⟩
    · rfl
    · first | with_reducible rfl | exact gl (by first | with_reducible rfl | (refine iF ?_; simp [tcA]; done) | (refine iT ?_; simp [tcA]; done) | (refine iB ?_; simp [tcA]; done) | (simp [tcA]; done) | (simp [tcA]; omega) | omega)
  · refine a_tableOut (x := nI 5) (tgt := 75) C dX7_tellsCode_1 (by decide) (by decide) ?_
    refine a_aload_n C dX7_tellsCode_75 rfl rfl ?_
    refine a_iload_n C dX7_tellsCode_76 rfl rfl ?_
    refine p_callV C (K_X7_isFreeCode hR hA (by first | assumption | decide | omega)) vX7_218 rfl (by first | decide | omega) rfl rfl dX7_tellsCode_77 (Nat.le_of_ble_eq_true rfl) ⟨by decide, by decide⟩ ?_
    first | refine b_if_eq (tgt := 87) C dX7_tellsCode_80 (by decide) (fun h_80 => ?_) (fun h_80 => ?_) | refine n_if_eq (tgt := 87) C dX7_tellsCode_80 (by decide) (by first | decide | omega) (fun h_80 => ?_) (fun h_80 => ?_) | refine a_if_eq (tgt := 87) C dX7_tellsCode_80 (by decide) (fun h_80 => ?_) (fun h_80 => ?_)
    · refine a_iconst (v := nI 0) C dX7_tellsCode_87 (by decide) ?_
      refine f_iret C hr ?_ dX7_tellsCode_88 ⟨?_, rfl⟩
      · rfl
      · first | with_reducible rfl | exact gl (by first | with_reducible rfl | (refine iF ?_; simp [tcA, h_80]; done) | (refine iT ?_; simp [tcA, h_80]; done) | (refine iB ?_; simp [tcA, h_80]; done) | (simp [tcA, h_80]; done) | (simp [tcA, h_80]; omega) | omega)
    · refine a_iconst (v := nI 1) C dX7_tellsCode_83 (by decide) ?_
      refine a_goto (tgt := 88) C dX7_tellsCode_84 (by decide) ?_
      refine f_iret C hr ?_ dX7_tellsCode_88 ⟨?_, rfl⟩
      · rfl
      · first | with_reducible rfl | exact gl (by first | with_reducible rfl | (refine iF ?_; simp [tcA, h_80]; done) | (refine iT ?_; simp [tcA, h_80]; done) | (refine iB ?_; simp [tcA, h_80]; done) | (simp [tcA, h_80]; done) | (simp [tcA, h_80]; omega) | omega)

set_option maxRecDepth 20000 in
set_option maxHeartbeats 4000000 in
theorem K_X7_tellsLevel {w : Wd} {A : St} (hR : RR w A) (hA : AOK A) {v j : Nat} (hv : v < 1000) (hj : j < 4) : CP yX7_tellsLevel cX7_tellsLevel 10 (some .int) 5 112 [.ref 204, .int (nI v), .int (nI j)] w (.int (tvA A v j)) := by
  have zq_n := hA.n12
  refine CF.of ok_X7_tellsLevel (Nat.le_of_ble_eq_true rfl) (fun ex us G9 p9 l9 e9 s9 m9 ar9 be9 me9 co9 C hr => ?_)
  have ZL124 : ∀ (zd124 : Nat) (k : Nat), kN A + 1 ≤ k + zd124 → k ≤ kN A → WA G9 p9 l9 e9 (RM 5 112) s9 m9 ar9 be9 me9 co9 (QP G9 be9 ar9 s9 w ex us (.int (tvA A v j))) 10 (219 + ex) us 124 [some (.ref 204), some (.int (nI v)), some (.int (nI j)), some (.int (nI (cntN (lvP A v) 81))), some (.int (nI (cntN (lfP A v) 81))), some (.int (nI (cntN (lkP A v) k))), some (.int (lstI (lfP A v) 81)), some (.int (nI k)), none, none] [] (fzM w ex us) := by
    intro zd124
    induction zd124 with
    | zero => intro k zm124 zh124_0; exfalso; omega
    | succ zd124 zih124 =>
      intro k zm124 zh124_0
      have zq_l := lvN_le (cN A k)
      refine a_iload C dX7_tellsLevel_124 rfl ?_
      refine a_aload_n C dX7_tellsLevel_126 rfl rfl ?_
      refine a_getfF C fX7_7 dX7_tellsLevel_127 (show _ < 219 from (by first | decide | omega)) (by first | decide | omega) rfl rfl ?_
      refine a_iconst (v := nI 0) C dX7_tellsLevel_130 (by decide) ?_
      refine n_iald C dX7_tellsLevel_131 (show _ < 219 from (by first | decide | omega)) (by first | decide | omega) rfl rfl (by first | decide | omega) (by decide) (RR_n hR hA) ?_
      first | refine n_icmp_ge (tgt := 165) C dX7_tellsLevel_132 (by decide) (by first | decide | omega) (by first | decide | omega) (fun h_132 => ?_) (fun h_132 => ?_) | refine a_icmp_ge (tgt := 165) C dX7_tellsLevel_132 (by decide) (fun h_132 => ?_) (fun h_132 => ?_)
      · obtain rfl : k = kN A := by omega
        refine a_iload_n C dX7_tellsLevel_165 rfl rfl ?_
        first | refine b_if_ne (tgt := 173) C dX7_tellsLevel_166 (by decide) (fun h_166 => ?_) (fun h_166 => ?_) | refine n_if_ne (tgt := 173) C dX7_tellsLevel_166 (by decide) (by first | decide | omega) (fun h_166 => ?_) (fun h_166 => ?_) | refine a_if_ne (tgt := 173) C dX7_tellsLevel_166 (by decide) (fun h_166 => ?_) (fun h_166 => ?_)
        · refine a_iload_n C dX7_tellsLevel_173 rfl rfl ?_
          refine a_iconst (v := nI 1) C dX7_tellsLevel_174 (by decide) ?_
          first | refine n_icmp_ne (tgt := 183) C dX7_tellsLevel_175 (by decide) (by first | decide | omega) (by first | decide | omega) (fun h_175 => ?_) (fun h_175 => ?_) | refine a_icmp_ne (tgt := 183) C dX7_tellsLevel_175 (by decide) (fun h_175 => ?_) (fun h_175 => ?_)
          · refine a_iload_n C dX7_tellsLevel_183 rfl rfl ?_
            refine a_iconst (v := nI 2) C dX7_tellsLevel_184 (by decide) ?_
            first | refine n_icmp_ne (tgt := 193) C dX7_tellsLevel_185 (by decide) (by first | decide | omega) (by first | decide | omega) (fun h_185 => ?_) (fun h_185 => ?_) | refine a_icmp_ne (tgt := 193) C dX7_tellsLevel_185 (by decide) (fun h_185 => ?_) (fun h_185 => ?_)
            · obtain rfl : j = 3 := by omega
              refine a_iload C dX7_tellsLevel_193 rfl ?_
              refine f_iret C hr ?_ dX7_tellsLevel_195 ⟨?_, rfl⟩
              · rfl
              · rfl
            · subst h_185
              refine a_iload C dX7_tellsLevel_188 rfl ?_
              refine a_goto (tgt := 195) C dX7_tellsLevel_190 (by decide) ?_
              refine f_iret C hr ?_ dX7_tellsLevel_195 ⟨?_, rfl⟩
              · rfl
              · rfl
          · subst h_175
            refine a_iload C dX7_tellsLevel_178 rfl ?_
            refine a_goto (tgt := 195) C dX7_tellsLevel_180 (by decide) ?_
            refine f_iret C hr ?_ dX7_tellsLevel_195 ⟨?_, rfl⟩
            · rfl
            · rfl
        · subst h_166
          refine a_iload_n C dX7_tellsLevel_169 rfl rfl ?_
          refine a_goto (tgt := 195) C dX7_tellsLevel_170 (by decide) ?_
          refine f_iret C hr ?_ dX7_tellsLevel_195 ⟨?_, rfl⟩
          · rfl
          · rfl
      · refine a_iload C dX7_tellsLevel_135 rfl ?_
        refine a_via 156 (nI (if lkP A v k then 1 else 0)) ?_ (fun zJ156 => ?_)
        · first | refine n_iadd C dX7_tellsLevel_156 ?_ | refine a_iadd C dX7_tellsLevel_156 ?_
          refine a_istore C dX7_tellsLevel_157 (by decide) ?_
          refine n_iinc C dX7_tellsLevel_159 rfl (by decide) ?_
          refine a_goto (tgt := 124) C dX7_tellsLevel_162 (by decide) ?_
          refine a_join (aLe_s ?_ (aLe_s ?_ (aLe_s ?_ (aLe_s ?_ (aLe_s ?_ (aLe_s ?_ (aLe_s ?_ (aLe_s ?_ (aLe_n (aLe_n aLe_nil)))))))))) rfl rfl (zih124 (k + 1) (by omega) (by omega))
          · first | with_reducible rfl | exact gl (by first | with_reducible rfl | (refine iF ?_; simp [cntN, h_132]; done) | (refine iT ?_; simp [cntN, h_132]; done) | (refine iB ?_; simp [cntN, h_132]; done) | (simp [cntN, h_132]; done) | (simp [cntN, h_132]; omega) | omega)
          · first | with_reducible rfl | exact gl (by first | with_reducible rfl | (refine iF ?_; simp [cntN, h_132]; done) | (refine iT ?_; simp [cntN, h_132]; done) | (refine iB ?_; simp [cntN, h_132]; done) | (simp [cntN, h_132]; done) | (simp [cntN, h_132]; omega) | omega)
          · first | with_reducible rfl | exact gl (by first | with_reducible rfl | (refine iF ?_; simp [cntN, h_132]; done) | (refine iT ?_; simp [cntN, h_132]; done) | (refine iB ?_; simp [cntN, h_132]; done) | (simp [cntN, h_132]; done) | (simp [cntN, h_132]; omega) | omega)
          · first | with_reducible rfl | exact gl (by first | with_reducible rfl | (refine iF ?_; simp [cntN, h_132]; done) | (refine iT ?_; simp [cntN, h_132]; done) | (refine iB ?_; simp [cntN, h_132]; done) | (simp [cntN, h_132]; done) | (simp [cntN, h_132]; omega) | omega)
          · first | with_reducible rfl | exact gl (by first | with_reducible rfl | (refine iF ?_; simp [cntN, h_132]; done) | (refine iT ?_; simp [cntN, h_132]; done) | (refine iB ?_; simp [cntN, h_132]; done) | (simp [cntN, h_132]; done) | (simp [cntN, h_132]; omega) | omega)
          · first | with_reducible rfl | exact gl (by first | with_reducible rfl | (refine iF ?_; simp [cntN, h_132]; done) | (refine iT ?_; simp [cntN, h_132]; done) | (refine iB ?_; simp [cntN, h_132]; done) | (simp [cntN, h_132]; done) | (simp [cntN, h_132]; omega) | omega)
          · first | with_reducible rfl | exact gl (by first | with_reducible rfl | (refine iF ?_; simp [cntN, h_132]; done) | (refine iT ?_; simp [cntN, h_132]; done) | (refine iB ?_; simp [cntN, h_132]; done) | (simp [cntN, h_132]; done) | (simp [cntN, h_132]; omega) | omega)
          · first | with_reducible rfl | exact gl (by first | with_reducible rfl | (refine iF ?_; simp [cntN, h_132]; done) | (refine iT ?_; simp [cntN, h_132]; done) | (refine iB ?_; simp [cntN, h_132]; done) | (simp [cntN, h_132]; done) | (simp [cntN, h_132]; omega) | omega)
        · have zq_c := hA.c81 (k := k) (by omega)
          refine a_aload_n C dX7_tellsLevel_137 rfl rfl ?_
          refine a_iload C dX7_tellsLevel_138 rfl ?_
          refine a_iconst (v := nI 0) C dX7_tellsLevel_140 (by decide) ?_
          refine p_callV C (KC_ofKey0 hR hA (by first | assumption | decide | omega)) vX7_85 rfl (by first | decide | omega) rfl rfl dX7_tellsLevel_141 (Nat.le_of_ble_eq_true rfl) ⟨by decide, by decide⟩ ?_
          refine p_callS C ((K_X7_levelOf (by first | assumption | decide | omega))).cp sX7_104 rfl dX7_tellsLevel_144 (Nat.le_of_ble_eq_true rfl) ⟨by decide, by decide⟩ ?_
          refine a_iload_n C dX7_tellsLevel_147 rfl rfl ?_
          first | refine n_icmp_ne (tgt := 155) C dX7_tellsLevel_148 (by decide) (by first | decide | omega) (by first | decide | omega) (fun h_148 => ?_) (fun h_148 => ?_) | refine a_icmp_ne (tgt := 155) C dX7_tellsLevel_148 (by decide) (fun h_148 => ?_) (fun h_148 => ?_)
          · refine a_iconst (v := nI 0) C dX7_tellsLevel_155 (by decide) ?_
            refine a_eq rfl (gl1 ?_) rfl zJ156
            · first | with_reducible rfl | (refine iF ?_; simp [lkP, h_132, h_148, (beq_eq_false_iff_ne.mpr h_148), (bne_iff_ne.mpr h_148)]; done) | (refine iT ?_; simp [lkP, h_132, h_148, (beq_eq_false_iff_ne.mpr h_148), (bne_iff_ne.mpr h_148)]; done) | (refine iB ?_; simp [lkP, h_132, h_148, (beq_eq_false_iff_ne.mpr h_148), (bne_iff_ne.mpr h_148)]; done) | (simp [lkP, h_132, h_148, (beq_eq_false_iff_ne.mpr h_148), (bne_iff_ne.mpr h_148)]; done) | (simp [lkP, h_132, h_148, (beq_eq_false_iff_ne.mpr h_148), (bne_iff_ne.mpr h_148)]; omega) | omega
          · refine a_iconst (v := nI 1) C dX7_tellsLevel_151 (by decide) ?_
            refine a_goto (tgt := 156) C dX7_tellsLevel_152 (by decide) ?_
            refine a_eq rfl (gl1 ?_) rfl zJ156
            · first | with_reducible rfl | (refine iF ?_; simp [lkP, h_132, (eq_true h_148), (beq_iff_eq.mpr h_148), (bne_eq_false_iff_eq.mpr h_148)]; done) | (refine iT ?_; simp [lkP, h_132, (eq_true h_148), (beq_iff_eq.mpr h_148), (bne_eq_false_iff_eq.mpr h_148)]; done) | (refine iB ?_; simp [lkP, h_132, (eq_true h_148), (beq_iff_eq.mpr h_148), (bne_eq_false_iff_eq.mpr h_148)]; done) | (simp [lkP, h_132, (eq_true h_148), (beq_iff_eq.mpr h_148), (bne_eq_false_iff_eq.mpr h_148)]; done) | (simp [lkP, h_132, (eq_true h_148), (beq_iff_eq.mpr h_148), (bne_eq_false_iff_eq.mpr h_148)]; omega) | omega
  have ZL14 : ∀ (zd14 : Nat) (c : Nat), 81 + 1 ≤ c + zd14 → c ≤ 81 → WA G9 p9 l9 e9 (RM 5 112) s9 m9 ar9 be9 me9 co9 (QP G9 be9 ar9 s9 w ex us (.int (tvA A v j))) 10 (219 + ex) us 14 [some (.ref 204), some (.int (nI v)), some (.int (nI j)), some (.int (nI (cntN (lvP A v) c))), some (.int (nI (cntN (lfP A v) c))), some (.int (nI 0)), some (.int (lstI (lfP A v) c)), some (.int (nI c)), none, none] [] (fzM w ex us) := by
    intro zd14
    induction zd14 with
    | zero => intro c zm14 zh14_0; exfalso; omega
    | succ zd14 zih14 =>
      intro c zm14 zh14_0
      have zq_l := lvN_le c
      refine a_iload C dX7_tellsLevel_14 rfl ?_
      refine a_bipush (v := nI 81) C dX7_tellsLevel_16 (by decide) ?_
      first | refine n_icmp_ge (tgt := 121) C dX7_tellsLevel_18 (by decide) (by first | decide | omega) (by first | decide | omega) (fun h_18 => ?_) (fun h_18 => ?_) | refine a_icmp_ge (tgt := 121) C dX7_tellsLevel_18 (by decide) (fun h_18 => ?_) (fun h_18 => ?_)
      · obtain rfl : c = 81 := by omega
        refine a_iconst (v := nI 0) C dX7_tellsLevel_121 (by decide) ?_
        refine a_istore C dX7_tellsLevel_122 (by decide) ?_
        refine a_join (aLe_s ?_ (aLe_s ?_ (aLe_s ?_ (aLe_s ?_ (aLe_s ?_ (aLe_s ?_ (aLe_s ?_ (aLe_s ?_ (aLe_n (aLe_n aLe_nil)))))))))) rfl rfl (ZL124 (kN A + 1) 0 (by omega) (by omega))
        · first | with_reducible rfl | exact gl (by first | with_reducible rfl | (refine iF ?_; simp [cntN, h_18]; done) | (refine iT ?_; simp [cntN, h_18]; done) | (refine iB ?_; simp [cntN, h_18]; done) | (simp [cntN, h_18]; done) | (simp [cntN, h_18]; omega) | omega | rfl)
        · first | with_reducible rfl | exact gl (by first | with_reducible rfl | (refine iF ?_; simp [cntN, h_18]; done) | (refine iT ?_; simp [cntN, h_18]; done) | (refine iB ?_; simp [cntN, h_18]; done) | (simp [cntN, h_18]; done) | (simp [cntN, h_18]; omega) | omega | rfl)
        · first | with_reducible rfl | exact gl (by first | with_reducible rfl | (refine iF ?_; simp [cntN, h_18]; done) | (refine iT ?_; simp [cntN, h_18]; done) | (refine iB ?_; simp [cntN, h_18]; done) | (simp [cntN, h_18]; done) | (simp [cntN, h_18]; omega) | omega | rfl)
        · first | with_reducible rfl | exact gl (by first | with_reducible rfl | (refine iF ?_; simp [cntN, h_18]; done) | (refine iT ?_; simp [cntN, h_18]; done) | (refine iB ?_; simp [cntN, h_18]; done) | (simp [cntN, h_18]; done) | (simp [cntN, h_18]; omega) | omega | rfl)
        · first | with_reducible rfl | exact gl (by first | with_reducible rfl | (refine iF ?_; simp [cntN, h_18]; done) | (refine iT ?_; simp [cntN, h_18]; done) | (refine iB ?_; simp [cntN, h_18]; done) | (simp [cntN, h_18]; done) | (simp [cntN, h_18]; omega) | omega | rfl)
        · first | with_reducible rfl | exact gl (by first | with_reducible rfl | (refine iF ?_; simp [cntN, h_18]; done) | (refine iT ?_; simp [cntN, h_18]; done) | (refine iB ?_; simp [cntN, h_18]; done) | (simp [cntN, h_18]; done) | (simp [cntN, h_18]; omega) | omega | rfl)
        · first | with_reducible rfl | exact gl (by first | with_reducible rfl | (refine iF ?_; simp [cntN, h_18]; done) | (refine iT ?_; simp [cntN, h_18]; done) | (refine iB ?_; simp [cntN, h_18]; done) | (simp [cntN, h_18]; done) | (simp [cntN, h_18]; omega) | omega | rfl)
        · first | with_reducible rfl | exact gl (by first | with_reducible rfl | (refine iF ?_; simp [cntN, h_18]; done) | (refine iT ?_; simp [cntN, h_18]; done) | (refine iB ?_; simp [cntN, h_18]; done) | (simp [cntN, h_18]; done) | (simp [cntN, h_18]; omega) | omega | rfl)
      · refine a_via 35 (bI (lvN c == v)) ?_ (fun zJ35 => ?_)
        · refine a_istore C dX7_tellsLevel_35 (by decide) ?_
          refine a_via 56 (bI (lfP A v c)) ?_ (fun zJ56 => ?_)
          · refine a_istore C dX7_tellsLevel_56 (by decide) ?_
            refine a_iload_n C dX7_tellsLevel_58 rfl rfl ?_
            refine a_via 78 (nI (if lvP A v c then 1 else 0)) ?_ (fun zJ78 => ?_)
            · first | refine n_iadd C dX7_tellsLevel_78 ?_ | refine a_iadd C dX7_tellsLevel_78 ?_
              refine a_istore_n C dX7_tellsLevel_79 rfl (by decide) ?_
              refine a_iload C dX7_tellsLevel_80 rfl ?_
              refine a_via 92 (nI (if lfP A v c then 1 else 0)) ?_ (fun zJ92 => ?_)
              · first | refine n_iadd C dX7_tellsLevel_92 ?_ | refine a_iadd C dX7_tellsLevel_92 ?_
                refine a_istore C dX7_tellsLevel_93 (by decide) ?_
                refine a_via 113 (lstI (lfP A v) (c + 1)) ?_ (fun zJ113 => ?_)
                · refine a_istore C dX7_tellsLevel_113 (by decide) ?_
                  refine n_iinc C dX7_tellsLevel_115 rfl (by decide) ?_
                  refine a_goto (tgt := 14) C dX7_tellsLevel_118 (by decide) ?_
                  refine a_join (aLe_s ?_ (aLe_s ?_ (aLe_s ?_ (aLe_s ?_ (aLe_s ?_ (aLe_s ?_ (aLe_s ?_ (aLe_s ?_ (aLe_n (aLe_n aLe_nil)))))))))) rfl rfl (zih14 (c + 1) (by omega) (by omega))
                  · first | with_reducible rfl | exact gl (by first | with_reducible rfl | (refine iF ?_; simp [cntN, h_18]; done) | (refine iT ?_; simp [cntN, h_18]; done) | (refine iB ?_; simp [cntN, h_18]; done) | (simp [cntN, h_18]; done) | (simp [cntN, h_18]; omega) | omega)
                  · first | with_reducible rfl | exact gl (by first | with_reducible rfl | (refine iF ?_; simp [cntN, h_18]; done) | (refine iT ?_; simp [cntN, h_18]; done) | (refine iB ?_; simp [cntN, h_18]; done) | (simp [cntN, h_18]; done) | (simp [cntN, h_18]; omega) | omega)
                  · first | with_reducible rfl | exact gl (by first | with_reducible rfl | (refine iF ?_; simp [cntN, h_18]; done) | (refine iT ?_; simp [cntN, h_18]; done) | (refine iB ?_; simp [cntN, h_18]; done) | (simp [cntN, h_18]; done) | (simp [cntN, h_18]; omega) | omega)
                  · first | with_reducible rfl | exact gl (by first | with_reducible rfl | (refine iF ?_; simp [cntN, h_18]; done) | (refine iT ?_; simp [cntN, h_18]; done) | (refine iB ?_; simp [cntN, h_18]; done) | (simp [cntN, h_18]; done) | (simp [cntN, h_18]; omega) | omega)
                  · first | with_reducible rfl | exact gl (by first | with_reducible rfl | (refine iF ?_; simp [cntN, h_18]; done) | (refine iT ?_; simp [cntN, h_18]; done) | (refine iB ?_; simp [cntN, h_18]; done) | (simp [cntN, h_18]; done) | (simp [cntN, h_18]; omega) | omega)
                  · first | with_reducible rfl | exact gl (by first | with_reducible rfl | (refine iF ?_; simp [cntN, h_18]; done) | (refine iT ?_; simp [cntN, h_18]; done) | (refine iB ?_; simp [cntN, h_18]; done) | (simp [cntN, h_18]; done) | (simp [cntN, h_18]; omega) | omega)
                  · first | with_reducible rfl | exact gl (by first | with_reducible rfl | (refine iF ?_; simp [cntN, h_18]; done) | (refine iT ?_; simp [cntN, h_18]; done) | (refine iB ?_; simp [cntN, h_18]; done) | (simp [cntN, h_18]; done) | (simp [cntN, h_18]; omega) | omega)
                  · first | with_reducible rfl | exact gl (by first | with_reducible rfl | (refine iF ?_; simp [cntN, h_18]; done) | (refine iT ?_; simp [cntN, h_18]; done) | (refine iB ?_; simp [cntN, h_18]; done) | (simp [cntN, h_18]; done) | (simp [cntN, h_18]; omega) | omega)
                · refine a_iload C dX7_tellsLevel_95 rfl ?_
                  first | refine b_if_eq (tgt := 111) C dX7_tellsLevel_97 (by decide) (fun h_97 => ?_) (fun h_97 => ?_) | refine n_if_eq (tgt := 111) C dX7_tellsLevel_97 (by decide) (by first | decide | omega) (fun h_97 => ?_) (fun h_97 => ?_) | refine a_if_eq (tgt := 111) C dX7_tellsLevel_97 (by decide) (fun h_97 => ?_) (fun h_97 => ?_)
                  · refine a_iload C dX7_tellsLevel_111 rfl ?_
                    refine a_eq rfl (gl1 ?_) rfl zJ113
                    · first | with_reducible rfl | (refine iF ?_; simp [lstI, h_18, h_97]; done) | (refine iT ?_; simp [lstI, h_18, h_97]; done) | (refine iB ?_; simp [lstI, h_18, h_97]; done) | (simp [lstI, h_18, h_97]; done) | (simp [lstI, h_18, h_97]; omega) | omega
                  · refine a_iload C dX7_tellsLevel_100 rfl ?_
                    refine a_iconst (v := (-1)) C dX7_tellsLevel_102 (by decide) ?_
                    refine a_icmp_ne (tgt := 111) C dX7_tellsLevel_103 (by decide) (fun h_103 => ?_) (fun h_103 => ?_)
                    · refine a_iload C dX7_tellsLevel_111 rfl ?_
                      refine a_eq rfl (gl1 ?_) rfl zJ113
                      · first | with_reducible rfl | (refine iF ?_; simp [lstI, h_18, h_97, h_103, (beq_eq_false_iff_ne.mpr h_103), (bne_iff_ne.mpr h_103)]; done) | (refine iT ?_; simp [lstI, h_18, h_97, h_103, (beq_eq_false_iff_ne.mpr h_103), (bne_iff_ne.mpr h_103)]; done) | (refine iB ?_; simp [lstI, h_18, h_97, h_103, (beq_eq_false_iff_ne.mpr h_103), (bne_iff_ne.mpr h_103)]; done) | (simp [lstI, h_18, h_97, h_103, (beq_eq_false_iff_ne.mpr h_103), (bne_iff_ne.mpr h_103)]; done) | (simp [lstI, h_18, h_97, h_103, (beq_eq_false_iff_ne.mpr h_103), (bne_iff_ne.mpr h_103)]; omega) | omega
                    · refine a_iload C dX7_tellsLevel_106 rfl ?_
                      refine a_goto (tgt := 113) C dX7_tellsLevel_108 (by decide) ?_
                      refine a_eq rfl (gl1 ?_) rfl zJ113
                      · first | with_reducible rfl | (refine iF ?_; simp [lstI, h_18, h_97, (eq_true h_103), (beq_iff_eq.mpr h_103), (bne_eq_false_iff_eq.mpr h_103)]; done) | (refine iT ?_; simp [lstI, h_18, h_97, (eq_true h_103), (beq_iff_eq.mpr h_103), (bne_eq_false_iff_eq.mpr h_103)]; done) | (refine iB ?_; simp [lstI, h_18, h_97, (eq_true h_103), (beq_iff_eq.mpr h_103), (bne_eq_false_iff_eq.mpr h_103)]; done) | (simp [lstI, h_18, h_97, (eq_true h_103), (beq_iff_eq.mpr h_103), (bne_eq_false_iff_eq.mpr h_103)]; done) | (simp [lstI, h_18, h_97, (eq_true h_103), (beq_iff_eq.mpr h_103), (bne_eq_false_iff_eq.mpr h_103)]; omega) | omega
              · refine a_iload C dX7_tellsLevel_82 rfl ?_
                first | refine b_if_eq (tgt := 91) C dX7_tellsLevel_84 (by decide) (fun h_84 => ?_) (fun h_84 => ?_) | refine n_if_eq (tgt := 91) C dX7_tellsLevel_84 (by decide) (by first | decide | omega) (fun h_84 => ?_) (fun h_84 => ?_) | refine a_if_eq (tgt := 91) C dX7_tellsLevel_84 (by decide) (fun h_84 => ?_) (fun h_84 => ?_)
                · refine a_iconst (v := nI 0) C dX7_tellsLevel_91 (by decide) ?_
                  refine a_eq rfl (gl1 ?_) rfl zJ92
                  · first | with_reducible rfl | (refine iF ?_; simp [h_18, h_84]; done) | (refine iT ?_; simp [h_18, h_84]; done) | (refine iB ?_; simp [h_18, h_84]; done) | (simp [h_18, h_84]; done) | (simp [h_18, h_84]; omega) | omega
                · refine a_iconst (v := nI 1) C dX7_tellsLevel_87 (by decide) ?_
                  refine a_goto (tgt := 92) C dX7_tellsLevel_88 (by decide) ?_
                  refine a_eq rfl (gl1 ?_) rfl zJ92
                  · first | with_reducible rfl | (refine iF ?_; simp [h_18, h_84]; done) | (refine iT ?_; simp [h_18, h_84]; done) | (refine iB ?_; simp [h_18, h_84]; done) | (simp [h_18, h_84]; done) | (simp [h_18, h_84]; omega) | omega
            · refine a_iload C dX7_tellsLevel_59 rfl ?_
              first | refine b_if_eq (tgt := 77) C dX7_tellsLevel_61 (by decide) (fun h_61 => ?_) (fun h_61 => ?_) | refine n_if_eq (tgt := 77) C dX7_tellsLevel_61 (by decide) (by first | decide | omega) (fun h_61 => ?_) (fun h_61 => ?_) | refine a_if_eq (tgt := 77) C dX7_tellsLevel_61 (by decide) (fun h_61 => ?_) (fun h_61 => ?_)
              · refine a_iconst (v := nI 0) C dX7_tellsLevel_77 (by decide) ?_
                refine a_eq rfl (gl1 ?_) rfl zJ78
                · first | with_reducible rfl | (refine iF ?_; simp [lvP, h_18, h_61]; done) | (refine iT ?_; simp [lvP, h_18, h_61]; done) | (refine iB ?_; simp [lvP, h_18, h_61]; done) | (simp [lvP, h_18, h_61]; done) | (simp [lvP, h_18, h_61]; omega) | omega
              · refine a_aload_n C dX7_tellsLevel_64 rfl rfl ?_
                refine a_iload C dX7_tellsLevel_65 rfl ?_
                refine p_callV C (K_X7_isSound hR hA (by first | assumption | decide | omega)) vX7_88 rfl (by first | decide | omega) rfl rfl dX7_tellsLevel_67 (Nat.le_of_ble_eq_true rfl) ⟨by decide, by decide⟩ ?_
                first | refine b_if_eq (tgt := 77) C dX7_tellsLevel_70 (by decide) (fun h_70 => ?_) (fun h_70 => ?_) | refine n_if_eq (tgt := 77) C dX7_tellsLevel_70 (by decide) (by first | decide | omega) (fun h_70 => ?_) (fun h_70 => ?_) | refine a_if_eq (tgt := 77) C dX7_tellsLevel_70 (by decide) (fun h_70 => ?_) (fun h_70 => ?_)
                · refine a_iconst (v := nI 0) C dX7_tellsLevel_77 (by decide) ?_
                  refine a_eq rfl (gl1 ?_) rfl zJ78
                  · first | with_reducible rfl | (refine iF ?_; simp [lvP, h_18, h_61, h_70]; done) | (refine iT ?_; simp [lvP, h_18, h_61, h_70]; done) | (refine iB ?_; simp [lvP, h_18, h_61, h_70]; done) | (simp [lvP, h_18, h_61, h_70]; done) | (simp [lvP, h_18, h_61, h_70]; omega) | omega
                · refine a_iconst (v := nI 1) C dX7_tellsLevel_73 (by decide) ?_
                  refine a_goto (tgt := 78) C dX7_tellsLevel_74 (by decide) ?_
                  refine a_eq rfl (gl1 ?_) rfl zJ78
                  · first | with_reducible rfl | (refine iF ?_; simp [lvP, h_18, h_61, h_70]; done) | (refine iT ?_; simp [lvP, h_18, h_61, h_70]; done) | (refine iB ?_; simp [lvP, h_18, h_61, h_70]; done) | (simp [lvP, h_18, h_61, h_70]; done) | (simp [lvP, h_18, h_61, h_70]; omega) | omega
          · refine a_iload C dX7_tellsLevel_37 rfl ?_
            first | refine b_if_eq (tgt := 55) C dX7_tellsLevel_39 (by decide) (fun h_39 => ?_) (fun h_39 => ?_) | refine n_if_eq (tgt := 55) C dX7_tellsLevel_39 (by decide) (by first | decide | omega) (fun h_39 => ?_) (fun h_39 => ?_) | refine a_if_eq (tgt := 55) C dX7_tellsLevel_39 (by decide) (fun h_39 => ?_) (fun h_39 => ?_)
            · refine a_iconst (v := nI 0) C dX7_tellsLevel_55 (by decide) ?_
              refine a_eq rfl (gl1 ?_) rfl zJ56
              · first | with_reducible rfl | (refine iF ?_; simp [lfP, h_18, h_39]; done) | (refine iT ?_; simp [lfP, h_18, h_39]; done) | (refine iB ?_; simp [lfP, h_18, h_39]; done) | (simp [lfP, h_18, h_39]; done) | (simp [lfP, h_18, h_39]; omega) | omega
            · refine a_aload_n C dX7_tellsLevel_42 rfl rfl ?_
              refine a_iload C dX7_tellsLevel_43 rfl ?_
              refine p_callV C (K_X7_isFreeCode hR hA (by first | assumption | decide | omega)) vX7_218 rfl (by first | decide | omega) rfl rfl dX7_tellsLevel_45 (Nat.le_of_ble_eq_true rfl) ⟨by decide, by decide⟩ ?_
              first | refine b_if_eq (tgt := 55) C dX7_tellsLevel_48 (by decide) (fun h_48 => ?_) (fun h_48 => ?_) | refine n_if_eq (tgt := 55) C dX7_tellsLevel_48 (by decide) (by first | decide | omega) (fun h_48 => ?_) (fun h_48 => ?_) | refine a_if_eq (tgt := 55) C dX7_tellsLevel_48 (by decide) (fun h_48 => ?_) (fun h_48 => ?_)
              · refine a_iconst (v := nI 0) C dX7_tellsLevel_55 (by decide) ?_
                refine a_eq rfl (gl1 ?_) rfl zJ56
                · first | with_reducible rfl | (refine iF ?_; simp [lfP, h_18, h_39, h_48]; done) | (refine iT ?_; simp [lfP, h_18, h_39, h_48]; done) | (refine iB ?_; simp [lfP, h_18, h_39, h_48]; done) | (simp [lfP, h_18, h_39, h_48]; done) | (simp [lfP, h_18, h_39, h_48]; omega) | omega
              · refine a_iconst (v := nI 1) C dX7_tellsLevel_51 (by decide) ?_
                refine a_goto (tgt := 56) C dX7_tellsLevel_52 (by decide) ?_
                refine a_eq rfl (gl1 ?_) rfl zJ56
                · first | with_reducible rfl | (refine iF ?_; simp [lfP, h_18, h_39, h_48]; done) | (refine iT ?_; simp [lfP, h_18, h_39, h_48]; done) | (refine iB ?_; simp [lfP, h_18, h_39, h_48]; done) | (simp [lfP, h_18, h_39, h_48]; done) | (simp [lfP, h_18, h_39, h_48]; omega) | omega
        · refine a_iload C dX7_tellsLevel_21 rfl ?_
          refine p_callS C ((K_X7_levelOf (by first | assumption | decide | omega))).cp sX7_104 rfl dX7_tellsLevel_23 (Nat.le_of_ble_eq_true rfl) ⟨by decide, by decide⟩ ?_
          refine a_iload_n C dX7_tellsLevel_26 rfl rfl ?_
          first | refine n_icmp_ne (tgt := 34) C dX7_tellsLevel_27 (by decide) (by first | decide | omega) (by first | decide | omega) (fun h_27 => ?_) (fun h_27 => ?_) | refine a_icmp_ne (tgt := 34) C dX7_tellsLevel_27 (by decide) (fun h_27 => ?_) (fun h_27 => ?_)
          · refine a_iconst (v := nI 0) C dX7_tellsLevel_34 (by decide) ?_
            refine a_eq rfl (gl1 ?_) rfl zJ35
            · first | with_reducible rfl | (refine iF ?_; simp [h_18, h_27, (beq_eq_false_iff_ne.mpr h_27), (bne_iff_ne.mpr h_27)]; done) | (refine iT ?_; simp [h_18, h_27, (beq_eq_false_iff_ne.mpr h_27), (bne_iff_ne.mpr h_27)]; done) | (refine iB ?_; simp [h_18, h_27, (beq_eq_false_iff_ne.mpr h_27), (bne_iff_ne.mpr h_27)]; done) | (simp [h_18, h_27, (beq_eq_false_iff_ne.mpr h_27), (bne_iff_ne.mpr h_27)]; done) | (simp [h_18, h_27, (beq_eq_false_iff_ne.mpr h_27), (bne_iff_ne.mpr h_27)]; omega) | omega
          · refine a_iconst (v := nI 1) C dX7_tellsLevel_30 (by decide) ?_
            refine a_goto (tgt := 35) C dX7_tellsLevel_31 (by decide) ?_
            refine a_eq rfl (gl1 ?_) rfl zJ35
            · first | with_reducible rfl | (refine iF ?_; simp [h_18, (eq_true h_27), (beq_iff_eq.mpr h_27), (bne_eq_false_iff_eq.mpr h_27)]; done) | (refine iT ?_; simp [h_18, (eq_true h_27), (beq_iff_eq.mpr h_27), (bne_eq_false_iff_eq.mpr h_27)]; done) | (refine iB ?_; simp [h_18, (eq_true h_27), (beq_iff_eq.mpr h_27), (bne_eq_false_iff_eq.mpr h_27)]; done) | (simp [h_18, (eq_true h_27), (beq_iff_eq.mpr h_27), (bne_eq_false_iff_eq.mpr h_27)]; done) | (simp [h_18, (eq_true h_27), (beq_iff_eq.mpr h_27), (bne_eq_false_iff_eq.mpr h_27)]; omega) | omega
  refine a_pad 7 ?_
  refine a_eq (L' := [some (.ref 204), some (.int (nI v)), some (.int (nI j)), none, none, none, none, none, none, none]) rfl rfl rfl ?_
  refine a_iconst (v := nI 0) C dX7_tellsLevel_0 (by decide) ?_
  refine a_istore_n C dX7_tellsLevel_1 rfl (by decide) ?_
  refine a_iconst (v := nI 0) C dX7_tellsLevel_2 (by decide) ?_
  refine a_istore C dX7_tellsLevel_3 (by decide) ?_
  refine a_iconst (v := nI 0) C dX7_tellsLevel_5 (by decide) ?_
  refine a_istore C dX7_tellsLevel_6 (by decide) ?_
  refine a_iconst (v := (-1)) C dX7_tellsLevel_8 (by decide) ?_
  refine a_istore C dX7_tellsLevel_9 (by decide) ?_
  refine a_iconst (v := nI 0) C dX7_tellsLevel_11 (by decide) ?_
  refine a_istore C dX7_tellsLevel_12 (by decide) ?_
  refine a_join (aLe_s ?_ (aLe_s ?_ (aLe_s ?_ (aLe_s ?_ (aLe_s ?_ (aLe_s ?_ (aLe_s ?_ (aLe_s ?_ (aLe_n (aLe_n aLe_nil)))))))))) rfl rfl (ZL14 (81 + 1) 0 (by omega) (by omega))
  · first | with_reducible rfl | exact gl (by first | with_reducible rfl | (refine iF ?_; simp [cntN]; done) | (refine iT ?_; simp [cntN]; done) | (refine iB ?_; simp [cntN]; done) | (simp [cntN]; done) | (simp [cntN]; omega) | omega | rfl)
  · first | with_reducible rfl | exact gl (by first | with_reducible rfl | (refine iF ?_; simp [cntN]; done) | (refine iT ?_; simp [cntN]; done) | (refine iB ?_; simp [cntN]; done) | (simp [cntN]; done) | (simp [cntN]; omega) | omega | rfl)
  · first | with_reducible rfl | exact gl (by first | with_reducible rfl | (refine iF ?_; simp [cntN]; done) | (refine iT ?_; simp [cntN]; done) | (refine iB ?_; simp [cntN]; done) | (simp [cntN]; done) | (simp [cntN]; omega) | omega | rfl)
  · first | with_reducible rfl | exact gl (by first | with_reducible rfl | (refine iF ?_; simp [cntN]; done) | (refine iT ?_; simp [cntN]; done) | (refine iB ?_; simp [cntN]; done) | (simp [cntN]; done) | (simp [cntN]; omega) | omega | rfl)
  · first | with_reducible rfl | exact gl (by first | with_reducible rfl | (refine iF ?_; simp [cntN]; done) | (refine iT ?_; simp [cntN]; done) | (refine iB ?_; simp [cntN]; done) | (simp [cntN]; done) | (simp [cntN]; omega) | omega | rfl)
  · first | with_reducible rfl | exact gl (by first | with_reducible rfl | (refine iF ?_; simp [cntN]; done) | (refine iT ?_; simp [cntN]; done) | (refine iB ?_; simp [cntN]; done) | (simp [cntN]; done) | (simp [cntN]; omega) | omega | rfl)
  · first | with_reducible rfl | exact gl (by first | with_reducible rfl | (refine iF ?_; simp [cntN]; done) | (refine iT ?_; simp [cntN]; done) | (refine iB ?_; simp [cntN]; done) | (simp [cntN]; done) | (simp [cntN]; omega) | omega | rfl)
  · first | with_reducible rfl | exact gl (by first | with_reducible rfl | (refine iF ?_; simp [cntN]; done) | (refine iT ?_; simp [cntN]; done) | (refine iB ?_; simp [cntN]; done) | (simp [cntN]; done) | (simp [cntN]; omega) | omega | rfl)

set_option maxRecDepth 20000 in
set_option maxHeartbeats 4000000 in
theorem K_X7_crossedPairs {w : Wd} {A : St} (hR : RR w A) (hA : AOK A)  : CP yX7_crossedPairs cX7_crossedPairs 4 (some .int) 4 85 [.ref 204] w (.int (nI (xprA A))) := by
  have zq_n := hA.n12
  refine CF.of ok_X7_crossedPairs (Nat.le_of_ble_eq_true rfl) (fun ex us G9 p9 l9 e9 s9 m9 ar9 be9 me9 co9 C hr => ?_)
  have ZL4 : ∀ (zd4 : Nat) (k : Nat), kN A + 1 ≤ k + zd4 → k ≤ kN A → WA G9 p9 l9 e9 (RM 4 85) s9 m9 ar9 be9 me9 co9 (QP G9 be9 ar9 s9 w ex us (.int (nI (xprA A)))) 4 (219 + ex) us 4 [some (.ref 204), some (.int (nI (sumN (xpC A) k))), some (.int (nI k)), none] [] (fzM w ex us) := by
    intro zd4
    induction zd4 with
    | zero => intro k zm4 zh4_0; exfalso; omega
    | succ zd4 zih4 =>
      intro k zm4 zh4_0
      have ZL16 : ∀ (zd16 : Nat) (e : Nat), k + 1 ≤ e + zd16 → e ≤ k → k < kN A → WA G9 p9 l9 e9 (RM 4 85) s9 m9 ar9 be9 me9 co9 (QP G9 be9 ar9 s9 w ex us (.int (nI (xprA A)))) 4 (219 + ex) us 16 [some (.ref 204), some (.int (nI (sumN (xpC A) k + cntN (xpP A k) e))), some (.int (nI k)), some (.int (nI e))] [] (fzM w ex us) := by
        intro zd16
        induction zd16 with
        | zero => intro e zm16 zh16_0 zh16_1; exfalso; omega
        | succ zd16 zih16 =>
          intro e zm16 zh16_0 zh16_1
          refine a_iload_n C dX7_crossedPairs_16 rfl rfl ?_
          refine a_iload_n C dX7_crossedPairs_17 rfl rfl ?_
          first | refine n_icmp_ge (tgt := 53) C dX7_crossedPairs_18 (by decide) (by first | decide | omega) (by first | decide | omega) (fun h_18 => ?_) (fun h_18 => ?_) | refine a_icmp_ge (tgt := 53) C dX7_crossedPairs_18 (by decide) (fun h_18 => ?_) (fun h_18 => ?_)
          · obtain rfl : k = e := by omega
            refine n_iinc C dX7_crossedPairs_53 rfl (by decide) ?_
            refine a_goto (tgt := 4) C dX7_crossedPairs_56 (by decide) ?_
            refine a_join (aLe_s ?_ (aLe_s ?_ (aLe_s ?_ (aLe_n aLe_nil)))) rfl rfl (zih4 (k + 1) (by omega) (by omega))
            · first | with_reducible rfl | exact gl (by first | with_reducible rfl | (refine iF ?_; simp [sumN, cntN, xpC, Nat.add_assoc, h_18]; done) | (refine iT ?_; simp [sumN, cntN, xpC, Nat.add_assoc, h_18]; done) | (refine iB ?_; simp [sumN, cntN, xpC, Nat.add_assoc, h_18]; done) | (simp [sumN, cntN, xpC, Nat.add_assoc, h_18]; done) | (simp [sumN, cntN, xpC, Nat.add_assoc, h_18]; omega) | omega)
            · first | with_reducible rfl | exact gl (by first | with_reducible rfl | (refine iF ?_; simp [sumN, cntN, xpC, Nat.add_assoc, h_18]; done) | (refine iT ?_; simp [sumN, cntN, xpC, Nat.add_assoc, h_18]; done) | (refine iB ?_; simp [sumN, cntN, xpC, Nat.add_assoc, h_18]; done) | (simp [sumN, cntN, xpC, Nat.add_assoc, h_18]; done) | (simp [sumN, cntN, xpC, Nat.add_assoc, h_18]; omega) | omega)
            · first | with_reducible rfl | exact gl (by first | with_reducible rfl | (refine iF ?_; simp [sumN, cntN, xpC, Nat.add_assoc, h_18]; done) | (refine iT ?_; simp [sumN, cntN, xpC, Nat.add_assoc, h_18]; done) | (refine iB ?_; simp [sumN, cntN, xpC, Nat.add_assoc, h_18]; done) | (simp [sumN, cntN, xpC, Nat.add_assoc, h_18]; done) | (simp [sumN, cntN, xpC, Nat.add_assoc, h_18]; omega) | omega)
          · refine a_iload_n C dX7_crossedPairs_21 rfl rfl ?_
            refine a_via 45 (nI (if xpP A k e then 1 else 0)) ?_ (fun zJ45 => ?_)
            · first | refine n_iadd C dX7_crossedPairs_45 ?_ | refine a_iadd C dX7_crossedPairs_45 ?_
              refine a_istore_n C dX7_crossedPairs_46 rfl (by decide) ?_
              refine n_iinc C dX7_crossedPairs_47 rfl (by decide) ?_
              refine a_goto (tgt := 16) C dX7_crossedPairs_50 (by decide) ?_
              refine a_join (aLe_s ?_ (aLe_s ?_ (aLe_s ?_ (aLe_s ?_ aLe_nil)))) rfl rfl (zih16 (e + 1) (by omega) (by omega) zh16_1)
              · first | with_reducible rfl | exact gl (by first | with_reducible rfl | (refine iF ?_; simp [sumN, cntN, xpC, Nat.add_assoc, h_18]; done) | (refine iT ?_; simp [sumN, cntN, xpC, Nat.add_assoc, h_18]; done) | (refine iB ?_; simp [sumN, cntN, xpC, Nat.add_assoc, h_18]; done) | (simp [sumN, cntN, xpC, Nat.add_assoc, h_18]; done) | (simp [sumN, cntN, xpC, Nat.add_assoc, h_18]; omega) | omega)
              · first | with_reducible rfl | exact gl (by first | with_reducible rfl | (refine iF ?_; simp [sumN, cntN, xpC, Nat.add_assoc, h_18]; done) | (refine iT ?_; simp [sumN, cntN, xpC, Nat.add_assoc, h_18]; done) | (refine iB ?_; simp [sumN, cntN, xpC, Nat.add_assoc, h_18]; done) | (simp [sumN, cntN, xpC, Nat.add_assoc, h_18]; done) | (simp [sumN, cntN, xpC, Nat.add_assoc, h_18]; omega) | omega)
              · first | with_reducible rfl | exact gl (by first | with_reducible rfl | (refine iF ?_; simp [sumN, cntN, xpC, Nat.add_assoc, h_18]; done) | (refine iT ?_; simp [sumN, cntN, xpC, Nat.add_assoc, h_18]; done) | (refine iB ?_; simp [sumN, cntN, xpC, Nat.add_assoc, h_18]; done) | (simp [sumN, cntN, xpC, Nat.add_assoc, h_18]; done) | (simp [sumN, cntN, xpC, Nat.add_assoc, h_18]; omega) | omega)
              · first | with_reducible rfl | exact gl (by first | with_reducible rfl | (refine iF ?_; simp [sumN, cntN, xpC, Nat.add_assoc, h_18]; done) | (refine iT ?_; simp [sumN, cntN, xpC, Nat.add_assoc, h_18]; done) | (refine iB ?_; simp [sumN, cntN, xpC, Nat.add_assoc, h_18]; done) | (simp [sumN, cntN, xpC, Nat.add_assoc, h_18]; done) | (simp [sumN, cntN, xpC, Nat.add_assoc, h_18]; omega) | omega)
            · have zq_d := hA.c81 (k := e) (by omega)
              have zq_c2 := hA.c81 (k := k) (by omega)
              refine a_aload_n C dX7_crossedPairs_22 rfl rfl ?_
              refine a_iload_n C dX7_crossedPairs_23 rfl rfl ?_
              refine a_iconst (v := nI 0) C dX7_crossedPairs_24 (by decide) ?_
              refine p_callV C (KC_ofKey0 hR hA (by first | assumption | decide | omega)) vX7_85 rfl (by first | decide | omega) rfl rfl dX7_crossedPairs_25 (Nat.le_of_ble_eq_true rfl) ⟨by decide, by decide⟩ ?_
              refine a_aload_n C dX7_crossedPairs_28 rfl rfl ?_
              refine a_iload_n C dX7_crossedPairs_29 rfl rfl ?_
              refine a_iconst (v := nI 0) C dX7_crossedPairs_30 (by decide) ?_
              refine p_callV C (KC_ofKey0 hR hA (by first | assumption | decide | omega)) vX7_85 rfl (by first | decide | omega) rfl rfl dX7_crossedPairs_31 (Nat.le_of_ble_eq_true rfl) ⟨by decide, by decide⟩ ?_
              refine p_callS C ((KC_isCrossed (by first | assumption | decide | omega) (by first | assumption | decide | omega))).cp sX7_227 rfl dX7_crossedPairs_34 (Nat.le_of_ble_eq_true rfl) ⟨by decide, by decide⟩ ?_
              first | refine b_if_eq (tgt := 44) C dX7_crossedPairs_37 (by decide) (fun h_37 => ?_) (fun h_37 => ?_) | refine n_if_eq (tgt := 44) C dX7_crossedPairs_37 (by decide) (by first | decide | omega) (fun h_37 => ?_) (fun h_37 => ?_) | refine a_if_eq (tgt := 44) C dX7_crossedPairs_37 (by decide) (fun h_37 => ?_) (fun h_37 => ?_)
              · refine a_iconst (v := nI 0) C dX7_crossedPairs_44 (by decide) ?_
                refine a_eq rfl (gl1 ?_) rfl zJ45
                · first | with_reducible rfl | (refine iF ?_; simp [xpP, h_18, h_37]; done) | (refine iT ?_; simp [xpP, h_18, h_37]; done) | (refine iB ?_; simp [xpP, h_18, h_37]; done) | (simp [xpP, h_18, h_37]; done) | (simp [xpP, h_18, h_37]; omega) | omega
              · refine a_iconst (v := nI 1) C dX7_crossedPairs_40 (by decide) ?_
                refine a_goto (tgt := 45) C dX7_crossedPairs_41 (by decide) ?_
                refine a_eq rfl (gl1 ?_) rfl zJ45
                · first | with_reducible rfl | (refine iF ?_; simp [xpP, h_18, h_37]; done) | (refine iT ?_; simp [xpP, h_18, h_37]; done) | (refine iB ?_; simp [xpP, h_18, h_37]; done) | (simp [xpP, h_18, h_37]; done) | (simp [xpP, h_18, h_37]; omega) | omega
      refine a_iload_n C dX7_crossedPairs_4 rfl rfl ?_
      refine a_aload_n C dX7_crossedPairs_5 rfl rfl ?_
      refine a_getfF C fX7_7 dX7_crossedPairs_6 (show _ < 219 from (by first | decide | omega)) (by first | decide | omega) rfl rfl ?_
      refine a_iconst (v := nI 0) C dX7_crossedPairs_9 (by decide) ?_
      refine n_iald C dX7_crossedPairs_10 (show _ < 219 from (by first | decide | omega)) (by first | decide | omega) rfl rfl (by first | decide | omega) (by decide) (RR_n hR hA) ?_
      first | refine n_icmp_ge (tgt := 59) C dX7_crossedPairs_11 (by decide) (by first | decide | omega) (by first | decide | omega) (fun h_11 => ?_) (fun h_11 => ?_) | refine a_icmp_ge (tgt := 59) C dX7_crossedPairs_11 (by decide) (fun h_11 => ?_) (fun h_11 => ?_)
      · obtain rfl : k = kN A := by omega
        refine a_iload_n C dX7_crossedPairs_59 rfl rfl ?_
        refine f_iret C hr ?_ dX7_crossedPairs_60 ⟨?_, rfl⟩
        · rfl
        · rfl
      · have zq_c := hA.c81 (k := k) (by omega)
        refine a_iconst (v := nI 0) C dX7_crossedPairs_14 (by decide) ?_
        refine a_istore_n C dX7_crossedPairs_15 rfl (by decide) ?_
        refine a_join (aLe_s ?_ (aLe_s ?_ (aLe_s ?_ (aLe_s ?_ aLe_nil)))) rfl rfl (ZL16 (k + 1) 0 (by omega) (by omega) (by omega))
        · first | with_reducible rfl | exact gl (by first | with_reducible rfl | (refine iF ?_; simp [sumN, cntN, xpC, Nat.add_assoc, h_11]; done) | (refine iT ?_; simp [sumN, cntN, xpC, Nat.add_assoc, h_11]; done) | (refine iB ?_; simp [sumN, cntN, xpC, Nat.add_assoc, h_11]; done) | (simp [sumN, cntN, xpC, Nat.add_assoc, h_11]; done) | (simp [sumN, cntN, xpC, Nat.add_assoc, h_11]; omega) | omega | rfl)
        · first | with_reducible rfl | exact gl (by first | with_reducible rfl | (refine iF ?_; simp [sumN, cntN, xpC, Nat.add_assoc, h_11]; done) | (refine iT ?_; simp [sumN, cntN, xpC, Nat.add_assoc, h_11]; done) | (refine iB ?_; simp [sumN, cntN, xpC, Nat.add_assoc, h_11]; done) | (simp [sumN, cntN, xpC, Nat.add_assoc, h_11]; done) | (simp [sumN, cntN, xpC, Nat.add_assoc, h_11]; omega) | omega | rfl)
        · first | with_reducible rfl | exact gl (by first | with_reducible rfl | (refine iF ?_; simp [sumN, cntN, xpC, Nat.add_assoc, h_11]; done) | (refine iT ?_; simp [sumN, cntN, xpC, Nat.add_assoc, h_11]; done) | (refine iB ?_; simp [sumN, cntN, xpC, Nat.add_assoc, h_11]; done) | (simp [sumN, cntN, xpC, Nat.add_assoc, h_11]; done) | (simp [sumN, cntN, xpC, Nat.add_assoc, h_11]; omega) | omega | rfl)
        · first | with_reducible rfl | exact gl (by first | with_reducible rfl | (refine iF ?_; simp [sumN, cntN, xpC, Nat.add_assoc, h_11]; done) | (refine iT ?_; simp [sumN, cntN, xpC, Nat.add_assoc, h_11]; done) | (refine iB ?_; simp [sumN, cntN, xpC, Nat.add_assoc, h_11]; done) | (simp [sumN, cntN, xpC, Nat.add_assoc, h_11]; done) | (simp [sumN, cntN, xpC, Nat.add_assoc, h_11]; omega) | omega | rfl)
  refine a_pad 3 ?_
  refine a_eq (L' := [some (.ref 204), none, none, none]) rfl rfl rfl ?_
  refine a_iconst (v := nI 0) C dX7_crossedPairs_0 (by decide) ?_
  refine a_istore_n C dX7_crossedPairs_1 rfl (by decide) ?_
  refine a_iconst (v := nI 0) C dX7_crossedPairs_2 (by decide) ?_
  refine a_istore_n C dX7_crossedPairs_3 rfl (by decide) ?_
  refine a_join (aLe_s ?_ (aLe_s ?_ (aLe_s ?_ (aLe_n aLe_nil)))) rfl rfl (ZL4 (kN A + 1) 0 (by omega) (by omega))
  · first | with_reducible rfl | exact gl (by first | with_reducible rfl | (refine iF ?_; simp [sumN, cntN, xpC, Nat.add_assoc]; done) | (refine iT ?_; simp [sumN, cntN, xpC, Nat.add_assoc]; done) | (refine iB ?_; simp [sumN, cntN, xpC, Nat.add_assoc]; done) | (simp [sumN, cntN, xpC, Nat.add_assoc]; done) | (simp [sumN, cntN, xpC, Nat.add_assoc]; omega) | omega | rfl)
  · first | with_reducible rfl | exact gl (by first | with_reducible rfl | (refine iF ?_; simp [sumN, cntN, xpC, Nat.add_assoc]; done) | (refine iT ?_; simp [sumN, cntN, xpC, Nat.add_assoc]; done) | (refine iB ?_; simp [sumN, cntN, xpC, Nat.add_assoc]; done) | (simp [sumN, cntN, xpC, Nat.add_assoc]; done) | (simp [sumN, cntN, xpC, Nat.add_assoc]; omega) | omega | rfl)
  · first | with_reducible rfl | exact gl (by first | with_reducible rfl | (refine iF ?_; simp [sumN, cntN, xpC, Nat.add_assoc]; done) | (refine iT ?_; simp [sumN, cntN, xpC, Nat.add_assoc]; done) | (refine iB ?_; simp [sumN, cntN, xpC, Nat.add_assoc]; done) | (simp [sumN, cntN, xpC, Nat.add_assoc]; done) | (simp [sumN, cntN, xpC, Nat.add_assoc]; omega) | omega | rfl)

set_option maxRecDepth 20000 in
set_option maxHeartbeats 4000000 in
theorem K_X7_lostKeys {w : Wd} {A : St} (hR : RR w A) (hA : AOK A)  : CP yX7_lostKeys cX7_lostKeys 3 (some .int) 1 22 [.ref 204] w (.int (nI (lstA A))) := by
  have zq_n := hA.n12
  refine CF.of ok_X7_lostKeys (Nat.le_of_ble_eq_true rfl) (fun ex us G9 p9 l9 e9 s9 m9 ar9 be9 me9 co9 C hr => ?_)
  have ZL4 : ∀ (zd4 : Nat) (k : Nat), kN A + 1 ≤ k + zd4 → k ≤ kN A → WA G9 p9 l9 e9 (RM 1 22) s9 m9 ar9 be9 me9 co9 (QP G9 be9 ar9 s9 w ex us (.int (nI (lstA A)))) 3 (219 + ex) us 4 [some (.ref 204), some (.int (nI (cntN (lsA A) k))), some (.int (nI k))] [] (fzM w ex us) := by
    intro zd4
    induction zd4 with
    | zero => intro k zm4 zh4_0; exfalso; omega
    | succ zd4 zih4 =>
      intro k zm4 zh4_0
      refine a_iload_n C dX7_lostKeys_4 rfl rfl ?_
      refine a_aload_n C dX7_lostKeys_5 rfl rfl ?_
      refine a_getfF C fX7_7 dX7_lostKeys_6 (show _ < 219 from (by first | decide | omega)) (by first | decide | omega) rfl rfl ?_
      refine a_iconst (v := nI 0) C dX7_lostKeys_9 (by decide) ?_
      refine n_iald C dX7_lostKeys_10 (show _ < 219 from (by first | decide | omega)) (by first | decide | omega) rfl rfl (by first | decide | omega) (by decide) (RR_n hR hA) ?_
      first | refine n_icmp_ge (tgt := 29) C dX7_lostKeys_11 (by decide) (by first | decide | omega) (by first | decide | omega) (fun h_11 => ?_) (fun h_11 => ?_) | refine a_icmp_ge (tgt := 29) C dX7_lostKeys_11 (by decide) (fun h_11 => ?_) (fun h_11 => ?_)
      · obtain rfl : k = kN A := by omega
        refine a_iload_n C dX7_lostKeys_29 rfl rfl ?_
        refine f_iret C hr ?_ dX7_lostKeys_30 ⟨?_, rfl⟩
        · rfl
        · rfl
      · refine a_iload_n C dX7_lostKeys_14 rfl rfl ?_
        refine a_aload_n C dX7_lostKeys_15 rfl rfl ?_
        refine a_iload_n C dX7_lostKeys_16 rfl rfl ?_
        refine a_iconst (v := nI 2) C dX7_lostKeys_17 (by decide) ?_
        refine p_callV C (KC_ofKey2 hR hA (by first | assumption | decide | omega)) vX7_85 rfl (by first | decide | omega) rfl rfl dX7_lostKeys_18 (Nat.le_of_ble_eq_true rfl) ⟨by decide, by decide⟩ ?_
        first | refine n_iadd C dX7_lostKeys_21 ?_ | refine a_iadd C dX7_lostKeys_21 ?_
        refine a_istore_n C dX7_lostKeys_22 rfl (by decide) ?_
        refine n_iinc C dX7_lostKeys_23 rfl (by decide) ?_
        refine a_goto (tgt := 4) C dX7_lostKeys_26 (by decide) ?_
        refine a_join (aLe_s ?_ (aLe_s ?_ (aLe_s ?_ aLe_nil))) rfl rfl (zih4 (k + 1) (by omega) (by omega))
        · first | with_reducible rfl | exact gl (by first | with_reducible rfl | (refine iF ?_; simp [cntN, h_11]; done) | (refine iT ?_; simp [cntN, h_11]; done) | (refine iB ?_; simp [cntN, h_11]; done) | (simp [cntN, h_11]; done) | (simp [cntN, h_11]; omega) | omega)
        · exact gl (bI_add _ _)
        · first | with_reducible rfl | exact gl (by first | with_reducible rfl | (refine iF ?_; simp [cntN, h_11]; done) | (refine iT ?_; simp [cntN, h_11]; done) | (refine iB ?_; simp [cntN, h_11]; done) | (simp [cntN, h_11]; done) | (simp [cntN, h_11]; omega) | omega)
  refine a_pad 2 ?_
  refine a_eq (L' := [some (.ref 204), none, none]) rfl rfl rfl ?_
  refine a_iconst (v := nI 0) C dX7_lostKeys_0 (by decide) ?_
  refine a_istore_n C dX7_lostKeys_1 rfl (by decide) ?_
  refine a_iconst (v := nI 0) C dX7_lostKeys_2 (by decide) ?_
  refine a_istore_n C dX7_lostKeys_3 rfl (by decide) ?_
  refine a_join (aLe_s ?_ (aLe_s ?_ (aLe_s ?_ aLe_nil))) rfl rfl (ZL4 (kN A + 1) 0 (by omega) (by omega))
  · first | with_reducible rfl | exact gl (by first | with_reducible rfl | (refine iF ?_; simp [cntN]; done) | (refine iT ?_; simp [cntN]; done) | (refine iB ?_; simp [cntN]; done) | (simp [cntN]; done) | (simp [cntN]; omega) | omega | rfl)
  · first | with_reducible rfl | exact gl (by first | with_reducible rfl | (refine iF ?_; simp [cntN]; done) | (refine iT ?_; simp [cntN]; done) | (refine iB ?_; simp [cntN]; done) | (simp [cntN]; done) | (simp [cntN]; omega) | omega | rfl)
  · first | with_reducible rfl | exact gl (by first | with_reducible rfl | (refine iF ?_; simp [cntN]; done) | (refine iT ?_; simp [cntN]; done) | (refine iB ?_; simp [cntN]; done) | (simp [cntN]; done) | (simp [cntN]; omega) | omega | rfl)

set_option maxRecDepth 20000 in
set_option maxHeartbeats 4000000 in
theorem K_X7_locks {w : Wd} {A : St} (hR : RR w A) (hA : AOK A)  : CP yX7_locks cX7_locks 3 (some .int) 2 43 [.ref 204] w (.int (nI (lckA A))) := by
  have zq_n := hA.n12
  refine CF.of ok_X7_locks (Nat.le_of_ble_eq_true rfl) (fun ex us G9 p9 l9 e9 s9 m9 ar9 be9 me9 co9 C hr => ?_)
  have ZL4 : ∀ (zd4 : Nat) (k : Nat), 6 + 1 ≤ k + zd4 → k ≤ 6 → WA G9 p9 l9 e9 (RM 2 43) s9 m9 ar9 be9 me9 co9 (QP G9 be9 ar9 s9 w ex us (.int (nI (lckA A)))) 3 (219 + ex) us 4 [some (.ref 204), some (.int (nI (cntN (wdA A) k))), some (.int (nI k))] [] (fzM w ex us) := by
    intro zd4
    induction zd4 with
    | zero => intro k zm4 zh4_0; exfalso; omega
    | succ zd4 zih4 =>
      intro k zm4 zh4_0
      refine a_iload_n C dX7_locks_4 rfl rfl ?_
      refine a_bipush (v := nI 6) C dX7_locks_5 (by decide) ?_
      first | refine n_icmp_ge (tgt := 32) C dX7_locks_7 (by decide) (by first | decide | omega) (by first | decide | omega) (fun h_7 => ?_) (fun h_7 => ?_) | refine a_icmp_ge (tgt := 32) C dX7_locks_7 (by decide) (fun h_7 => ?_) (fun h_7 => ?_)
      · obtain rfl : k = 6 := by omega
        refine a_iload_n C dX7_locks_32 rfl rfl ?_
        refine f_iret C hr ?_ dX7_locks_33 ⟨?_, rfl⟩
        · rfl
        · rfl
      · refine a_iload_n C dX7_locks_10 rfl rfl ?_
        refine a_via 24 (nI (if wdA A k then 1 else 0)) ?_ (fun zJ24 => ?_)
        · first | refine n_iadd C dX7_locks_24 ?_ | refine a_iadd C dX7_locks_24 ?_
          refine a_istore_n C dX7_locks_25 rfl (by decide) ?_
          refine n_iinc C dX7_locks_26 rfl (by decide) ?_
          refine a_goto (tgt := 4) C dX7_locks_29 (by decide) ?_
          refine a_join (aLe_s ?_ (aLe_s ?_ (aLe_s ?_ aLe_nil))) rfl rfl (zih4 (k + 1) (by omega) (by omega))
          · first | with_reducible rfl | exact gl (by first | with_reducible rfl | (refine iF ?_; simp [cntN, h_7]; done) | (refine iT ?_; simp [cntN, h_7]; done) | (refine iB ?_; simp [cntN, h_7]; done) | (simp [cntN, h_7]; done) | (simp [cntN, h_7]; omega) | omega)
          · first | with_reducible rfl | exact gl (by first | with_reducible rfl | (refine iF ?_; simp [cntN, h_7]; done) | (refine iT ?_; simp [cntN, h_7]; done) | (refine iB ?_; simp [cntN, h_7]; done) | (simp [cntN, h_7]; done) | (simp [cntN, h_7]; omega) | omega)
          · first | with_reducible rfl | exact gl (by first | with_reducible rfl | (refine iF ?_; simp [cntN, h_7]; done) | (refine iT ?_; simp [cntN, h_7]; done) | (refine iB ?_; simp [cntN, h_7]; done) | (simp [cntN, h_7]; done) | (simp [cntN, h_7]; omega) | omega)
        · refine a_aload_n C dX7_locks_11 rfl rfl ?_
          refine a_iload_n C dX7_locks_12 rfl rfl ?_
          refine p_callV C (K_X7_isLock hR hA (by first | assumption | decide | omega)) vX7_95 rfl (by first | decide | omega) rfl rfl dX7_locks_13 (Nat.le_of_ble_eq_true rfl) ⟨by decide, by decide⟩ ?_
          first | refine b_if_eq (tgt := 23) C dX7_locks_16 (by decide) (fun h_16 => ?_) (fun h_16 => ?_) | refine n_if_eq (tgt := 23) C dX7_locks_16 (by decide) (by first | decide | omega) (fun h_16 => ?_) (fun h_16 => ?_) | refine a_if_eq (tgt := 23) C dX7_locks_16 (by decide) (fun h_16 => ?_) (fun h_16 => ?_)
          · refine a_iconst (v := nI 0) C dX7_locks_23 (by decide) ?_
            refine a_eq rfl (gl1 ?_) rfl zJ24
            · first | with_reducible rfl | (refine iF ?_; simp [cntN, h_7, h_16]; done) | (refine iT ?_; simp [cntN, h_7, h_16]; done) | (refine iB ?_; simp [cntN, h_7, h_16]; done) | (simp [cntN, h_7, h_16]; done) | (simp [cntN, h_7, h_16]; omega) | omega
          · refine a_iconst (v := nI 1) C dX7_locks_19 (by decide) ?_
            refine a_goto (tgt := 24) C dX7_locks_20 (by decide) ?_
            refine a_eq rfl (gl1 ?_) rfl zJ24
            · first | with_reducible rfl | (refine iF ?_; simp [cntN, h_7, h_16]; done) | (refine iT ?_; simp [cntN, h_7, h_16]; done) | (refine iB ?_; simp [cntN, h_7, h_16]; done) | (simp [cntN, h_7, h_16]; done) | (simp [cntN, h_7, h_16]; omega) | omega
  refine a_pad 2 ?_
  refine a_eq (L' := [some (.ref 204), none, none]) rfl rfl rfl ?_
  refine a_iconst (v := nI 0) C dX7_locks_0 (by decide) ?_
  refine a_istore_n C dX7_locks_1 rfl (by decide) ?_
  refine a_iconst (v := nI 0) C dX7_locks_2 (by decide) ?_
  refine a_istore_n C dX7_locks_3 rfl (by decide) ?_
  refine a_join (aLe_s ?_ (aLe_s ?_ (aLe_s ?_ aLe_nil))) rfl rfl (ZL4 (6 + 1) 0 (by omega) (by omega))
  · first | with_reducible rfl | exact gl (by first | with_reducible rfl | (refine iF ?_; simp [cntN]; done) | (refine iT ?_; simp [cntN]; done) | (refine iB ?_; simp [cntN]; done) | (simp [cntN]; done) | (simp [cntN]; omega) | omega | rfl)
  · first | with_reducible rfl | exact gl (by first | with_reducible rfl | (refine iF ?_; simp [cntN]; done) | (refine iT ?_; simp [cntN]; done) | (refine iB ?_; simp [cntN]; done) | (simp [cntN]; done) | (simp [cntN]; omega) | omega | rfl)
  · first | with_reducible rfl | exact gl (by first | with_reducible rfl | (refine iF ?_; simp [cntN]; done) | (refine iT ?_; simp [cntN]; done) | (refine iB ?_; simp [cntN]; done) | (simp [cntN]; done) | (simp [cntN]; omega) | omega | rfl)

set_option maxRecDepth 20000 in
set_option maxHeartbeats 4000000 in
theorem K_X7_codes (b : Bool) {w : Wd} {A : St} (hR : RR w A) (hA : AOK A)  : CP yX7_codes cX7_codes 4 (some .int) 5 112 [.ref 204, .int (bI b)] w (.int (nI (cdsA A b))) := by
  have zq_n := hA.n12
  refine CF.of ok_X7_codes (Nat.le_of_ble_eq_true rfl) (fun ex us G9 p9 l9 e9 s9 m9 ar9 be9 me9 co9 C hr => ?_)
  have ZL4 : ∀ (zd4 : Nat) (c : Nat), 81 + 1 ≤ c + zd4 → c ≤ 81 → WA G9 p9 l9 e9 (RM 5 112) s9 m9 ar9 be9 me9 co9 (QP G9 be9 ar9 s9 w ex us (.int (nI (cdsA A b)))) 4 (219 + ex) us 4 [some (.ref 204), some (.int (bI b)), some (.int (nI (cntN (cdP A b) c))), some (.int (nI c))] [] (fzM w ex us) := by
    intro zd4
    induction zd4 with
    | zero => intro c zm4 zh4_0; exfalso; omega
    | succ zd4 zih4 =>
      intro c zm4 zh4_0
      refine a_iload_n C dX7_codes_4 rfl rfl ?_
      refine a_bipush (v := nI 81) C dX7_codes_5 (by decide) ?_
      first | refine n_icmp_ge (tgt := 47) C dX7_codes_7 (by decide) (by first | decide | omega) (by first | decide | omega) (fun h_7 => ?_) (fun h_7 => ?_) | refine a_icmp_ge (tgt := 47) C dX7_codes_7 (by decide) (fun h_7 => ?_) (fun h_7 => ?_)
      · obtain rfl : c = 81 := by omega
        refine a_iload_n C dX7_codes_47 rfl rfl ?_
        refine f_iret C hr ?_ dX7_codes_48 ⟨?_, rfl⟩
        · rfl
        · rfl
      · refine a_iload_n C dX7_codes_10 rfl rfl ?_
        refine a_via 39 (nI (if cdP A b c then 1 else 0)) ?_ (fun zJ39 => ?_)
        · first | refine n_iadd C dX7_codes_39 ?_ | refine a_iadd C dX7_codes_39 ?_
          refine a_istore_n C dX7_codes_40 rfl (by decide) ?_
          refine n_iinc C dX7_codes_41 rfl (by decide) ?_
          refine a_goto (tgt := 4) C dX7_codes_44 (by decide) ?_
          refine a_join (aLe_s ?_ (aLe_s ?_ (aLe_s ?_ (aLe_s ?_ aLe_nil)))) rfl rfl (zih4 (c + 1) (by omega) (by omega))
          · first | with_reducible rfl | exact gl (by first | with_reducible rfl | (refine iF ?_; simp [cntN, cdP, h_7]; done) | (refine iT ?_; simp [cntN, cdP, h_7]; done) | (refine iB ?_; simp [cntN, cdP, h_7]; done) | (simp [cntN, cdP, h_7]; done) | (simp [cntN, cdP, h_7]; omega) | omega)
          · first | with_reducible rfl | exact gl (by first | with_reducible rfl | (refine iF ?_; simp [cntN, cdP, h_7]; done) | (refine iT ?_; simp [cntN, cdP, h_7]; done) | (refine iB ?_; simp [cntN, cdP, h_7]; done) | (simp [cntN, cdP, h_7]; done) | (simp [cntN, cdP, h_7]; omega) | omega)
          · first | with_reducible rfl | exact gl (by first | with_reducible rfl | (refine iF ?_; simp [cntN, cdP, h_7]; done) | (refine iT ?_; simp [cntN, cdP, h_7]; done) | (refine iB ?_; simp [cntN, cdP, h_7]; done) | (simp [cntN, cdP, h_7]; done) | (simp [cntN, cdP, h_7]; omega) | omega)
          · first | with_reducible rfl | exact gl (by first | with_reducible rfl | (refine iF ?_; simp [cntN, cdP, h_7]; done) | (refine iT ?_; simp [cntN, cdP, h_7]; done) | (refine iB ?_; simp [cntN, cdP, h_7]; done) | (simp [cntN, cdP, h_7]; done) | (simp [cntN, cdP, h_7]; omega) | omega)
        · refine a_iload_n C dX7_codes_11 rfl rfl ?_
          first | refine b_if_eq (tgt := 26) C dX7_codes_12 (by decide) (fun h_12 => ?_) (fun h_12 => ?_) | refine n_if_eq (tgt := 26) C dX7_codes_12 (by decide) (by first | decide | omega) (fun h_12 => ?_) (fun h_12 => ?_) | refine a_if_eq (tgt := 26) C dX7_codes_12 (by decide) (fun h_12 => ?_) (fun h_12 => ?_)
          · refine a_aload_n C dX7_codes_26 rfl rfl ?_
            refine a_iload_n C dX7_codes_27 rfl rfl ?_
            refine p_callV C (K_X7_isSound hR hA (by first | assumption | decide | omega)) vX7_88 rfl (by first | decide | omega) rfl rfl dX7_codes_28 (Nat.le_of_ble_eq_true rfl) ⟨by decide, by decide⟩ ?_
            first | refine b_if_eq (tgt := 38) C dX7_codes_31 (by decide) (fun h_31 => ?_) (fun h_31 => ?_) | refine n_if_eq (tgt := 38) C dX7_codes_31 (by decide) (by first | decide | omega) (fun h_31 => ?_) (fun h_31 => ?_) | refine a_if_eq (tgt := 38) C dX7_codes_31 (by decide) (fun h_31 => ?_) (fun h_31 => ?_)
            · refine a_iconst (v := nI 0) C dX7_codes_38 (by decide) ?_
              refine a_eq rfl (gl1 ?_) rfl zJ39
              · first | with_reducible rfl | (refine iF ?_; simp [cntN, cdP, h_7, h_12, h_31]; done) | (refine iT ?_; simp [cntN, cdP, h_7, h_12, h_31]; done) | (refine iB ?_; simp [cntN, cdP, h_7, h_12, h_31]; done) | (simp [cntN, cdP, h_7, h_12, h_31]; done) | (simp [cntN, cdP, h_7, h_12, h_31]; omega) | omega
            · refine a_iconst (v := nI 1) C dX7_codes_34 (by decide) ?_
              refine a_goto (tgt := 39) C dX7_codes_35 (by decide) ?_
              refine a_eq rfl (gl1 ?_) rfl zJ39
              · first | with_reducible rfl | (refine iF ?_; simp [cntN, cdP, h_7, h_12, h_31]; done) | (refine iT ?_; simp [cntN, cdP, h_7, h_12, h_31]; done) | (refine iB ?_; simp [cntN, cdP, h_7, h_12, h_31]; done) | (simp [cntN, cdP, h_7, h_12, h_31]; done) | (simp [cntN, cdP, h_7, h_12, h_31]; omega) | omega
          · refine a_aload_n C dX7_codes_15 rfl rfl ?_
            refine a_iload_n C dX7_codes_16 rfl rfl ?_
            refine p_callV C (K_X7_isFreeCode hR hA (by first | assumption | decide | omega)) vX7_218 rfl (by first | decide | omega) rfl rfl dX7_codes_17 (Nat.le_of_ble_eq_true rfl) ⟨by decide, by decide⟩ ?_
            first | refine b_if_eq (tgt := 38) C dX7_codes_20 (by decide) (fun h_20 => ?_) (fun h_20 => ?_) | refine n_if_eq (tgt := 38) C dX7_codes_20 (by decide) (by first | decide | omega) (fun h_20 => ?_) (fun h_20 => ?_) | refine a_if_eq (tgt := 38) C dX7_codes_20 (by decide) (fun h_20 => ?_) (fun h_20 => ?_)
            · refine a_iconst (v := nI 0) C dX7_codes_38 (by decide) ?_
              refine a_eq rfl (gl1 ?_) rfl zJ39
              · first | with_reducible rfl | (refine iF ?_; simp [cntN, cdP, h_7, h_12, h_20]; done) | (refine iT ?_; simp [cntN, cdP, h_7, h_12, h_20]; done) | (refine iB ?_; simp [cntN, cdP, h_7, h_12, h_20]; done) | (simp [cntN, cdP, h_7, h_12, h_20]; done) | (simp [cntN, cdP, h_7, h_12, h_20]; omega) | omega
            · refine a_goto (tgt := 34) C dX7_codes_23 (by decide) ?_
              refine a_iconst (v := nI 1) C dX7_codes_34 (by decide) ?_
              refine a_goto (tgt := 39) C dX7_codes_35 (by decide) ?_
              refine a_eq rfl (gl1 ?_) rfl zJ39
              · first | with_reducible rfl | (refine iF ?_; simp [cntN, cdP, h_7, h_12, h_20]; done) | (refine iT ?_; simp [cntN, cdP, h_7, h_12, h_20]; done) | (refine iB ?_; simp [cntN, cdP, h_7, h_12, h_20]; done) | (simp [cntN, cdP, h_7, h_12, h_20]; done) | (simp [cntN, cdP, h_7, h_12, h_20]; omega) | omega
  refine a_pad 2 ?_
  refine a_eq (L' := [some (.ref 204), some (.int (bI b)), none, none]) rfl rfl rfl ?_
  refine a_iconst (v := nI 0) C dX7_codes_0 (by decide) ?_
  refine a_istore_n C dX7_codes_1 rfl (by decide) ?_
  refine a_iconst (v := nI 0) C dX7_codes_2 (by decide) ?_
  refine a_istore_n C dX7_codes_3 rfl (by decide) ?_
  refine a_join (aLe_s ?_ (aLe_s ?_ (aLe_s ?_ (aLe_s ?_ aLe_nil)))) rfl rfl (ZL4 (81 + 1) 0 (by omega) (by omega))
  · first | with_reducible rfl | exact gl (by first | with_reducible rfl | (refine iF ?_; simp [cntN, cdP]; done) | (refine iT ?_; simp [cntN, cdP]; done) | (refine iB ?_; simp [cntN, cdP]; done) | (simp [cntN, cdP]; done) | (simp [cntN, cdP]; omega) | omega | rfl)
  · first | with_reducible rfl | exact gl (by first | with_reducible rfl | (refine iF ?_; simp [cntN, cdP]; done) | (refine iT ?_; simp [cntN, cdP]; done) | (refine iB ?_; simp [cntN, cdP]; done) | (simp [cntN, cdP]; done) | (simp [cntN, cdP]; omega) | omega | rfl)
  · first | with_reducible rfl | exact gl (by first | with_reducible rfl | (refine iF ?_; simp [cntN, cdP]; done) | (refine iT ?_; simp [cntN, cdP]; done) | (refine iB ?_; simp [cntN, cdP]; done) | (simp [cntN, cdP]; done) | (simp [cntN, cdP]; omega) | omega | rfl)
  · first | with_reducible rfl | exact gl (by first | with_reducible rfl | (refine iF ?_; simp [cntN, cdP]; done) | (refine iT ?_; simp [cntN, cdP]; done) | (refine iB ?_; simp [cntN, cdP]; done) | (simp [cntN, cdP]; done) | (simp [cntN, cdP]; omega) | omega | rfl)

set_option maxRecDepth 20000 in
set_option maxHeartbeats 4000000 in
theorem K_X7_tellsCount {w : Wd} {A : St} (hR : RR w A) (hA : AOK A) {j : Nat} (hj : j < 12) : CP yX7_tellsCount cX7_tellsCount 2 (some .int) 6 135 [.ref 204, .int (nI j)] w (.int (tnA A (w.1 204 3) j)) := by
  have zq_n := hA.n12
  refine CF.of ok_X7_tellsCount (Nat.le_of_ble_eq_true rfl) (fun ex us G9 p9 l9 e9 s9 m9 ar9 be9 me9 co9 C hr => ?_)
  refine a_iload_n C dX7_tellsCount_0 rfl rfl ?_
  obtain rfl | rfl | rfl | rfl | rfl | rfl | rfl | rfl | rfl | rfl | rfl | rfl : j = 0 ∨ j = 1 ∨ j = 2 ∨ j = 3 ∨ j = 4 ∨ j = 5 ∨ j = 6 ∨ j = 7 ∨ j = 8 ∨ j = 9 ∨ j = 10 ∨ j = 11 := by omega
  · refine a_tableIn (x := nI 0) (tgt := 60) C dX7_tellsCount_1 (by decide) (by decide) rfl (by decide) ?_
    refine a_aload_n C dX7_tellsCount_60 rfl rfl ?_
    refine a_getfF C fX7_7 dX7_tellsCount_61 (show _ < 219 from (by first | decide | omega)) (by first | decide | omega) rfl rfl ?_
    refine a_iconst (v := nI 0) C dX7_tellsCount_64 (by decide) ?_
    refine n_iald C dX7_tellsCount_65 (show _ < 219 from (by first | decide | omega)) (by first | decide | omega) rfl rfl (by first | decide | omega) (by decide) (RR_n hR hA) ?_
    refine f_iret C hr ?_ dX7_tellsCount_66 ⟨?_, rfl⟩
    · rfl
    · first | with_reducible rfl | exact gl (by first | with_reducible rfl | (refine iF ?_; simp [tnA]; done) | (refine iT ?_; simp [tnA]; done) | (refine iB ?_; simp [tnA]; done) | (simp [tnA]; done) | (simp [tnA]; omega) | omega)
  · refine a_tableIn (x := nI 1) (tgt := 67) C dX7_tellsCount_1 (by decide) (by decide) rfl (by decide) ?_
    refine a_aload_n C dX7_tellsCount_67 rfl rfl ?_
    refine p_callV C (K_X7_lostKeys hR hA) vX7_230 rfl (by first | decide | omega) rfl rfl dX7_tellsCount_68 (Nat.le_of_ble_eq_true rfl) ⟨by decide, by decide⟩ ?_
    refine f_iret C hr ?_ dX7_tellsCount_71 ⟨?_, rfl⟩
    · rfl
    · first | with_reducible rfl | exact gl (by first | with_reducible rfl | (refine iF ?_; simp [tnA]; done) | (refine iT ?_; simp [tnA]; done) | (refine iB ?_; simp [tnA]; done) | (simp [tnA]; done) | (simp [tnA]; omega) | omega)
  · refine a_tableIn (x := nI 2) (tgt := 72) C dX7_tellsCount_1 (by decide) (by decide) rfl (by decide) ?_
    refine a_aload_n C dX7_tellsCount_72 rfl rfl ?_
    refine p_callV C (K_X7_locks hR hA) vX7_233 rfl (by first | decide | omega) rfl rfl dX7_tellsCount_73 (Nat.le_of_ble_eq_true rfl) ⟨by decide, by decide⟩ ?_
    refine f_iret C hr ?_ dX7_tellsCount_76 ⟨?_, rfl⟩
    · rfl
    · first | with_reducible rfl | exact gl (by first | with_reducible rfl | (refine iF ?_; simp [tnA]; done) | (refine iT ?_; simp [tnA]; done) | (refine iB ?_; simp [tnA]; done) | (simp [tnA]; done) | (simp [tnA]; omega) | omega)
  · refine a_tableIn (x := nI 3) (tgt := 77) C dX7_tellsCount_1 (by decide) (by decide) rfl (by decide) ?_
    refine a_aload_n C dX7_tellsCount_77 rfl rfl ?_
    refine p_callV C (K_X7_crossedPairs hR hA) vX7_236 rfl (by first | decide | omega) rfl rfl dX7_tellsCount_78 (Nat.le_of_ble_eq_true rfl) ⟨by decide, by decide⟩ ?_
    refine f_iret C hr ?_ dX7_tellsCount_81 ⟨?_, rfl⟩
    · rfl
    · first | with_reducible rfl | exact gl (by first | with_reducible rfl | (refine iF ?_; simp [tnA]; done) | (refine iT ?_; simp [tnA]; done) | (refine iB ?_; simp [tnA]; done) | (simp [tnA]; done) | (simp [tnA]; omega) | omega)
  · refine a_tableIn (x := nI 4) (tgt := 82) C dX7_tellsCount_1 (by decide) (by decide) rfl (by decide) ?_
    refine a_aload_n C dX7_tellsCount_82 rfl rfl ?_
    refine a_getfF C fX7_7 dX7_tellsCount_83 (show _ < 219 from (by first | decide | omega)) (by first | decide | omega) rfl rfl ?_
    refine a_iload_n C dX7_tellsCount_86 rfl rfl ?_
    refine a_iconst (v := nI 3) C dX7_tellsCount_87 (by decide) ?_
    refine n_isub C dX7_tellsCount_88 (by first | decide | omega) ?_
    refine n_iald C dX7_tellsCount_89 (show _ < 219 from (by first | decide | omega)) (by first | decide | omega) rfl rfl (by first | decide | omega) (by decide) hR.at ?_
    refine f_iret C hr ?_ dX7_tellsCount_90 ⟨?_, rfl⟩
    · rfl
    · first | with_reducible rfl | exact gl (by first | with_reducible rfl | (refine iF ?_; simp [tnA]; done) | (refine iT ?_; simp [tnA]; done) | (refine iB ?_; simp [tnA]; done) | (simp [tnA]; done) | (simp [tnA]; omega) | omega)
  · refine a_tableIn (x := nI 5) (tgt := 82) C dX7_tellsCount_1 (by decide) (by decide) rfl (by decide) ?_
    refine a_aload_n C dX7_tellsCount_82 rfl rfl ?_
    refine a_getfF C fX7_7 dX7_tellsCount_83 (show _ < 219 from (by first | decide | omega)) (by first | decide | omega) rfl rfl ?_
    refine a_iload_n C dX7_tellsCount_86 rfl rfl ?_
    refine a_iconst (v := nI 3) C dX7_tellsCount_87 (by decide) ?_
    refine n_isub C dX7_tellsCount_88 (by first | decide | omega) ?_
    refine n_iald C dX7_tellsCount_89 (show _ < 219 from (by first | decide | omega)) (by first | decide | omega) rfl rfl (by first | decide | omega) (by decide) hR.at ?_
    refine f_iret C hr ?_ dX7_tellsCount_90 ⟨?_, rfl⟩
    · rfl
    · first | with_reducible rfl | exact gl (by first | with_reducible rfl | (refine iF ?_; simp [tnA]; done) | (refine iT ?_; simp [tnA]; done) | (refine iB ?_; simp [tnA]; done) | (simp [tnA]; done) | (simp [tnA]; omega) | omega)
  · refine a_tableIn (x := nI 6) (tgt := 82) C dX7_tellsCount_1 (by decide) (by decide) rfl (by decide) ?_
    refine a_aload_n C dX7_tellsCount_82 rfl rfl ?_
    refine a_getfF C fX7_7 dX7_tellsCount_83 (show _ < 219 from (by first | decide | omega)) (by first | decide | omega) rfl rfl ?_
    refine a_iload_n C dX7_tellsCount_86 rfl rfl ?_
    refine a_iconst (v := nI 3) C dX7_tellsCount_87 (by decide) ?_
    refine n_isub C dX7_tellsCount_88 (by first | decide | omega) ?_
    refine n_iald C dX7_tellsCount_89 (show _ < 219 from (by first | decide | omega)) (by first | decide | omega) rfl rfl (by first | decide | omega) (by decide) hR.at ?_
    refine f_iret C hr ?_ dX7_tellsCount_90 ⟨?_, rfl⟩
    · rfl
    · first | with_reducible rfl | exact gl (by first | with_reducible rfl | (refine iF ?_; simp [tnA]; done) | (refine iT ?_; simp [tnA]; done) | (refine iB ?_; simp [tnA]; done) | (simp [tnA]; done) | (simp [tnA]; omega) | omega)
  · refine a_tableIn (x := nI 7) (tgt := 82) C dX7_tellsCount_1 (by decide) (by decide) rfl (by decide) ?_
    refine a_aload_n C dX7_tellsCount_82 rfl rfl ?_
    refine a_getfF C fX7_7 dX7_tellsCount_83 (show _ < 219 from (by first | decide | omega)) (by first | decide | omega) rfl rfl ?_
    refine a_iload_n C dX7_tellsCount_86 rfl rfl ?_
    refine a_iconst (v := nI 3) C dX7_tellsCount_87 (by decide) ?_
    refine n_isub C dX7_tellsCount_88 (by first | decide | omega) ?_
    refine n_iald C dX7_tellsCount_89 (show _ < 219 from (by first | decide | omega)) (by first | decide | omega) rfl rfl (by first | decide | omega) (by decide) hR.at ?_
    refine f_iret C hr ?_ dX7_tellsCount_90 ⟨?_, rfl⟩
    · rfl
    · first | with_reducible rfl | exact gl (by first | with_reducible rfl | (refine iF ?_; simp [tnA]; done) | (refine iT ?_; simp [tnA]; done) | (refine iB ?_; simp [tnA]; done) | (simp [tnA]; done) | (simp [tnA]; omega) | omega)
  · refine a_tableIn (x := nI 8) (tgt := 82) C dX7_tellsCount_1 (by decide) (by decide) rfl (by decide) ?_
    refine a_aload_n C dX7_tellsCount_82 rfl rfl ?_
    refine a_getfF C fX7_7 dX7_tellsCount_83 (show _ < 219 from (by first | decide | omega)) (by first | decide | omega) rfl rfl ?_
    refine a_iload_n C dX7_tellsCount_86 rfl rfl ?_
    refine a_iconst (v := nI 3) C dX7_tellsCount_87 (by decide) ?_
    refine n_isub C dX7_tellsCount_88 (by first | decide | omega) ?_
    refine n_iald C dX7_tellsCount_89 (show _ < 219 from (by first | decide | omega)) (by first | decide | omega) rfl rfl (by first | decide | omega) (by decide) hR.at ?_
    refine f_iret C hr ?_ dX7_tellsCount_90 ⟨?_, rfl⟩
    · rfl
    · first | with_reducible rfl | exact gl (by first | with_reducible rfl | (refine iF ?_; simp [tnA]; done) | (refine iT ?_; simp [tnA]; done) | (refine iB ?_; simp [tnA]; done) | (simp [tnA]; done) | (simp [tnA]; omega) | omega)
  · refine a_tableIn (x := nI 9) (tgt := 91) C dX7_tellsCount_1 (by decide) (by decide) rfl (by decide) ?_
    refine a_aload_n C dX7_tellsCount_91 rfl rfl ?_
    refine a_iconst (v := nI 0) C dX7_tellsCount_92 (by decide) ?_
    refine p_callV C (K_X7_codes false hR hA) vX7_239 rfl (by first | decide | omega) rfl rfl dX7_tellsCount_93 (Nat.le_of_ble_eq_true rfl) ⟨by decide, by decide⟩ ?_
    refine f_iret C hr ?_ dX7_tellsCount_96 ⟨?_, rfl⟩
    · rfl
    · first | with_reducible rfl | exact gl (by first | with_reducible rfl | (refine iF ?_; simp [tnA]; done) | (refine iT ?_; simp [tnA]; done) | (refine iB ?_; simp [tnA]; done) | (simp [tnA]; done) | (simp [tnA]; omega) | omega)
  · refine a_tableIn (x := nI 10) (tgt := 97) C dX7_tellsCount_1 (by decide) (by decide) rfl (by decide) ?_
    refine a_aload_n C dX7_tellsCount_97 rfl rfl ?_
    refine a_iconst (v := nI 1) C dX7_tellsCount_98 (by decide) ?_
    refine p_callV C (K_X7_codes true hR hA) vX7_239 rfl (by first | decide | omega) rfl rfl dX7_tellsCount_99 (Nat.le_of_ble_eq_true rfl) ⟨by decide, by decide⟩ ?_
    refine f_iret C hr ?_ dX7_tellsCount_102 ⟨?_, rfl⟩
    · rfl
    · first | with_reducible rfl | exact gl (by first | with_reducible rfl | (refine iF ?_; simp [tnA]; done) | (refine iT ?_; simp [tnA]; done) | (refine iB ?_; simp [tnA]; done) | (simp [tnA]; done) | (simp [tnA]; omega) | omega)
  · refine a_tableOut (x := nI 11) (tgt := 103) C dX7_tellsCount_1 (by decide) (by decide) ?_
    refine a_aload_n C dX7_tellsCount_103 rfl rfl ?_
    refine a_getf C fX7_65 dX7_tellsCount_104 (show _ < 219 from (by first | decide | omega)) (by first | decide | omega) rfl rfl ?_
    refine f_iret C hr ?_ dX7_tellsCount_107 ⟨?_, rfl⟩
    · rfl
    · first | with_reducible rfl | exact gl (by first | with_reducible rfl | (refine iF ?_; simp [tnA]; done) | (refine iT ?_; simp [tnA]; done) | (refine iB ?_; simp [tnA]; done) | (simp [tnA]; done) | (simp [tnA]; omega) | omega)

theorem alP_a {A : St} {x p : Nat} (h : x / 2 ^ p &&& 1 = 0) : alP A x p = true := by
  unfold alP
  rw [h]
  rfl
theorem alP_b {A : St} {x p : Nat} (h : wdA A p = true) : alP A x p = true := by
  unfold alP
  rw [h, Bool.or_true]
theorem alP_c {A : St} {x p : Nat} (h : x / 2 ^ p &&& 1 ≠ 0) (h2 : wdA A p = false) : alP A x p = false := by
  unfold alP
  rw [h2, Bool.or_false]
  exact beq_eq_false_iff_ne.mpr h
theorem iN_nI {n : Nat} (h : n < 2 ^ 31) : iN (nI n) = n := by
  unfold iN
  rw [nI_toInt h]
  rfl
set_option maxRecDepth 20000 in
set_option maxHeartbeats 4000000 in
theorem K_X7_areLocks_in {w : Wd} {A : St} (hR : RR w A) (hA : AOK A) {x : Nat} (hx : 1 ≤ x ∧ x ≤ 63) : CP yX7_areLocks cX7_areLocks 4 (some .boolean) 2 43 [.ref 204, .int (nI x)] w (.int (bI (allN (alP A x) 6))) := by
  have zq_n := hA.n12
  refine CF.of ok_X7_areLocks (Nat.le_of_ble_eq_true rfl) (fun ex us G9 p9 l9 e9 s9 m9 ar9 be9 me9 co9 C hr => ?_)
  have ZL10 : ∀ (zd10 : Nat) (p : Nat), 6 + 1 ≤ p + zd10 → p ≤ 6 → WA G9 p9 l9 e9 (RM 2 43) s9 m9 ar9 be9 me9 co9 (QP G9 be9 ar9 s9 w ex us (.int (bI (allN (alP A x) 6)))) 4 (219 + ex) us 10 [some (.ref 204), some (.int (nI x)), some (.int (bI (allN (alP A x) p))), some (.int (nI p))] [] (fzM w ex us) := by
    intro zd10
    induction zd10 with
    | zero => intro p zm10 zh10_0; exfalso; omega
    | succ zd10 zih10 =>
      intro p zm10 zh10_0
      refine a_iload_n C dX7_areLocks_10 rfl rfl ?_
      refine a_bipush (v := nI 6) C dX7_areLocks_11 (by decide) ?_
      first | refine n_icmp_ge (tgt := 48) C dX7_areLocks_13 (by decide) (by first | decide | omega) (by first | decide | omega) (fun h_13 => ?_) (fun h_13 => ?_) | refine a_icmp_ge (tgt := 48) C dX7_areLocks_13 (by decide) (fun h_13 => ?_) (fun h_13 => ?_)
      · obtain rfl : p = 6 := by omega
        refine a_iload_n C dX7_areLocks_48 rfl rfl ?_
        refine f_iret C hr ?_ dX7_areLocks_49 ⟨?_, rfl⟩
        · first | exact bI_narrow _ | rfl
        · rfl
      · refine a_via 41 (bI (allN (alP A x) (p + 1))) ?_ (fun zJ41 => ?_)
        · refine a_istore_n C dX7_areLocks_41 rfl (by decide) ?_
          refine n_iinc C dX7_areLocks_42 rfl (by decide) ?_
          refine a_goto (tgt := 10) C dX7_areLocks_45 (by decide) ?_
          refine a_join (aLe_s ?_ (aLe_s ?_ (aLe_s ?_ (aLe_s ?_ aLe_nil)))) rfl rfl (zih10 (p + 1) (by omega) (by omega))
          · first | with_reducible rfl | exact gl (by first | with_reducible rfl | (refine iF ?_; simp [allN, h_13]; done) | (refine iT ?_; simp [allN, h_13]; done) | (refine iB ?_; simp [allN, h_13]; done) | (simp [allN, h_13]; done) | (simp [allN, h_13]; omega) | omega)
          · first | with_reducible rfl | exact gl (by first | with_reducible rfl | (refine iF ?_; simp [allN, h_13]; done) | (refine iT ?_; simp [allN, h_13]; done) | (refine iB ?_; simp [allN, h_13]; done) | (simp [allN, h_13]; done) | (simp [allN, h_13]; omega) | omega)
          · first | with_reducible rfl | exact gl (by first | with_reducible rfl | (refine iF ?_; simp [allN, h_13]; done) | (refine iT ?_; simp [allN, h_13]; done) | (refine iB ?_; simp [allN, h_13]; done) | (simp [allN, h_13]; done) | (simp [allN, h_13]; omega) | omega)
          · first | with_reducible rfl | exact gl (by first | with_reducible rfl | (refine iF ?_; simp [allN, h_13]; done) | (refine iT ?_; simp [allN, h_13]; done) | (refine iB ?_; simp [allN, h_13]; done) | (simp [allN, h_13]; done) | (simp [allN, h_13]; omega) | omega)
        · refine a_iload_n C dX7_areLocks_16 rfl rfl ?_
          first | refine b_if_eq (tgt := 40) C dX7_areLocks_17 (by decide) (fun h_17 => ?_) (fun h_17 => ?_) | refine n_if_eq (tgt := 40) C dX7_areLocks_17 (by decide) (by first | decide | omega) (fun h_17 => ?_) (fun h_17 => ?_) | refine a_if_eq (tgt := 40) C dX7_areLocks_17 (by decide) (fun h_17 => ?_) (fun h_17 => ?_)
          · refine a_iconst (v := nI 0) C dX7_areLocks_40 (by decide) ?_
            refine a_eq rfl (gl1 ?_) rfl zJ41
            · first | with_reducible rfl | (refine iF ?_; simp [allN, h_13, h_17]; done) | (refine iT ?_; simp [allN, h_13, h_17]; done) | (refine iB ?_; simp [allN, h_13, h_17]; done) | (simp [allN, h_13, h_17]; done) | (simp [allN, h_13, h_17]; omega) | omega
          · refine a_iload_n C dX7_areLocks_20 rfl rfl ?_
            refine a_iload_n C dX7_areLocks_21 rfl rfl ?_
            refine n_ishr C dX7_areLocks_22 (by first | decide | omega) (by omega) ?_
            refine a_iconst (v := nI 1) C dX7_areLocks_23 (by decide) ?_
            first | refine n_iand C dX7_areLocks_24 ?_ | refine a_iand C dX7_areLocks_24 ?_
            refine n_if_eq (tgt := 36) C dX7_areLocks_25 (by decide) (Nat.lt_of_le_of_lt Nat.and_le_right (by decide))  (fun h_25 => ?_) (fun h_25 => ?_)
            · refine a_iconst (v := nI 1) C dX7_areLocks_36 (by decide) ?_
              refine a_goto (tgt := 41) C dX7_areLocks_37 (by decide) ?_
              refine a_eq rfl (gl1 ?_) rfl zJ41
              · first | with_reducible rfl | (refine iF ?_; simp [allN, h_13, h_17, (alP_a h_25)]; done) | (refine iT ?_; simp [allN, h_13, h_17, (alP_a h_25)]; done) | (refine iB ?_; simp [allN, h_13, h_17, (alP_a h_25)]; done) | (simp [allN, h_13, h_17, (alP_a h_25)]; done) | (simp [allN, h_13, h_17, (alP_a h_25)]; omega) | omega
            · refine a_aload_n C dX7_areLocks_28 rfl rfl ?_
              refine a_iload_n C dX7_areLocks_29 rfl rfl ?_
              refine p_callV C (K_X7_isLock hR hA (by first | assumption | decide | omega)) vX7_95 rfl (by first | decide | omega) rfl rfl dX7_areLocks_30 (Nat.le_of_ble_eq_true rfl) ⟨by decide, by decide⟩ ?_
              first | refine b_if_eq (tgt := 40) C dX7_areLocks_33 (by decide) (fun h_33 => ?_) (fun h_33 => ?_) | refine n_if_eq (tgt := 40) C dX7_areLocks_33 (by decide) (by first | decide | omega) (fun h_33 => ?_) (fun h_33 => ?_) | refine a_if_eq (tgt := 40) C dX7_areLocks_33 (by decide) (fun h_33 => ?_) (fun h_33 => ?_)
              · refine a_iconst (v := nI 0) C dX7_areLocks_40 (by decide) ?_
                refine a_eq rfl (gl1 ?_) rfl zJ41
                · first | with_reducible rfl | (refine iF ?_; simp [allN, h_13, h_17, (alP_c h_25 h_33)]; done) | (refine iT ?_; simp [allN, h_13, h_17, (alP_c h_25 h_33)]; done) | (refine iB ?_; simp [allN, h_13, h_17, (alP_c h_25 h_33)]; done) | (simp [allN, h_13, h_17, (alP_c h_25 h_33)]; done) | (simp [allN, h_13, h_17, (alP_c h_25 h_33)]; omega) | omega
              · refine a_iconst (v := nI 1) C dX7_areLocks_36 (by decide) ?_
                refine a_goto (tgt := 41) C dX7_areLocks_37 (by decide) ?_
                refine a_eq rfl (gl1 ?_) rfl zJ41
                · first | with_reducible rfl | (refine iF ?_; simp [allN, h_13, h_17, (alP_b h_33)]; done) | (refine iT ?_; simp [allN, h_13, h_17, (alP_b h_33)]; done) | (refine iB ?_; simp [allN, h_13, h_17, (alP_b h_33)]; done) | (simp [allN, h_13, h_17, (alP_b h_33)]; done) | (simp [allN, h_13, h_17, (alP_b h_33)]; omega) | omega
  refine a_pad 2 ?_
  refine a_eq (L' := [some (.ref 204), some (.int (nI x)), none, none]) rfl rfl rfl ?_
  refine a_iload_n C dX7_areLocks_0 rfl rfl ?_
  refine a_iconst (v := nI 1) C dX7_areLocks_1 (by decide) ?_
  refine a_bipush (v := nI 63) C dX7_areLocks_2 (by decide) ?_
  refine p_callS C ((K_X7_within _ _ _)).cp sX7_57 rfl dX7_areLocks_4 (Nat.le_of_ble_eq_true rfl) ⟨by decide, by decide⟩ ?_
  refine a_istore_n C dX7_areLocks_7 rfl (by decide) ?_
  refine a_iconst (v := nI 0) C dX7_areLocks_8 (by decide) ?_
  refine a_istore_n C dX7_areLocks_9 rfl (by decide) ?_
  refine a_join (aLe_s ?_ (aLe_s ?_ (aLe_s ?_ (aLe_s ?_ aLe_nil)))) rfl rfl (ZL10 (6 + 1) 0 (by omega) (by omega))
  · first | with_reducible rfl | exact gl (by first | with_reducible rfl | (refine iF ?_; simp [allN]; done) | (refine iT ?_; simp [allN]; done) | (refine iB ?_; simp [allN]; done) | (simp [allN]; done) | (simp [allN]; omega) | omega | rfl)
  · first | with_reducible rfl | exact gl (by first | with_reducible rfl | (refine iF ?_; simp [allN]; done) | (refine iT ?_; simp [allN]; done) | (refine iB ?_; simp [allN]; done) | (simp [allN]; done) | (simp [allN]; omega) | omega | rfl)
  · have zq_1 : (nI 1 ≤ nI x ∧ nI x ≤ nI 63) := by simp only [Int32.le_iff_toInt_le]; rw [nI_toInt (by omega), nI_toInt (by omega), nI_toInt (by omega)]; omega
    rw [decide_eq_true zq_1]; rfl
  · first | with_reducible rfl | exact gl (by first | with_reducible rfl | (refine iF ?_; simp [allN]; done) | (refine iT ?_; simp [allN]; done) | (refine iB ?_; simp [allN]; done) | (simp [allN]; done) | (simp [allN]; omega) | omega | rfl)

set_option maxRecDepth 20000 in
set_option maxHeartbeats 4000000 in
theorem K_X7_areLocks_out {w : Wd} {A : St} (hR : RR w A) (hA : AOK A) {x : Int32} (hx : ¬ (1 ≤ x.toInt ∧ x.toInt ≤ 63)) : CP yX7_areLocks cX7_areLocks 4 (some .boolean) 2 43 [.ref 204, .int x] w (.int (bI false)) := by
  have zq_n := hA.n12
  refine CF.of ok_X7_areLocks (Nat.le_of_ble_eq_true rfl) (fun ex us G9 p9 l9 e9 s9 m9 ar9 be9 me9 co9 C hr => ?_)
  have ZL10 : ∀ (zd10 : Nat) (p : Nat), 6 + 1 ≤ p + zd10 → p ≤ 6 → WA G9 p9 l9 e9 (RM 2 43) s9 m9 ar9 be9 me9 co9 (QP G9 be9 ar9 s9 w ex us (.int (bI false))) 4 (219 + ex) us 10 [some (.ref 204), some (.int x), some (.int (bI false)), some (.int (nI p))] [] (fzM w ex us) := by
    intro zd10
    induction zd10 with
    | zero => intro p zm10 zh10_0; exfalso; omega
    | succ zd10 zih10 =>
      intro p zm10 zh10_0
      refine a_iload_n C dX7_areLocks_10 rfl rfl ?_
      refine a_bipush (v := nI 6) C dX7_areLocks_11 (by decide) ?_
      first | refine n_icmp_ge (tgt := 48) C dX7_areLocks_13 (by decide) (by first | decide | omega) (by first | decide | omega) (fun h_13 => ?_) (fun h_13 => ?_) | refine a_icmp_ge (tgt := 48) C dX7_areLocks_13 (by decide) (fun h_13 => ?_) (fun h_13 => ?_)
      · obtain rfl : p = 6 := by omega
        refine a_iload_n C dX7_areLocks_48 rfl rfl ?_
        refine f_iret C hr ?_ dX7_areLocks_49 ⟨?_, rfl⟩
        · first | exact bI_narrow _ | rfl
        · rfl
      · refine a_iload_n C dX7_areLocks_16 rfl rfl ?_
        first | refine b_if_eq (tgt := 40) C dX7_areLocks_17 (by decide) (fun h_17 => ?_) (fun h_17 => ?_) | refine n_if_eq (tgt := 40) C dX7_areLocks_17 (by decide) (by first | decide | omega) (fun h_17 => ?_) (fun h_17 => ?_) | refine a_if_eq (tgt := 40) C dX7_areLocks_17 (by decide) (fun h_17 => ?_) (fun h_17 => ?_)
        · refine a_iconst (v := nI 0) C dX7_areLocks_40 (by decide) ?_
          refine a_istore_n C dX7_areLocks_41 rfl (by decide) ?_
          refine n_iinc C dX7_areLocks_42 rfl (by decide) ?_
          refine a_goto (tgt := 10) C dX7_areLocks_45 (by decide) ?_
          refine a_join (aLe_s ?_ (aLe_s ?_ (aLe_s ?_ (aLe_s ?_ aLe_nil)))) rfl rfl (zih10 (p + 1) (by omega) (by omega))
          · first | with_reducible rfl | exact gl (by first | with_reducible rfl | (refine iF ?_; simp [h_13, h_17]; done) | (refine iT ?_; simp [h_13, h_17]; done) | (refine iB ?_; simp [h_13, h_17]; done) | (simp [h_13, h_17]; done) | (simp [h_13, h_17]; omega) | omega)
          · first | with_reducible rfl | exact gl (by first | with_reducible rfl | (refine iF ?_; simp [h_13, h_17]; done) | (refine iT ?_; simp [h_13, h_17]; done) | (refine iB ?_; simp [h_13, h_17]; done) | (simp [h_13, h_17]; done) | (simp [h_13, h_17]; omega) | omega)
          · first | with_reducible rfl | exact gl (by first | with_reducible rfl | (refine iF ?_; simp [h_13, h_17]; done) | (refine iT ?_; simp [h_13, h_17]; done) | (refine iB ?_; simp [h_13, h_17]; done) | (simp [h_13, h_17]; done) | (simp [h_13, h_17]; omega) | omega)
          · first | with_reducible rfl | exact gl (by first | with_reducible rfl | (refine iF ?_; simp [h_13, h_17]; done) | (refine iT ?_; simp [h_13, h_17]; done) | (refine iB ?_; simp [h_13, h_17]; done) | (simp [h_13, h_17]; done) | (simp [h_13, h_17]; omega) | omega)
        · exact absurd h_17 (by decide)
  refine a_pad 2 ?_
  refine a_eq (L' := [some (.ref 204), some (.int x), none, none]) rfl rfl rfl ?_
  refine a_iload_n C dX7_areLocks_0 rfl rfl ?_
  refine a_iconst (v := nI 1) C dX7_areLocks_1 (by decide) ?_
  refine a_bipush (v := nI 63) C dX7_areLocks_2 (by decide) ?_
  refine p_callS C ((K_X7_within _ _ _)).cp sX7_57 rfl dX7_areLocks_4 (Nat.le_of_ble_eq_true rfl) ⟨by decide, by decide⟩ ?_
  refine a_istore_n C dX7_areLocks_7 rfl (by decide) ?_
  refine a_iconst (v := nI 0) C dX7_areLocks_8 (by decide) ?_
  refine a_istore_n C dX7_areLocks_9 rfl (by decide) ?_
  refine a_join (aLe_s ?_ (aLe_s ?_ (aLe_s ?_ (aLe_s ?_ aLe_nil)))) rfl rfl (ZL10 (6 + 1) 0 (by omega) (by omega))
  · first | with_reducible rfl | exact gl (by first | with_reducible rfl | (refine iF ?_; simp []; done) | (refine iT ?_; simp []; done) | (refine iB ?_; simp []; done) | (simp []; done) | (simp []; omega) | omega | rfl)
  · first | with_reducible rfl | exact gl (by first | with_reducible rfl | (refine iF ?_; simp []; done) | (refine iT ?_; simp []; done) | (refine iB ?_; simp []; done) | (simp []; done) | (simp []; omega) | omega | rfl)
  · have zq_1 : ¬ (nI 1 ≤ x ∧ x ≤ nI 63) := by simp only [Int32.le_iff_toInt_le]; rw [nI_toInt (by omega), nI_toInt (by omega)]; omega
    rw [decide_eq_false zq_1]
  · first | with_reducible rfl | exact gl (by first | with_reducible rfl | (refine iF ?_; simp []; done) | (refine iT ?_; simp []; done) | (refine iB ?_; simp []; done) | (simp []; done) | (simp []; omega) | omega | rfl)

theorem K_X7_areLocks {w : Wd} {A : St} (hR : RR w A) (hA : AOK A) (x : Int32) : CP yX7_areLocks cX7_areLocks 4 (some .boolean) 2 43 [.ref 204, .int x] w (.int (bI (arlA A x))) := by
  by_cases zq_1 : 1 ≤ x.toInt ∧ x.toInt ≤ 63
  · have zq_2 : inR x 64 = true := decide_eq_true (by omega)
    obtain ⟨n, zq_3, rfl⟩ := inR_of zq_2 (by decide)
    rw [nI_toInt (by omega)] at zq_1
    have zq_6 : arlA A (nI n) = allN (alP A n) 6 := by
      unfold arlA
      rw [nI_toInt (by omega), iN_nI (by omega), decide_eq_true zq_1, Bool.true_and]
    rw [zq_6]
    exact K_X7_areLocks_in (x := n) hR hA (by omega)
  · have zq_6 : arlA A x = false := by simp only [arlA, decide_eq_false zq_1, Bool.false_and]
    rw [zq_6]
    exact K_X7_areLocks_out hR hA zq_1
set_option maxRecDepth 20000 in
set_option maxHeartbeats 4000000 in
theorem K_X7_shareOfFree {w : Wd} {A : St} (hR : RR w A) (hA : AOK A)  : CP yX7_shareOfFree cX7_shareOfFree 1 (some .double) 6 135 [.ref 204] w (.double (FP.ddiv (FP.i2d (nI (cdsA A true))) (FP.i2d (nI (cdsA A false))))) := by
  have zq_n := hA.n12
  have zq_v := shr_nn A
  refine CF.of ok_X7_shareOfFree (Nat.le_of_ble_eq_true rfl) (fun ex us G9 p9 l9 e9 s9 m9 ar9 be9 me9 co9 C hr => ?_)
  refine a_aload_n C dX7_shareOfFree_0 rfl rfl ?_
  refine a_iconst (v := nI 1) C dX7_shareOfFree_1 (by decide) ?_
  refine p_callV C (K_X7_codes true hR hA) vX7_239 rfl (by first | decide | omega) rfl rfl dX7_shareOfFree_2 (Nat.le_of_ble_eq_true rfl) ⟨by decide, by decide⟩ ?_
  refine a_i2d C dX7_shareOfFree_5 ?_
  refine a_aload_n C dX7_shareOfFree_6 rfl rfl ?_
  refine a_iconst (v := nI 0) C dX7_shareOfFree_7 (by decide) ?_
  refine p_callV C (K_X7_codes false hR hA) vX7_239 rfl (by first | decide | omega) rfl rfl dX7_shareOfFree_8 (Nat.le_of_ble_eq_true rfl) ⟨by decide, by decide⟩ ?_
  refine a_i2d C dX7_shareOfFree_11 ?_
  refine a_ddiv C dX7_shareOfFree_12 zq_v ?_
  refine f_dret C hr dX7_shareOfFree_13 ⟨?_, rfl⟩
  · rfl

set_option maxRecDepth 20000 in
set_option maxHeartbeats 4000000 in
theorem K_X7_mean {w : Wd} {A : St} (hR : RR w A) (hA : AOK A)  : CP yX7_mean cX7_mean 3 (some .float) 1 22 [.ref 204] w (.float (mnA A)) := by
  have zq_n := hA.n12
  refine CF.of ok_X7_mean (Nat.le_of_ble_eq_true rfl) (fun ex us G9 p9 l9 e9 s9 m9 ar9 be9 me9 co9 C hr => ?_)
  have ZL4 : ∀ (zd4 : Nat) (k : Nat), kN A + 1 ≤ k + zd4 → k ≤ kN A → WA G9 p9 l9 e9 (RM 1 22) s9 m9 ar9 be9 me9 co9 (QP G9 be9 ar9 s9 w ex us (.float (mnA A))) 3 (219 + ex) us 4 [some (.ref 204), some (.int (nI (sumN (lvV A) k))), some (.int (nI k))] [] (fzM w ex us) := by
    intro zd4
    induction zd4 with
    | zero => intro k zm4 zh4_0; exfalso; omega
    | succ zd4 zih4 =>
      intro k zm4 zh4_0
      refine a_iload_n C dX7_mean_4 rfl rfl ?_
      refine a_aload_n C dX7_mean_5 rfl rfl ?_
      refine a_getfF C fX7_7 dX7_mean_6 (show _ < 219 from (by first | decide | omega)) (by first | decide | omega) rfl rfl ?_
      refine a_iconst (v := nI 0) C dX7_mean_9 (by decide) ?_
      refine n_iald C dX7_mean_10 (show _ < 219 from (by first | decide | omega)) (by first | decide | omega) rfl rfl (by first | decide | omega) (by decide) (RR_n hR hA) ?_
      first | refine n_icmp_ge (tgt := 32) C dX7_mean_11 (by decide) (by first | decide | omega) (by first | decide | omega) (fun h_11 => ?_) (fun h_11 => ?_) | refine a_icmp_ge (tgt := 32) C dX7_mean_11 (by decide) (fun h_11 => ?_) (fun h_11 => ?_)
      · obtain rfl : k = kN A := by omega
        refine a_aload_n C dX7_mean_32 rfl rfl ?_
        refine a_getfF C fX7_7 dX7_mean_33 (show _ < 219 from (by first | decide | omega)) (by first | decide | omega) rfl rfl ?_
        refine a_iconst (v := nI 0) C dX7_mean_36 (by decide) ?_
        refine n_iald C dX7_mean_37 (show _ < 219 from (by first | decide | omega)) (by first | decide | omega) rfl rfl (by first | decide | omega) (by decide) (RR_n hR hA) ?_
        first | refine b_if_ne (tgt := 45) C dX7_mean_38 (by decide) (fun h_38 => ?_) (fun h_38 => ?_) | refine n_if_ne (tgt := 45) C dX7_mean_38 (by decide) (by first | decide | omega) (fun h_38 => ?_) (fun h_38 => ?_) | refine a_if_ne (tgt := 45) C dX7_mean_38 (by decide) (fun h_38 => ?_) (fun h_38 => ?_)
        · refine a_iload_n C dX7_mean_45 rfl rfl ?_
          refine a_i2f C dX7_mean_46 ?_
          refine a_aload_n C dX7_mean_47 rfl rfl ?_
          refine a_getfF C fX7_7 dX7_mean_48 (show _ < 219 from (by first | decide | omega)) (by first | decide | omega) rfl rfl ?_
          refine a_iconst (v := nI 0) C dX7_mean_51 (by decide) ?_
          refine n_iald C dX7_mean_52 (show _ < 219 from (by first | decide | omega)) (by first | decide | omega) rfl rfl (by first | decide | omega) (by decide) (RR_n hR hA) ?_
          refine a_i2f C dX7_mean_53 ?_
          refine a_fdiv C dX7_mean_54 (mnA_nn hA h_38) ?_
          refine f_fret C hr dX7_mean_55 ⟨?_, rfl⟩
          · first | (rw [mnA, if_pos h_38]) | (rw [mnA, if_neg h_38]; rfl)
        · refine a_fconst0 C dX7_mean_41 ?_
          refine a_goto (tgt := 55) C dX7_mean_42 (by decide) ?_
          refine f_fret C hr dX7_mean_55 ⟨?_, rfl⟩
          · first | (rw [mnA, if_pos h_38]) | (rw [mnA, if_neg h_38]; rfl)
      · have zq_c := hA.c81 (k := k) (by omega)
        refine a_iload_n C dX7_mean_14 rfl rfl ?_
        refine a_aload_n C dX7_mean_15 rfl rfl ?_
        refine a_iload_n C dX7_mean_16 rfl rfl ?_
        refine a_iconst (v := nI 0) C dX7_mean_17 (by decide) ?_
        refine p_callV C (KC_ofKey0 hR hA (by first | assumption | decide | omega)) vX7_85 rfl (by first | decide | omega) rfl rfl dX7_mean_18 (Nat.le_of_ble_eq_true rfl) ⟨by decide, by decide⟩ ?_
        refine p_callS C ((K_X7_levelOf (by first | assumption | decide | omega))).cp sX7_104 rfl dX7_mean_21 (Nat.le_of_ble_eq_true rfl) ⟨by decide, by decide⟩ ?_
        first | refine n_iadd C dX7_mean_24 ?_ | refine a_iadd C dX7_mean_24 ?_
        refine a_istore_n C dX7_mean_25 rfl (by decide) ?_
        refine n_iinc C dX7_mean_26 rfl (by decide) ?_
        refine a_goto (tgt := 4) C dX7_mean_29 (by decide) ?_
        refine a_join (aLe_s ?_ (aLe_s ?_ (aLe_s ?_ aLe_nil))) rfl rfl (zih4 (k + 1) (by omega) (by omega))
        · first | with_reducible rfl | exact gl (by first | with_reducible rfl | (refine iF ?_; simp [sumN, lvV, h_11]; done) | (refine iT ?_; simp [sumN, lvV, h_11]; done) | (refine iB ?_; simp [sumN, lvV, h_11]; done) | (simp [sumN, lvV, h_11]; done) | (simp [sumN, lvV, h_11]; omega) | omega)
        · first | with_reducible rfl | exact gl (by first | with_reducible rfl | (refine iF ?_; simp [sumN, lvV, h_11]; done) | (refine iT ?_; simp [sumN, lvV, h_11]; done) | (refine iB ?_; simp [sumN, lvV, h_11]; done) | (simp [sumN, lvV, h_11]; done) | (simp [sumN, lvV, h_11]; omega) | omega)
        · first | with_reducible rfl | exact gl (by first | with_reducible rfl | (refine iF ?_; simp [sumN, lvV, h_11]; done) | (refine iT ?_; simp [sumN, lvV, h_11]; done) | (refine iB ?_; simp [sumN, lvV, h_11]; done) | (simp [sumN, lvV, h_11]; done) | (simp [sumN, lvV, h_11]; omega) | omega)
  refine a_pad 2 ?_
  refine a_eq (L' := [some (.ref 204), none, none]) rfl rfl rfl ?_
  refine a_iconst (v := nI 0) C dX7_mean_0 (by decide) ?_
  refine a_istore_n C dX7_mean_1 rfl (by decide) ?_
  refine a_iconst (v := nI 0) C dX7_mean_2 (by decide) ?_
  refine a_istore_n C dX7_mean_3 rfl (by decide) ?_
  refine a_join (aLe_s ?_ (aLe_s ?_ (aLe_s ?_ aLe_nil))) rfl rfl (ZL4 (kN A + 1) 0 (by omega) (by omega))
  · first | with_reducible rfl | exact gl (by first | with_reducible rfl | (refine iF ?_; simp [sumN, lvV]; done) | (refine iT ?_; simp [sumN, lvV]; done) | (refine iB ?_; simp [sumN, lvV]; done) | (simp [sumN, lvV]; done) | (simp [sumN, lvV]; omega) | omega | rfl)
  · first | with_reducible rfl | exact gl (by first | with_reducible rfl | (refine iF ?_; simp [sumN, lvV]; done) | (refine iT ?_; simp [sumN, lvV]; done) | (refine iB ?_; simp [sumN, lvV]; done) | (simp [sumN, lvV]; done) | (simp [sumN, lvV]; omega) | omega | rfl)
  · first | with_reducible rfl | exact gl (by first | with_reducible rfl | (refine iF ?_; simp [sumN, lvV]; done) | (refine iT ?_; simp [sumN, lvV]; done) | (refine iB ?_; simp [sumN, lvV]; done) | (simp [sumN, lvV]; done) | (simp [sumN, lvV]; omega) | omega | rfl)

end A12

section A58
set_option maxRecDepth 20000 in
set_option maxHeartbeats 4000000 in
theorem K_L_whyNotCut {w : Wd} {A : St} (hL : LR w A) (hA : AOK A) {c : Nat} (hc : c < 81) : CP yL_whyNotCut cL_whyNotCut 3 (some .int) 3 73 [.int (nI c), .ref 204, .ref 205] w (.int (nI (wncA A c))) := by
  have zq_n := hA.n12
  have zq_10 := hL.2
  refine CF.of ok_L_whyNotCut (Nat.le_of_ble_eq_true rfl) (fun ex us G9 p9 l9 e9 s9 m9 ar9 be9 me9 co9 C hr => ?_)
  refine a_iload_n C dL_whyNotCut_0 rfl rfl ?_
  refine a_aload_n C dL_whyNotCut_1 rfl rfl ?_
  refine p_callS C (K_L_isSound hL hA (by first | assumption | decide | omega)) sL_95 rfl dL_whyNotCut_2 (Nat.le_of_ble_eq_true rfl) ⟨by decide, by decide⟩ ?_
  first | refine b_if_ne (tgt := 12) C dL_whyNotCut_5 (by decide) (fun h_5 => ?_) (fun h_5 => ?_) | refine n_if_ne (tgt := 12) C dL_whyNotCut_5 (by decide) (by first | decide | omega) (fun h_5 => ?_) (fun h_5 => ?_) | refine a_if_ne (tgt := 12) C dL_whyNotCut_5 (by decide) (fun h_5 => ?_) (fun h_5 => ?_)
  · refine a_aload_n C dL_whyNotCut_12 rfl rfl ?_
    refine a_iconst (v := nI 0) C dL_whyNotCut_13 (by decide) ?_
    refine n_iald C dL_whyNotCut_14 (tw (by first | decide | omega)) (by first | decide | omega) rfl rfl (by first | decide | omega) (by decide) (LR_n hL hA) ?_
    refine a_bipush (v := nI 12) C dL_whyNotCut_15 (by decide) ?_
    refine n_icmp_ne (tgt := 24) C dL_whyNotCut_17 (by decide) (by first | decide | omega) (by first | decide | omega) (fun h_17 => ?_) (fun h_17 => ?_)
    · refine a_iload_n C dL_whyNotCut_24 rfl rfl ?_
      refine a_iconst (v := (-1)) C dL_whyNotCut_25 (by decide) ?_
      refine a_aload_n C dL_whyNotCut_26 rfl rfl ?_
      refine a_aload_n C dL_whyNotCut_27 rfl rfl ?_
      refine p_callS C (K_L_clash hL hA _ (by first | assumption | decide | omega)) sL_99 rfl dL_whyNotCut_28 (Nat.le_of_ble_eq_true rfl) ⟨by decide, by decide⟩ ?_
      refine f_iret C hr ?_ dL_whyNotCut_31 ⟨?_, rfl⟩
      · rfl
      · first | exact gl (congrArg nI (show 1 = wncA A c by simp [wncA, h_5])) | exact gl (congrArg nI (show 2 = wncA A c by simp [wncA, h_5, h_17])) | exact gl (congrArg nI (show clA A c (-1) = wncA A c by simp [wncA, h_5, h_17]))
    · refine a_iconst (v := nI 2) C dL_whyNotCut_20 (by decide) ?_
      refine a_goto (tgt := 31) C dL_whyNotCut_21 (by decide) ?_
      refine f_iret C hr ?_ dL_whyNotCut_31 ⟨?_, rfl⟩
      · rfl
      · first | exact gl (congrArg nI (show 1 = wncA A c by simp [wncA, h_5])) | exact gl (congrArg nI (show 2 = wncA A c by simp [wncA, h_5, h_17])) | exact gl (congrArg nI (show clA A c (-1) = wncA A c by simp [wncA, h_5, h_17]))
  · refine a_iconst (v := nI 1) C dL_whyNotCut_8 (by decide) ?_
    refine a_goto (tgt := 31) C dL_whyNotCut_9 (by decide) ?_
    refine f_iret C hr ?_ dL_whyNotCut_31 ⟨?_, rfl⟩
    · rfl
    · first | exact gl (congrArg nI (show 1 = wncA A c by simp [wncA, h_5])) | exact gl (congrArg nI (show 2 = wncA A c by simp [wncA, h_5, h_17])) | exact gl (congrArg nI (show clA A c (-1) = wncA A c by simp [wncA, h_5, h_17]))

set_option maxRecDepth 20000 in
set_option maxHeartbeats 4000000 in
theorem K_L_whyNotDeeper {w : Wd} {A : St} (hL : LR w A) (hA : AOK A) {k j : Nat} (hk : k < kN A) (hj : j < 4) : CP yL_whyNotDeeper cL_whyNotDeeper 5 (some .int) 3 73 [.int (nI k), .int (nI j), .ref 204, .ref 205] w (.int (nI (wndA A k j))) := by
  have zq_n := hA.n12
  have zq_10 := hL.2
  have zq_c := hA.c81 (k := k) (by omega)
  have zq_d3 := dep_lt (cN A k) j
  refine CF.of ok_L_whyNotDeeper (Nat.le_of_ble_eq_true rfl) (fun ex us G9 p9 l9 e9 s9 m9 ar9 be9 me9 co9 C hr => ?_)
  refine a_pad 1 ?_
  refine a_eq (L' := [some (.int (nI k)), some (.int (nI j)), some (.ref 204), some (.ref 205), none]) rfl rfl rfl ?_
  refine a_aload_n C dL_whyNotDeeper_0 rfl rfl ?_
  refine a_bipush (v := nI 6) C dL_whyNotDeeper_1 (by decide) ?_
  refine a_iload_n C dL_whyNotDeeper_3 rfl rfl ?_
  first | refine n_imul C dL_whyNotDeeper_4 ?_ | refine a_imul C dL_whyNotDeeper_4 ?_
  refine n_iald C dL_whyNotDeeper_5 (tw (by first | decide | omega)) (by first | decide | omega) rfl rfl (by first | decide | omega) (by decide) (LR_kc hL hA (by omega)) ?_
  refine a_istore C dL_whyNotDeeper_6 (by decide) ?_
  refine a_iload C dL_whyNotDeeper_8 rfl ?_
  refine a_iload_n C dL_whyNotDeeper_10 rfl rfl ?_
  refine p_callS C ((K_L_digit (by first | assumption | decide | omega) (by first | assumption | decide | omega))).cp sL_87 rfl dL_whyNotDeeper_11 (Nat.le_of_ble_eq_true rfl) ⟨by decide, by decide⟩ ?_
  refine a_iconst (v := nI 2) C dL_whyNotDeeper_14 (by decide) ?_
  refine n_icmp_ne (tgt := 23) C dL_whyNotDeeper_15 (by decide) (by first | decide | omega) (by first | decide | omega) (fun h_15 => ?_) (fun h_15 => ?_)
  · have zq_d : cN A k + wtN j < 81 := wt81 zq_c hj (by omega)
    refine a_iload C dL_whyNotDeeper_23 rfl ?_
    refine a_iload_n C dL_whyNotDeeper_25 rfl rfl ?_
    refine p_callS C ((K_L_step (by first | assumption | decide | omega))).cp sL_103 rfl dL_whyNotDeeper_26 (Nat.le_of_ble_eq_true rfl) ⟨by decide, by decide⟩ ?_
    first | refine n_iadd C dL_whyNotDeeper_29 ?_ | refine a_iadd C dL_whyNotDeeper_29 ?_
    refine a_aload_n C dL_whyNotDeeper_30 rfl rfl ?_
    refine p_callS C (K_L_isSound hL hA (by first | assumption | decide | omega)) sL_95 rfl dL_whyNotDeeper_31 (Nat.le_of_ble_eq_true rfl) ⟨by decide, by decide⟩ ?_
    first | refine b_if_ne (tgt := 41) C dL_whyNotDeeper_34 (by decide) (fun h_34 => ?_) (fun h_34 => ?_) | refine n_if_ne (tgt := 41) C dL_whyNotDeeper_34 (by decide) (by first | decide | omega) (fun h_34 => ?_) (fun h_34 => ?_) | refine a_if_ne (tgt := 41) C dL_whyNotDeeper_34 (by decide) (fun h_34 => ?_) (fun h_34 => ?_)
    · refine a_iload C dL_whyNotDeeper_41 rfl ?_
      refine a_iload_n C dL_whyNotDeeper_43 rfl rfl ?_
      refine p_callS C ((K_L_step (by first | assumption | decide | omega))).cp sL_103 rfl dL_whyNotDeeper_44 (Nat.le_of_ble_eq_true rfl) ⟨by decide, by decide⟩ ?_
      first | refine n_iadd C dL_whyNotDeeper_47 ?_ | refine a_iadd C dL_whyNotDeeper_47 ?_
      refine a_iload_n C dL_whyNotDeeper_48 rfl rfl ?_
      refine a_aload_n C dL_whyNotDeeper_49 rfl rfl ?_
      refine a_aload_n C dL_whyNotDeeper_50 rfl rfl ?_
      refine p_callS C (K_L_clash hL hA _ (by first | assumption | decide | omega)) sL_99 rfl dL_whyNotDeeper_51 (Nat.le_of_ble_eq_true rfl) ⟨by decide, by decide⟩ ?_
      refine f_iret C hr ?_ dL_whyNotDeeper_54 ⟨?_, rfl⟩
      · rfl
      · first | exact gl (congrArg nI (show 6 = wndA A k j by simp [wndA, h_15])) | exact gl (congrArg nI (show 1 = wndA A k j by simp [wndA, h_15, h_34])) | exact gl (congrArg nI (show clA A (cN A k + wtN j) (nI k) = wndA A k j by simp [wndA, h_15, h_34]))
    · refine a_iconst (v := nI 1) C dL_whyNotDeeper_37 (by decide) ?_
      refine a_goto (tgt := 54) C dL_whyNotDeeper_38 (by decide) ?_
      refine f_iret C hr ?_ dL_whyNotDeeper_54 ⟨?_, rfl⟩
      · rfl
      · first | exact gl (congrArg nI (show 6 = wndA A k j by simp [wndA, h_15])) | exact gl (congrArg nI (show 1 = wndA A k j by simp [wndA, h_15, h_34])) | exact gl (congrArg nI (show clA A (cN A k + wtN j) (nI k) = wndA A k j by simp [wndA, h_15, h_34]))
  · refine a_bipush (v := nI 6) C dL_whyNotDeeper_18 (by decide) ?_
    refine a_goto (tgt := 54) C dL_whyNotDeeper_20 (by decide) ?_
    refine f_iret C hr ?_ dL_whyNotDeeper_54 ⟨?_, rfl⟩
    · rfl
    · first | exact gl (congrArg nI (show 6 = wndA A k j by simp [wndA, h_15])) | exact gl (congrArg nI (show 1 = wndA A k j by simp [wndA, h_15, h_34])) | exact gl (congrArg nI (show clA A (cN A k + wtN j) (nI k) = wndA A k j by simp [wndA, h_15, h_34]))

set_option maxRecDepth 20000 in
set_option maxHeartbeats 4000000 in
theorem K_L_opens {w : Wd} {A : St} (hL : LR w A) (hA : AOK A) {c p : Nat} (hc : c < 81) (hp : p < 6) : CP yL_opens cL_opens 5 (some .boolean) 2 47 [.int (nI c), .int (nI p), .ref 206] w (.int (bI (opnA A c p))) := by
  have zq_n := hA.n12
  have zq_10 := hL.2
  have zq_1 := o1_lt A c p
  have zq_2 := o2_lt A c p
  refine CF.of ok_L_opens (Nat.le_of_ble_eq_true rfl) (fun ex us G9 p9 l9 e9 s9 m9 ar9 be9 me9 co9 C hr => ?_)
  refine a_pad 2 ?_
  refine a_eq (L' := [some (.int (nI c)), some (.int (nI p)), some (.ref 206), none, none]) rfl rfl rfl ?_
  refine a_via 21 (nI (o1A A c p)) ?_ (fun zJ21 => ?_)
  · refine a_istore_n C dL_opens_21 rfl (by decide) ?_
    refine a_via 47 (nI (o2A A c p)) ?_ (fun zJ47 => ?_)
    · refine a_istore C dL_opens_47 (by decide) ?_
      refine a_via 76 (bI (opnA A c p)) ?_ (fun zJ76 => ?_)
      · refine f_iret C hr ?_ dL_opens_76 ⟨?_, rfl⟩
        · first | exact bI_narrow _ | rfl
        · rfl
      · refine a_iload_n C dL_opens_49 rfl rfl ?_
        refine a_iconst (v := nI 3) C dL_opens_50 (by decide) ?_
        refine n_icmp_eq (tgt := 71) C dL_opens_51 (by decide) (by first | decide | omega) (by first | decide | omega) (fun h_51 => ?_) (fun h_51 => ?_)
        · refine a_iconst (v := nI 1) C dL_opens_71 (by decide) ?_
          refine a_goto (tgt := 76) C dL_opens_72 (by decide) ?_
          refine a_eq rfl (gl1 ?_) rfl zJ76
          · first | exact iT (by rw [opn_o hA hc hp]; first | (simp [h_51]; done) | (simp [h_56]; done) | (simp [h_62]; done) | (simp [h_68]; done)) | exact iF (by rw [opn_o hA hc hp]; simp [h_51, h_56, h_62, h_68])
        · refine a_iload_n C dL_opens_54 rfl rfl ?_
          refine a_iconst (v := nI 5) C dL_opens_55 (by decide) ?_
          refine n_icmp_eq (tgt := 71) C dL_opens_56 (by decide) (by first | decide | omega) (by first | decide | omega) (fun h_56 => ?_) (fun h_56 => ?_)
          · refine a_iconst (v := nI 1) C dL_opens_71 (by decide) ?_
            refine a_goto (tgt := 76) C dL_opens_72 (by decide) ?_
            refine a_eq rfl (gl1 ?_) rfl zJ76
            · first | exact iT (by rw [opn_o hA hc hp]; first | (simp [h_51]; done) | (simp [h_56]; done) | (simp [h_62]; done) | (simp [h_68]; done)) | exact iF (by rw [opn_o hA hc hp]; simp [h_51, h_56, h_62, h_68])
          · refine a_iload C dL_opens_59 rfl ?_
            refine a_iconst (v := nI 3) C dL_opens_61 (by decide) ?_
            refine n_icmp_eq (tgt := 71) C dL_opens_62 (by decide) (by first | decide | omega) (by first | decide | omega) (fun h_62 => ?_) (fun h_62 => ?_)
            · refine a_iconst (v := nI 1) C dL_opens_71 (by decide) ?_
              refine a_goto (tgt := 76) C dL_opens_72 (by decide) ?_
              refine a_eq rfl (gl1 ?_) rfl zJ76
              · first | exact iT (by rw [opn_o hA hc hp]; first | (simp [h_51]; done) | (simp [h_56]; done) | (simp [h_62]; done) | (simp [h_68]; done)) | exact iF (by rw [opn_o hA hc hp]; simp [h_51, h_56, h_62, h_68])
            · refine a_iload C dL_opens_65 rfl ?_
              refine a_iconst (v := nI 5) C dL_opens_67 (by decide) ?_
              refine n_icmp_ne (tgt := 75) C dL_opens_68 (by decide) (by first | decide | omega) (by first | decide | omega) (fun h_68 => ?_) (fun h_68 => ?_)
              · refine a_iconst (v := nI 0) C dL_opens_75 (by decide) ?_
                refine a_eq rfl (gl1 ?_) rfl zJ76
                · first | exact iT (by rw [opn_o hA hc hp]; first | (simp [h_51]; done) | (simp [h_56]; done) | (simp [h_62]; done) | (simp [h_68]; done)) | exact iF (by rw [opn_o hA hc hp]; simp [h_51, h_56, h_62, h_68])
              · refine a_iconst (v := nI 1) C dL_opens_71 (by decide) ?_
                refine a_goto (tgt := 76) C dL_opens_72 (by decide) ?_
                refine a_eq rfl (gl1 ?_) rfl zJ76
                · first | exact iT (by rw [opn_o hA hc hp]; first | (simp [h_51]; done) | (simp [h_56]; done) | (simp [h_62]; done) | (simp [h_68]; done)) | exact iF (by rw [opn_o hA hc hp]; simp [h_51, h_56, h_62, h_68])
    · refine a_aload_n C dL_opens_22 rfl rfl ?_
      refine a_iconst (v := nI 4) C dL_opens_23 (by decide) ?_
      refine a_iload_n C dL_opens_24 rfl rfl ?_
      first | refine n_imul C dL_opens_25 ?_ | refine a_imul C dL_opens_25 ?_
      refine a_iconst (v := nI 1) C dL_opens_26 (by decide) ?_
      first | refine n_iadd C dL_opens_27 ?_ | refine a_iadd C dL_opens_27 ?_
      refine n_iald C dL_opens_28 (tw (by first | decide | omega)) (by first | decide | omega) rfl rfl (by first | decide | omega) (by decide) (LR_lg hL (by omega)) ?_
      refine a_if_ge (tgt := 36) C dL_opens_29 (by decide) (fun h_29 => ?_) (fun h_29 => ?_)
      · have zq_g := gd_ge hA hp h_29
        refine a_iload_n C dL_opens_36 rfl rfl ?_
        refine a_aload_n C dL_opens_37 rfl rfl ?_
        refine a_iconst (v := nI 4) C dL_opens_38 (by decide) ?_
        refine a_iload_n C dL_opens_39 rfl rfl ?_
        first | refine n_imul C dL_opens_40 ?_ | refine a_imul C dL_opens_40 ?_
        refine a_iconst (v := nI 1) C dL_opens_41 (by decide) ?_
        first | refine n_iadd C dL_opens_42 ?_ | refine a_iadd C dL_opens_42 ?_
        refine n_iald C dL_opens_43 (tw (by first | decide | omega)) (by first | decide | omega) rfl rfl (by first | decide | omega) (by decide) ((LR_lg hL (by omega)).trans (hA.g hp zq_g)) ?_
        refine p_callS C ((K_L_lie hc (hA.g81 hp zq_g))).cp sL_92 rfl dL_opens_44 (Nat.le_of_ble_eq_true rfl) ⟨by decide, by decide⟩ ?_
        refine a_eq rfl (gl1 ?_) rfl zJ47
        · first | exact congrArg nI (show lieN c (gN A p) = o2A A c p by simp [o2A, zq_g]) | exact congrArg nI (show 0 = o2A A c p by simp [o2A, zq_g])
      · have zq_g := gd_lt hA hp h_29
        refine a_iconst (v := nI 0) C dL_opens_32 (by decide) ?_
        refine a_goto (tgt := 47) C dL_opens_33 (by decide) ?_
        refine a_eq rfl (gl1 ?_) rfl zJ47
        · first | exact congrArg nI (show lieN c (gN A p) = o2A A c p by simp [o2A, zq_g]) | exact congrArg nI (show 0 = o2A A c p by simp [o2A, zq_g])
  · refine a_aload_n C dL_opens_0 rfl rfl ?_
    refine a_iconst (v := nI 4) C dL_opens_1 (by decide) ?_
    refine a_iload_n C dL_opens_2 rfl rfl ?_
    first | refine n_imul C dL_opens_3 ?_ | refine a_imul C dL_opens_3 ?_
    refine n_iald C dL_opens_4 (tw (by first | decide | omega)) (by first | decide | omega) rfl rfl (by first | decide | omega) (by decide) (LR_lw hL (by omega)) ?_
    refine a_if_ge (tgt := 12) C dL_opens_5 (by decide) (fun h_5 => ?_) (fun h_5 => ?_)
    · have zq_w := wd_ge hA hp h_5
      refine a_iload_n C dL_opens_12 rfl rfl ?_
      refine a_aload_n C dL_opens_13 rfl rfl ?_
      refine a_iconst (v := nI 4) C dL_opens_14 (by decide) ?_
      refine a_iload_n C dL_opens_15 rfl rfl ?_
      first | refine n_imul C dL_opens_16 ?_ | refine a_imul C dL_opens_16 ?_
      refine n_iald C dL_opens_17 (tw (by first | decide | omega)) (by first | decide | omega) rfl rfl (by first | decide | omega) (by decide) ((LR_lw hL (by omega)).trans (hA.w hp zq_w)) ?_
      refine p_callS C ((K_L_lie hc (hA.w81 hp zq_w))).cp sL_92 rfl dL_opens_18 (Nat.le_of_ble_eq_true rfl) ⟨by decide, by decide⟩ ?_
      refine a_eq rfl (gl1 ?_) rfl zJ21
      · first | exact congrArg nI (show lieN c (wN A p) = o1A A c p by simp [o1A, zq_w]) | exact congrArg nI (show 0 = o1A A c p by simp [o1A, zq_w])
    · have zq_w := wd_lt hA hp h_5
      refine a_iconst (v := nI 0) C dL_opens_8 (by decide) ?_
      refine a_goto (tgt := 21) C dL_opens_9 (by decide) ?_
      refine a_eq rfl (gl1 ?_) rfl zJ21
      · first | exact congrArg nI (show lieN c (wN A p) = o1A A c p by simp [o1A, zq_w]) | exact congrArg nI (show 0 = o1A A c p by simp [o1A, zq_w])

set_option maxRecDepth 20000 in
set_option maxHeartbeats 4000000 in
theorem K_L_locksOf {w : Wd} {A : St} (hL : LR w A) (hA : AOK A) {c : Nat} (hc : c < 81) : CP yL_locksOf cL_locksOf 4 (some .int) 3 71 [.int (nI c), .ref 206] w (.int (nI (lksA A c))) := by
  have zq_n := hA.n12
  have zq_10 := hL.2
  refine CF.of ok_L_locksOf (Nat.le_of_ble_eq_true rfl) (fun ex us G9 p9 l9 e9 s9 m9 ar9 be9 me9 co9 C hr => ?_)
  have ZL4 : ∀ (zd4 : Nat) (p : Nat), 6 + 1 ≤ p + zd4 → p ≤ 6 → WA G9 p9 l9 e9 (RM 3 71) s9 m9 ar9 be9 me9 co9 (QP G9 be9 ar9 s9 w ex us (.int (nI (lksA A c)))) 4 (207 + ex.1 + ex.2) us 4 [some (.int (nI c)), some (.ref 206), some (.int (nI (mskN (opnA A c) p))), some (.int (nI p))] [] (fzM w ex us) := by
    intro zd4
    induction zd4 with
    | zero => intro p zm4 zh4_0; exfalso; omega
    | succ zd4 zih4 =>
      intro p zm4 zh4_0
      refine a_iload_n C dL_locksOf_4 rfl rfl ?_
      refine a_bipush (v := nI 6) C dL_locksOf_5 (by decide) ?_
      first | refine n_icmp_ge (tgt := 35) C dL_locksOf_7 (by decide) (by first | decide | omega) (by first | decide | omega) (fun h_7 => ?_) (fun h_7 => ?_) | refine a_icmp_ge (tgt := 35) C dL_locksOf_7 (by decide) (fun h_7 => ?_) (fun h_7 => ?_)
      · obtain rfl : p = 6 := by omega
        refine a_iload_n C dL_locksOf_35 rfl rfl ?_
        refine f_iret C hr ?_ dL_locksOf_36 ⟨?_, rfl⟩
        · rfl
        · rfl
      · refine a_iload_n C dL_locksOf_10 rfl rfl ?_
        refine a_via 27 (nI (if opnA A c p = true then 2 ^ p else 0)) ?_ (fun zJ27 => ?_)
        · first | refine n_ior C dL_locksOf_27 ?_ | refine a_ior C dL_locksOf_27 ?_
          refine a_istore_n C dL_locksOf_28 rfl (by decide) ?_
          refine n_iinc C dL_locksOf_29 rfl (by decide) ?_
          refine a_goto (tgt := 4) C dL_locksOf_32 (by decide) ?_
          refine a_join (aLe_s ?_ (aLe_s ?_ (aLe_s ?_ (aLe_s ?_ aLe_nil)))) rfl rfl (zih4 (p + 1) (by omega) (by omega))
          · first | with_reducible rfl | exact gl (by first | with_reducible rfl | (refine iF ?_; simp [mskN, h_7]; done) | (refine iT ?_; simp [mskN, h_7]; done) | (refine iB ?_; simp [mskN, h_7]; done) | (simp [mskN, h_7]; done) | (simp [mskN, h_7]; omega) | omega)
          · first | with_reducible rfl | exact gl (by first | with_reducible rfl | (refine iF ?_; simp [mskN, h_7]; done) | (refine iT ?_; simp [mskN, h_7]; done) | (refine iB ?_; simp [mskN, h_7]; done) | (simp [mskN, h_7]; done) | (simp [mskN, h_7]; omega) | omega)
          · first | with_reducible rfl | exact gl (by first | with_reducible rfl | (refine iF ?_; simp [mskN, h_7]; done) | (refine iT ?_; simp [mskN, h_7]; done) | (refine iB ?_; simp [mskN, h_7]; done) | (simp [mskN, h_7]; done) | (simp [mskN, h_7]; omega) | omega)
          · first | with_reducible rfl | exact gl (by first | with_reducible rfl | (refine iF ?_; simp [mskN, h_7]; done) | (refine iT ?_; simp [mskN, h_7]; done) | (refine iB ?_; simp [mskN, h_7]; done) | (simp [mskN, h_7]; done) | (simp [mskN, h_7]; omega) | omega)
        · refine a_iload_n C dL_locksOf_11 rfl rfl ?_
          refine a_iload_n C dL_locksOf_12 rfl rfl ?_
          refine a_aload_n C dL_locksOf_13 rfl rfl ?_
          refine p_callS C (K_L_opens hL hA (by first | assumption | decide | omega) (by first | assumption | decide | omega)) sL_106 rfl dL_locksOf_14 (Nat.le_of_ble_eq_true rfl) ⟨by decide, by decide⟩ ?_
          first | refine b_if_eq (tgt := 26) C dL_locksOf_17 (by decide) (fun h_17 => ?_) (fun h_17 => ?_) | refine n_if_eq (tgt := 26) C dL_locksOf_17 (by decide) (by first | decide | omega) (fun h_17 => ?_) (fun h_17 => ?_) | refine a_if_eq (tgt := 26) C dL_locksOf_17 (by decide) (fun h_17 => ?_) (fun h_17 => ?_)
          · refine a_iconst (v := nI 0) C dL_locksOf_26 (by decide) ?_
            refine a_eq rfl (gl1 ?_) rfl zJ27
            · simp [h_17]
          · refine a_iconst (v := nI 1) C dL_locksOf_20 (by decide) ?_
            refine a_iload_n C dL_locksOf_21 rfl rfl ?_
            refine n_ishl C dL_locksOf_22 (by omega) (p12_lt (by omega)) ?_
            refine a_goto (tgt := 27) C dL_locksOf_23 (by decide) ?_
            refine a_eq rfl (gl1 ?_) rfl zJ27
            · simp [h_17]
  refine a_pad 2 ?_
  refine a_eq (L' := [some (.int (nI c)), some (.ref 206), none, none]) rfl rfl rfl ?_
  refine a_iconst (v := nI 0) C dL_locksOf_0 (by decide) ?_
  refine a_istore_n C dL_locksOf_1 rfl (by decide) ?_
  refine a_iconst (v := nI 0) C dL_locksOf_2 (by decide) ?_
  refine a_istore_n C dL_locksOf_3 rfl (by decide) ?_
  refine a_join (aLe_s ?_ (aLe_s ?_ (aLe_s ?_ (aLe_s ?_ aLe_nil)))) rfl rfl (ZL4 (6 + 1) 0 (by omega) (by omega))
  · first | with_reducible rfl | exact gl (by first | with_reducible rfl | (refine iF ?_; simp [mskN]; done) | (refine iT ?_; simp [mskN]; done) | (refine iB ?_; simp [mskN]; done) | (simp [mskN]; done) | (simp [mskN]; omega) | omega | rfl)
  · first | with_reducible rfl | exact gl (by first | with_reducible rfl | (refine iF ?_; simp [mskN]; done) | (refine iT ?_; simp [mskN]; done) | (refine iB ?_; simp [mskN]; done) | (simp [mskN]; done) | (simp [mskN]; omega) | omega | rfl)
  · first | with_reducible rfl | exact gl (by first | with_reducible rfl | (refine iF ?_; simp [mskN]; done) | (refine iT ?_; simp [mskN]; done) | (refine iB ?_; simp [mskN]; done) | (simp [mskN]; done) | (simp [mskN]; omega) | omega | rfl)
  · first | with_reducible rfl | exact gl (by first | with_reducible rfl | (refine iF ?_; simp [mskN]; done) | (refine iT ?_; simp [mskN]; done) | (refine iB ?_; simp [mskN]; done) | (simp [mskN]; done) | (simp [mskN]; omega) | omega | rfl)

set_option maxRecDepth 20000 in
set_option maxHeartbeats 4000000 in
theorem K_L_ones {x : Nat} (hx : x < 64) : CS yL_ones cL_ones 3 (some .int) 0 0 [.int (nI x)] (.int (nI (onesN x))) := by
  refine CS.of ok_L_ones (Nat.le_of_ble_eq_true rfl) (fun M9 G9 p9 l9 e9 s9 m9 ar9 be9 me9 co9 C hr => ?_)
  have ZL4 : ∀ (zd4 : Nat) (n : Nat) (y : Nat), y + 1 ≤ zd4 → y < 64 → n + onesN y = onesN x → WA G9 p9 l9 e9 (RM 0 0) s9 m9 ar9 be9 me9 co9 (QS G9 be9 ar9 s9 M9 (.int (nI (onesN x)))) 3 (M9.1 + M9.2.1) M9.2.2.1 4 [some (.int (nI x)), some (.int (nI n)), some (.int (nI y))] [] M9 := by
    intro zd4
    induction zd4 with
    | zero => intro n y zm4 zh_y zh_n; exfalso; omega
    | succ zd4 zih4 =>
      intro n y zm4 zh_y zh_n
      refine a_iload_n C dL_ones_4 rfl rfl ?_
      refine n_if_eq (tgt := 20) C dL_ones_5 (by decide) (by first | decide | omega)  (fun h_5 => ?_) (fun h_5 => ?_)
      · refine a_iload_n C dL_ones_20 rfl rfl ?_
        refine a_iret C hr ?_ dL_ones_21 rfl rfl ⟨?_, rfl⟩
        · rfl
        · subst h_5
          rw [on_0] at zh_n
          exact gl (congrArg nI zh_n)
      · refine n_iinc C dL_ones_8 rfl (by decide) ?_
        refine a_iload_n C dL_ones_11 rfl rfl ?_
        refine a_iload_n C dL_ones_12 rfl rfl ?_
        refine a_iconst (v := nI 1) C dL_ones_13 (by decide) ?_
        refine n_isub C dL_ones_14 (by omega) ?_
        first | refine n_iand C dL_ones_15 ?_ | refine a_iand C dL_ones_15 ?_
        refine a_istore_n C dL_ones_16 rfl (by decide) ?_
        refine a_goto (tgt := 4) C dL_ones_17 (by decide) ?_
        refine a_join (aLe_s ?_ (aLe_s ?_ (aLe_s ?_ aLe_nil))) rfl rfl (zih4 (n + 1) (y &&& (y - 1)) (by have := (on_s zh_y h_5).2; omega) (by have := (on_s zh_y h_5).2; omega) (by have := (on_s zh_y h_5).1; omega))
        · first | with_reducible rfl | exact gl (by first | with_reducible rfl | (refine iF ?_; simp [h_5, (beq_eq_false_iff_ne.mpr h_5), (bne_iff_ne.mpr h_5)]; done) | (refine iT ?_; simp [h_5, (beq_eq_false_iff_ne.mpr h_5), (bne_iff_ne.mpr h_5)]; done) | (refine iB ?_; simp [h_5, (beq_eq_false_iff_ne.mpr h_5), (bne_iff_ne.mpr h_5)]; done) | (simp [h_5, (beq_eq_false_iff_ne.mpr h_5), (bne_iff_ne.mpr h_5)]; done) | (simp [h_5, (beq_eq_false_iff_ne.mpr h_5), (bne_iff_ne.mpr h_5)]; omega) | omega)
        · first | with_reducible rfl | exact gl (by first | with_reducible rfl | (refine iF ?_; simp [h_5, (beq_eq_false_iff_ne.mpr h_5), (bne_iff_ne.mpr h_5)]; done) | (refine iT ?_; simp [h_5, (beq_eq_false_iff_ne.mpr h_5), (bne_iff_ne.mpr h_5)]; done) | (refine iB ?_; simp [h_5, (beq_eq_false_iff_ne.mpr h_5), (bne_iff_ne.mpr h_5)]; done) | (simp [h_5, (beq_eq_false_iff_ne.mpr h_5), (bne_iff_ne.mpr h_5)]; done) | (simp [h_5, (beq_eq_false_iff_ne.mpr h_5), (bne_iff_ne.mpr h_5)]; omega) | omega)
        · first | with_reducible rfl | exact gl (by first | with_reducible rfl | (refine iF ?_; simp [h_5, (beq_eq_false_iff_ne.mpr h_5), (bne_iff_ne.mpr h_5)]; done) | (refine iT ?_; simp [h_5, (beq_eq_false_iff_ne.mpr h_5), (bne_iff_ne.mpr h_5)]; done) | (refine iB ?_; simp [h_5, (beq_eq_false_iff_ne.mpr h_5), (bne_iff_ne.mpr h_5)]; done) | (simp [h_5, (beq_eq_false_iff_ne.mpr h_5), (bne_iff_ne.mpr h_5)]; done) | (simp [h_5, (beq_eq_false_iff_ne.mpr h_5), (bne_iff_ne.mpr h_5)]; omega) | omega)
  refine a_pad 2 ?_
  refine a_eq (L' := [some (.int (nI x)), none, none]) rfl rfl rfl ?_
  refine a_iconst (v := nI 0) C dL_ones_0 (by decide) ?_
  refine a_istore_n C dL_ones_1 rfl (by decide) ?_
  refine a_iload_n C dL_ones_2 rfl rfl ?_
  refine a_istore_n C dL_ones_3 rfl (by decide) ?_
  refine a_join (aLe_s ?_ (aLe_s ?_ (aLe_s ?_ aLe_nil))) rfl rfl (ZL4 (x + 1) 0 x (by omega) hx (Nat.zero_add _))
  · first | with_reducible rfl | exact gl (by first | with_reducible rfl | (refine iF ?_; simp []; done) | (refine iT ?_; simp []; done) | (refine iB ?_; simp []; done) | (simp []; done) | (simp []; omega) | omega | rfl)
  · first | with_reducible rfl | exact gl (by first | with_reducible rfl | (refine iF ?_; simp []; done) | (refine iT ?_; simp []; done) | (refine iB ?_; simp []; done) | (simp []; done) | (simp []; omega) | omega | rfl)
  · first | with_reducible rfl | exact gl (by first | with_reducible rfl | (refine iF ?_; simp []; done) | (refine iT ?_; simp []; done) | (refine iB ?_; simp []; done) | (simp []; done) | (simp []; omega) | omega | rfl)

end A58

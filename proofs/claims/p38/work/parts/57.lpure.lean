section A57
theorem dg_s {c e j : Nat} (h : j ≤ e) : c / 3 ^ (e - j) / 3 = c / 3 ^ (e + 1 - j) := by
  rw [Nat.div_div_eq_div_mul, show e + 1 - j = (e - j) + 1 by omega, Nat.pow_succ]
theorem dg_e {c j : Nat} (hj : j < 4) : c / 3 ^ (3 - j) % 3 = dep c j := by
  match j, hj with
  | 0, _ => rfl
  | 1, _ => rfl
  | 2, _ => rfl
  | 3, _ => rfl
theorem dg_lt {c n : Nat} (h : c < 81) : c / 3 ^ n < 2 ^ 31 := Nat.lt_of_le_of_lt (Nat.div_le_self _ _) (by omega)
set_option maxRecDepth 20000 in
set_option maxHeartbeats 4000000 in
theorem K_L_digit {c j : Nat} (hc : c < 81) (hj : j < 4) : CS yL_digit cL_digit 4 (some .int) 0 0 [.int (nI c), .int (nI j)] (.int (nI (dep c j))) := by
  refine CS.of ok_L_digit (Nat.le_of_ble_eq_true rfl) (fun M9 G9 p9 l9 e9 s9 m9 ar9 be9 me9 co9 C hr => ?_)
  have ZL4 : ∀ (zd4 : Nat) (e : Nat), 4 ≤ e + zd4 → j ≤ e → e ≤ 3 → WA G9 p9 l9 e9 (RM 0 0) s9 m9 ar9 be9 me9 co9 (QS G9 be9 ar9 s9 M9 (.int (nI (dep c j)))) 4 (M9.1 + M9.2.1) M9.2.2.1 4 [some (.int (nI c)), some (.int (nI j)), some (.int (nI (c / 3 ^ (e - j)))), some (.int (nI e))] [] M9 := by
    intro zd4
    induction zd4 with
    | zero => intro e zm4 zh_j zh_3; exfalso; omega
    | succ zd4 zih4 =>
      intro e zm4 zh_j zh_3
      refine a_iload_n C dL_digit_4 rfl rfl ?_
      refine a_iconst (v := nI 3) C dL_digit_5 (by decide) ?_
      first | refine n_icmp_ge (tgt := 19) C dL_digit_6 (by decide) (by first | decide | omega) (by first | decide | omega) (fun h_6 => ?_) (fun h_6 => ?_) | refine a_icmp_ge (tgt := 19) C dL_digit_6 (by decide) (fun h_6 => ?_) (fun h_6 => ?_)
      · refine a_iload_n C dL_digit_19 rfl rfl ?_
        refine a_iconst (v := nI 3) C dL_digit_20 (by decide) ?_
        refine n_irem C dL_digit_21 (dg_lt hc) (by first | decide | omega) (by first | decide | omega) ?_
        refine a_iret C hr ?_ dL_digit_22 rfl rfl ⟨?_, rfl⟩
        · rfl
        · obtain rfl : e = 3 := by omega
          exact gl (congrArg nI (dg_e hj))
      · refine a_iload_n C dL_digit_9 rfl rfl ?_
        refine a_iconst (v := nI 3) C dL_digit_10 (by decide) ?_
        refine n_idiv C dL_digit_11 (dg_lt hc) (by first | decide | omega) (by first | decide | omega) ?_
        refine a_istore_n C dL_digit_12 rfl (by decide) ?_
        refine n_iinc C dL_digit_13 rfl (by decide) ?_
        refine a_goto (tgt := 4) C dL_digit_16 (by decide) ?_
        refine a_join (aLe_s ?_ (aLe_s ?_ (aLe_s ?_ (aLe_s ?_ aLe_nil)))) rfl rfl (zih4 (e + 1) (by omega) (by omega) (by omega))
        · first | with_reducible rfl | exact gl (by first | with_reducible rfl | (refine iF ?_; simp [h_6]; done) | (refine iT ?_; simp [h_6]; done) | (refine iB ?_; simp [h_6]; done) | (simp [h_6]; done) | (simp [h_6]; omega) | omega)
        · first | with_reducible rfl | exact gl (by first | with_reducible rfl | (refine iF ?_; simp [h_6]; done) | (refine iT ?_; simp [h_6]; done) | (refine iB ?_; simp [h_6]; done) | (simp [h_6]; done) | (simp [h_6]; omega) | omega)
        · exact gl (congrArg nI (dg_s zh_j))
        · first | with_reducible rfl | exact gl (by first | with_reducible rfl | (refine iF ?_; simp [h_6]; done) | (refine iT ?_; simp [h_6]; done) | (refine iB ?_; simp [h_6]; done) | (simp [h_6]; done) | (simp [h_6]; omega) | omega)
  refine a_pad 2 ?_
  refine a_eq (L' := [some (.int (nI c)), some (.int (nI j)), none, none]) rfl rfl rfl ?_
  refine a_iload_n C dL_digit_0 rfl rfl ?_
  refine a_istore_n C dL_digit_1 rfl (by decide) ?_
  refine a_iload_n C dL_digit_2 rfl rfl ?_
  refine a_istore_n C dL_digit_3 rfl (by decide) ?_
  refine a_join (aLe_s ?_ (aLe_s ?_ (aLe_s ?_ (aLe_s ?_ aLe_nil)))) rfl rfl (ZL4 4 j (by omega) (by omega) (by omega))
  · first | with_reducible rfl | exact gl (by first | with_reducible rfl | (refine iF ?_; simp []; done) | (refine iT ?_; simp []; done) | (refine iB ?_; simp []; done) | (simp []; done) | (simp []; omega) | omega | rfl)
  · first | with_reducible rfl | exact gl (by first | with_reducible rfl | (refine iF ?_; simp []; done) | (refine iT ?_; simp []; done) | (refine iB ?_; simp []; done) | (simp []; done) | (simp []; omega) | omega | rfl)
  · exact gl (by rw [Nat.sub_self]; exact congrArg nI (Nat.div_one c).symm)
  · first | with_reducible rfl | exact gl (by first | with_reducible rfl | (refine iF ?_; simp []; done) | (refine iT ?_; simp []; done) | (refine iB ?_; simp []; done) | (simp []; done) | (simp []; omega) | omega | rfl)

set_option maxRecDepth 20000 in
set_option maxHeartbeats 4000000 in
theorem K_L_step {j : Nat} (hj : j < 4) : CS yL_step cL_step 1 (some .int) 0 0 [.int (nI j)] (.int (nI (wtN j))) := by
  refine CS.of ok_L_step (Nat.le_of_ble_eq_true rfl) (fun M9 G9 p9 l9 e9 s9 m9 ar9 be9 me9 co9 C hr => ?_)
  refine a_iload_n C dL_step_0 rfl rfl ?_
  first | refine b_if_ne (tgt := 9) C dL_step_1 (by decide) (fun h_1 => ?_) (fun h_1 => ?_) | refine n_if_ne (tgt := 9) C dL_step_1 (by decide) (by first | decide | omega) (fun h_1 => ?_) (fun h_1 => ?_) | refine a_if_ne (tgt := 9) C dL_step_1 (by decide) (fun h_1 => ?_) (fun h_1 => ?_)
  · refine a_iload_n C dL_step_9 rfl rfl ?_
    refine a_iconst (v := nI 1) C dL_step_10 (by decide) ?_
    first | refine n_icmp_ne (tgt := 19) C dL_step_11 (by decide) (by first | decide | omega) (by first | decide | omega) (fun h_11 => ?_) (fun h_11 => ?_) | refine a_icmp_ne (tgt := 19) C dL_step_11 (by decide) (fun h_11 => ?_) (fun h_11 => ?_)
    · refine a_iload_n C dL_step_19 rfl rfl ?_
      refine a_iconst (v := nI 2) C dL_step_20 (by decide) ?_
      first | refine n_icmp_ne (tgt := 28) C dL_step_21 (by decide) (by first | decide | omega) (by first | decide | omega) (fun h_21 => ?_) (fun h_21 => ?_) | refine a_icmp_ne (tgt := 28) C dL_step_21 (by decide) (fun h_21 => ?_) (fun h_21 => ?_)
      · refine a_iconst (v := nI 1) C dL_step_28 (by decide) ?_
        refine a_iret C hr ?_ dL_step_29 rfl rfl ⟨?_, rfl⟩
        · rfl
        · first | (have e : j = 0 := (by omega); subst e; rfl) | (have e : j = 1 := (by omega); subst e; rfl) | (have e : j = 2 := (by omega); subst e; rfl) | (have e : j = 3 := (by omega); subst e; rfl)
      · refine a_iconst (v := nI 3) C dL_step_24 (by decide) ?_
        refine a_goto (tgt := 29) C dL_step_25 (by decide) ?_
        refine a_iret C hr ?_ dL_step_29 rfl rfl ⟨?_, rfl⟩
        · rfl
        · first | (have e : j = 0 := (by omega); subst e; rfl) | (have e : j = 1 := (by omega); subst e; rfl) | (have e : j = 2 := (by omega); subst e; rfl) | (have e : j = 3 := (by omega); subst e; rfl)
    · refine a_bipush (v := nI 9) C dL_step_14 (by decide) ?_
      refine a_goto (tgt := 29) C dL_step_16 (by decide) ?_
      refine a_iret C hr ?_ dL_step_29 rfl rfl ⟨?_, rfl⟩
      · rfl
      · first | (have e : j = 0 := (by omega); subst e; rfl) | (have e : j = 1 := (by omega); subst e; rfl) | (have e : j = 2 := (by omega); subst e; rfl) | (have e : j = 3 := (by omega); subst e; rfl)
  · refine a_bipush (v := nI 27) C dL_step_4 (by decide) ?_
    refine a_goto (tgt := 29) C dL_step_6 (by decide) ?_
    refine a_iret C hr ?_ dL_step_29 rfl rfl ⟨?_, rfl⟩
    · rfl
    · first | (have e : j = 0 := (by omega); subst e; rfl) | (have e : j = 1 := (by omega); subst e; rfl) | (have e : j = 2 := (by omega); subst e; rfl) | (have e : j = 3 := (by omega); subst e; rfl)

set_option maxRecDepth 20000 in
set_option maxHeartbeats 4000000 in
theorem K_L_levelOf {c : Nat} (hc : c < 81) : CS yL_levelOf cL_levelOf 1 (some .int) 1 23 [.int (nI c)] (.int (nI (lvN c))) := by
  refine CS.of ok_L_levelOf (Nat.le_of_ble_eq_true rfl) (fun M9 G9 p9 l9 e9 s9 m9 ar9 be9 me9 co9 C hr => ?_)
  refine a_iload_n C dL_levelOf_0 rfl rfl ?_
  refine a_iconst (v := nI 0) C dL_levelOf_1 (by decide) ?_
  refine s_callS C (K_L_digit (by first | assumption | decide | omega) (by first | assumption | decide | omega)) sL_87 rfl dL_levelOf_2 (Nat.le_of_ble_eq_true rfl) ⟨by decide, by decide⟩ ⟨Nat.le_refl _, Nat.le_refl _⟩ ?_
  refine a_iload_n C dL_levelOf_5 rfl rfl ?_
  refine a_iconst (v := nI 1) C dL_levelOf_6 (by decide) ?_
  refine s_callS C (K_L_digit (by first | assumption | decide | omega) (by first | assumption | decide | omega)) sL_87 rfl dL_levelOf_7 (Nat.le_of_ble_eq_true rfl) ⟨by decide, by decide⟩ ⟨Nat.le_refl _, Nat.le_refl _⟩ ?_
  first | refine n_iadd C dL_levelOf_10 ?_ | refine a_iadd C dL_levelOf_10 ?_
  refine a_iload_n C dL_levelOf_11 rfl rfl ?_
  refine a_iconst (v := nI 2) C dL_levelOf_12 (by decide) ?_
  refine s_callS C (K_L_digit (by first | assumption | decide | omega) (by first | assumption | decide | omega)) sL_87 rfl dL_levelOf_13 (Nat.le_of_ble_eq_true rfl) ⟨by decide, by decide⟩ ⟨Nat.le_refl _, Nat.le_refl _⟩ ?_
  first | refine n_iadd C dL_levelOf_16 ?_ | refine a_iadd C dL_levelOf_16 ?_
  refine a_iload_n C dL_levelOf_17 rfl rfl ?_
  refine a_iconst (v := nI 3) C dL_levelOf_18 (by decide) ?_
  refine s_callS C (K_L_digit (by first | assumption | decide | omega) (by first | assumption | decide | omega)) sL_87 rfl dL_levelOf_19 (Nat.le_of_ble_eq_true rfl) ⟨by decide, by decide⟩ ⟨Nat.le_refl _, Nat.le_refl _⟩ ?_
  first | refine n_iadd C dL_levelOf_22 ?_ | refine a_iadd C dL_levelOf_22 ?_
  refine a_iret C hr ?_ dL_levelOf_23 rfl rfl ⟨?_, rfl⟩
  · rfl
  · first | with_reducible rfl | exact gl (by first | with_reducible rfl | (refine iF ?_; simp [lvN]; done) | (refine iT ?_; simp [lvN]; done) | (refine iB ?_; simp [lvN]; done) | (simp [lvN]; done) | (simp [lvN]; omega) | omega)

set_option maxRecDepth 20000 in
set_option maxHeartbeats 4000000 in
theorem K_L_lie {c d : Nat} (hc : c < 81) (hd : d < 81) : CS yL_lie cL_lie 5 (some .int) 1 23 [.int (nI c), .int (nI d)] (.int (nI (lieN c d))) := by
  have zq_1 := cntN_le (gtP c d) 4
  have zq_2 := cntN_le (gtP d c) 4
  refine CS.of ok_L_lie (Nat.le_of_ble_eq_true rfl) (fun M9 G9 p9 l9 e9 s9 m9 ar9 be9 me9 co9 C hr => ?_)
  have ZL7 : ∀ (zd7 : Nat) (n : Nat), 4 + 1 ≤ n + zd7 → n ≤ 4 → WA G9 p9 l9 e9 (RM 1 23) s9 m9 ar9 be9 me9 co9 (QS G9 be9 ar9 s9 M9 (.int (nI (lieN c d)))) 5 (M9.1 + M9.2.1) M9.2.2.1 7 [some (.int (nI c)), some (.int (nI d)), some (.int (nI (cntN (gtP c d) n))), some (.int (nI (cntN (gtP d c) n))), some (.int (nI n))] [] M9 := by
    intro zd7
    induction zd7 with
    | zero => intro n zm7 zh7_0; exfalso; omega
    | succ zd7 zih7 =>
      intro n zm7 zh7_0
      refine a_iload C dL_lie_7 rfl ?_
      refine a_iconst (v := nI 4) C dL_lie_9 (by decide) ?_
      first | refine n_icmp_ge (tgt := 65) C dL_lie_10 (by decide) (by first | decide | omega) (by first | decide | omega) (fun h_10 => ?_) (fun h_10 => ?_) | refine a_icmp_ge (tgt := 65) C dL_lie_10 (by decide) (fun h_10 => ?_) (fun h_10 => ?_)
      · obtain rfl : n = 4 := by omega
        refine a_iload_n C dL_lie_65 rfl rfl ?_
        refine a_iload_n C dL_lie_66 rfl rfl ?_
        first | refine n_iadd C dL_lie_67 ?_ | refine a_iadd C dL_lie_67 ?_
        refine n_if_ne (tgt := 75) C dL_lie_68 (by decide) (by first | decide | omega)  (fun h_68 => ?_) (fun h_68 => ?_)
        · refine a_iload_n C dL_lie_75 rfl rfl ?_
          refine n_if_ne (tgt := 83) C dL_lie_76 (by decide) (by first | decide | omega)  (fun h_76 => ?_) (fun h_76 => ?_)
          · refine a_iload_n C dL_lie_83 rfl rfl ?_
            refine n_if_ne (tgt := 91) C dL_lie_84 (by decide) (by first | decide | omega)  (fun h_84 => ?_) (fun h_84 => ?_)
            · refine a_iconst (v := nI 0) C dL_lie_91 (by decide) ?_
              refine a_iret C hr ?_ dL_lie_92 rfl rfl ⟨?_, rfl⟩
              · rfl
              · exact gl (by rw [lie_cnt hc hd]; first | (rw [if_pos h_68]; done) | (rw [if_neg h_68, if_pos h_76]; done) | (rw [if_neg h_68, if_neg h_76, if_pos h_84]; done) | (rw [if_neg h_68, if_neg h_76, if_neg h_84]; done))
            · refine a_iconst (v := nI 5) C dL_lie_87 (by decide) ?_
              refine a_goto (tgt := 92) C dL_lie_88 (by decide) ?_
              refine a_iret C hr ?_ dL_lie_92 rfl rfl ⟨?_, rfl⟩
              · rfl
              · exact gl (by rw [lie_cnt hc hd]; first | (rw [if_pos h_68]; done) | (rw [if_neg h_68, if_pos h_76]; done) | (rw [if_neg h_68, if_neg h_76, if_pos h_84]; done) | (rw [if_neg h_68, if_neg h_76, if_neg h_84]; done))
          · refine a_iconst (v := nI 4) C dL_lie_79 (by decide) ?_
            refine a_goto (tgt := 92) C dL_lie_80 (by decide) ?_
            refine a_iret C hr ?_ dL_lie_92 rfl rfl ⟨?_, rfl⟩
            · rfl
            · exact gl (by rw [lie_cnt hc hd]; first | (rw [if_pos h_68]; done) | (rw [if_neg h_68, if_pos h_76]; done) | (rw [if_neg h_68, if_neg h_76, if_pos h_84]; done) | (rw [if_neg h_68, if_neg h_76, if_neg h_84]; done))
        · refine a_iconst (v := nI 3) C dL_lie_71 (by decide) ?_
          refine a_goto (tgt := 92) C dL_lie_72 (by decide) ?_
          refine a_iret C hr ?_ dL_lie_92 rfl rfl ⟨?_, rfl⟩
          · rfl
          · exact gl (by rw [lie_cnt hc hd]; first | (rw [if_pos h_68]; done) | (rw [if_neg h_68, if_pos h_76]; done) | (rw [if_neg h_68, if_neg h_76, if_pos h_84]; done) | (rw [if_neg h_68, if_neg h_76, if_neg h_84]; done))
      · refine a_iload_n C dL_lie_13 rfl rfl ?_
        refine a_via 34 (nI (if gtP c d n = true then 1 else 0)) ?_ (fun zJ34 => ?_)
        · first | refine n_iadd C dL_lie_34 ?_ | refine a_iadd C dL_lie_34 ?_
          refine a_istore_n C dL_lie_35 rfl (by decide) ?_
          refine a_iload_n C dL_lie_36 rfl rfl ?_
          refine a_via 57 (nI (if gtP d c n = true then 1 else 0)) ?_ (fun zJ57 => ?_)
          · first | refine n_iadd C dL_lie_57 ?_ | refine a_iadd C dL_lie_57 ?_
            refine a_istore_n C dL_lie_58 rfl (by decide) ?_
            refine n_iinc C dL_lie_59 rfl (by decide) ?_
            refine a_goto (tgt := 7) C dL_lie_62 (by decide) ?_
            refine a_join (aLe_s ?_ (aLe_s ?_ (aLe_s ?_ (aLe_s ?_ (aLe_s ?_ aLe_nil))))) rfl rfl (zih7 (n + 1) (by omega) (by omega))
            · first | with_reducible rfl | exact gl (by first | with_reducible rfl | (refine iF ?_; simp [cntN, h_10]; done) | (refine iT ?_; simp [cntN, h_10]; done) | (refine iB ?_; simp [cntN, h_10]; done) | (simp [cntN, h_10]; done) | (simp [cntN, h_10]; omega) | omega)
            · first | with_reducible rfl | exact gl (by first | with_reducible rfl | (refine iF ?_; simp [cntN, h_10]; done) | (refine iT ?_; simp [cntN, h_10]; done) | (refine iB ?_; simp [cntN, h_10]; done) | (simp [cntN, h_10]; done) | (simp [cntN, h_10]; omega) | omega)
            · first | with_reducible rfl | exact gl (by first | with_reducible rfl | (refine iF ?_; simp [cntN, h_10]; done) | (refine iT ?_; simp [cntN, h_10]; done) | (refine iB ?_; simp [cntN, h_10]; done) | (simp [cntN, h_10]; done) | (simp [cntN, h_10]; omega) | omega)
            · first | with_reducible rfl | exact gl (by first | with_reducible rfl | (refine iF ?_; simp [cntN, h_10]; done) | (refine iT ?_; simp [cntN, h_10]; done) | (refine iB ?_; simp [cntN, h_10]; done) | (simp [cntN, h_10]; done) | (simp [cntN, h_10]; omega) | omega)
            · first | with_reducible rfl | exact gl (by first | with_reducible rfl | (refine iF ?_; simp [cntN, h_10]; done) | (refine iT ?_; simp [cntN, h_10]; done) | (refine iB ?_; simp [cntN, h_10]; done) | (simp [cntN, h_10]; done) | (simp [cntN, h_10]; omega) | omega)
          · refine a_iload_n C dL_lie_37 rfl rfl ?_
            refine a_iload C dL_lie_38 rfl ?_
            refine s_callS C (K_L_digit (by first | assumption | decide | omega) (by first | assumption | decide | omega)) sL_87 rfl dL_lie_40 (Nat.le_of_ble_eq_true rfl) ⟨by decide, by decide⟩ ⟨Nat.le_refl _, Nat.le_refl _⟩ ?_
            refine a_iload_n C dL_lie_43 rfl rfl ?_
            refine a_iload C dL_lie_44 rfl ?_
            refine s_callS C (K_L_digit (by first | assumption | decide | omega) (by first | assumption | decide | omega)) sL_87 rfl dL_lie_46 (Nat.le_of_ble_eq_true rfl) ⟨by decide, by decide⟩ ⟨Nat.le_refl _, Nat.le_refl _⟩ ?_
            refine n_icmp_ge (tgt := 56) C dL_lie_49 (by decide) (Nat.lt_trans (dep_lt _ _) (by decide)) (Nat.lt_trans (dep_lt _ _) (by decide)) (fun h_49 => ?_) (fun h_49 => ?_)
            · refine a_iconst (v := nI 0) C dL_lie_56 (by decide) ?_
              refine a_eq rfl (gl1 ?_) rfl zJ57
              · first | exact n1 (decide_eq_true (by omega)) | exact n0 (decide_eq_false (by omega))
            · refine a_iconst (v := nI 1) C dL_lie_52 (by decide) ?_
              refine a_goto (tgt := 57) C dL_lie_53 (by decide) ?_
              refine a_eq rfl (gl1 ?_) rfl zJ57
              · first | exact n1 (decide_eq_true (by omega)) | exact n0 (decide_eq_false (by omega))
        · refine a_iload_n C dL_lie_14 rfl rfl ?_
          refine a_iload C dL_lie_15 rfl ?_
          refine s_callS C (K_L_digit (by first | assumption | decide | omega) (by first | assumption | decide | omega)) sL_87 rfl dL_lie_17 (Nat.le_of_ble_eq_true rfl) ⟨by decide, by decide⟩ ⟨Nat.le_refl _, Nat.le_refl _⟩ ?_
          refine a_iload_n C dL_lie_20 rfl rfl ?_
          refine a_iload C dL_lie_21 rfl ?_
          refine s_callS C (K_L_digit (by first | assumption | decide | omega) (by first | assumption | decide | omega)) sL_87 rfl dL_lie_23 (Nat.le_of_ble_eq_true rfl) ⟨by decide, by decide⟩ ⟨Nat.le_refl _, Nat.le_refl _⟩ ?_
          refine n_icmp_le (tgt := 33) C dL_lie_26 (by decide) (Nat.lt_trans (dep_lt _ _) (by decide)) (Nat.lt_trans (dep_lt _ _) (by decide)) (fun h_26 => ?_) (fun h_26 => ?_)
          · refine a_iconst (v := nI 0) C dL_lie_33 (by decide) ?_
            refine a_eq rfl (gl1 ?_) rfl zJ34
            · first | exact n1 (decide_eq_true (by omega)) | exact n0 (decide_eq_false (by omega))
          · refine a_iconst (v := nI 1) C dL_lie_29 (by decide) ?_
            refine a_goto (tgt := 34) C dL_lie_30 (by decide) ?_
            refine a_eq rfl (gl1 ?_) rfl zJ34
            · first | exact n1 (decide_eq_true (by omega)) | exact n0 (decide_eq_false (by omega))
  refine a_pad 3 ?_
  refine a_eq (L' := [some (.int (nI c)), some (.int (nI d)), none, none, none]) rfl rfl rfl ?_
  refine a_iconst (v := nI 0) C dL_lie_0 (by decide) ?_
  refine a_istore_n C dL_lie_1 rfl (by decide) ?_
  refine a_iconst (v := nI 0) C dL_lie_2 (by decide) ?_
  refine a_istore_n C dL_lie_3 rfl (by decide) ?_
  refine a_iconst (v := nI 0) C dL_lie_4 (by decide) ?_
  refine a_istore C dL_lie_5 (by decide) ?_
  refine a_join (aLe_s ?_ (aLe_s ?_ (aLe_s ?_ (aLe_s ?_ (aLe_s ?_ aLe_nil))))) rfl rfl (ZL7 (4 + 1) 0 (by omega) (by omega))
  · first | with_reducible rfl | exact gl (by first | with_reducible rfl | (refine iF ?_; simp [cntN]; done) | (refine iT ?_; simp [cntN]; done) | (refine iB ?_; simp [cntN]; done) | (simp [cntN]; done) | (simp [cntN]; omega) | omega | rfl)
  · first | with_reducible rfl | exact gl (by first | with_reducible rfl | (refine iF ?_; simp [cntN]; done) | (refine iT ?_; simp [cntN]; done) | (refine iB ?_; simp [cntN]; done) | (simp [cntN]; done) | (simp [cntN]; omega) | omega | rfl)
  · first | with_reducible rfl | exact gl (by first | with_reducible rfl | (refine iF ?_; simp [cntN]; done) | (refine iT ?_; simp [cntN]; done) | (refine iB ?_; simp [cntN]; done) | (simp [cntN]; done) | (simp [cntN]; omega) | omega | rfl)
  · first | with_reducible rfl | exact gl (by first | with_reducible rfl | (refine iF ?_; simp [cntN]; done) | (refine iT ?_; simp [cntN]; done) | (refine iB ?_; simp [cntN]; done) | (simp [cntN]; done) | (simp [cntN]; omega) | omega | rfl)
  · first | with_reducible rfl | exact gl (by first | with_reducible rfl | (refine iF ?_; simp [cntN]; done) | (refine iT ?_; simp [cntN]; done) | (refine iB ?_; simp [cntN]; done) | (simp [cntN]; done) | (simp [cntN]; omega) | omega | rfl)

set_option maxRecDepth 20000 in
set_option maxHeartbeats 4000000 in
theorem K_L_isSound {w : Wd} {A : St} (hL : LR w A) (hA : AOK A) {c : Nat} (hc : c < 81) : CP yL_isSound cL_isSound 5 (some .boolean) 1 23 [.int (nI c), .ref 204] w (.int (bI (sndA A c))) := by
  have zq_n := hA.n12
  have zq_10 := hL.2
  have zq_s := hA.s0
  refine CF.of ok_L_isSound (Nat.le_of_ble_eq_true rfl) (fun ex us G9 p9 l9 e9 s9 m9 ar9 be9 me9 co9 C hr => ?_)
  have ZL4 : ∀ (zd4 : Nat) (n : Nat), 3 + 1 ≤ n + zd4 → n ≤ 3 → WA G9 p9 l9 e9 (RM 1 23) s9 m9 ar9 be9 me9 co9 (QP G9 be9 ar9 s9 w ex us (.int (bI (sndA A c)))) 5 (207 + ex.1 + ex.2) us 4 [some (.int (nI c)), some (.ref 204), some (.int (nI (msN c n))), some (.int (nI n)), none] [] (fzM w ex us) := by
    intro zd4
    induction zd4 with
    | zero => intro n zm4 zh4_0; exfalso; omega
    | succ zd4 zih4 =>
      intro n zm4 zh4_0
      refine a_iload_n C dL_isSound_4 rfl rfl ?_
      refine a_iconst (v := nI 3) C dL_isSound_5 (by decide) ?_
      first | refine n_icmp_ge (tgt := 56) C dL_isSound_6 (by decide) (by first | decide | omega) (by first | decide | omega) (fun h_6 => ?_) (fun h_6 => ?_) | refine a_icmp_ge (tgt := 56) C dL_isSound_6 (by decide) (fun h_6 => ?_) (fun h_6 => ?_)
      · obtain rfl : n = 3 := by omega
        have zq_m := msN_lt c 3
        have zq_p := ms_sp hc
        refine a_iload_n C dL_isSound_56 rfl rfl ?_
        refine a_aload_n C dL_isSound_57 rfl rfl ?_
        refine a_bipush (v := nI 6) C dL_isSound_58 (by decide) ?_
        refine n_iald C dL_isSound_60 (tw (by first | decide | omega)) (by first | decide | omega) rfl rfl (by first | decide | omega) (by decide) (LR_s0 hL hA) ?_
        refine n_icmp_gt (tgt := 68) C dL_isSound_61 (by decide) (by first | decide | omega) (by first | decide | omega) (fun h_61 => ?_) (fun h_61 => ?_)
        · refine a_iconst (v := nI 0) C dL_isSound_68 (by decide) ?_
          refine f_iret C hr ?_ dL_isSound_69 ⟨?_, rfl⟩
          · first | exact bI_narrow _ | rfl
          · first | exact bI_tru (decide_eq_true (by omega)) | exact bI_fal (decide_eq_false (by omega))
        · refine a_iconst (v := nI 1) C dL_isSound_64 (by decide) ?_
          refine a_goto (tgt := 69) C dL_isSound_65 (by decide) ?_
          refine f_iret C hr ?_ dL_isSound_69 ⟨?_, rfl⟩
          · first | exact bI_narrow _ | rfl
          · first | exact bI_tru (decide_eq_true (by omega)) | exact bI_fal (decide_eq_false (by omega))
      · refine a_iload_n C dL_isSound_9 rfl rfl ?_
        refine a_iload_n C dL_isSound_10 rfl rfl ?_
        refine p_callS C ((K_L_digit (by first | assumption | decide | omega) (by first | assumption | decide | omega))).cp sL_87 rfl dL_isSound_11 (Nat.le_of_ble_eq_true rfl) ⟨by decide, by decide⟩ ?_
        refine a_iload_n C dL_isSound_14 rfl rfl ?_
        refine a_iload_n C dL_isSound_15 rfl rfl ?_
        refine a_iconst (v := nI 1) C dL_isSound_16 (by decide) ?_
        first | refine n_iadd C dL_isSound_17 ?_ | refine a_iadd C dL_isSound_17 ?_
        refine p_callS C ((K_L_digit (by first | assumption | decide | omega) (by first | assumption | decide | omega))).cp sL_87 rfl dL_isSound_18 (Nat.le_of_ble_eq_true rfl) ⟨by decide, by decide⟩ ?_
        refine a_isub C dL_isSound_21 ?_
        refine a_istore C dL_isSound_22 (by decide) ?_
        refine a_via 49 (nI (max (msN c n) (dfN (dep c n) (dep c (n + 1))))) ?_ (fun zJ49 => ?_)
        · refine a_istore_n C dL_isSound_49 rfl (by decide) ?_
          refine n_iinc C dL_isSound_50 rfl (by decide) ?_
          refine a_goto (tgt := 4) C dL_isSound_53 (by decide) ?_
          refine a_join (aLe_s ?_ (aLe_s ?_ (aLe_s ?_ (aLe_s ?_ (aLe_n aLe_nil))))) rfl rfl (zih4 (n + 1) (by omega) (by omega))
          · first | with_reducible rfl | exact gl (by first | with_reducible rfl | (refine iF ?_; simp [msN, h_6]; done) | (refine iT ?_; simp [msN, h_6]; done) | (refine iB ?_; simp [msN, h_6]; done) | (simp [msN, h_6]; done) | (simp [msN, h_6]; omega) | omega)
          · first | with_reducible rfl | exact gl (by first | with_reducible rfl | (refine iF ?_; simp [msN, h_6]; done) | (refine iT ?_; simp [msN, h_6]; done) | (refine iB ?_; simp [msN, h_6]; done) | (simp [msN, h_6]; done) | (simp [msN, h_6]; omega) | omega)
          · first | with_reducible rfl | exact gl (by first | with_reducible rfl | (refine iF ?_; simp [msN, h_6]; done) | (refine iT ?_; simp [msN, h_6]; done) | (refine iB ?_; simp [msN, h_6]; done) | (simp [msN, h_6]; done) | (simp [msN, h_6]; omega) | omega)
          · first | with_reducible rfl | exact gl (by first | with_reducible rfl | (refine iF ?_; simp [msN, h_6]; done) | (refine iT ?_; simp [msN, h_6]; done) | (refine iB ?_; simp [msN, h_6]; done) | (simp [msN, h_6]; done) | (simp [msN, h_6]; omega) | omega)
        · refine a_iload C dL_isSound_24 rfl ?_
          refine a_iload_n C dL_isSound_26 rfl rfl ?_
          refine a_icmp_le (tgt := 35) C dL_isSound_27 (by decide) (fun h_27 => ?_) (fun h_27 => ?_)
          · refine a_iload C dL_isSound_35 rfl ?_
            refine a_ineg C dL_isSound_37 ?_
            refine a_iload_n C dL_isSound_38 rfl rfl ?_
            refine a_icmp_le (tgt := 48) C dL_isSound_39 (by decide) (fun h_39 => ?_) (fun h_39 => ?_)
            · refine a_iload_n C dL_isSound_48 rfl rfl ?_
              refine a_eq rfl (gl1 ?_) rfl zJ49
              · first | exact mx1 (dep_lt _ _) (dep_lt _ _) (msN_lt _ _) h_27 | exact mx2 (dep_lt _ _) (dep_lt _ _) (msN_lt _ _) h_27 h_39 | exact mx3 (dep_lt _ _) (dep_lt _ _) (msN_lt _ _) h_27 h_39
            · refine a_iload C dL_isSound_42 rfl ?_
              refine a_ineg C dL_isSound_44 ?_
              refine a_goto (tgt := 49) C dL_isSound_45 (by decide) ?_
              refine a_eq rfl (gl1 ?_) rfl zJ49
              · first | exact mx1 (dep_lt _ _) (dep_lt _ _) (msN_lt _ _) h_27 | exact mx2 (dep_lt _ _) (dep_lt _ _) (msN_lt _ _) h_27 h_39 | exact mx3 (dep_lt _ _) (dep_lt _ _) (msN_lt _ _) h_27 h_39
          · refine a_iload C dL_isSound_30 rfl ?_
            refine a_goto (tgt := 49) C dL_isSound_32 (by decide) ?_
            refine a_eq rfl (gl1 ?_) rfl zJ49
            · first | exact mx1 (dep_lt _ _) (dep_lt _ _) (msN_lt _ _) h_27 | exact mx2 (dep_lt _ _) (dep_lt _ _) (msN_lt _ _) h_27 h_39 | exact mx3 (dep_lt _ _) (dep_lt _ _) (msN_lt _ _) h_27 h_39
  refine a_pad 3 ?_
  refine a_eq (L' := [some (.int (nI c)), some (.ref 204), none, none, none]) rfl rfl rfl ?_
  refine a_iconst (v := nI 0) C dL_isSound_0 (by decide) ?_
  refine a_istore_n C dL_isSound_1 rfl (by decide) ?_
  refine a_iconst (v := nI 0) C dL_isSound_2 (by decide) ?_
  refine a_istore_n C dL_isSound_3 rfl (by decide) ?_
  refine a_join (aLe_s ?_ (aLe_s ?_ (aLe_s ?_ (aLe_s ?_ (aLe_n aLe_nil))))) rfl rfl (ZL4 (3 + 1) 0 (by omega) (by omega))
  · first | with_reducible rfl | exact gl (by first | with_reducible rfl | (refine iF ?_; simp [msN]; done) | (refine iT ?_; simp [msN]; done) | (refine iB ?_; simp [msN]; done) | (simp [msN]; done) | (simp [msN]; omega) | omega | rfl)
  · first | with_reducible rfl | exact gl (by first | with_reducible rfl | (refine iF ?_; simp [msN]; done) | (refine iT ?_; simp [msN]; done) | (refine iB ?_; simp [msN]; done) | (simp [msN]; done) | (simp [msN]; omega) | omega | rfl)
  · first | with_reducible rfl | exact gl (by first | with_reducible rfl | (refine iF ?_; simp [msN]; done) | (refine iT ?_; simp [msN]; done) | (refine iB ?_; simp [msN]; done) | (simp [msN]; done) | (simp [msN]; omega) | omega | rfl)
  · first | with_reducible rfl | exact gl (by first | with_reducible rfl | (refine iF ?_; simp [msN]; done) | (refine iT ?_; simp [msN]; done) | (refine iB ?_; simp [msN]; done) | (simp [msN]; done) | (simp [msN]; omega) | omega | rfl)

set_option maxRecDepth 20000 in
set_option maxHeartbeats 4000000 in
theorem K_L_clash {w : Wd} {A : St} (hL : LR w A) (hA : AOK A) {c : Nat} (xk : Int32) (hc : c < 81) : CP yL_clash cL_clash 7 (some .int) 2 47 [.int (nI c), .int xk, .ref 204, .ref 205] w (.int (nI (clA A c xk))) := by
  have zq_n := hA.n12
  have zq_10 := hL.2
  have zq_s := hA.s3
  refine CF.of ok_L_clash (Nat.le_of_ble_eq_true rfl) (fun ex us G9 p9 l9 e9 s9 m9 ar9 be9 me9 co9 C hr => ?_)
  have ZL7 : ∀ (zd7 : Nat) (k : Nat), kN A + 1 ≤ k + zd7 → k ≤ kN A → WA G9 p9 l9 e9 (RM 2 47) s9 m9 ar9 be9 me9 co9 (QP G9 be9 ar9 s9 w ex us (.int (nI (clA A c xk)))) 7 (207 + ex.1 + ex.2) us 7 [some (.int (nI c)), some (.int xk), some (.ref 204), some (.ref 205), some (.int (nI (rsN (clsA A c xk k)))), some (.int (nI k)), none] [] (fzM w ex us) := by
    intro zd7
    induction zd7 with
    | zero => intro k zm7 zh7_0; exfalso; omega
    | succ zd7 zih7 =>
      intro k zm7 zh7_0
      refine a_iload C dL_clash_7 rfl ?_
      refine a_aload_n C dL_clash_9 rfl rfl ?_
      refine a_iconst (v := nI 0) C dL_clash_10 (by decide) ?_
      refine n_iald C dL_clash_11 (tw (by first | decide | omega)) (by first | decide | omega) rfl rfl (by first | decide | omega) (by decide) (LR_n hL hA) ?_
      first | refine n_icmp_ge (tgt := 85) C dL_clash_12 (by decide) (by first | decide | omega) (by first | decide | omega) (fun h_12 => ?_) (fun h_12 => ?_) | refine a_icmp_ge (tgt := 85) C dL_clash_12 (by decide) (fun h_12 => ?_) (fun h_12 => ?_)
      · obtain rfl : k = kN A := by omega
        have zq_r := rs_end (clsA_lt A c xk (kN A))
        have zq_l := rs_lt (clsA_lt A c xk (kN A))
        refine a_iload C dL_clash_85 rfl ?_
        refine a_bipush (v := nI 9) C dL_clash_87 (by decide) ?_
        refine n_icmp_ne (tgt := 96) C dL_clash_89 (by decide) (by first | decide | omega) (by first | decide | omega) (fun h_89 => ?_) (fun h_89 => ?_)
        · refine a_iload C dL_clash_96 rfl ?_
          refine f_iret C hr ?_ dL_clash_98 ⟨?_, rfl⟩
          · rfl
          · first | exact gl (zq_r.1 h_89) | exact gl (zq_r.2 h_89)
        · refine a_iconst (v := nI 0) C dL_clash_92 (by decide) ?_
          refine a_goto (tgt := 98) C dL_clash_93 (by decide) ?_
          refine f_iret C hr ?_ dL_clash_98 ⟨?_, rfl⟩
          · rfl
          · first | exact gl (zq_r.1 h_89) | exact gl (zq_r.2 h_89)
      · refine a_via 56 (nI (fndA A c xk k)) ?_ (fun zJ56 => ?_)
        · refine a_istore C dL_clash_56 (by decide) ?_
          refine a_via 77 (nI (rsN (clsA A c xk (k + 1)))) ?_ (fun zJ77 => ?_)
          · refine a_istore C dL_clash_77 (by decide) ?_
            refine n_iinc C dL_clash_79 rfl (by decide) ?_
            refine a_goto (tgt := 7) C dL_clash_82 (by decide) ?_
            refine a_join (aLe_s ?_ (aLe_s ?_ (aLe_s ?_ (aLe_s ?_ (aLe_s ?_ (aLe_s ?_ (aLe_n aLe_nil))))))) rfl rfl (zih7 (k + 1) (by omega) (by omega))
            · first | with_reducible rfl | exact gl (by first | with_reducible rfl | (refine iF ?_; simp [h_12]; done) | (refine iT ?_; simp [h_12]; done) | (refine iB ?_; simp [h_12]; done) | (simp [h_12]; done) | (simp [h_12]; omega) | omega)
            · first | with_reducible rfl | exact gl (by first | with_reducible rfl | (refine iF ?_; simp [h_12]; done) | (refine iT ?_; simp [h_12]; done) | (refine iB ?_; simp [h_12]; done) | (simp [h_12]; done) | (simp [h_12]; omega) | omega)
            · first | with_reducible rfl | exact gl (by first | with_reducible rfl | (refine iF ?_; simp [h_12]; done) | (refine iT ?_; simp [h_12]; done) | (refine iB ?_; simp [h_12]; done) | (simp [h_12]; done) | (simp [h_12]; omega) | omega)
            · first | with_reducible rfl | exact gl (by first | with_reducible rfl | (refine iF ?_; simp [h_12]; done) | (refine iT ?_; simp [h_12]; done) | (refine iB ?_; simp [h_12]; done) | (simp [h_12]; done) | (simp [h_12]; omega) | omega)
            · first | with_reducible rfl | exact gl (by first | with_reducible rfl | (refine iF ?_; simp [h_12]; done) | (refine iT ?_; simp [h_12]; done) | (refine iB ?_; simp [h_12]; done) | (simp [h_12]; done) | (simp [h_12]; omega) | omega)
            · first | with_reducible rfl | exact gl (by first | with_reducible rfl | (refine iF ?_; simp [h_12]; done) | (refine iT ?_; simp [h_12]; done) | (refine iB ?_; simp [h_12]; done) | (simp [h_12]; done) | (simp [h_12]; omega) | omega)
          · refine a_iload C dL_clash_58 rfl ?_
            refine n_if_le (tgt := 75) C dL_clash_60 (by decide) (by have := fndA_lt A c xk k; omega)  (fun h_60 => ?_) (fun h_60 => ?_)
            · refine a_iload C dL_clash_75 rfl ?_
              refine a_eq rfl (gl1 ?_) rfl zJ77
              · first | exact rs_keep (by have := fndA_lt A c xk k; omega) (Or.inl h_60) | exact rs_keep (by have := fndA_lt A c xk k; omega) (Or.inr h_67) | exact rs_new h_60 h_67
            · refine a_iload C dL_clash_63 rfl ?_
              refine a_iload C dL_clash_65 rfl ?_
              refine n_icmp_ge (tgt := 75) C dL_clash_67 (by decide) (by have := fndA_lt A c xk k; omega) (by have := rs_lt (clsA_lt A c xk k); omega) (fun h_67 => ?_) (fun h_67 => ?_)
              · refine a_iload C dL_clash_75 rfl ?_
                refine a_eq rfl (gl1 ?_) rfl zJ77
                · first | exact rs_keep (by have := fndA_lt A c xk k; omega) (Or.inl h_60) | exact rs_keep (by have := fndA_lt A c xk k; omega) (Or.inr h_67) | exact rs_new h_60 h_67
              · refine a_iload C dL_clash_70 rfl ?_
                refine a_goto (tgt := 77) C dL_clash_72 (by decide) ?_
                refine a_eq rfl (gl1 ?_) rfl zJ77
                · first | exact rs_keep (by have := fndA_lt A c xk k; omega) (Or.inl h_60) | exact rs_keep (by have := fndA_lt A c xk k; omega) (Or.inr h_67) | exact rs_new h_60 h_67
        · have zq_c := hA.c81 (k := k) (by omega)
          refine a_iload C dL_clash_15 rfl ?_
          refine a_iload_n C dL_clash_17 rfl rfl ?_
          refine a_icmp_eq (tgt := 41) C dL_clash_18 (by decide) (fun h_18 => ?_) (fun h_18 => ?_)
          · refine a_iconst (v := nI 0) C dL_clash_41 (by decide) ?_
            refine a_goto (tgt := 56) C dL_clash_42 (by decide) ?_
            refine a_eq rfl (gl1 ?_) rfl zJ56
            · first | exact fnd_no (cts_no h_18) | exact fnd_no (cts_lost (by rw [h_38]; rfl) h_31) | exact fnd_lie (cts_yes2 h_18 h_31) | exact fnd_lie (cts_yes1 h_18 (beq_iff_eq.mpr (by omega)))
          · refine a_aload_n C dL_clash_21 rfl rfl ?_
            refine a_bipush (v := nI 6) C dL_clash_22 (by decide) ?_
            refine a_iload C dL_clash_24 rfl ?_
            first | refine n_imul C dL_clash_26 ?_ | refine a_imul C dL_clash_26 ?_
            refine a_iconst (v := nI 2) C dL_clash_27 (by decide) ?_
            first | refine n_iadd C dL_clash_28 ?_ | refine a_iadd C dL_clash_28 ?_
            refine n_iald C dL_clash_29 (tw (by first | decide | omega)) (by first | decide | omega) rfl rfl (by first | decide | omega) (by decide) (LR_kl hL hA (by omega)) ?_
            refine a_iconst (v := nI 1) C dL_clash_30 (by decide) ?_
            refine b_icmp1_ne (tgt := 45) C dL_clash_31 (by decide) (fun h_31 => ?_) (fun h_31 => ?_)
            · refine a_iload_n C dL_clash_45 rfl rfl ?_
              refine a_aload_n C dL_clash_46 rfl rfl ?_
              refine a_bipush (v := nI 6) C dL_clash_47 (by decide) ?_
              refine a_iload C dL_clash_49 rfl ?_
              first | refine n_imul C dL_clash_51 ?_ | refine a_imul C dL_clash_51 ?_
              refine n_iald C dL_clash_52 (tw (by first | decide | omega)) (by first | decide | omega) rfl rfl (by first | decide | omega) (by decide) (LR_kc hL hA (by omega)) ?_
              refine p_callS C ((K_L_lie (by first | assumption | decide | omega) (by first | assumption | decide | omega))).cp sL_92 rfl dL_clash_53 (Nat.le_of_ble_eq_true rfl) ⟨by decide, by decide⟩ ?_
              refine a_eq rfl (gl1 ?_) rfl zJ56
              · first | exact fnd_no (cts_no h_18) | exact fnd_no (cts_lost (by rw [h_38]; rfl) h_31) | exact fnd_lie (cts_yes2 h_18 h_31) | exact fnd_lie (cts_yes1 h_18 (beq_iff_eq.mpr (by omega)))
            · refine a_aload_n C dL_clash_34 rfl rfl ?_
              refine a_bipush (v := nI 9) C dL_clash_35 (by decide) ?_
              refine n_iald C dL_clash_37 (tw (by first | decide | omega)) (by first | decide | omega) rfl rfl (by first | decide | omega) (by decide) (LR_s3 hL hA) ?_
              refine n_if_ne (tgt := 45) C dL_clash_38 (by decide) (by first | decide | omega)  (fun h_38 => ?_) (fun h_38 => ?_)
              · refine a_iload_n C dL_clash_45 rfl rfl ?_
                refine a_aload_n C dL_clash_46 rfl rfl ?_
                refine a_bipush (v := nI 6) C dL_clash_47 (by decide) ?_
                refine a_iload C dL_clash_49 rfl ?_
                first | refine n_imul C dL_clash_51 ?_ | refine a_imul C dL_clash_51 ?_
                refine n_iald C dL_clash_52 (tw (by first | decide | omega)) (by first | decide | omega) rfl rfl (by first | decide | omega) (by decide) (LR_kc hL hA (by omega)) ?_
                refine p_callS C ((K_L_lie (by first | assumption | decide | omega) (by first | assumption | decide | omega))).cp sL_92 rfl dL_clash_53 (Nat.le_of_ble_eq_true rfl) ⟨by decide, by decide⟩ ?_
                refine a_eq rfl (gl1 ?_) rfl zJ56
                · first | exact fnd_no (cts_no h_18) | exact fnd_no (cts_lost (by rw [h_38]; rfl) h_31) | exact fnd_lie (cts_yes2 h_18 h_31) | exact fnd_lie (cts_yes1 h_18 (beq_iff_eq.mpr (by omega)))
              · refine a_iconst (v := nI 0) C dL_clash_41 (by decide) ?_
                refine a_goto (tgt := 56) C dL_clash_42 (by decide) ?_
                refine a_eq rfl (gl1 ?_) rfl zJ56
                · first | exact fnd_no (cts_no h_18) | exact fnd_no (cts_lost (by rw [h_38]; rfl) h_31) | exact fnd_lie (cts_yes2 h_18 h_31) | exact fnd_lie (cts_yes1 h_18 (beq_iff_eq.mpr (by omega)))
  refine a_pad 3 ?_
  refine a_eq (L' := [some (.int (nI c)), some (.int xk), some (.ref 204), some (.ref 205), none, none, none]) rfl rfl rfl ?_
  refine a_bipush (v := nI 9) C dL_clash_0 (by decide) ?_
  refine a_istore C dL_clash_2 (by decide) ?_
  refine a_iconst (v := nI 0) C dL_clash_4 (by decide) ?_
  refine a_istore C dL_clash_5 (by decide) ?_
  refine a_join (aLe_s ?_ (aLe_s ?_ (aLe_s ?_ (aLe_s ?_ (aLe_s ?_ (aLe_s ?_ (aLe_n aLe_nil))))))) rfl rfl (ZL7 (kN A + 1) 0 (by omega) (by omega))
  · first | with_reducible rfl | exact gl (by first | with_reducible rfl | (refine iF ?_; simp []; done) | (refine iT ?_; simp []; done) | (refine iB ?_; simp []; done) | (simp []; done) | (simp []; omega) | omega | rfl)
  · first | with_reducible rfl | exact gl (by first | with_reducible rfl | (refine iF ?_; simp []; done) | (refine iT ?_; simp []; done) | (refine iB ?_; simp []; done) | (simp []; done) | (simp []; omega) | omega | rfl)
  · first | with_reducible rfl | exact gl (by first | with_reducible rfl | (refine iF ?_; simp []; done) | (refine iT ?_; simp []; done) | (refine iB ?_; simp []; done) | (simp []; done) | (simp []; omega) | omega | rfl)
  · first | with_reducible rfl | exact gl (by first | with_reducible rfl | (refine iF ?_; simp []; done) | (refine iT ?_; simp []; done) | (refine iB ?_; simp []; done) | (simp []; done) | (simp []; omega) | omega | rfl)
  · first | with_reducible rfl | exact gl (by first | with_reducible rfl | (refine iF ?_; simp []; done) | (refine iT ?_; simp []; done) | (refine iB ?_; simp []; done) | (simp []; done) | (simp []; omega) | omega | rfl)
  · first | with_reducible rfl | exact gl (by first | with_reducible rfl | (refine iF ?_; simp []; done) | (refine iT ?_; simp []; done) | (refine iB ?_; simp []; done) | (simp []; done) | (simp []; omega) | omega | rfl)

end A57

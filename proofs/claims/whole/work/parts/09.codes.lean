section A9
theorem wtN_lt {k : Nat} : 0 < wtN k ∧ wtN k < 28 := by
  unfold wtN
  split <;> decide
theorem dep_lt (c k : Nat) : dep c k < 3 := Nat.mod_lt _ (by decide)
theorem all81 {P : Nat → Bool} (h : (List.range 81).all P = true) {c : Nat} (hc : c < 81) : P c = true := List.all_eq_true.mp h c (List.mem_range.mpr hc)
theorem all81b {P : Nat → Nat → Bool} (h : (List.range 81).all (fun c => (List.range 81).all (P c)) = true) {c d : Nat} (hc : c < 81) (hd : d < 81) : P c d = true := all81 (all81 h hc) hd
theorem wt81 {c k : Nat} (hc : c < 81) (hk : k < 4) (h : dep c k < 2) : c + wtN k < 81 := by
  have := all81 (P := fun c => (List.range 4).all fun k => !(decide (dep c k < 2)) || decide (c + wtN k < 81)) (by decide +kernel) hc
  have := List.all_eq_true.mp this k (List.mem_range.mpr hk)
  simpa [h] using this
theorem wo81 {c : Nat} (hc : c < 81) : woN c < 81 := by
  have := all81 (P := fun c => decide (woN c < 81)) (by decide +kernel) hc
  simpa using this
/-- lies under, by the notches ahead of k alone -/
def undP (c d k : Nat) : Bool := c != d && (List.range k).all (fun j => decide (dep c j ≤ dep d j))
theorem undP_4 (c d : Nat) : undP c d 4 = und c d := by
  simp [undP, und, List.range_succ, Bool.and_assoc]
theorem undP_s (c d k : Nat) : undP c d (k + 1) = (undP c d k && decide (dep c k ≤ dep d k)) := by
  simp [undP, List.range_succ, List.all_append, Bool.and_assoc]
/-- the shallowest notch of those ahead of k -/
def shP (c k : Nat) : Nat := match k with
  | 0 => 0
  | j + 1 => if dep c j < dep c (shP c j) then j else shP c j
theorem shP_lt (c : Nat) : ∀ k, 0 < k → k ≤ 4 → shP c k < k := by
  intro k
  induction k with
  | zero => intro h; omega
  | succ j ih =>
    intro _ h4
    show (if dep c j < dep c (shP c j) then j else shP c j) < j + 1
    by_cases hj : j = 0
    · subst hj; simp [shP]
    · have := ih (by omega) (by omega)
      split <;> omega
theorem shP_4 {c : Nat} (hc : c < 81) : shP c 4 = shN c := by
  have := all81 (P := fun c => decide (shP c 4 = shN c)) (by decide +kernel) hc
  simpa using this

set_option maxRecDepth 20000 in
set_option maxHeartbeats 4000000 in
theorem K_X7_within (v a b : Int32) : CS yX7_within cX7_within 3 (some .boolean) 0 0 [.int v, .int a, .int b] (.int (bI (decide (a ≤ v ∧ v ≤ b)))) := by
  refine CS.of ok_X7_within (Nat.le_of_ble_eq_true rfl) (fun M9 G9 p9 l9 e9 s9 m9 ar9 be9 me9 co9 C hr => ?_)
  refine a_iload_n C dX7_within_0 rfl rfl ?_
  refine a_iload_n C dX7_within_1 rfl rfl ?_
  refine a_icmp_lt (tgt := 14) C dX7_within_2 (by decide) (fun h_2 => ?_) (fun h_2 => ?_)
  · refine a_iconst (v := nI 0) C dX7_within_14 (by decide) ?_
    refine a_iret C hr ?_ dX7_within_15 rfl rfl ⟨?_, rfl⟩
    · first | rfl | exact bI_narrow _
    · simp only [Int32.lt_iff_toInt_lt, Int32.le_iff_toInt_le] at *
      first | exact bI_tru (decide_eq_true (by omega)) | exact bI_fal (decide_eq_false (by omega))
  · refine a_iload_n C dX7_within_5 rfl rfl ?_
    refine a_iload_n C dX7_within_6 rfl rfl ?_
    refine a_icmp_gt (tgt := 14) C dX7_within_7 (by decide) (fun h_7 => ?_) (fun h_7 => ?_)
    · refine a_iconst (v := nI 0) C dX7_within_14 (by decide) ?_
      refine a_iret C hr ?_ dX7_within_15 rfl rfl ⟨?_, rfl⟩
      · first | rfl | exact bI_narrow _
      · simp only [Int32.lt_iff_toInt_lt, Int32.le_iff_toInt_le] at *
        first | exact bI_tru (decide_eq_true (by omega)) | exact bI_fal (decide_eq_false (by omega))
    · refine a_iconst (v := nI 1) C dX7_within_10 (by decide) ?_
      refine a_goto (tgt := 15) C dX7_within_11 (by decide) ?_
      refine a_iret C hr ?_ dX7_within_15 rfl rfl ⟨?_, rfl⟩
      · first | rfl | exact bI_narrow _
      · simp only [Int32.lt_iff_toInt_lt, Int32.le_iff_toInt_le] at *
        first | exact bI_tru (decide_eq_true (by omega)) | exact bI_fal (decide_eq_false (by omega))

set_option maxRecDepth 20000 in
set_option maxHeartbeats 4000000 in
theorem K_X7_isCode (v : Int32) : CS yX7_isCode cX7_isCode 1 (some .boolean) 1 22 [.int v] (.int (bI (inR v 81))) := by
  refine CS.of ok_X7_isCode (Nat.le_of_ble_eq_true rfl) (fun M9 G9 p9 l9 e9 s9 m9 ar9 be9 me9 co9 C hr => ?_)
  refine a_iload_n C dX7_isCode_0 rfl rfl ?_
  refine a_iconst (v := nI 0) C dX7_isCode_1 (by decide) ?_
  refine a_bipush (v := nI 80) C dX7_isCode_2 (by decide) ?_
  refine s_callS C (K_X7_within _ _ _) sX7_57 rfl dX7_isCode_4 (Nat.le_of_ble_eq_true rfl) ⟨by decide, by decide⟩ ⟨Nat.le_refl _, Nat.le_refl _⟩ ?_
  refine a_iret C hr ?_ dX7_isCode_7 rfl rfl ⟨?_, rfl⟩
  · first | rfl | exact bI_narrow _
  · have zq_1 : (nI 0 ≤ v ∧ v ≤ nI 80) ↔ (0 ≤ v.toInt ∧ v.toInt < 81) := by simp only [Int32.le_iff_toInt_le]; rw [nI_toInt (by decide), nI_toInt (by decide)]; omega
    simp only [inR, zq_1]; rfl

set_option maxRecDepth 20000 in
set_option maxHeartbeats 4000000 in
theorem K_X7_worth {k : Nat} (hk : k < 4) : CS yX7_worth cX7_worth 1 (some .int) 0 0 [.int (nI k)] (.int (nI (wtN k))) := by
  refine CS.of ok_X7_worth (Nat.le_of_ble_eq_true rfl) (fun M9 G9 p9 l9 e9 s9 m9 ar9 be9 me9 co9 C hr => ?_)
  refine a_iload_n C dX7_worth_0 rfl rfl ?_
  refine n_if_ne (tgt := 9) C dX7_worth_1 (by decide) (by first | decide | omega)  (fun h_1 => ?_) (fun h_1 => ?_)
  · refine a_iload_n C dX7_worth_9 rfl rfl ?_
    refine a_iconst (v := nI 1) C dX7_worth_10 (by decide) ?_
    refine n_icmp_ne (tgt := 19) C dX7_worth_11 (by decide) (by first | decide | omega) (by first | decide | omega) (fun h_11 => ?_) (fun h_11 => ?_)
    · refine a_iload_n C dX7_worth_19 rfl rfl ?_
      refine a_iconst (v := nI 2) C dX7_worth_20 (by decide) ?_
      refine n_icmp_ne (tgt := 28) C dX7_worth_21 (by decide) (by first | decide | omega) (by first | decide | omega) (fun h_21 => ?_) (fun h_21 => ?_)
      · refine a_iconst (v := nI 1) C dX7_worth_28 (by decide) ?_
        refine a_iret C hr ?_ dX7_worth_29 rfl rfl ⟨?_, rfl⟩
        · first | rfl | exact bI_narrow _
        · (rcases (show k = 0 ∨ k = 1 ∨ k = 2 ∨ k = 3 by omega) with rfl | rfl | rfl | rfl <;> first | rfl | (exfalso; omega))
      · refine a_iconst (v := nI 3) C dX7_worth_24 (by decide) ?_
        refine a_goto (tgt := 29) C dX7_worth_25 (by decide) ?_
        refine a_iret C hr ?_ dX7_worth_29 rfl rfl ⟨?_, rfl⟩
        · first | rfl | exact bI_narrow _
        · (rcases (show k = 0 ∨ k = 1 ∨ k = 2 ∨ k = 3 by omega) with rfl | rfl | rfl | rfl <;> first | rfl | (exfalso; omega))
    · refine a_bipush (v := nI 9) C dX7_worth_14 (by decide) ?_
      refine a_goto (tgt := 29) C dX7_worth_16 (by decide) ?_
      refine a_iret C hr ?_ dX7_worth_29 rfl rfl ⟨?_, rfl⟩
      · first | rfl | exact bI_narrow _
      · (rcases (show k = 0 ∨ k = 1 ∨ k = 2 ∨ k = 3 by omega) with rfl | rfl | rfl | rfl <;> first | rfl | (exfalso; omega))
  · refine a_bipush (v := nI 27) C dX7_worth_4 (by decide) ?_
    refine a_goto (tgt := 29) C dX7_worth_6 (by decide) ?_
    refine a_iret C hr ?_ dX7_worth_29 rfl rfl ⟨?_, rfl⟩
    · first | rfl | exact bI_narrow _
    · (rcases (show k = 0 ∨ k = 1 ∨ k = 2 ∨ k = 3 by omega) with rfl | rfl | rfl | rfl <;> first | rfl | (exfalso; omega))

set_option maxRecDepth 20000 in
set_option maxHeartbeats 4000000 in
theorem K_X7_depth {c k : Nat} (hc : c < 81) (hk : k < 4) : CS yX7_depth cX7_depth 2 (some .int) 1 20 [.int (nI c), .int (nI k)] (.int (nI (dep c k))) := by
  refine CS.of ok_X7_depth (Nat.le_of_ble_eq_true rfl) (fun M9 G9 p9 l9 e9 s9 m9 ar9 be9 me9 co9 C hr => ?_)
  refine a_iload_n C dX7_depth_0 rfl rfl ?_
  refine a_iload_n C dX7_depth_1 rfl rfl ?_
  refine s_callS C (K_X7_worth hk) sX7_79 rfl dX7_depth_2 (Nat.le_of_ble_eq_true rfl) ⟨by decide, by decide⟩ ⟨Nat.le_refl _, Nat.le_refl _⟩ ?_
  refine n_idiv C dX7_depth_5 (by omega) wtN_lt.1 (by have := wtN_lt (k := k); omega) ?_
  refine a_iconst (v := nI 3) C dX7_depth_6 (by decide) ?_
  refine n_irem C dX7_depth_7 (by have := Nat.div_le_self c (wtN k); omega) (by decide) (by decide) ?_
  refine a_iret C hr ?_ dX7_depth_8 rfl rfl ⟨?_, rfl⟩
  · first | rfl | exact bI_narrow _
  · rfl

set_option maxRecDepth 20000 in
set_option maxHeartbeats 4000000 in
theorem K_X7_levelOf {c : Nat} (hc : c < 81) : CS yX7_levelOf cX7_levelOf 1 (some .int) 0 0 [.int (nI c)] (.int (nI (lvN c))) := by
  refine CS.of ok_X7_levelOf (Nat.le_of_ble_eq_true rfl) (fun M9 G9 p9 l9 e9 s9 m9 ar9 be9 me9 co9 C hr => ?_)
  refine a_iload_n C dX7_levelOf_0 rfl rfl ?_
  refine a_bipush (v := nI 27) C dX7_levelOf_1 (by decide) ?_
  refine n_idiv C dX7_levelOf_3 (by first | decide | omega) (by first | decide | omega) (by first | decide | omega) ?_
  refine a_iload_n C dX7_levelOf_4 rfl rfl ?_
  refine a_bipush (v := nI 9) C dX7_levelOf_5 (by decide) ?_
  refine n_idiv C dX7_levelOf_7 (by first | decide | omega) (by first | decide | omega) (by first | decide | omega) ?_
  refine a_iconst (v := nI 3) C dX7_levelOf_8 (by decide) ?_
  refine n_irem C dX7_levelOf_9 (by first | decide | omega) (by first | decide | omega) (by first | decide | omega) ?_
  first | refine n_iadd C dX7_levelOf_10 ?_ | refine a_iadd C dX7_levelOf_10 ?_
  refine a_iload_n C dX7_levelOf_11 rfl rfl ?_
  refine a_iconst (v := nI 3) C dX7_levelOf_12 (by decide) ?_
  refine n_idiv C dX7_levelOf_13 (by first | decide | omega) (by first | decide | omega) (by first | decide | omega) ?_
  refine a_iconst (v := nI 3) C dX7_levelOf_14 (by decide) ?_
  refine n_irem C dX7_levelOf_15 (by first | decide | omega) (by first | decide | omega) (by first | decide | omega) ?_
  first | refine n_iadd C dX7_levelOf_16 ?_ | refine a_iadd C dX7_levelOf_16 ?_
  refine a_iload_n C dX7_levelOf_17 rfl rfl ?_
  refine a_iconst (v := nI 3) C dX7_levelOf_18 (by decide) ?_
  refine n_irem C dX7_levelOf_19 (by first | decide | omega) (by first | decide | omega) (by first | decide | omega) ?_
  first | refine n_iadd C dX7_levelOf_20 ?_ | refine a_iadd C dX7_levelOf_20 ?_
  refine a_iret C hr ?_ dX7_levelOf_21 rfl rfl ⟨?_, rfl⟩
  · first | rfl | exact bI_narrow _
  · have := all81 (P := fun c => decide (c / 27 + c / 9 % 3 + c / 3 % 3 + c % 3 = lvN c)) (by decide +kernel) hc
    have zq_1 : c / 27 + c / 9 % 3 + c / 3 % 3 + c % 3 = lvN c := by simpa using this
    rw [zq_1]

set_option maxRecDepth 20000 in
set_option maxHeartbeats 4000000 in
theorem K_X7_liesUnder {c d : Nat} (hc : c < 81) (hd : d < 81) : CS yX7_liesUnder cX7_liesUnder 4 (some .boolean) 2 41 [.int (nI c), .int (nI d)] (.int (bI (und c d))) := by
  refine CS.of ok_X7_liesUnder (Nat.le_of_ble_eq_true rfl) (fun M9 G9 p9 l9 e9 s9 m9 ar9 be9 me9 co9 C hr => ?_)
  have ZL13 : ∀ (zd13 : Nat) (k : Nat), 4 + 1 ≤ k + zd13 → k ≤ 4 → WA G9 p9 l9 e9 (RM 2 41) s9 m9 ar9 be9 me9 co9 (QS G9 be9 ar9 s9 M9 (.int (bI (und c d)))) 4 (M9.1 + M9.2.1) M9.2.2.1 13 [some (.int (nI c)), some (.int (nI d)), some (.int (bI (undP c d k))), some (.int (nI k))] [] M9 := by
    intro zd13
    induction zd13 with
    | zero => intro k zm13 zh13_0; exfalso; omega
    | succ zd13 zih13 =>
      intro k zm13 zh13_0
      refine a_iload_n C dX7_liesUnder_13 rfl rfl ?_
      refine a_iconst (v := nI 4) C dX7_liesUnder_14 (by decide) ?_
      first | refine n_icmp_ge (tgt := 47) C dX7_liesUnder_15 (by decide) (by first | decide | omega) (by first | decide | omega) (fun h_15 => ?_) (fun h_15 => ?_) | refine a_icmp_ge (tgt := 47) C dX7_liesUnder_15 (by decide) (fun h_15 => ?_) (fun h_15 => ?_)
      · obtain rfl : k = 4 := by omega
        refine a_iload_n C dX7_liesUnder_47 rfl rfl ?_
        refine a_iret C hr ?_ dX7_liesUnder_48 rfl rfl ⟨?_, rfl⟩
        · first | exact bI_narrow _ | rfl
        · rw [undP_4]
      · refine a_via 40 (bI (undP c d (k + 1))) ?_ (fun zJ40 => ?_)
        · refine a_istore_n C dX7_liesUnder_40 rfl (by decide) ?_
          refine n_iinc C dX7_liesUnder_41 rfl (by decide) ?_
          refine a_goto (tgt := 13) C dX7_liesUnder_44 (by decide) ?_
          refine a_join (aLe_s ?_ (aLe_s ?_ (aLe_s ?_ (aLe_s ?_ aLe_nil)))) rfl rfl (zih13 (k + 1) (by omega) (by omega))
          · first | with_reducible rfl | exact gl (by first | with_reducible rfl | (refine iF ?_; simp [undP_s, bI, h_15]; done) | (refine iT ?_; simp [undP_s, bI, h_15]; done) | (refine iB ?_; simp [undP_s, bI, h_15]; done) | (simp [undP_s, bI, h_15]; done) | (simp [undP_s, bI, h_15]; omega) | omega)
          · first | with_reducible rfl | exact gl (by first | with_reducible rfl | (refine iF ?_; simp [undP_s, bI, h_15]; done) | (refine iT ?_; simp [undP_s, bI, h_15]; done) | (refine iB ?_; simp [undP_s, bI, h_15]; done) | (simp [undP_s, bI, h_15]; done) | (simp [undP_s, bI, h_15]; omega) | omega)
          · first | with_reducible rfl | exact gl (by first | with_reducible rfl | (refine iF ?_; simp [undP_s, bI, h_15]; done) | (refine iT ?_; simp [undP_s, bI, h_15]; done) | (refine iB ?_; simp [undP_s, bI, h_15]; done) | (simp [undP_s, bI, h_15]; done) | (simp [undP_s, bI, h_15]; omega) | omega)
          · first | with_reducible rfl | exact gl (by first | with_reducible rfl | (refine iF ?_; simp [undP_s, bI, h_15]; done) | (refine iT ?_; simp [undP_s, bI, h_15]; done) | (refine iB ?_; simp [undP_s, bI, h_15]; done) | (simp [undP_s, bI, h_15]; done) | (simp [undP_s, bI, h_15]; omega) | omega)
        · refine a_iload_n C dX7_liesUnder_18 rfl rfl ?_
          first | refine b_if_eq (tgt := 39) C dX7_liesUnder_19 (by decide) (fun h_19 => ?_) (fun h_19 => ?_) | refine n_if_eq (tgt := 39) C dX7_liesUnder_19 (by decide) (by first | decide | omega) (fun h_19 => ?_) (fun h_19 => ?_) | refine a_if_eq (tgt := 39) C dX7_liesUnder_19 (by decide) (fun h_19 => ?_) (fun h_19 => ?_)
          · refine a_iconst (v := nI 0) C dX7_liesUnder_39 (by decide) ?_
            refine a_eq rfl (gl1 ?_) rfl zJ40
            · first | with_reducible rfl | (refine iF ?_; simp [undP_s, bI, h_15, h_19]; done) | (refine iT ?_; simp [undP_s, bI, h_15, h_19]; done) | (refine iB ?_; simp [undP_s, bI, h_15, h_19]; done) | (simp [undP_s, bI, h_15, h_19]; done) | (simp [undP_s, bI, h_15, h_19]; omega) | omega
          · refine a_iload_n C dX7_liesUnder_22 rfl rfl ?_
            refine a_iload_n C dX7_liesUnder_23 rfl rfl ?_
            refine s_callS C (K_X7_depth (by first | assumption | decide | omega) (by first | assumption | decide | omega)) sX7_82 rfl dX7_liesUnder_24 (Nat.le_of_ble_eq_true rfl) ⟨by decide, by decide⟩ ⟨Nat.le_refl _, Nat.le_refl _⟩ ?_
            refine a_iload_n C dX7_liesUnder_27 rfl rfl ?_
            refine a_iload_n C dX7_liesUnder_28 rfl rfl ?_
            refine s_callS C (K_X7_depth (by first | assumption | decide | omega) (by first | assumption | decide | omega)) sX7_82 rfl dX7_liesUnder_29 (Nat.le_of_ble_eq_true rfl) ⟨by decide, by decide⟩ ⟨Nat.le_refl _, Nat.le_refl _⟩ ?_
            refine n_icmp_gt (tgt := 39) C dX7_liesUnder_32 (by decide) (by have := dep_lt c k; omega) (by have := dep_lt d k; omega) (fun h_32 => ?_) (fun h_32 => ?_)
            · have zq_e : decide (dep c k ≤ dep d k) = false := decide_eq_false (by omega)
              refine a_iconst (v := nI 0) C dX7_liesUnder_39 (by decide) ?_
              refine a_eq rfl (gl1 ?_) rfl zJ40
              · first | with_reducible rfl | (refine iF ?_; simp [undP_s, bI, h_15, h_19, zq_e]; done) | (refine iT ?_; simp [undP_s, bI, h_15, h_19, zq_e]; done) | (refine iB ?_; simp [undP_s, bI, h_15, h_19, zq_e]; done) | (simp [undP_s, bI, h_15, h_19, zq_e]; done) | (simp [undP_s, bI, h_15, h_19, zq_e]; omega) | omega
            · have zq_e : decide (dep c k ≤ dep d k) = true := decide_eq_true (by omega)
              refine a_iconst (v := nI 1) C dX7_liesUnder_35 (by decide) ?_
              refine a_goto (tgt := 40) C dX7_liesUnder_36 (by decide) ?_
              refine a_eq rfl (gl1 ?_) rfl zJ40
              · first | with_reducible rfl | (refine iF ?_; simp [undP_s, bI, h_15, h_19, zq_e]; done) | (refine iT ?_; simp [undP_s, bI, h_15, h_19, zq_e]; done) | (refine iB ?_; simp [undP_s, bI, h_15, h_19, zq_e]; done) | (simp [undP_s, bI, h_15, h_19, zq_e]; done) | (simp [undP_s, bI, h_15, h_19, zq_e]; omega) | omega
  refine a_pad 2 ?_
  refine a_eq (L' := [some (.int (nI c)), some (.int (nI d)), none, none]) rfl rfl rfl ?_
  refine a_via 10 (bI (undP c d 0)) ?_ (fun zJ10 => ?_)
  · refine a_istore_n C dX7_liesUnder_10 rfl (by decide) ?_
    refine a_iconst (v := nI 0) C dX7_liesUnder_11 (by decide) ?_
    refine a_istore_n C dX7_liesUnder_12 rfl (by decide) ?_
    refine a_join (aLe_s ?_ (aLe_s ?_ (aLe_s ?_ (aLe_s ?_ aLe_nil)))) rfl rfl (ZL13 (4 + 1) 0 (by omega) (by omega))
    · first | with_reducible rfl | exact gl (by first | with_reducible rfl | (refine iF ?_; simp [undP_s, bI]; done) | (refine iT ?_; simp [undP_s, bI]; done) | (refine iB ?_; simp [undP_s, bI]; done) | (simp [undP_s, bI]; done) | (simp [undP_s, bI]; omega) | omega | rfl)
    · first | with_reducible rfl | exact gl (by first | with_reducible rfl | (refine iF ?_; simp [undP_s, bI]; done) | (refine iT ?_; simp [undP_s, bI]; done) | (refine iB ?_; simp [undP_s, bI]; done) | (simp [undP_s, bI]; done) | (simp [undP_s, bI]; omega) | omega | rfl)
    · first | with_reducible rfl | exact gl (by first | with_reducible rfl | (refine iF ?_; simp [undP_s, bI]; done) | (refine iT ?_; simp [undP_s, bI]; done) | (refine iB ?_; simp [undP_s, bI]; done) | (simp [undP_s, bI]; done) | (simp [undP_s, bI]; omega) | omega | rfl)
    · first | with_reducible rfl | exact gl (by first | with_reducible rfl | (refine iF ?_; simp [undP_s, bI]; done) | (refine iT ?_; simp [undP_s, bI]; done) | (refine iB ?_; simp [undP_s, bI]; done) | (simp [undP_s, bI]; done) | (simp [undP_s, bI]; omega) | omega | rfl)
  · refine a_iload_n C dX7_liesUnder_0 rfl rfl ?_
    refine a_iload_n C dX7_liesUnder_1 rfl rfl ?_
    refine n_icmp_eq (tgt := 9) C dX7_liesUnder_2 (by decide) (by first | decide | omega) (by first | decide | omega) (fun h_2 => ?_) (fun h_2 => ?_)
    · refine a_iconst (v := nI 0) C dX7_liesUnder_9 (by decide) ?_
      refine a_eq rfl (gl1 ?_) rfl zJ10
      · first | (rw [show undP c d 0 = false by subst h_2; simp [undP]]; rfl) | (rw [show undP c d 0 = true by simp [undP, h_2]]; rfl)
    · refine a_iconst (v := nI 1) C dX7_liesUnder_5 (by decide) ?_
      refine a_goto (tgt := 10) C dX7_liesUnder_6 (by decide) ?_
      refine a_eq rfl (gl1 ?_) rfl zJ10
      · first | (rw [show undP c d 0 = false by subst h_2; simp [undP]]; rfl) | (rw [show undP c d 0 = true by simp [undP, h_2]]; rfl)

set_option maxRecDepth 20000 in
set_option maxHeartbeats 4000000 in
theorem K_X7_isCrossed {c d : Nat} (hc : c < 81) (hd : d < 81) : CS yX7_isCrossed cX7_isCrossed 2 (some .boolean) 3 64 [.int (nI c), .int (nI d)] (.int (bI (c == d || und c d || und d c))) := by
  refine CS.of ok_X7_isCrossed (Nat.le_of_ble_eq_true rfl) (fun M9 G9 p9 l9 e9 s9 m9 ar9 be9 me9 co9 C hr => ?_)
  refine a_iload_n C dX7_isCrossed_0 rfl rfl ?_
  refine a_iload_n C dX7_isCrossed_1 rfl rfl ?_
  refine n_icmp_eq (tgt := 21) C dX7_isCrossed_2 (by decide) (by first | decide | omega) (by first | decide | omega) (fun h_2 => ?_) (fun h_2 => ?_)
  · refine a_iconst (v := nI 1) C dX7_isCrossed_21 (by decide) ?_
    refine a_goto (tgt := 26) C dX7_isCrossed_22 (by decide) ?_
    refine a_iret C hr ?_ dX7_isCrossed_26 rfl rfl ⟨?_, rfl⟩
    · first | rfl | exact bI_narrow _
    · first | exact bI_tru (by simp_all) | exact bI_fal (by simp_all)
  · refine a_iload_n C dX7_isCrossed_5 rfl rfl ?_
    refine a_iload_n C dX7_isCrossed_6 rfl rfl ?_
    refine s_callS C (K_X7_liesUnder hc hd) sX7_49 rfl dX7_isCrossed_7 (Nat.le_of_ble_eq_true rfl) ⟨by decide, by decide⟩ ⟨Nat.le_refl _, Nat.le_refl _⟩ ?_
    first | refine b_if_ne (tgt := 21) C dX7_isCrossed_10 (by decide) (fun h_10 => ?_) (fun h_10 => ?_) | refine n_if_ne (tgt := 21) C dX7_isCrossed_10 (by decide) (by first | decide | omega) (fun h_10 => ?_) (fun h_10 => ?_)
    · refine a_iconst (v := nI 1) C dX7_isCrossed_21 (by decide) ?_
      refine a_goto (tgt := 26) C dX7_isCrossed_22 (by decide) ?_
      refine a_iret C hr ?_ dX7_isCrossed_26 rfl rfl ⟨?_, rfl⟩
      · first | rfl | exact bI_narrow _
      · first | exact bI_tru (by simp_all) | exact bI_fal (by simp_all)
    · refine a_iload_n C dX7_isCrossed_13 rfl rfl ?_
      refine a_iload_n C dX7_isCrossed_14 rfl rfl ?_
      refine s_callS C (K_X7_liesUnder hd hc) sX7_49 rfl dX7_isCrossed_15 (Nat.le_of_ble_eq_true rfl) ⟨by decide, by decide⟩ ⟨Nat.le_refl _, Nat.le_refl _⟩ ?_
      first | refine b_if_eq (tgt := 25) C dX7_isCrossed_18 (by decide) (fun h_18 => ?_) (fun h_18 => ?_) | refine n_if_eq (tgt := 25) C dX7_isCrossed_18 (by decide) (by first | decide | omega) (fun h_18 => ?_) (fun h_18 => ?_)
      · refine a_iconst (v := nI 0) C dX7_isCrossed_25 (by decide) ?_
        refine a_iret C hr ?_ dX7_isCrossed_26 rfl rfl ⟨?_, rfl⟩
        · first | rfl | exact bI_narrow _
        · first | exact bI_tru (by simp_all) | exact bI_fal (by simp_all)
      · refine a_iconst (v := nI 1) C dX7_isCrossed_21 (by decide) ?_
        refine a_goto (tgt := 26) C dX7_isCrossed_22 (by decide) ?_
        refine a_iret C hr ?_ dX7_isCrossed_26 rfl rfl ⟨?_, rfl⟩
        · first | rfl | exact bI_narrow _
        · first | exact bI_tru (by simp_all) | exact bI_fal (by simp_all)

set_option maxRecDepth 20000 in
set_option maxHeartbeats 4000000 in
theorem K_X7_reaches {c d : Nat} (hc : c < 81) (hd : d < 81) : CS yX7_reaches cX7_reaches 2 (some .boolean) 3 64 [.int (nI c), .int (nI d)] (.int (bI (c == d || und d c))) := by
  refine CS.of ok_X7_reaches (Nat.le_of_ble_eq_true rfl) (fun M9 G9 p9 l9 e9 s9 m9 ar9 be9 me9 co9 C hr => ?_)
  refine a_iload_n C dX7_reaches_0 rfl rfl ?_
  refine a_iload_n C dX7_reaches_1 rfl rfl ?_
  refine n_icmp_eq (tgt := 13) C dX7_reaches_2 (by decide) (by first | decide | omega) (by first | decide | omega) (fun h_2 => ?_) (fun h_2 => ?_)
  · refine a_iconst (v := nI 1) C dX7_reaches_13 (by decide) ?_
    refine a_goto (tgt := 18) C dX7_reaches_14 (by decide) ?_
    refine a_iret C hr ?_ dX7_reaches_18 rfl rfl ⟨?_, rfl⟩
    · first | rfl | exact bI_narrow _
    · first | exact bI_tru (by simp_all) | exact bI_fal (by simp_all)
  · refine a_iload_n C dX7_reaches_5 rfl rfl ?_
    refine a_iload_n C dX7_reaches_6 rfl rfl ?_
    refine s_callS C (K_X7_liesUnder hd hc) sX7_49 rfl dX7_reaches_7 (Nat.le_of_ble_eq_true rfl) ⟨by decide, by decide⟩ ⟨Nat.le_refl _, Nat.le_refl _⟩ ?_
    first | refine b_if_eq (tgt := 17) C dX7_reaches_10 (by decide) (fun h_10 => ?_) (fun h_10 => ?_) | refine n_if_eq (tgt := 17) C dX7_reaches_10 (by decide) (by first | decide | omega) (fun h_10 => ?_) (fun h_10 => ?_)
    · refine a_iconst (v := nI 0) C dX7_reaches_17 (by decide) ?_
      refine a_iret C hr ?_ dX7_reaches_18 rfl rfl ⟨?_, rfl⟩
      · first | rfl | exact bI_narrow _
      · first | exact bI_tru (by simp_all) | exact bI_fal (by simp_all)
    · refine a_iconst (v := nI 1) C dX7_reaches_13 (by decide) ?_
      refine a_goto (tgt := 18) C dX7_reaches_14 (by decide) ?_
      refine a_iret C hr ?_ dX7_reaches_18 rfl rfl ⟨?_, rfl⟩
      · first | rfl | exact bI_narrow _
      · first | exact bI_tru (by simp_all) | exact bI_fal (by simp_all)

set_option maxRecDepth 20000 in
set_option maxHeartbeats 4000000 in
theorem K_X7_wornCode {c : Nat} (hc : c < 81) : CS yX7_wornCode cX7_wornCode 3 (some .int) 2 41 [.int (nI c)] (.int (nI (woN c))) := by
  refine CS.of ok_X7_wornCode (Nat.le_of_ble_eq_true rfl) (fun M9 G9 p9 l9 e9 s9 m9 ar9 be9 me9 co9 C hr => ?_)
  have ZL4 : ∀ (zd4 : Nat) (k : Nat), 4 + 1 ≤ k + zd4 → k ≤ 4 → 1 ≤ k → WA G9 p9 l9 e9 (RM 2 41) s9 m9 ar9 be9 me9 co9 (QS G9 be9 ar9 s9 M9 (.int (nI (woN c)))) 3 (M9.1 + M9.2.1) M9.2.2.1 4 [some (.int (nI c)), some (.int (nI (shP c k))), some (.int (nI k))] [] M9 := by
    intro zd4
    induction zd4 with
    | zero => intro k zm4 zh4_0 zh4_1; exfalso; omega
    | succ zd4 zih4 =>
      intro k zm4 zh4_0 zh4_1
      have zq_h := shP_lt c k (by omega) (by omega)
      refine a_iload_n C dX7_wornCode_4 rfl rfl ?_
      refine a_iconst (v := nI 4) C dX7_wornCode_5 (by decide) ?_
      first | refine n_icmp_ge (tgt := 34) C dX7_wornCode_6 (by decide) (by first | decide | omega) (by first | decide | omega) (fun h_6 => ?_) (fun h_6 => ?_) | refine a_icmp_ge (tgt := 34) C dX7_wornCode_6 (by decide) (fun h_6 => ?_) (fun h_6 => ?_)
      · obtain rfl : k = 4 := by omega
        have zq_s4 := shP_lt c 4 (by omega) (by omega)
        have zq_4 := shP_4 hc
        refine a_iload_n C dX7_wornCode_34 rfl rfl ?_
        refine a_iload_n C dX7_wornCode_35 rfl rfl ?_
        refine s_callS C (K_X7_depth (by first | assumption | decide | omega) (by first | assumption | decide | omega)) sX7_82 rfl dX7_wornCode_36 (Nat.le_of_ble_eq_true rfl) ⟨by decide, by decide⟩ ⟨Nat.le_refl _, Nat.le_refl _⟩ ?_
        refine a_iconst (v := nI 2) C dX7_wornCode_39 (by decide) ?_
        refine n_icmp_ge (tgt := 52) C dX7_wornCode_40 (by decide) (by have := dep_lt c (shP c 4); omega) (by decide) (fun h_40 => ?_) (fun h_40 => ?_)
        · refine a_iload_n C dX7_wornCode_52 rfl rfl ?_
          refine a_iret C hr ?_ dX7_wornCode_53 rfl rfl ⟨?_, rfl⟩
          · rfl
          · exact gl (by unfold woN; rw [← zq_4]; first | rw [if_pos (by omega)] | rw [if_neg (by omega)])
        · refine a_iload_n C dX7_wornCode_43 rfl rfl ?_
          refine a_iload_n C dX7_wornCode_44 rfl rfl ?_
          refine s_callS C (K_X7_worth (by first | assumption | decide | omega)) sX7_79 rfl dX7_wornCode_45 (Nat.le_of_ble_eq_true rfl) ⟨by decide, by decide⟩ ⟨Nat.le_refl _, Nat.le_refl _⟩ ?_
          first | refine n_iadd C dX7_wornCode_48 ?_ | refine a_iadd C dX7_wornCode_48 ?_
          refine a_goto (tgt := 53) C dX7_wornCode_49 (by decide) ?_
          refine a_iret C hr ?_ dX7_wornCode_53 rfl rfl ⟨?_, rfl⟩
          · rfl
          · exact gl (by unfold woN; rw [← zq_4]; first | rw [if_pos (by omega)] | rw [if_neg (by omega)])
      · refine a_via 27 (nI (shP c (k + 1))) ?_ (fun zJ27 => ?_)
        · refine a_istore_n C dX7_wornCode_27 rfl (by decide) ?_
          refine n_iinc C dX7_wornCode_28 rfl (by decide) ?_
          refine a_goto (tgt := 4) C dX7_wornCode_31 (by decide) ?_
          refine a_join (aLe_s ?_ (aLe_s ?_ (aLe_s ?_ aLe_nil))) rfl rfl (zih4 (k + 1) (by omega) (by omega) (by omega))
          · first | with_reducible rfl | exact gl (by first | with_reducible rfl | (refine iF ?_; simp [shP, h_6]; done) | (refine iT ?_; simp [shP, h_6]; done) | (refine iB ?_; simp [shP, h_6]; done) | (simp [shP, h_6]; done) | (simp [shP, h_6]; omega) | omega)
          · first | with_reducible rfl | exact gl (by first | with_reducible rfl | (refine iF ?_; simp [shP, h_6]; done) | (refine iT ?_; simp [shP, h_6]; done) | (refine iB ?_; simp [shP, h_6]; done) | (simp [shP, h_6]; done) | (simp [shP, h_6]; omega) | omega)
          · first | with_reducible rfl | exact gl (by first | with_reducible rfl | (refine iF ?_; simp [shP, h_6]; done) | (refine iT ?_; simp [shP, h_6]; done) | (refine iB ?_; simp [shP, h_6]; done) | (simp [shP, h_6]; done) | (simp [shP, h_6]; omega) | omega)
        · refine a_iload_n C dX7_wornCode_9 rfl rfl ?_
          refine a_iload_n C dX7_wornCode_10 rfl rfl ?_
          refine s_callS C (K_X7_depth (by first | assumption | decide | omega) (by first | assumption | decide | omega)) sX7_82 rfl dX7_wornCode_11 (Nat.le_of_ble_eq_true rfl) ⟨by decide, by decide⟩ ⟨Nat.le_refl _, Nat.le_refl _⟩ ?_
          refine a_iload_n C dX7_wornCode_14 rfl rfl ?_
          refine a_iload_n C dX7_wornCode_15 rfl rfl ?_
          refine s_callS C (K_X7_depth (by first | assumption | decide | omega) (by first | assumption | decide | omega)) sX7_82 rfl dX7_wornCode_16 (Nat.le_of_ble_eq_true rfl) ⟨by decide, by decide⟩ ⟨Nat.le_refl _, Nat.le_refl _⟩ ?_
          refine n_icmp_ge (tgt := 26) C dX7_wornCode_19 (by decide) (by have := dep_lt c k; omega) (by have := dep_lt c (shP c k); omega) (fun h_19 => ?_) (fun h_19 => ?_)
          · have zq_e : ¬ dep c k < dep c (shP c k) := by omega
            refine a_iload_n C dX7_wornCode_26 rfl rfl ?_
            refine a_eq rfl (gl1 ?_) rfl zJ27
            · first | with_reducible rfl | (refine iF ?_; simp [shP, h_6, zq_e]; done) | (refine iT ?_; simp [shP, h_6, zq_e]; done) | (refine iB ?_; simp [shP, h_6, zq_e]; done) | (simp [shP, h_6, zq_e]; done) | (simp [shP, h_6, zq_e]; omega) | omega
          · have zq_e : dep c k < dep c (shP c k) := by omega
            refine a_iload_n C dX7_wornCode_22 rfl rfl ?_
            refine a_goto (tgt := 27) C dX7_wornCode_23 (by decide) ?_
            refine a_eq rfl (gl1 ?_) rfl zJ27
            · first | with_reducible rfl | (refine iF ?_; simp [shP, h_6, zq_e]; done) | (refine iT ?_; simp [shP, h_6, zq_e]; done) | (refine iB ?_; simp [shP, h_6, zq_e]; done) | (simp [shP, h_6, zq_e]; done) | (simp [shP, h_6, zq_e]; omega) | omega
  refine a_pad 2 ?_
  refine a_eq (L' := [some (.int (nI c)), none, none]) rfl rfl rfl ?_
  refine a_iconst (v := nI 0) C dX7_wornCode_0 (by decide) ?_
  refine a_istore_n C dX7_wornCode_1 rfl (by decide) ?_
  refine a_iconst (v := nI 1) C dX7_wornCode_2 (by decide) ?_
  refine a_istore_n C dX7_wornCode_3 rfl (by decide) ?_
  refine a_join (aLe_s ?_ (aLe_s ?_ (aLe_s ?_ aLe_nil))) rfl rfl (ZL4 (4 + 1) 1 (by omega) (by omega) (by omega))
  · first | with_reducible rfl | exact gl (by first | with_reducible rfl | (refine iF ?_; simp [shP]; done) | (refine iT ?_; simp [shP]; done) | (refine iB ?_; simp [shP]; done) | (simp [shP]; done) | (simp [shP]; omega) | omega | rfl)
  · first | with_reducible rfl | exact gl (by first | with_reducible rfl | (refine iF ?_; simp [shP]; done) | (refine iT ?_; simp [shP]; done) | (refine iB ?_; simp [shP]; done) | (simp [shP]; done) | (simp [shP]; omega) | omega | rfl)
  · first | with_reducible rfl | exact gl (by first | with_reducible rfl | (refine iF ?_; simp [shP]; done) | (refine iT ?_; simp [shP]; done) | (refine iB ?_; simp [shP]; done) | (simp [shP]; done) | (simp [shP]; omega) | omega | rfl)

set_option maxRecDepth 20000 in
set_option maxHeartbeats 4000000 in
theorem K_X1_depthOf {c k : Nat} (hc : c < 81) (hk : k < 4) : CS yX1_depthOf cX1_depthOf 2 (some .int) 0 0 [.int (nI c), .int (nI k)] (.int (nI (dep c k))) := by
  refine CS.of ok_X1_depthOf (Nat.le_of_ble_eq_true rfl) (fun M9 G9 p9 l9 e9 s9 m9 ar9 be9 me9 co9 C hr => ?_)
  refine a_iload_n C dX1_depthOf_0 rfl rfl ?_
  refine a_gets0N C dX1_depthOf_1 ?_
  refine a_iload_n C dX1_depthOf_4 rfl rfl ?_
  refine a_sald0 C dX1_depthOf_5 rfl (by first | decide | omega) (show nwv k = .int (nI (wtN k)) from by rcases (show k = 0 ∨ k = 1 ∨ k = 2 ∨ k = 3 by omega) with rfl | rfl | rfl | rfl <;> rfl) ?_
  refine n_idiv C dX1_depthOf_6 (by omega) wtN_lt.1 (by have := wtN_lt (k := k); omega) ?_
  refine a_iconst (v := nI 3) C dX1_depthOf_7 (by decide) ?_
  refine n_irem C dX1_depthOf_8 (by have := Nat.div_le_self c (wtN k); omega) (by decide) (by decide) ?_
  refine a_iret C hr ?_ dX1_depthOf_9 rfl rfl ⟨?_, rfl⟩
  · first | rfl | exact bI_narrow _
  · rfl

set_option maxRecDepth 20000 in
set_option maxHeartbeats 4000000 in
theorem K_X1_wornOnce {c : Nat} (hc : c < 81) : CS yX1_wornOnce cX1_wornOnce 3 (some .int) 1 21 [.int (nI c)] (.int (nI (woN c))) := by
  refine CS.of ok_X1_wornOnce (Nat.le_of_ble_eq_true rfl) (fun M9 G9 p9 l9 e9 s9 m9 ar9 be9 me9 co9 C hr => ?_)
  have ZL4 : ∀ (zd4 : Nat) (k : Nat), 4 + 1 ≤ k + zd4 → k ≤ 4 → 1 ≤ k → WA G9 p9 l9 e9 (RM 1 21) s9 m9 ar9 be9 me9 co9 (QS G9 be9 ar9 s9 M9 (.int (nI (woN c)))) 3 (M9.1 + M9.2.1) M9.2.2.1 4 [some (.int (nI c)), some (.int (nI (shP c k))), some (.int (nI k))] [] M9 := by
    intro zd4
    induction zd4 with
    | zero => intro k zm4 zh4_0 zh4_1; exfalso; omega
    | succ zd4 zih4 =>
      intro k zm4 zh4_0 zh4_1
      have zq_h := shP_lt c k (by omega) (by omega)
      refine a_iload_n C dX1_wornOnce_4 rfl rfl ?_
      refine a_iconst (v := nI 4) C dX1_wornOnce_5 (by decide) ?_
      first | refine n_icmp_ge (tgt := 30) C dX1_wornOnce_6 (by decide) (by first | decide | omega) (by first | decide | omega) (fun h_6 => ?_) (fun h_6 => ?_) | refine a_icmp_ge (tgt := 30) C dX1_wornOnce_6 (by decide) (fun h_6 => ?_) (fun h_6 => ?_)
      · obtain rfl : k = 4 := by omega
        have zq_s4 := shP_lt c 4 (by omega) (by omega)
        have zq_4 := shP_4 hc
        refine a_via 44 (bI (decide (dep c (shP c 4) < 2))) ?_ (fun zJ44 => ?_)
        · refine a_istore_n C dX1_wornOnce_44 rfl (by decide) ?_
          refine a_iload_n C dX1_wornOnce_45 rfl rfl ?_
          refine b_if_eq (tgt := 59) C dX1_wornOnce_46 (by decide) (fun h_46 => ?_) (fun h_46 => ?_)
          · refine a_iload_n C dX1_wornOnce_59 rfl rfl ?_
            refine a_iret C hr ?_ dX1_wornOnce_60 rfl rfl ⟨?_, rfl⟩
            · rfl
            · exact gl (by unfold woN; rw [← zq_4]; first | rw [if_pos (of_decide_eq_true h_46)] | rw [if_neg (of_decide_eq_false h_46)])
          · refine a_iload_n C dX1_wornOnce_49 rfl rfl ?_
            refine a_gets0N C dX1_wornOnce_50 ?_
            refine a_iload_n C dX1_wornOnce_53 rfl rfl ?_
            refine a_sald0 C dX1_wornOnce_54 rfl zq_s4 nwv_eq ?_
            first | refine n_iadd C dX1_wornOnce_55 ?_ | refine a_iadd C dX1_wornOnce_55 ?_
            refine a_goto (tgt := 60) C dX1_wornOnce_56 (by decide) ?_
            refine a_iret C hr ?_ dX1_wornOnce_60 rfl rfl ⟨?_, rfl⟩
            · rfl
            · exact gl (by unfold woN; rw [← zq_4]; first | rw [if_pos (of_decide_eq_true h_46)] | rw [if_neg (of_decide_eq_false h_46)])
        · refine a_iload_n C dX1_wornOnce_30 rfl rfl ?_
          refine a_iload_n C dX1_wornOnce_31 rfl rfl ?_
          refine s_callS C (K_X1_depthOf (by first | assumption | decide | omega) (by first | assumption | decide | omega)) sX1_24 rfl dX1_wornOnce_32 (Nat.le_of_ble_eq_true rfl) ⟨by decide, by decide⟩ ⟨Nat.le_refl _, Nat.le_refl _⟩ ?_
          refine a_iconst (v := nI 2) C dX1_wornOnce_35 (by decide) ?_
          refine n_icmp_ge (tgt := 43) C dX1_wornOnce_36 (by decide) (by have := dep_lt c (shP c 4); omega) (by decide) (fun h_36 => ?_) (fun h_36 => ?_)
          · refine a_iconst (v := nI 0) C dX1_wornOnce_43 (by decide) ?_
            refine a_eq rfl (gl1 ?_) rfl zJ44
            · first | (rw [decide_eq_true (show dep c (shP c 4) < 2 by omega)]; rfl) | (rw [decide_eq_false (show ¬ dep c (shP c 4) < 2 by omega)]; rfl)
          · refine a_iconst (v := nI 1) C dX1_wornOnce_39 (by decide) ?_
            refine a_goto (tgt := 44) C dX1_wornOnce_40 (by decide) ?_
            refine a_eq rfl (gl1 ?_) rfl zJ44
            · first | (rw [decide_eq_true (show dep c (shP c 4) < 2 by omega)]; rfl) | (rw [decide_eq_false (show ¬ dep c (shP c 4) < 2 by omega)]; rfl)
      · refine a_iload_n C dX1_wornOnce_9 rfl rfl ?_
        refine a_iload_n C dX1_wornOnce_10 rfl rfl ?_
        refine s_callS C (K_X1_depthOf (by first | assumption | decide | omega) (by first | assumption | decide | omega)) sX1_24 rfl dX1_wornOnce_11 (Nat.le_of_ble_eq_true rfl) ⟨by decide, by decide⟩ ⟨Nat.le_refl _, Nat.le_refl _⟩ ?_
        refine a_iload_n C dX1_wornOnce_14 rfl rfl ?_
        refine a_iload_n C dX1_wornOnce_15 rfl rfl ?_
        refine s_callS C (K_X1_depthOf (by first | assumption | decide | omega) (by first | assumption | decide | omega)) sX1_24 rfl dX1_wornOnce_16 (Nat.le_of_ble_eq_true rfl) ⟨by decide, by decide⟩ ⟨Nat.le_refl _, Nat.le_refl _⟩ ?_
        refine n_icmp_ge (tgt := 24) C dX1_wornOnce_19 (by decide) (by have := dep_lt c k; omega) (by have := dep_lt c (shP c k); omega) (fun h_19 => ?_) (fun h_19 => ?_)
        · have zq_e : ¬ dep c k < dep c (shP c k) := by omega
          refine n_iinc C dX1_wornOnce_24 rfl (by decide) ?_
          refine a_goto (tgt := 4) C dX1_wornOnce_27 (by decide) ?_
          refine a_join (aLe_s ?_ (aLe_s ?_ (aLe_s ?_ aLe_nil))) rfl rfl (zih4 (k + 1) (by omega) (by omega) (by omega))
          · first | with_reducible rfl | exact gl (by first | with_reducible rfl | (refine iF ?_; simp [shP, h_6, zq_e]; done) | (refine iT ?_; simp [shP, h_6, zq_e]; done) | (refine iB ?_; simp [shP, h_6, zq_e]; done) | (simp [shP, h_6, zq_e]; done) | (simp [shP, h_6, zq_e]; omega) | omega)
          · first | with_reducible rfl | exact gl (by first | with_reducible rfl | (refine iF ?_; simp [shP, h_6, zq_e]; done) | (refine iT ?_; simp [shP, h_6, zq_e]; done) | (refine iB ?_; simp [shP, h_6, zq_e]; done) | (simp [shP, h_6, zq_e]; done) | (simp [shP, h_6, zq_e]; omega) | omega)
          · first | with_reducible rfl | exact gl (by first | with_reducible rfl | (refine iF ?_; simp [shP, h_6, zq_e]; done) | (refine iT ?_; simp [shP, h_6, zq_e]; done) | (refine iB ?_; simp [shP, h_6, zq_e]; done) | (simp [shP, h_6, zq_e]; done) | (simp [shP, h_6, zq_e]; omega) | omega)
        · have zq_e : dep c k < dep c (shP c k) := by omega
          refine a_iload_n C dX1_wornOnce_22 rfl rfl ?_
          refine a_istore_n C dX1_wornOnce_23 rfl (by decide) ?_
          refine n_iinc C dX1_wornOnce_24 rfl (by decide) ?_
          refine a_goto (tgt := 4) C dX1_wornOnce_27 (by decide) ?_
          refine a_join (aLe_s ?_ (aLe_s ?_ (aLe_s ?_ aLe_nil))) rfl rfl (zih4 (k + 1) (by omega) (by omega) (by omega))
          · first | with_reducible rfl | exact gl (by first | with_reducible rfl | (refine iF ?_; simp [shP, h_6, zq_e]; done) | (refine iT ?_; simp [shP, h_6, zq_e]; done) | (refine iB ?_; simp [shP, h_6, zq_e]; done) | (simp [shP, h_6, zq_e]; done) | (simp [shP, h_6, zq_e]; omega) | omega)
          · first | with_reducible rfl | exact gl (by first | with_reducible rfl | (refine iF ?_; simp [shP, h_6, zq_e]; done) | (refine iT ?_; simp [shP, h_6, zq_e]; done) | (refine iB ?_; simp [shP, h_6, zq_e]; done) | (simp [shP, h_6, zq_e]; done) | (simp [shP, h_6, zq_e]; omega) | omega)
          · first | with_reducible rfl | exact gl (by first | with_reducible rfl | (refine iF ?_; simp [shP, h_6, zq_e]; done) | (refine iT ?_; simp [shP, h_6, zq_e]; done) | (refine iB ?_; simp [shP, h_6, zq_e]; done) | (simp [shP, h_6, zq_e]; done) | (simp [shP, h_6, zq_e]; omega) | omega)
  refine a_pad 2 ?_
  refine a_eq (L' := [some (.int (nI c)), none, none]) rfl rfl rfl ?_
  refine a_iconst (v := nI 0) C dX1_wornOnce_0 (by decide) ?_
  refine a_istore_n C dX1_wornOnce_1 rfl (by decide) ?_
  refine a_iconst (v := nI 1) C dX1_wornOnce_2 (by decide) ?_
  refine a_istore_n C dX1_wornOnce_3 rfl (by decide) ?_
  refine a_join (aLe_s ?_ (aLe_s ?_ (aLe_s ?_ aLe_nil))) rfl rfl (ZL4 (4 + 1) 1 (by omega) (by omega) (by omega))
  · first | with_reducible rfl | exact gl (by first | with_reducible rfl | (refine iF ?_; simp [shP]; done) | (refine iT ?_; simp [shP]; done) | (refine iB ?_; simp [shP]; done) | (simp [shP]; done) | (simp [shP]; omega) | omega | rfl)
  · first | with_reducible rfl | exact gl (by first | with_reducible rfl | (refine iF ?_; simp [shP]; done) | (refine iT ?_; simp [shP]; done) | (refine iB ?_; simp [shP]; done) | (simp [shP]; done) | (simp [shP]; omega) | omega | rfl)
  · first | with_reducible rfl | exact gl (by first | with_reducible rfl | (refine iF ?_; simp [shP]; done) | (refine iT ?_; simp [shP]; done) | (refine iB ?_; simp [shP]; done) | (simp [shP]; done) | (simp [shP]; omega) | omega | rfl)

end A9

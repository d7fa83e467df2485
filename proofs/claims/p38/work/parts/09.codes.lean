section A9
theorem wtN_lt {k : Nat} : 0 < wtN k ∧ wtN k < 28 := by
  unfold wtN
  split <;> decide
theorem dep_lt (c k : Nat) : dep c k < 3 := Nat.mod_lt _ (by decide)
theorem all81 {P : Nat → Bool} (h : (List.range 81).all P = true) {c : Nat} (hc : c < 81) : P c = true := List.all_eq_true.mp h c (List.mem_range.mpr hc)
theorem all81b {P : Nat → Nat → Bool} (h : (List.range 81).all (fun c => (List.range 81).all (P c)) = true) {c d : Nat} (hc : c < 81) (hd : d < 81) : P c d = true := all81 (all81 h hc) hd
theorem wt81 {c k : Nat} (hc : c < 81) (hk : k < 4) (h : dep c k < 2) : c + wtN k < 81 := by
  have := all81 (P := fun c => (List.range 4).all fun k => !(decide (dep c k < 2)) || decide (c + wtN k < 81)) (by decide +kernel) hc
  have := List.all_eq_true.mp this k (List.mem_range.mpr hk)
  simpa [h] using this
theorem wo81 {c : Nat} (hc : c < 81) : woN c < 81 := by
  have := all81 (P := fun c => decide (woN c < 81)) (by decide +kernel) hc
  simpa using this
/-- lies under, by the notches ahead of k alone -/
def undP (c d k : Nat) : Bool := c != d && (List.range k).all (fun j => decide (dep c j ≤ dep d j))
theorem undP_4 (c d : Nat) : undP c d 4 = und c d := by
  simp [undP, und, List.range_succ, Bool.and_assoc]
theorem undP_s (c d k : Nat) : undP c d (k + 1) = (undP c d k && decide (dep c k ≤ dep d k)) := by
  simp [undP, List.range_succ, List.all_append, Bool.and_assoc]
/-- the shallowest notch of those ahead of k -/
def shP (c k : Nat) : Nat := match k with
  | 0 => 0
  | j + 1 => if dep c j < dep c (shP c j) then j else shP c j
theorem shP_lt (c : Nat) : ∀ k, 0 < k → k ≤ 4 → shP c k < k := by
  intro k
  induction k with
  | zero => intro h; omega
  | succ j ih =>
    intro _ h4
    show (if dep c j < dep c (shP c j) then j else shP c j) < j + 1
    by_cases hj : j = 0
    · subst hj; simp [shP]
    · have := ih (by omega) (by omega)
      split <;> omega
theorem shP_4 {c : Nat} (hc : c < 81) : shP c 4 = shN c := by
  have := all81 (P := fun c => decide (shP c 4 = shN c)) (by decide +kernel) hc
  simpa using this

set_option maxRecDepth 20000 in
set_option maxHeartbeats 4000000 in
theorem K_X1_depthOf {c k : Nat} (hc : c < 81) (hk : k < 4) : CS yX1_depthOf cX1_depthOf 2 (some .int) 0 0 [.int (nI c), .int (nI k)] (.int (nI (dep c k))) := by
  refine CS.of ok_X1_depthOf (Nat.le_of_ble_eq_true rfl) (fun M9 G9 p9 l9 e9 s9 m9 ar9 be9 me9 co9 C hr => ?_)
  refine a_iload_n C dX1_depthOf_0 rfl rfl ?_
  refine a_gets0N C dX1_depthOf_1 ?_
  refine a_iload_n C dX1_depthOf_4 rfl rfl ?_
  refine a_sald0 C dX1_depthOf_5 rfl (by first | decide | omega) (show nwv k = .int (nI (wtN k)) from by rcases (show k = 0 ∨ k = 1 ∨ k = 2 ∨ k = 3 by omega) with rfl | rfl | rfl | rfl <;> rfl) ?_
  refine n_idiv C dX1_depthOf_6 (by omega) wtN_lt.1 (by have := wtN_lt (k := k); omega) ?_
  refine a_iconst (v := nI 3) C dX1_depthOf_7 (by decide) ?_
  refine n_irem C dX1_depthOf_8 (by have := Nat.div_le_self c (wtN k); omega) (by decide) (by decide) ?_
  refine a_iret C hr ?_ dX1_depthOf_9 rfl rfl ⟨?_, rfl⟩
  · first | rfl | exact bI_narrow _
  · rfl

set_option maxRecDepth 20000 in
set_option maxHeartbeats 4000000 in
theorem K_X1_wornOnce {c : Nat} (hc : c < 81) : CS yX1_wornOnce cX1_wornOnce 3 (some .int) 1 21 [.int (nI c)] (.int (nI (woN c))) := by
  refine CS.of ok_X1_wornOnce (Nat.le_of_ble_eq_true rfl) (fun M9 G9 p9 l9 e9 s9 m9 ar9 be9 me9 co9 C hr => ?_)
  have ZL4 : ∀ (zd4 : Nat) (k : Nat), 4 + 1 ≤ k + zd4 → k ≤ 4 → 1 ≤ k → WA G9 p9 l9 e9 (RM 1 21) s9 m9 ar9 be9 me9 co9 (QS G9 be9 ar9 s9 M9 (.int (nI (woN c)))) 3 (M9.1 + M9.2.1) M9.2.2.1 4 [some (.int (nI c)), some (.int (nI (shP c k))), some (.int (nI k))] [] M9 := by
    intro zd4
    induction zd4 with
    | zero => intro k zm4 zh4_0 zh4_1; exfalso; omega
    | succ zd4 zih4 =>
      intro k zm4 zh4_0 zh4_1
      have zq_h := shP_lt c k (by omega) (by omega)
      refine a_iload_n C dX1_wornOnce_4 rfl rfl ?_
      refine a_iconst (v := nI 4) C dX1_wornOnce_5 (by decide) ?_
      first | refine n_icmp_ge (tgt := 30) C dX1_wornOnce_6 (by decide) (by first | decide | omega) (by first | decide | omega) (fun h_6 => ?_) (fun h_6 => ?_) | refine a_icmp_ge (tgt := 30) C dX1_wornOnce_6 (by decide) (fun h_6 => ?_) (fun h_6 => ?_)
      · obtain rfl : k = 4 := by omega
        have zq_s4 := shP_lt c 4 (by omega) (by omega)
        have zq_4 := shP_4 hc
        refine a_via 44 (bI (decide (dep c (shP c 4) < 2))) ?_ (fun zJ44 => ?_)
        · refine a_istore_n C dX1_wornOnce_44 rfl (by decide) ?_
          refine a_iload_n C dX1_wornOnce_45 rfl rfl ?_
          refine b_if_eq (tgt := 59) C dX1_wornOnce_46 (by decide) (fun h_46 => ?_) (fun h_46 => ?_)
          · refine a_iload_n C dX1_wornOnce_59 rfl rfl ?_
            refine a_iret C hr ?_ dX1_wornOnce_60 rfl rfl ⟨?_, rfl⟩
            · rfl
            · exact gl (by unfold woN; rw [← zq_4]; first | rw [if_pos (of_decide_eq_true h_46)] | rw [if_neg (of_decide_eq_false h_46)])
          · refine a_iload_n C dX1_wornOnce_49 rfl rfl ?_
            refine a_gets0N C dX1_wornOnce_50 ?_
            refine a_iload_n C dX1_wornOnce_53 rfl rfl ?_
            refine a_sald0 C dX1_wornOnce_54 rfl zq_s4 nwv_eq ?_
            first | refine n_iadd C dX1_wornOnce_55 ?_ | refine a_iadd C dX1_wornOnce_55 ?_
            refine a_goto (tgt := 60) C dX1_wornOnce_56 (by decide) ?_
            refine a_iret C hr ?_ dX1_wornOnce_60 rfl rfl ⟨?_, rfl⟩
            · rfl
            · exact gl (by unfold woN; rw [← zq_4]; first | rw [if_pos (of_decide_eq_true h_46)] | rw [if_neg (of_decide_eq_false h_46)])
        · refine a_iload_n C dX1_wornOnce_30 rfl rfl ?_
          refine a_iload_n C dX1_wornOnce_31 rfl rfl ?_
          refine s_callS C (K_X1_depthOf (by first | assumption | decide | omega) (by first | assumption | decide | omega)) sX1_24 rfl dX1_wornOnce_32 (Nat.le_of_ble_eq_true rfl) ⟨by decide, by decide⟩ ⟨Nat.le_refl _, Nat.le_refl _⟩ ?_
          refine a_iconst (v := nI 2) C dX1_wornOnce_35 (by decide) ?_
          refine n_icmp_ge (tgt := 43) C dX1_wornOnce_36 (by decide) (by have := dep_lt c (shP c 4); omega) (by decide) (fun h_36 => ?_) (fun h_36 => ?_)
          · refine a_iconst (v := nI 0) C dX1_wornOnce_43 (by decide) ?_
            refine a_eq rfl (gl1 ?_) rfl zJ44
            · first | (rw [decide_eq_true (show dep c (shP c 4) < 2 by omega)]; rfl) | (rw [decide_eq_false (show ¬ dep c (shP c 4) < 2 by omega)]; rfl)
          · refine a_iconst (v := nI 1) C dX1_wornOnce_39 (by decide) ?_
            refine a_goto (tgt := 44) C dX1_wornOnce_40 (by decide) ?_
            refine a_eq rfl (gl1 ?_) rfl zJ44
            · first | (rw [decide_eq_true (show dep c (shP c 4) < 2 by omega)]; rfl) | (rw [decide_eq_false (show ¬ dep c (shP c 4) < 2 by omega)]; rfl)
      · refine a_iload_n C dX1_wornOnce_9 rfl rfl ?_
        refine a_iload_n C dX1_wornOnce_10 rfl rfl ?_
        refine s_callS C (K_X1_depthOf (by first | assumption | decide | omega) (by first | assumption | decide | omega)) sX1_24 rfl dX1_wornOnce_11 (Nat.le_of_ble_eq_true rfl) ⟨by decide, by decide⟩ ⟨Nat.le_refl _, Nat.le_refl _⟩ ?_
        refine a_iload_n C dX1_wornOnce_14 rfl rfl ?_
        refine a_iload_n C dX1_wornOnce_15 rfl rfl ?_
        refine s_callS C (K_X1_depthOf (by first | assumption | decide | omega) (by first | assumption | decide | omega)) sX1_24 rfl dX1_wornOnce_16 (Nat.le_of_ble_eq_true rfl) ⟨by decide, by decide⟩ ⟨Nat.le_refl _, Nat.le_refl _⟩ ?_
        refine n_icmp_ge (tgt := 24) C dX1_wornOnce_19 (by decide) (by have := dep_lt c k; omega) (by have := dep_lt c (shP c k); omega) (fun h_19 => ?_) (fun h_19 => ?_)
        · have zq_e : ¬ dep c k < dep c (shP c k) := by omega
          refine n_iinc C dX1_wornOnce_24 rfl (by decide) ?_
          refine a_goto (tgt := 4) C dX1_wornOnce_27 (by decide) ?_
          refine a_join (aLe_s ?_ (aLe_s ?_ (aLe_s ?_ aLe_nil))) rfl rfl (zih4 (k + 1) (by omega) (by omega) (by omega))
          · first | with_reducible rfl | exact gl (by first | with_reducible rfl | (refine iF ?_; simp [shP, h_6, zq_e]; done) | (refine iT ?_; simp [shP, h_6, zq_e]; done) | (refine iB ?_; simp [shP, h_6, zq_e]; done) | (simp [shP, h_6, zq_e]; done) | (simp [shP, h_6, zq_e]; omega) | omega)
          · first | with_reducible rfl | exact gl (by first | with_reducible rfl | (refine iF ?_; simp [shP, h_6, zq_e]; done) | (refine iT ?_; simp [shP, h_6, zq_e]; done) | (refine iB ?_; simp [shP, h_6, zq_e]; done) | (simp [shP, h_6, zq_e]; done) | (simp [shP, h_6, zq_e]; omega) | omega)
          · first | with_reducible rfl | exact gl (by first | with_reducible rfl | (refine iF ?_; simp [shP, h_6, zq_e]; done) | (refine iT ?_; simp [shP, h_6, zq_e]; done) | (refine iB ?_; simp [shP, h_6, zq_e]; done) | (simp [shP, h_6, zq_e]; done) | (simp [shP, h_6, zq_e]; omega) | omega)
        · have zq_e : dep c k < dep c (shP c k) := by omega
          refine a_iload_n C dX1_wornOnce_22 rfl rfl ?_
          refine a_istore_n C dX1_wornOnce_23 rfl (by decide) ?_
          refine n_iinc C dX1_wornOnce_24 rfl (by decide) ?_
          refine a_goto (tgt := 4) C dX1_wornOnce_27 (by decide) ?_
          refine a_join (aLe_s ?_ (aLe_s ?_ (aLe_s ?_ aLe_nil))) rfl rfl (zih4 (k + 1) (by omega) (by omega) (by omega))
          · first | with_reducible rfl | exact gl (by first | with_reducible rfl | (refine iF ?_; simp [shP, h_6, zq_e]; done) | (refine iT ?_; simp [shP, h_6, zq_e]; done) | (refine iB ?_; simp [shP, h_6, zq_e]; done) | (simp [shP, h_6, zq_e]; done) | (simp [shP, h_6, zq_e]; omega) | omega)
          · first | with_reducible rfl | exact gl (by first | with_reducible rfl | (refine iF ?_; simp [shP, h_6, zq_e]; done) | (refine iT ?_; simp [shP, h_6, zq_e]; done) | (refine iB ?_; simp [shP, h_6, zq_e]; done) | (simp [shP, h_6, zq_e]; done) | (simp [shP, h_6, zq_e]; omega) | omega)
          · first | with_reducible rfl | exact gl (by first | with_reducible rfl | (refine iF ?_; simp [shP, h_6, zq_e]; done) | (refine iT ?_; simp [shP, h_6, zq_e]; done) | (refine iB ?_; simp [shP, h_6, zq_e]; done) | (simp [shP, h_6, zq_e]; done) | (simp [shP, h_6, zq_e]; omega) | omega)
  refine a_pad 2 ?_
  refine a_eq (L' := [some (.int (nI c)), none, none]) rfl rfl rfl ?_
  refine a_iconst (v := nI 0) C dX1_wornOnce_0 (by decide) ?_
  refine a_istore_n C dX1_wornOnce_1 rfl (by decide) ?_
  refine a_iconst (v := nI 1) C dX1_wornOnce_2 (by decide) ?_
  refine a_istore_n C dX1_wornOnce_3 rfl (by decide) ?_
  refine a_join (aLe_s ?_ (aLe_s ?_ (aLe_s ?_ aLe_nil))) rfl rfl (ZL4 (4 + 1) 1 (by omega) (by omega) (by omega))
  · first | with_reducible rfl | exact gl (by first | with_reducible rfl | (refine iF ?_; simp [shP]; done) | (refine iT ?_; simp [shP]; done) | (refine iB ?_; simp [shP]; done) | (simp [shP]; done) | (simp [shP]; omega) | omega | rfl)
  · first | with_reducible rfl | exact gl (by first | with_reducible rfl | (refine iF ?_; simp [shP]; done) | (refine iT ?_; simp [shP]; done) | (refine iB ?_; simp [shP]; done) | (simp [shP]; done) | (simp [shP]; omega) | omega | rfl)
  · first | with_reducible rfl | exact gl (by first | with_reducible rfl | (refine iF ?_; simp [shP]; done) | (refine iT ?_; simp [shP]; done) | (refine iB ?_; simp [shP]; done) | (simp [shP]; done) | (simp [shP]; omega) | omega | rfl)

end A9

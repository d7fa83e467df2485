section A43
/-! ### constructors -/
theorem oI_X0 : Cond.methodLink RX0 3 Lib.objectInit ∈ GW := gw_in (List.mem_of_getElem? (i := 238) (by decide +kernel)) rfl
theorem oI_X1 : Cond.methodLink RX1 3 Lib.objectInit ∈ GW := gw_in (List.mem_of_getElem? (i := 202) (by decide +kernel)) rfl
theorem oI_X2 : Cond.methodLink RX2 1 Lib.objectInit ∈ GW := gw_in (List.mem_of_getElem? (i := 100) (by decide +kernel)) rfl
theorem oI_X3 : Cond.methodLink RX3 3 Lib.objectInit ∈ GW := gw_in (List.mem_of_getElem? (i := 131) (by decide +kernel)) rfl
theorem oI_X4 : Cond.methodLink RX4 3 Lib.objectInit ∈ GW := gw_in (List.mem_of_getElem? (i := 68) (by decide +kernel)) rfl
theorem oI_X5 : Cond.methodLink RX5 3 Lib.objectInit ∈ GW := gw_in (List.mem_of_getElem? (i := 91) (by decide +kernel)) rfl
theorem oI_X6 : Cond.methodLink RX6 1 Lib.objectInit ∈ GW := gw_in (List.mem_of_getElem? (i := 60) (by decide +kernel)) rfl
theorem jo_2 : Cond.instanceMethod Lib.objectInit ∈ GW := gw_in (List.mem_of_getElem? (i := 61) (by decide +kernel)) rfl
theorem jo_3 : Cond.code Lib.objectInit ⟨#[0xb1]⟩ 1 none ∈ GW := gw_in (List.mem_of_getElem? (i := 62) (by decide +kernel)) rfl
set_option maxRecDepth 20000 in
set_option maxHeartbeats 4000000 in
theorem K_X2_init {o : Nat} {M : aH} : CM yX2_init cX2_init 1 none 1 20 [.ref o] M 0 0 (fun r M' => r = none ∧ M' = M) := by
  refine CM.of ok_X2_init (Nat.le_of_ble_eq_true rfl) (fun G9 p9 l9 e9 s9 m9 ar9 be9 me9 co9 C hr hin => ?_)
  refine a_aload_n C dX2_init_0 rfl rfl ?_
  refine a_objI C oI_X2 jo_2 jo_3 dX2_init_1 ⟨by decide, by decide⟩ ?_
  exact a_vret C hr dX2_init_4 rfl rfl ⟨rfl, rfl⟩
set_option maxRecDepth 20000 in
set_option maxHeartbeats 4000000 in
theorem K_X3_init {o : Nat} {M : aH} (ho : o < M.1) (ho2 : o < 1000) (hM : M.2.2.2 o = .inr (3, [.int 0, .int 0, .int 0, .int 0])) : CM yX3_init cX3_init 1 none 1 20 [.ref o] M 0 0 (fun r M' => r = none ∧ M' = aPut (aPut M o (.inr (3, [.int (-1), .int 0, .int 0, .int 0]))) o (.inr (3, [.int (-1), .int (-1), .int 0, .int 0]))) := by
  refine CM.of ok_X3_init (Nat.le_of_ble_eq_true rfl) (fun G9 p9 l9 e9 s9 m9 ar9 be9 me9 co9 C hr hin => ?_)
  refine a_aload_n C dX3_init_0 rfl rfl ?_
  refine a_objI C oI_X3 jo_2 jo_3 dX3_init_1 ⟨by decide, by decide⟩ ?_
  refine a_aload_n C dX3_init_4 rfl rfl ?_
  refine a_iconst (v := (-1)) C dX3_init_5 (by decide) ?_
  refine a_putf C fX3_9 dX3_init_6 ho ho2 hM rfl rfl (by decide) ?_
  refine a_aload_n C dX3_init_9 rfl rfl ?_
  refine a_iconst (v := (-1)) C dX3_init_10 (by decide) ?_
  refine a_putf C fX3_15 dX3_init_11 ho ho2 aPut_at rfl rfl (by decide) ?_
  exact a_vret C hr dX3_init_14 rfl rfl ⟨rfl, rfl⟩
set_option maxRecDepth 20000 in
set_option maxHeartbeats 4000000 in
theorem K_X4_init {us : Nat} {f : Nat → aC} (hf : f 1 = .inr (4, [.null, .int 0, .int 0, .int 0, .int 0, .int 0, .int 0])) : CM yX4_init cX4_init 1 none 1 20 [.ref 1] (2, 0, us, f) 1 60 (fun r M' => r = none ∧ M'.2.1 = 0 ∧ (∀ a, a < 2 → ¬ a = 1 → M'.2.2.2 a = f a) ∧ M'.2.2.2 1 = .inr (4, [.ref 2, .int 0, .int 0, .int 0, .int 0, .int 0, .int 0]) ∧ M'.2.2.2 2 = .inl (10, (60, .inl (fun _ => 0)))) := by
  refine CM.of ok_X4_init (Nat.le_of_ble_eq_true rfl) (fun G9 p9 l9 e9 s9 m9 ar9 be9 me9 co9 C hr hin => ?_)
  refine a_aload_n C dX4_init_0 rfl rfl ?_
  refine a_objI C oI_X4 jo_2 jo_3 dX4_init_1 ⟨by decide, by decide⟩ ?_
  refine a_aload_n C dX4_init_4 rfl rfl ?_
  refine a_bipush (v := nI 60) C dX4_init_5 (by decide) ?_
  refine a_newaC C dX4_init_7 (N := 60) rfl (by decide) (show 2 < 207 by decide) rfl ⟨show 2 + 1 ≤ 2 + 1 by decide, show us + 60 ≤ us + 60 by omega⟩ ?_
  refine a_eq (st' := [.ref 2, .ref 1]) rfl rfl rfl ?_
  refine a_putF C fX4_9 hin (fun _ _ _ h => by cases h; rfl) dX4_init_9 (show 1 < 3 by decide) (by decide) hf rfl rfl (by decide) ?_
  refine a_eq (M' := (aPut (aNew (2, 0, us, f) (.inl (10, (60, .inl (fun _ => 0)))) 60) 1 (.inr (4, [.ref 2, .int 0, .int 0, .int 0, .int 0, .int 0, .int 0])))) rfl rfl rfl ?_
  exact a_vret (M0 := (2, 0, us, f)) C hr dX4_init_12 rfl (show us + 60 = us + 60 by omega) ⟨rfl, rfl, fun a ha ho => ((aPut_ne (ho)).trans ((aNew_ne (show ¬ a = 2 by omega)).trans rfl)), rfl, rfl⟩
set_option maxRecDepth 20000 in
set_option maxHeartbeats 4000000 in
theorem K_X0_init {us : Nat} {f : Nat → aC} (hf : f 55 = .inr (0, [.null, .null, .int 0, .null, .int 0, .null, .null, .null, .null, .null, .null, .null, .null])) : CM yX0_init cX0_init 2 none 1 20 [.ref 55, .ref 50] (56, 0, us, f) 10 810 (fun r M' => r = none ∧ M'.2.1 = 0 ∧ (∀ a, a < 56 → ¬ a = 55 → M'.2.2.2 a = f a) ∧ M'.2.2.2 55 = .inr (0, [.ref 50, .ref 56, .int 0, .ref 57, .int 0, .ref 58, .ref 59, .ref 60, .ref 61, .ref 62, .ref 63, .ref 64, .ref 65]) ∧ M'.2.2.2 56 = .inl (9, (81, .inl (fun _ => 0))) ∧ M'.2.2.2 57 = .inl (8, (81, .inl (fun _ => 0))) ∧ M'.2.2.2 58 = .inl (8, (81, .inl (fun _ => 0))) ∧ M'.2.2.2 59 = .inl (8, (81, .inl (fun _ => 0))) ∧ M'.2.2.2 60 = .inl (8, (81, .inl (fun _ => 0))) ∧ M'.2.2.2 61 = .inl (8, (81, .inl (fun _ => 0))) ∧ M'.2.2.2 62 = .inl (8, (81, .inl (fun _ => 0))) ∧ M'.2.2.2 63 = .inl (9, (81, .inl (fun _ => 0))) ∧ M'.2.2.2 64 = .inl (9, (81, .inl (fun _ => 0))) ∧ M'.2.2.2 65 = .inl (8, (81, .inl (fun _ => 0)))) := by
  refine CM.of ok_X0_init (Nat.le_of_ble_eq_true rfl) (fun G9 p9 l9 e9 s9 m9 ar9 be9 me9 co9 C hr hin => ?_)
  refine a_aload_n C dX0_init_0 rfl rfl ?_
  refine a_objI C oI_X0 jo_2 jo_3 dX0_init_1 ⟨by decide, by decide⟩ ?_
  refine a_aload_n C dX0_init_4 rfl rfl ?_
  refine a_bipush (v := nI 81) C dX0_init_5 (by decide) ?_
  refine a_newaZ C dX0_init_7 (N := 81) rfl (by decide) (show 56 < 207 by decide) rfl ⟨show 56 + 1 ≤ 56 + 10 by decide, show us + 81 ≤ us + 810 by omega⟩ ?_
  refine a_eq (st' := [.ref 56, .ref 55]) rfl rfl rfl ?_
  refine a_putF C fX0_9 hin (fun _ _ _ h => by cases h; rfl) dX0_init_9 (show 55 < 57 by decide) (by decide) hf rfl rfl (by decide) ?_
  refine a_eq (M' := (aPut (aNew (56, 0, us, f) (.inl (9, (81, .inl (fun _ => 0)))) 81) 55 (.inr (0, [.null, .ref 56, .int 0, .null, .int 0, .null, .null, .null, .null, .null, .null, .null, .null])))) rfl rfl rfl ?_
  refine a_aload_n C dX0_init_12 rfl rfl ?_
  refine a_bipush (v := nI 81) C dX0_init_13 (by decide) ?_
  refine a_newaI C dX0_init_15 (N := 81) rfl (by decide) (show 57 < 207 by decide) rfl ⟨show 57 + 1 ≤ 56 + 10 by decide, show us + 81 + 81 ≤ us + 810 by omega⟩ ?_
  refine a_eq (st' := [.ref 57, .ref 55]) rfl rfl rfl ?_
  refine a_putF C fX0_15 hin (fun _ _ _ h => by cases h; rfl) dX0_init_17 (show 55 < 58 by decide) (by decide) rfl rfl rfl (by decide) ?_
  refine a_eq (M' := (aPut (aNew (aPut (aNew (56, 0, us, f) (.inl (9, (81, .inl (fun _ => 0)))) 81) 55 (.inr (0, [.null, .ref 56, .int 0, .null, .int 0, .null, .null, .null, .null, .null, .null, .null, .null]))) (.inl (8, (81, .inl (fun _ => 0)))) 81) 55 (.inr (0, [.null, .ref 56, .int 0, .ref 57, .int 0, .null, .null, .null, .null, .null, .null, .null, .null])))) rfl rfl rfl ?_
  refine a_aload_n C dX0_init_20 rfl rfl ?_
  refine a_bipush (v := nI 81) C dX0_init_21 (by decide) ?_
  refine a_newaI C dX0_init_23 (N := 81) rfl (by decide) (show 58 < 207 by decide) rfl ⟨show 58 + 1 ≤ 56 + 10 by decide, show us + 81 + 81 + 81 ≤ us + 810 by omega⟩ ?_
  refine a_eq (st' := [.ref 58, .ref 55]) rfl rfl rfl ?_
  refine a_putF C fX0_19 hin (fun _ _ _ h => by cases h; rfl) dX0_init_25 (show 55 < 59 by decide) (by decide) rfl rfl rfl (by decide) ?_
  refine a_eq (M' := (aPut (aNew (aPut (aNew (aPut (aNew (56, 0, us, f) (.inl (9, (81, .inl (fun _ => 0)))) 81) 55 (.inr (0, [.null, .ref 56, .int 0, .null, .int 0, .null, .null, .null, .null, .null, .null, .null, .null]))) (.inl (8, (81, .inl (fun _ => 0)))) 81) 55 (.inr (0, [.null, .ref 56, .int 0, .ref 57, .int 0, .null, .null, .null, .null, .null, .null, .null, .null]))) (.inl (8, (81, .inl (fun _ => 0)))) 81) 55 (.inr (0, [.null, .ref 56, .int 0, .ref 57, .int 0, .ref 58, .null, .null, .null, .null, .null, .null, .null])))) rfl rfl rfl ?_
  refine a_aload_n C dX0_init_28 rfl rfl ?_
  refine a_bipush (v := nI 81) C dX0_init_29 (by decide) ?_
  refine a_newaI C dX0_init_31 (N := 81) rfl (by decide) (show 59 < 207 by decide) rfl ⟨show 59 + 1 ≤ 56 + 10 by decide, show us + 81 + 81 + 81 + 81 ≤ us + 810 by omega⟩ ?_
  refine a_eq (st' := [.ref 59, .ref 55]) rfl rfl rfl ?_
  refine a_putF C fX0_22 hin (fun _ _ _ h => by cases h; rfl) dX0_init_33 (show 55 < 60 by decide) (by decide) rfl rfl rfl (by decide) ?_
  refine a_eq (M' := (aPut (aNew (aPut (aNew (aPut (aNew (aPut (aNew (56, 0, us, f) (.inl (9, (81, .inl (fun _ => 0)))) 81) 55 (.inr (0, [.null, .ref 56, .int 0, .null, .int 0, .null, .null, .null, .null, .null, .null, .null, .null]))) (.inl (8, (81, .inl (fun _ => 0)))) 81) 55 (.inr (0, [.null, .ref 56, .int 0, .ref 57, .int 0, .null, .null, .null, .null, .null, .null, .null, .null]))) (.inl (8, (81, .inl (fun _ => 0)))) 81) 55 (.inr (0, [.null, .ref 56, .int 0, .ref 57, .int 0, .ref 58, .null, .null, .null, .null, .null, .null, .null]))) (.inl (8, (81, .inl (fun _ => 0)))) 81) 55 (.inr (0, [.null, .ref 56, .int 0, .ref 57, .int 0, .ref 58, .ref 59, .null, .null, .null, .null, .null, .null])))) rfl rfl rfl ?_
  refine a_aload_n C dX0_init_36 rfl rfl ?_
  refine a_bipush (v := nI 81) C dX0_init_37 (by decide) ?_
  refine a_newaI C dX0_init_39 (N := 81) rfl (by decide) (show 60 < 207 by decide) rfl ⟨show 60 + 1 ≤ 56 + 10 by decide, show us + 81 + 81 + 81 + 81 + 81 ≤ us + 810 by omega⟩ ?_
  refine a_eq (st' := [.ref 60, .ref 55]) rfl rfl rfl ?_
  refine a_putF C fX0_25 hin (fun _ _ _ h => by cases h; rfl) dX0_init_41 (show 55 < 61 by decide) (by decide) rfl rfl rfl (by decide) ?_
  refine a_eq (M' := (aPut (aNew (aPut (aNew (aPut (aNew (aPut (aNew (aPut (aNew (56, 0, us, f) (.inl (9, (81, .inl (fun _ => 0)))) 81) 55 (.inr (0, [.null, .ref 56, .int 0, .null, .int 0, .null, .null, .null, .null, .null, .null, .null, .null]))) (.inl (8, (81, .inl (fun _ => 0)))) 81) 55 (.inr (0, [.null, .ref 56, .int 0, .ref 57, .int 0, .null, .null, .null, .null, .null, .null, .null, .null]))) (.inl (8, (81, .inl (fun _ => 0)))) 81) 55 (.inr (0, [.null, .ref 56, .int 0, .ref 57, .int 0, .ref 58, .null, .null, .null, .null, .null, .null, .null]))) (.inl (8, (81, .inl (fun _ => 0)))) 81) 55 (.inr (0, [.null, .ref 56, .int 0, .ref 57, .int 0, .ref 58, .ref 59, .null, .null, .null, .null, .null, .null]))) (.inl (8, (81, .inl (fun _ => 0)))) 81) 55 (.inr (0, [.null, .ref 56, .int 0, .ref 57, .int 0, .ref 58, .ref 59, .ref 60, .null, .null, .null, .null, .null])))) rfl rfl rfl ?_
  refine a_aload_n C dX0_init_44 rfl rfl ?_
  refine a_bipush (v := nI 81) C dX0_init_45 (by decide) ?_
  refine a_newaI C dX0_init_47 (N := 81) rfl (by decide) (show 61 < 207 by decide) rfl ⟨show 61 + 1 ≤ 56 + 10 by decide, show us + 81 + 81 + 81 + 81 + 81 + 81 ≤ us + 810 by omega⟩ ?_
  refine a_eq (st' := [.ref 61, .ref 55]) rfl rfl rfl ?_
  refine a_putF C fX0_28 hin (fun _ _ _ h => by cases h; rfl) dX0_init_49 (show 55 < 62 by decide) (by decide) rfl rfl rfl (by decide) ?_
  refine a_eq (M' := (aPut (aNew (aPut (aNew (aPut (aNew (aPut (aNew (aPut (aNew (aPut (aNew (56, 0, us, f) (.inl (9, (81, .inl (fun _ => 0)))) 81) 55 (.inr (0, [.null, .ref 56, .int 0, .null, .int 0, .null, .null, .null, .null, .null, .null, .null, .null]))) (.inl (8, (81, .inl (fun _ => 0)))) 81) 55 (.inr (0, [.null, .ref 56, .int 0, .ref 57, .int 0, .null, .null, .null, .null, .null, .null, .null, .null]))) (.inl (8, (81, .inl (fun _ => 0)))) 81) 55 (.inr (0, [.null, .ref 56, .int 0, .ref 57, .int 0, .ref 58, .null, .null, .null, .null, .null, .null, .null]))) (.inl (8, (81, .inl (fun _ => 0)))) 81) 55 (.inr (0, [.null, .ref 56, .int 0, .ref 57, .int 0, .ref 58, .ref 59, .null, .null, .null, .null, .null, .null]))) (.inl (8, (81, .inl (fun _ => 0)))) 81) 55 (.inr (0, [.null, .ref 56, .int 0, .ref 57, .int 0, .ref 58, .ref 59, .ref 60, .null, .null, .null, .null, .null]))) (.inl (8, (81, .inl (fun _ => 0)))) 81) 55 (.inr (0, [.null, .ref 56, .int 0, .ref 57, .int 0, .ref 58, .ref 59, .ref 60, .ref 61, .null, .null, .null, .null])))) rfl rfl rfl ?_
  refine a_aload_n C dX0_init_52 rfl rfl ?_
  refine a_bipush (v := nI 81) C dX0_init_53 (by decide) ?_
  refine a_newaI C dX0_init_55 (N := 81) rfl (by decide) (show 62 < 207 by decide) rfl ⟨show 62 + 1 ≤ 56 + 10 by decide, show us + 81 + 81 + 81 + 81 + 81 + 81 + 81 ≤ us + 810 by omega⟩ ?_
  refine a_eq (st' := [.ref 62, .ref 55]) rfl rfl rfl ?_
  refine a_putF C fX0_31 hin (fun _ _ _ h => by cases h; rfl) dX0_init_57 (show 55 < 63 by decide) (by decide) rfl rfl rfl (by decide) ?_
  refine a_eq (M' := (aPut (aNew (aPut (aNew (aPut (aNew (aPut (aNew (aPut (aNew (aPut (aNew (aPut (aNew (56, 0, us, f) (.inl (9, (81, .inl (fun _ => 0)))) 81) 55 (.inr (0, [.null, .ref 56, .int 0, .null, .int 0, .null, .null, .null, .null, .null, .null, .null, .null]))) (.inl (8, (81, .inl (fun _ => 0)))) 81) 55 (.inr (0, [.null, .ref 56, .int 0, .ref 57, .int 0, .null, .null, .null, .null, .null, .null, .null, .null]))) (.inl (8, (81, .inl (fun _ => 0)))) 81) 55 (.inr (0, [.null, .ref 56, .int 0, .ref 57, .int 0, .ref 58, .null, .null, .null, .null, .null, .null, .null]))) (.inl (8, (81, .inl (fun _ => 0)))) 81) 55 (.inr (0, [.null, .ref 56, .int 0, .ref 57, .int 0, .ref 58, .ref 59, .null, .null, .null, .null, .null, .null]))) (.inl (8, (81, .inl (fun _ => 0)))) 81) 55 (.inr (0, [.null, .ref 56, .int 0, .ref 57, .int 0, .ref 58, .ref 59, .ref 60, .null, .null, .null, .null, .null]))) (.inl (8, (81, .inl (fun _ => 0)))) 81) 55 (.inr (0, [.null, .ref 56, .int 0, .ref 57, .int 0, .ref 58, .ref 59, .ref 60, .ref 61, .null, .null, .null, .null]))) (.inl (8, (81, .inl (fun _ => 0)))) 81) 55 (.inr (0, [.null, .ref 56, .int 0, .ref 57, .int 0, .ref 58, .ref 59, .ref 60, .ref 61, .ref 62, .null, .null, .null])))) rfl rfl rfl ?_
  refine a_aload_n C dX0_init_60 rfl rfl ?_
  refine a_bipush (v := nI 81) C dX0_init_61 (by decide) ?_
  refine a_newaZ C dX0_init_63 (N := 81) rfl (by decide) (show 63 < 207 by decide) rfl ⟨show 63 + 1 ≤ 56 + 10 by decide, show us + 81 + 81 + 81 + 81 + 81 + 81 + 81 + 81 ≤ us + 810 by omega⟩ ?_
  refine a_eq (st' := [.ref 63, .ref 55]) rfl rfl rfl ?_
  refine a_putF C fX0_34 hin (fun _ _ _ h => by cases h; rfl) dX0_init_65 (show 55 < 64 by decide) (by decide) rfl rfl rfl (by decide) ?_
  refine a_eq (M' := (aPut (aNew (aPut (aNew (aPut (aNew (aPut (aNew (aPut (aNew (aPut (aNew (aPut (aNew (aPut (aNew (56, 0, us, f) (.inl (9, (81, .inl (fun _ => 0)))) 81) 55 (.inr (0, [.null, .ref 56, .int 0, .null, .int 0, .null, .null, .null, .null, .null, .null, .null, .null]))) (.inl (8, (81, .inl (fun _ => 0)))) 81) 55 (.inr (0, [.null, .ref 56, .int 0, .ref 57, .int 0, .null, .null, .null, .null, .null, .null, .null, .null]))) (.inl (8, (81, .inl (fun _ => 0)))) 81) 55 (.inr (0, [.null, .ref 56, .int 0, .ref 57, .int 0, .ref 58, .null, .null, .null, .null, .null, .null, .null]))) (.inl (8, (81, .inl (fun _ => 0)))) 81) 55 (.inr (0, [.null, .ref 56, .int 0, .ref 57, .int 0, .ref 58, .ref 59, .null, .null, .null, .null, .null, .null]))) (.inl (8, (81, .inl (fun _ => 0)))) 81) 55 (.inr (0, [.null, .ref 56, .int 0, .ref 57, .int 0, .ref 58, .ref 59, .ref 60, .null, .null, .null, .null, .null]))) (.inl (8, (81, .inl (fun _ => 0)))) 81) 55 (.inr (0, [.null, .ref 56, .int 0, .ref 57, .int 0, .ref 58, .ref 59, .ref 60, .ref 61, .null, .null, .null, .null]))) (.inl (8, (81, .inl (fun _ => 0)))) 81) 55 (.inr (0, [.null, .ref 56, .int 0, .ref 57, .int 0, .ref 58, .ref 59, .ref 60, .ref 61, .ref 62, .null, .null, .null]))) (.inl (9, (81, .inl (fun _ => 0)))) 81) 55 (.inr (0, [.null, .ref 56, .int 0, .ref 57, .int 0, .ref 58, .ref 59, .ref 60, .ref 61, .ref 62, .ref 63, .null, .null])))) rfl rfl rfl ?_
  refine a_aload_n C dX0_init_68 rfl rfl ?_
  refine a_bipush (v := nI 81) C dX0_init_69 (by decide) ?_
  refine a_newaZ C dX0_init_71 (N := 81) rfl (by decide) (show 64 < 207 by decide) rfl ⟨show 64 + 1 ≤ 56 + 10 by decide, show us + 81 + 81 + 81 + 81 + 81 + 81 + 81 + 81 + 81 ≤ us + 810 by omega⟩ ?_
  refine a_eq (st' := [.ref 64, .ref 55]) rfl rfl rfl ?_
  refine a_putF C fX0_37 hin (fun _ _ _ h => by cases h; rfl) dX0_init_73 (show 55 < 65 by decide) (by decide) rfl rfl rfl (by decide) ?_
  refine a_eq (M' := (aPut (aNew (aPut (aNew (aPut (aNew (aPut (aNew (aPut (aNew (aPut (aNew (aPut (aNew (aPut (aNew (aPut (aNew (56, 0, us, f) (.inl (9, (81, .inl (fun _ => 0)))) 81) 55 (.inr (0, [.null, .ref 56, .int 0, .null, .int 0, .null, .null, .null, .null, .null, .null, .null, .null]))) (.inl (8, (81, .inl (fun _ => 0)))) 81) 55 (.inr (0, [.null, .ref 56, .int 0, .ref 57, .int 0, .null, .null, .null, .null, .null, .null, .null, .null]))) (.inl (8, (81, .inl (fun _ => 0)))) 81) 55 (.inr (0, [.null, .ref 56, .int 0, .ref 57, .int 0, .ref 58, .null, .null, .null, .null, .null, .null, .null]))) (.inl (8, (81, .inl (fun _ => 0)))) 81) 55 (.inr (0, [.null, .ref 56, .int 0, .ref 57, .int 0, .ref 58, .ref 59, .null, .null, .null, .null, .null, .null]))) (.inl (8, (81, .inl (fun _ => 0)))) 81) 55 (.inr (0, [.null, .ref 56, .int 0, .ref 57, .int 0, .ref 58, .ref 59, .ref 60, .null, .null, .null, .null, .null]))) (.inl (8, (81, .inl (fun _ => 0)))) 81) 55 (.inr (0, [.null, .ref 56, .int 0, .ref 57, .int 0, .ref 58, .ref 59, .ref 60, .ref 61, .null, .null, .null, .null]))) (.inl (8, (81, .inl (fun _ => 0)))) 81) 55 (.inr (0, [.null, .ref 56, .int 0, .ref 57, .int 0, .ref 58, .ref 59, .ref 60, .ref 61, .ref 62, .null, .null, .null]))) (.inl (9, (81, .inl (fun _ => 0)))) 81) 55 (.inr (0, [.null, .ref 56, .int 0, .ref 57, .int 0, .ref 58, .ref 59, .ref 60, .ref 61, .ref 62, .ref 63, .null, .null]))) (.inl (9, (81, .inl (fun _ => 0)))) 81) 55 (.inr (0, [.null, .ref 56, .int 0, .ref 57, .int 0, .ref 58, .ref 59, .ref 60, .ref 61, .ref 62, .ref 63, .ref 64, .null])))) rfl rfl rfl ?_
  refine a_aload_n C dX0_init_76 rfl rfl ?_
  refine a_bipush (v := nI 81) C dX0_init_77 (by decide) ?_
  refine a_newaI C dX0_init_79 (N := 81) rfl (by decide) (show 65 < 207 by decide) rfl ⟨show 65 + 1 ≤ 56 + 10 by decide, show us + 81 + 81 + 81 + 81 + 81 + 81 + 81 + 81 + 81 + 81 ≤ us + 810 by omega⟩ ?_
  refine a_eq (st' := [.ref 65, .ref 55]) rfl rfl rfl ?_
  refine a_putF C fX0_40 hin (fun _ _ _ h => by cases h; rfl) dX0_init_81 (show 55 < 66 by decide) (by decide) rfl rfl rfl (by decide) ?_
  refine a_eq (M' := (aPut (aNew (aPut (aNew (aPut (aNew (aPut (aNew (aPut (aNew (aPut (aNew (aPut (aNew (aPut (aNew (aPut (aNew (aPut (aNew (56, 0, us, f) (.inl (9, (81, .inl (fun _ => 0)))) 81) 55 (.inr (0, [.null, .ref 56, .int 0, .null, .int 0, .null, .null, .null, .null, .null, .null, .null, .null]))) (.inl (8, (81, .inl (fun _ => 0)))) 81) 55 (.inr (0, [.null, .ref 56, .int 0, .ref 57, .int 0, .null, .null, .null, .null, .null, .null, .null, .null]))) (.inl (8, (81, .inl (fun _ => 0)))) 81) 55 (.inr (0, [.null, .ref 56, .int 0, .ref 57, .int 0, .ref 58, .null, .null, .null, .null, .null, .null, .null]))) (.inl (8, (81, .inl (fun _ => 0)))) 81) 55 (.inr (0, [.null, .ref 56, .int 0, .ref 57, .int 0, .ref 58, .ref 59, .null, .null, .null, .null, .null, .null]))) (.inl (8, (81, .inl (fun _ => 0)))) 81) 55 (.inr (0, [.null, .ref 56, .int 0, .ref 57, .int 0, .ref 58, .ref 59, .ref 60, .null, .null, .null, .null, .null]))) (.inl (8, (81, .inl (fun _ => 0)))) 81) 55 (.inr (0, [.null, .ref 56, .int 0, .ref 57, .int 0, .ref 58, .ref 59, .ref 60, .ref 61, .null, .null, .null, .null]))) (.inl (8, (81, .inl (fun _ => 0)))) 81) 55 (.inr (0, [.null, .ref 56, .int 0, .ref 57, .int 0, .ref 58, .ref 59, .ref 60, .ref 61, .ref 62, .null, .null, .null]))) (.inl (9, (81, .inl (fun _ => 0)))) 81) 55 (.inr (0, [.null, .ref 56, .int 0, .ref 57, .int 0, .ref 58, .ref 59, .ref 60, .ref 61, .ref 62, .ref 63, .null, .null]))) (.inl (9, (81, .inl (fun _ => 0)))) 81) 55 (.inr (0, [.null, .ref 56, .int 0, .ref 57, .int 0, .ref 58, .ref 59, .ref 60, .ref 61, .ref 62, .ref 63, .ref 64, .null]))) (.inl (8, (81, .inl (fun _ => 0)))) 81) 55 (.inr (0, [.null, .ref 56, .int 0, .ref 57, .int 0, .ref 58, .ref 59, .ref 60, .ref 61, .ref 62, .ref 63, .ref 64, .ref 65])))) rfl rfl rfl ?_
  refine a_aload_n C dX0_init_84 rfl rfl ?_
  refine a_aload_n C dX0_init_85 rfl rfl ?_
  refine a_putF C fX0_43 hin (fun _ _ _ h => by cases h; rfl) dX0_init_86 (show 55 < 66 by decide) (by decide) rfl rfl rfl (by decide) ?_
  refine a_eq (M' := (aPut (aPut (aNew (aPut (aNew (aPut (aNew (aPut (aNew (aPut (aNew (aPut (aNew (aPut (aNew (aPut (aNew (aPut (aNew (aPut (aNew (56, 0, us, f) (.inl (9, (81, .inl (fun _ => 0)))) 81) 55 (.inr (0, [.null, .ref 56, .int 0, .null, .int 0, .null, .null, .null, .null, .null, .null, .null, .null]))) (.inl (8, (81, .inl (fun _ => 0)))) 81) 55 (.inr (0, [.null, .ref 56, .int 0, .ref 57, .int 0, .null, .null, .null, .null, .null, .null, .null, .null]))) (.inl (8, (81, .inl (fun _ => 0)))) 81) 55 (.inr (0, [.null, .ref 56, .int 0, .ref 57, .int 0, .ref 58, .null, .null, .null, .null, .null, .null, .null]))) (.inl (8, (81, .inl (fun _ => 0)))) 81) 55 (.inr (0, [.null, .ref 56, .int 0, .ref 57, .int 0, .ref 58, .ref 59, .null, .null, .null, .null, .null, .null]))) (.inl (8, (81, .inl (fun _ => 0)))) 81) 55 (.inr (0, [.null, .ref 56, .int 0, .ref 57, .int 0, .ref 58, .ref 59, .ref 60, .null, .null, .null, .null, .null]))) (.inl (8, (81, .inl (fun _ => 0)))) 81) 55 (.inr (0, [.null, .ref 56, .int 0, .ref 57, .int 0, .ref 58, .ref 59, .ref 60, .ref 61, .null, .null, .null, .null]))) (.inl (8, (81, .inl (fun _ => 0)))) 81) 55 (.inr (0, [.null, .ref 56, .int 0, .ref 57, .int 0, .ref 58, .ref 59, .ref 60, .ref 61, .ref 62, .null, .null, .null]))) (.inl (9, (81, .inl (fun _ => 0)))) 81) 55 (.inr (0, [.null, .ref 56, .int 0, .ref 57, .int 0, .ref 58, .ref 59, .ref 60, .ref 61, .ref 62, .ref 63, .null, .null]))) (.inl (9, (81, .inl (fun _ => 0)))) 81) 55 (.inr (0, [.null, .ref 56, .int 0, .ref 57, .int 0, .ref 58, .ref 59, .ref 60, .ref 61, .ref 62, .ref 63, .ref 64, .null]))) (.inl (8, (81, .inl (fun _ => 0)))) 81) 55 (.inr (0, [.null, .ref 56, .int 0, .ref 57, .int 0, .ref 58, .ref 59, .ref 60, .ref 61, .ref 62, .ref 63, .ref 64, .ref 65]))) 55 (.inr (0, [.ref 50, .ref 56, .int 0, .ref 57, .int 0, .ref 58, .ref 59, .ref 60, .ref 61, .ref 62, .ref 63, .ref 64, .ref 65])))) rfl rfl rfl ?_
  exact a_vret (M0 := (56, 0, us, f)) C hr dX0_init_89 rfl (show us + 81 + 81 + 81 + 81 + 81 + 81 + 81 + 81 + 81 + 81 = us + 810 by omega) ⟨rfl, rfl, fun a ha ho => ((aPut_ne (ho)).trans ((aPut_ne (ho)).trans ((aNew_ne (show ¬ a = 65 by omega)).trans ((aPut_ne (ho)).trans ((aNew_ne (show ¬ a = 64 by omega)).trans ((aPut_ne (ho)).trans ((aNew_ne (show ¬ a = 63 by omega)).trans ((aPut_ne (ho)).trans ((aNew_ne (show ¬ a = 62 by omega)).trans ((aPut_ne (ho)).trans ((aNew_ne (show ¬ a = 61 by omega)).trans ((aPut_ne (ho)).trans ((aNew_ne (show ¬ a = 60 by omega)).trans ((aPut_ne (ho)).trans ((aNew_ne (show ¬ a = 59 by omega)).trans ((aPut_ne (ho)).trans ((aNew_ne (show ¬ a = 58 by omega)).trans ((aPut_ne (ho)).trans ((aNew_ne (show ¬ a = 57 by omega)).trans ((aPut_ne (ho)).trans ((aNew_ne (show ¬ a = 56 by omega)).trans rfl))))))))))))))))))))), rfl, rfl, rfl, rfl, rfl, rfl, rfl, rfl, rfl, rfl, rfl⟩
end A43

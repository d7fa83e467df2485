section A54
/-! ### the law's helpers: an answer goes to the row, a throw becomes a number -/
def CH (y : MethodName) (cc : ByteArray) (n : Nat) (hh : List (Nat × Nat × Nat × Nat)) (fr lo : Nat) (av : List Value) (w : Wd) (d : Nat) (P : Int32 → Wd → Prop) : Prop :=
  ∀ ex us : Nat, CW y cc n (some .int) hh fr lo av (fzM w ex us) d (6 * d) (fun r M' => ∃ (x : Int32) (w' : Wd), r = some (.int x) ∧ M' = fzM w' (ex + d) (us + 6 * d) ∧ P x w')
theorem cwL_cut2 : aCodeW yL_cut cL_cut 5 (some .int) [(0, 10, 13, 13), (0, 10, 17, 15)] := ⟨cwL_cut, gw_in (List.mem_of_getElem? (i := 116) (by decide +kernel)) rfl, by decide +kernel, by decide +kernel, by decide +kernel⟩
theorem H_cut {w : Wd} {x0 x1 : Int32} {fr lo : Nat} {P : Option Value → Wd → Prop} {P2 : Int32 → Wd → Prop} (hK : CF yX6_cut cX6_cut 3 (some .int) fr lo [.ref 0, .int x0, .int x1] w P) (hP : ∀ r w', P r w' → ∃ v, r = some (.int v) ∧ P2 v w') :
    CH yL_cut cL_cut 5 [(0, 10, 13, 13), (0, 10, 17, 15)] (fr + 1) (22 + lo) [.ref 0, .int x0, .int x1, .ref 218] w 0 (fun o w' => o = 0 ∧ ∃ v w9, P2 v w9 ∧ w' = wLong w9 218 v.toInt64) := by
  intro ex us
  refine CW.of cwL_cut2 (Nat.le_of_ble_eq_true rfl) (fun G9 p9 l9 e9 s9 m9 ar9 be9 me9 co9 C hfl htb hr => ?_)
  refine a_pad 1 ?_
  refine a_eq (L' := [some (.ref 0), some (.int x0), some (.int x1), some (.ref 218), none]) rfl rfl rfl ?_
  refine a_aload_n C dL_cut_0 rfl rfl ?_
  refine a_iconst (v := 0) C dL_cut_1 (by decide) ?_
  refine a_aload_n C dL_cut_2 rfl rfl ?_
  refine a_iload_n C dL_cut_3 rfl rfl ?_
  refine a_iload_n C dL_cut_4 rfl rfl ?_
  refine a_callV C [.int x0, .int x1] 6 (hK ex us) vL_7 (show 0 < 219 by decide) (by decide) (show fz w 0 = .inr (6, _) from rfl) rfl dL_cut_5 rfl (Nat.le_of_ble_eq_true rfl) ⟨Nat.le_refl _, by show 8 + (3 + 11) + lo ≤ 22 + lo; omega⟩ ⟨by show 219 + ex + 0 ≤ 219 + ex + 0; omega, by show us + 0 ≤ us + 0; omega⟩ (fun r9 M9 hp9 _ _ => ?_)
  obtain ⟨w9, rfl, hp9⟩ := hp9
  obtain ⟨v, rfl, hv⟩ := hP _ _ hp9
  refine a_eq (st' := [.int v, .int 0, .ref 218]) rfl rfl rfl ?_
  refine a_i2l C dL_cut_8 ?_
  refine o_store C dL_cut_9 ?_
  refine a_goto (tgt := 21) C dL_cut_10 (by decide) ?_
  refine a_iconst (v := 0) C dL_cut_21 (by decide) ?_
  exact a_iret C hr rfl dL_cut_22 rfl rfl ⟨0, _, rfl, rfl, rfl, v, w9, hv, rfl⟩
theorem T_cut_0 {w : Wd} {x0 x1 : Int32} {fr lo : Nat} (hK : CXF yX6_cut cX6_cut 3 (some .int) fr lo [.ref 0, .int x0, .int x1] w "java/lang/IllegalArgumentException") :
    CH yL_cut cL_cut 5 [(0, 10, 13, 13), (0, 10, 17, 15)] (fr + 1) (22 + lo) [.ref 0, .int x0, .int x1, .ref 218] w 1 (fun o w' => o = 1 ∧ w' = w) := by
  intro ex us
  refine CW.of cwL_cut2 (Nat.le_of_ble_eq_true rfl) (fun G9 p9 l9 e9 s9 m9 ar9 be9 me9 co9 C hfl htb hr => ?_)
  refine a_pad 1 ?_
  refine a_eq (L' := [some (.ref 0), some (.int x0), some (.int x1), some (.ref 218), none]) rfl rfl rfl ?_
  refine a_aload_n C dL_cut_0 rfl rfl ?_
  refine a_iconst (v := 0) C dL_cut_1 (by decide) ?_
  refine a_aload_n C dL_cut_2 rfl rfl ?_
  refine a_iload_n C dL_cut_3 rfl rfl ?_
  refine a_iload_n C dL_cut_4 rfl rfl ?_
  refine a_xcat C hfl [.int x0, .int x1] 6 (hK ex us) vL_7 (show 0 < 219 by decide) (by decide) (show fz w 0 = .inr (6, _) from rfl) rfl dL_cut_5 rfl (Nat.le_of_ble_eq_true rfl) ⟨Nat.le_refl _, by show 8 + (3 + 11) + lo ≤ 22 + lo; omega⟩ ⟨by show 219 + ex + 1 ≤ 219 + ex + 1; omega, by show us + 6 ≤ us + 6 * 1; omega⟩ (E := "java/lang/IllegalArgumentException") (by decide) (fun E' M' h => h.1) [] ⟨0, 10, 13, 13⟩ [⟨0, 10, 17, 15⟩] htb (fun z hz => by cases hz) rfl (by decide) kL_13 dL_cut_13 (by decide) (fun M9 hp9 _ _ => ?_)
  obtain ⟨-, rfl⟩ := hp9
  refine a_iconst (v := 1) C dL_cut_15 (by decide) ?_
  exact a_iret C hr rfl dL_cut_16 rfl rfl ⟨1, w, rfl, rfl, rfl, rfl⟩
theorem T_cut_1 {w : Wd} {x0 x1 : Int32} {fr lo : Nat} (hK : CXF yX6_cut cX6_cut 3 (some .int) fr lo [.ref 0, .int x0, .int x1] w "java/lang/IllegalStateException") :
    CH yL_cut cL_cut 5 [(0, 10, 13, 13), (0, 10, 17, 15)] (fr + 1) (22 + lo) [.ref 0, .int x0, .int x1, .ref 218] w 1 (fun o w' => o = 2 ∧ w' = w) := by
  intro ex us
  refine CW.of cwL_cut2 (Nat.le_of_ble_eq_true rfl) (fun G9 p9 l9 e9 s9 m9 ar9 be9 me9 co9 C hfl htb hr => ?_)
  refine a_pad 1 ?_
  refine a_eq (L' := [some (.ref 0), some (.int x0), some (.int x1), some (.ref 218), none]) rfl rfl rfl ?_
  refine a_aload_n C dL_cut_0 rfl rfl ?_
  refine a_iconst (v := 0) C dL_cut_1 (by decide) ?_
  refine a_aload_n C dL_cut_2 rfl rfl ?_
  refine a_iload_n C dL_cut_3 rfl rfl ?_
  refine a_iload_n C dL_cut_4 rfl rfl ?_
  refine a_xcat C hfl [.int x0, .int x1] 6 (hK ex us) vL_7 (show 0 < 219 by decide) (by decide) (show fz w 0 = .inr (6, _) from rfl) rfl dL_cut_5 rfl (Nat.le_of_ble_eq_true rfl) ⟨Nat.le_refl _, by show 8 + (3 + 11) + lo ≤ 22 + lo; omega⟩ ⟨by show 219 + ex + 1 ≤ 219 + ex + 1; omega, by show us + 6 ≤ us + 6 * 1; omega⟩ (E := "java/lang/IllegalStateException") (by decide) (fun E' M' h => h.1) [⟨0, 10, 13, 13⟩] ⟨0, 10, 17, 15⟩ [] htb (fun z hz => by
    rcases List.mem_cons.mp hz with rfl | hz
    · exact Or.inr ⟨by decide, "java/lang/IllegalArgumentException", by decide, by decide, kL_13⟩
    cases hz) rfl (by decide) kL_15 dL_cut_17 (by decide) (fun M9 hp9 _ _ => ?_)
  obtain ⟨-, rfl⟩ := hp9
  refine a_iconst (v := 2) C dL_cut_19 (by decide) ?_
  exact a_iret C hr rfl dL_cut_20 rfl rfl ⟨2, w, rfl, rfl, rfl, rfl⟩
theorem cwL_deepen : aCodeW yL_deepen cL_deepen 5 (some .int) [(0, 10, 13, 20), (0, 10, 17, 15)] := ⟨gw_in (List.mem_of_getElem? (i := 868) (by decide +kernel)) rfl, gw_in (List.mem_of_getElem? (i := 116) (by decide +kernel)) rfl, by decide +kernel, by decide +kernel, by decide +kernel⟩
theorem H_deepen {w : Wd} {x0 x1 : Int32} {fr lo : Nat} {P : Option Value → Wd → Prop} {P2 : Int32 → Wd → Prop} (hK : CF yX6_deepen cX6_deepen 3 (some .int) fr lo [.ref 0, .int x0, .int x1] w P) (hP : ∀ r w', P r w' → ∃ v, r = some (.int v) ∧ P2 v w') :
    CH yL_deepen cL_deepen 5 [(0, 10, 13, 20), (0, 10, 17, 15)] (fr + 1) (22 + lo) [.ref 0, .int x0, .int x1, .ref 218] w 0 (fun o w' => o = 0 ∧ ∃ v w9, P2 v w9 ∧ w' = wLong w9 218 v.toInt64) := by
  intro ex us
  refine CW.of cwL_deepen (Nat.le_of_ble_eq_true rfl) (fun G9 p9 l9 e9 s9 m9 ar9 be9 me9 co9 C hfl htb hr => ?_)
  refine a_pad 1 ?_
  refine a_eq (L' := [some (.ref 0), some (.int x0), some (.int x1), some (.ref 218), none]) rfl rfl rfl ?_
  refine a_aload_n C dL_deepen_0 rfl rfl ?_
  refine a_iconst (v := 0) C dL_deepen_1 (by decide) ?_
  refine a_aload_n C dL_deepen_2 rfl rfl ?_
  refine a_iload_n C dL_deepen_3 rfl rfl ?_
  refine a_iload_n C dL_deepen_4 rfl rfl ?_
  refine a_callV C [.int x0, .int x1] 6 (hK ex us) vL_17 (show 0 < 219 by decide) (by decide) (show fz w 0 = .inr (6, _) from rfl) rfl dL_deepen_5 rfl (Nat.le_of_ble_eq_true rfl) ⟨Nat.le_refl _, by show 8 + (3 + 11) + lo ≤ 22 + lo; omega⟩ ⟨by show 219 + ex + 0 ≤ 219 + ex + 0; omega, by show us + 0 ≤ us + 0; omega⟩ (fun r9 M9 hp9 _ _ => ?_)
  obtain ⟨w9, rfl, hp9⟩ := hp9
  obtain ⟨v, rfl, hv⟩ := hP _ _ hp9
  refine a_eq (st' := [.int v, .int 0, .ref 218]) rfl rfl rfl ?_
  refine a_i2l C dL_deepen_8 ?_
  refine o_store C dL_deepen_9 ?_
  refine a_goto (tgt := 21) C dL_deepen_10 (by decide) ?_
  refine a_iconst (v := 0) C dL_deepen_21 (by decide) ?_
  exact a_iret C hr rfl dL_deepen_22 rfl rfl ⟨0, _, rfl, rfl, rfl, v, w9, hv, rfl⟩
theorem T_deepen_0 {w : Wd} {x0 x1 : Int32} {fr lo : Nat} (hK : CXF yX6_deepen cX6_deepen 3 (some .int) fr lo [.ref 0, .int x0, .int x1] w "java/lang/IndexOutOfBoundsException") :
    CH yL_deepen cL_deepen 5 [(0, 10, 13, 20), (0, 10, 17, 15)] (fr + 1) (22 + lo) [.ref 0, .int x0, .int x1, .ref 218] w 1 (fun o w' => o = 1 ∧ w' = w) := by
  intro ex us
  refine CW.of cwL_deepen (Nat.le_of_ble_eq_true rfl) (fun G9 p9 l9 e9 s9 m9 ar9 be9 me9 co9 C hfl htb hr => ?_)
  refine a_pad 1 ?_
  refine a_eq (L' := [some (.ref 0), some (.int x0), some (.int x1), some (.ref 218), none]) rfl rfl rfl ?_
  refine a_aload_n C dL_deepen_0 rfl rfl ?_
  refine a_iconst (v := 0) C dL_deepen_1 (by decide) ?_
  refine a_aload_n C dL_deepen_2 rfl rfl ?_
  refine a_iload_n C dL_deepen_3 rfl rfl ?_
  refine a_iload_n C dL_deepen_4 rfl rfl ?_
  refine a_xcat C hfl [.int x0, .int x1] 6 (hK ex us) vL_17 (show 0 < 219 by decide) (by decide) (show fz w 0 = .inr (6, _) from rfl) rfl dL_deepen_5 rfl (Nat.le_of_ble_eq_true rfl) ⟨Nat.le_refl _, by show 8 + (3 + 11) + lo ≤ 22 + lo; omega⟩ ⟨by show 219 + ex + 1 ≤ 219 + ex + 1; omega, by show us + 6 ≤ us + 6 * 1; omega⟩ (E := "java/lang/IndexOutOfBoundsException") (by decide) (fun E' M' h => h.1) [] ⟨0, 10, 13, 20⟩ [⟨0, 10, 17, 15⟩] htb (fun z hz => by cases hz) rfl (by decide) kL_20 dL_deepen_13 (by decide) (fun M9 hp9 _ _ => ?_)
  obtain ⟨-, rfl⟩ := hp9
  refine a_iconst (v := 1) C dL_deepen_15 (by decide) ?_
  exact a_iret C hr rfl dL_deepen_16 rfl rfl ⟨1, w, rfl, rfl, rfl, rfl⟩
theorem T_deepen_1 {w : Wd} {x0 x1 : Int32} {fr lo : Nat} (hK : CXF yX6_deepen cX6_deepen 3 (some .int) fr lo [.ref 0, .int x0, .int x1] w "java/lang/IllegalStateException") :
    CH yL_deepen cL_deepen 5 [(0, 10, 13, 20), (0, 10, 17, 15)] (fr + 1) (22 + lo) [.ref 0, .int x0, .int x1, .ref 218] w 1 (fun o w' => o = 2 ∧ w' = w) := by
  intro ex us
  refine CW.of cwL_deepen (Nat.le_of_ble_eq_true rfl) (fun G9 p9 l9 e9 s9 m9 ar9 be9 me9 co9 C hfl htb hr => ?_)
  refine a_pad 1 ?_
  refine a_eq (L' := [some (.ref 0), some (.int x0), some (.int x1), some (.ref 218), none]) rfl rfl rfl ?_
  refine a_aload_n C dL_deepen_0 rfl rfl ?_
  refine a_iconst (v := 0) C dL_deepen_1 (by decide) ?_
  refine a_aload_n C dL_deepen_2 rfl rfl ?_
  refine a_iload_n C dL_deepen_3 rfl rfl ?_
  refine a_iload_n C dL_deepen_4 rfl rfl ?_
  refine a_xcat C hfl [.int x0, .int x1] 6 (hK ex us) vL_17 (show 0 < 219 by decide) (by decide) (show fz w 0 = .inr (6, _) from rfl) rfl dL_deepen_5 rfl (Nat.le_of_ble_eq_true rfl) ⟨Nat.le_refl _, by show 8 + (3 + 11) + lo ≤ 22 + lo; omega⟩ ⟨by show 219 + ex + 1 ≤ 219 + ex + 1; omega, by show us + 6 ≤ us + 6 * 1; omega⟩ (E := "java/lang/IllegalStateException") (by decide) (fun E' M' h => h.1) [⟨0, 10, 13, 20⟩] ⟨0, 10, 17, 15⟩ [] htb (fun z hz => by
    rcases List.mem_cons.mp hz with rfl | hz
    · exact Or.inr ⟨by decide, "java/lang/IndexOutOfBoundsException", by decide, by decide, kL_20⟩
    cases hz) rfl (by decide) kL_15 dL_deepen_17 (by decide) (fun M9 hp9 _ _ => ?_)
  obtain ⟨-, rfl⟩ := hp9
  refine a_iconst (v := 2) C dL_deepen_19 (by decide) ?_
  exact a_iret C hr rfl dL_deepen_20 rfl rfl ⟨2, w, rfl, rfl, rfl, rfl⟩
theorem cwL_retire : aCodeW yL_retire cL_retire 4 (some .int) [(0, 9, 12, 20)] := ⟨gw_in (List.mem_of_getElem? (i := 881) (by decide +kernel)) rfl, gw_in (List.mem_of_getElem? (i := 116) (by decide +kernel)) rfl, by decide +kernel, by decide +kernel, by decide +kernel⟩
theorem H_retire {w : Wd} {x0 : Int32} {fr lo : Nat} {P : Option Value → Wd → Prop} {P2 : Int32 → Wd → Prop} (hK : CF yX6_retire cX6_retire 3 (some .int) fr lo [.ref 0, .int x0] w P) (hP : ∀ r w', P r w' → ∃ v, r = some (.int v) ∧ P2 v w') :
    CH yL_retire cL_retire 4 [(0, 9, 12, 20)] (fr + 1) (22 + lo) [.ref 0, .int x0, .ref 218] w 0 (fun o w' => o = 0 ∧ ∃ v w9, P2 v w9 ∧ w' = wLong w9 218 v.toInt64) := by
  intro ex us
  refine CW.of cwL_retire (Nat.le_of_ble_eq_true rfl) (fun G9 p9 l9 e9 s9 m9 ar9 be9 me9 co9 C hfl htb hr => ?_)
  refine a_pad 1 ?_
  refine a_eq (L' := [some (.ref 0), some (.int x0), some (.ref 218), none]) rfl rfl rfl ?_
  refine a_aload_n C dL_retire_0 rfl rfl ?_
  refine a_iconst (v := 0) C dL_retire_1 (by decide) ?_
  refine a_aload_n C dL_retire_2 rfl rfl ?_
  refine a_iload_n C dL_retire_3 rfl rfl ?_
  refine a_callV C [.int x0] 6 (hK ex us) vL_22 (show 0 < 219 by decide) (by decide) (show fz w 0 = .inr (6, _) from rfl) rfl dL_retire_4 rfl (Nat.le_of_ble_eq_true rfl) ⟨Nat.le_refl _, by show 8 + (3 + 11) + lo ≤ 22 + lo; omega⟩ ⟨by show 219 + ex + 0 ≤ 219 + ex + 0; omega, by show us + 0 ≤ us + 0; omega⟩ (fun r9 M9 hp9 _ _ => ?_)
  obtain ⟨w9, rfl, hp9⟩ := hp9
  obtain ⟨v, rfl, hv⟩ := hP _ _ hp9
  refine a_eq (st' := [.int v, .int 0, .ref 218]) rfl rfl rfl ?_
  refine a_i2l C dL_retire_7 ?_
  refine o_store C dL_retire_8 ?_
  refine a_goto (tgt := 15) C dL_retire_9 (by decide) ?_
  refine a_iconst (v := 0) C dL_retire_15 (by decide) ?_
  exact a_iret C hr rfl dL_retire_16 rfl rfl ⟨0, _, rfl, rfl, rfl, v, w9, hv, rfl⟩
theorem T_retire_0 {w : Wd} {x0 : Int32} {fr lo : Nat} (hK : CXF yX6_retire cX6_retire 3 (some .int) fr lo [.ref 0, .int x0] w "java/lang/IndexOutOfBoundsException") :
    CH yL_retire cL_retire 4 [(0, 9, 12, 20)] (fr + 1) (22 + lo) [.ref 0, .int x0, .ref 218] w 1 (fun o w' => o = 1 ∧ w' = w) := by
  intro ex us
  refine CW.of cwL_retire (Nat.le_of_ble_eq_true rfl) (fun G9 p9 l9 e9 s9 m9 ar9 be9 me9 co9 C hfl htb hr => ?_)
  refine a_pad 1 ?_
  refine a_eq (L' := [some (.ref 0), some (.int x0), some (.ref 218), none]) rfl rfl rfl ?_
  refine a_aload_n C dL_retire_0 rfl rfl ?_
  refine a_iconst (v := 0) C dL_retire_1 (by decide) ?_
  refine a_aload_n C dL_retire_2 rfl rfl ?_
  refine a_iload_n C dL_retire_3 rfl rfl ?_
  refine a_xcatN C hfl [.int x0] 6 (hK ex us) vL_22 (show 0 < 219 by decide) (by decide) (show fz w 0 = .inr (6, _) from rfl) rfl dL_retire_4 rfl (Nat.le_of_ble_eq_true rfl) ⟨Nat.le_refl _, by show 8 + (3 + 11) + lo ≤ 22 + lo; omega⟩ ⟨by show 219 + ex + 1 ≤ 219 + ex + 1; omega, by show us + 6 ≤ us + 6 * 1; omega⟩ (E := "java/lang/IndexOutOfBoundsException") (by decide) (fun E' M' h => h.1) [] ⟨0, 9, 12, 20⟩ [] htb (fun z hz => by cases hz) rfl (by decide) kL_20 dL_retire_12 (by decide) (fun M9 hp9 _ _ => ?_)
  obtain ⟨-, rfl⟩ := hp9
  refine a_iconst (v := 1) C dL_retire_13 (by decide) ?_
  exact a_iret C hr rfl dL_retire_14 rfl rfl ⟨1, w, rfl, rfl, rfl, rfl⟩
theorem cwL_give : aCodeW yL_give cL_give 5 (some .int) [(0, 10, 13, 20), (0, 10, 17, 13)] := ⟨gw_in (List.mem_of_getElem? (i := 889) (by decide +kernel)) rfl, gw_in (List.mem_of_getElem? (i := 116) (by decide +kernel)) rfl, by decide +kernel, by decide +kernel, by decide +kernel⟩
theorem H_give {w : Wd} {x0 x1 : Int32} {fr lo : Nat} {P : Option Value → Wd → Prop} {P2 : Int32 → Wd → Prop} (hK : CF yX6_give cX6_give 5 (some .int) fr lo [.ref 0, .int x0, .int x1] w P) (hP : ∀ r w', P r w' → ∃ v, r = some (.int v) ∧ P2 v w') :
    CH yL_give cL_give 5 [(0, 10, 13, 20), (0, 10, 17, 13)] (fr + 1) (24 + lo) [.ref 0, .int x0, .int x1, .ref 218] w 0 (fun o w' => o = 0 ∧ ∃ v w9, P2 v w9 ∧ w' = wLong w9 218 v.toInt64) := by
  intro ex us
  refine CW.of cwL_give (Nat.le_of_ble_eq_true rfl) (fun G9 p9 l9 e9 s9 m9 ar9 be9 me9 co9 C hfl htb hr => ?_)
  refine a_pad 1 ?_
  refine a_eq (L' := [some (.ref 0), some (.int x0), some (.int x1), some (.ref 218), none]) rfl rfl rfl ?_
  refine a_aload_n C dL_give_0 rfl rfl ?_
  refine a_iconst (v := 0) C dL_give_1 (by decide) ?_
  refine a_aload_n C dL_give_2 rfl rfl ?_
  refine a_iload_n C dL_give_3 rfl rfl ?_
  refine a_iload_n C dL_give_4 rfl rfl ?_
  refine a_callV C [.int x0, .int x1] 6 (hK ex us) vL_26 (show 0 < 219 by decide) (by decide) (show fz w 0 = .inr (6, _) from rfl) rfl dL_give_5 rfl (Nat.le_of_ble_eq_true rfl) ⟨Nat.le_refl _, by show 8 + (5 + 11) + lo ≤ 24 + lo; omega⟩ ⟨by show 219 + ex + 0 ≤ 219 + ex + 0; omega, by show us + 0 ≤ us + 0; omega⟩ (fun r9 M9 hp9 _ _ => ?_)
  obtain ⟨w9, rfl, hp9⟩ := hp9
  obtain ⟨v, rfl, hv⟩ := hP _ _ hp9
  refine a_eq (st' := [.int v, .int 0, .ref 218]) rfl rfl rfl ?_
  refine a_i2l C dL_give_8 ?_
  refine o_store C dL_give_9 ?_
  refine a_goto (tgt := 21) C dL_give_10 (by decide) ?_
  refine a_iconst (v := 0) C dL_give_21 (by decide) ?_
  exact a_iret C hr rfl dL_give_22 rfl rfl ⟨0, _, rfl, rfl, rfl, v, w9, hv, rfl⟩
theorem T_give_0 {w : Wd} {x0 x1 : Int32} {fr lo : Nat} (hK : CXF yX6_give cX6_give 5 (some .int) fr lo [.ref 0, .int x0, .int x1] w "java/lang/IndexOutOfBoundsException") :
    CH yL_give cL_give 5 [(0, 10, 13, 20), (0, 10, 17, 13)] (fr + 1) (24 + lo) [.ref 0, .int x0, .int x1, .ref 218] w 1 (fun o w' => o = 1 ∧ w' = w) := by
  intro ex us
  refine CW.of cwL_give (Nat.le_of_ble_eq_true rfl) (fun G9 p9 l9 e9 s9 m9 ar9 be9 me9 co9 C hfl htb hr => ?_)
  refine a_pad 1 ?_
  refine a_eq (L' := [some (.ref 0), some (.int x0), some (.int x1), some (.ref 218), none]) rfl rfl rfl ?_
  refine a_aload_n C dL_give_0 rfl rfl ?_
  refine a_iconst (v := 0) C dL_give_1 (by decide) ?_
  refine a_aload_n C dL_give_2 rfl rfl ?_
  refine a_iload_n C dL_give_3 rfl rfl ?_
  refine a_iload_n C dL_give_4 rfl rfl ?_
  refine a_xcat C hfl [.int x0, .int x1] 6 (hK ex us) vL_26 (show 0 < 219 by decide) (by decide) (show fz w 0 = .inr (6, _) from rfl) rfl dL_give_5 rfl (Nat.le_of_ble_eq_true rfl) ⟨Nat.le_refl _, by show 8 + (5 + 11) + lo ≤ 24 + lo; omega⟩ ⟨by show 219 + ex + 1 ≤ 219 + ex + 1; omega, by show us + 6 ≤ us + 6 * 1; omega⟩ (E := "java/lang/IndexOutOfBoundsException") (by decide) (fun E' M' h => h.1) [] ⟨0, 10, 13, 20⟩ [⟨0, 10, 17, 13⟩] htb (fun z hz => by cases hz) rfl (by decide) kL_20 dL_give_13 (by decide) (fun M9 hp9 _ _ => ?_)
  obtain ⟨-, rfl⟩ := hp9
  refine a_iconst (v := 1) C dL_give_15 (by decide) ?_
  exact a_iret C hr rfl dL_give_16 rfl rfl ⟨1, w, rfl, rfl, rfl, rfl⟩
theorem T_give_1 {w : Wd} {x0 x1 : Int32} {fr lo : Nat} (hK : CXF yX6_give cX6_give 5 (some .int) fr lo [.ref 0, .int x0, .int x1] w "java/lang/IllegalArgumentException") :
    CH yL_give cL_give 5 [(0, 10, 13, 20), (0, 10, 17, 13)] (fr + 1) (24 + lo) [.ref 0, .int x0, .int x1, .ref 218] w 1 (fun o w' => o = 2 ∧ w' = w) := by
  intro ex us
  refine CW.of cwL_give (Nat.le_of_ble_eq_true rfl) (fun G9 p9 l9 e9 s9 m9 ar9 be9 me9 co9 C hfl htb hr => ?_)
  refine a_pad 1 ?_
  refine a_eq (L' := [some (.ref 0), some (.int x0), some (.int x1), some (.ref 218), none]) rfl rfl rfl ?_
  refine a_aload_n C dL_give_0 rfl rfl ?_
  refine a_iconst (v := 0) C dL_give_1 (by decide) ?_
  refine a_aload_n C dL_give_2 rfl rfl ?_
  refine a_iload_n C dL_give_3 rfl rfl ?_
  refine a_iload_n C dL_give_4 rfl rfl ?_
  refine a_xcat C hfl [.int x0, .int x1] 6 (hK ex us) vL_26 (show 0 < 219 by decide) (by decide) (show fz w 0 = .inr (6, _) from rfl) rfl dL_give_5 rfl (Nat.le_of_ble_eq_true rfl) ⟨Nat.le_refl _, by show 8 + (5 + 11) + lo ≤ 24 + lo; omega⟩ ⟨by show 219 + ex + 1 ≤ 219 + ex + 1; omega, by show us + 6 ≤ us + 6 * 1; omega⟩ (E := "java/lang/IllegalArgumentException") (by decide) (fun E' M' h => h.1) [⟨0, 10, 13, 20⟩] ⟨0, 10, 17, 13⟩ [] htb (fun z hz => by
    rcases List.mem_cons.mp hz with rfl | hz
    · exact Or.inr ⟨by decide, "java/lang/IndexOutOfBoundsException", by decide, by decide, kL_20⟩
    cases hz) rfl (by decide) kL_13 dL_give_17 (by decide) (fun M9 hp9 _ _ => ?_)
  obtain ⟨-, rfl⟩ := hp9
  refine a_iconst (v := 2) C dL_give_19 (by decide) ?_
  exact a_iret C hr rfl dL_give_20 rfl rfl ⟨2, w, rfl, rfl, rfl, rfl⟩
theorem cwL_lose : aCodeW yL_lose cL_lose 4 (some .int) [(0, 9, 12, 20), (0, 9, 15, 15)] := ⟨gw_in (List.mem_of_getElem? (i := 897) (by decide +kernel)) rfl, gw_in (List.mem_of_getElem? (i := 116) (by decide +kernel)) rfl, by decide +kernel, by decide +kernel, by decide +kernel⟩
theorem H_lose {w : Wd} {x0 : Int32} {fr lo : Nat} {P : Option Value → Wd → Prop} {P2 : Int32 → Wd → Prop} (hK : CF yX6_lose cX6_lose 2 (some .int) fr lo [.ref 0, .int x0] w P) (hP : ∀ r w', P r w' → ∃ v, r = some (.int v) ∧ P2 v w') :
    CH yL_lose cL_lose 4 [(0, 9, 12, 20), (0, 9, 15, 15)] (fr + 1) (21 + lo) [.ref 0, .int x0, .ref 218] w 0 (fun o w' => o = 0 ∧ ∃ v w9, P2 v w9 ∧ w' = wLong w9 218 v.toInt64) := by
  intro ex us
  refine CW.of cwL_lose (Nat.le_of_ble_eq_true rfl) (fun G9 p9 l9 e9 s9 m9 ar9 be9 me9 co9 C hfl htb hr => ?_)
  refine a_pad 1 ?_
  refine a_eq (L' := [some (.ref 0), some (.int x0), some (.ref 218), none]) rfl rfl rfl ?_
  refine a_aload_n C dL_lose_0 rfl rfl ?_
  refine a_iconst (v := 0) C dL_lose_1 (by decide) ?_
  refine a_aload_n C dL_lose_2 rfl rfl ?_
  refine a_iload_n C dL_lose_3 rfl rfl ?_
  refine a_callV C [.int x0] 6 (hK ex us) vL_29 (show 0 < 219 by decide) (by decide) (show fz w 0 = .inr (6, _) from rfl) rfl dL_lose_4 rfl (Nat.le_of_ble_eq_true rfl) ⟨Nat.le_refl _, by show 8 + (2 + 11) + lo ≤ 21 + lo; omega⟩ ⟨by show 219 + ex + 0 ≤ 219 + ex + 0; omega, by show us + 0 ≤ us + 0; omega⟩ (fun r9 M9 hp9 _ _ => ?_)
  obtain ⟨w9, rfl, hp9⟩ := hp9
  obtain ⟨v, rfl, hv⟩ := hP _ _ hp9
  refine a_eq (st' := [.int v, .int 0, .ref 218]) rfl rfl rfl ?_
  refine a_i2l C dL_lose_7 ?_
  refine o_store C dL_lose_8 ?_
  refine a_goto (tgt := 18) C dL_lose_9 (by decide) ?_
  refine a_iconst (v := 0) C dL_lose_18 (by decide) ?_
  exact a_iret C hr rfl dL_lose_19 rfl rfl ⟨0, _, rfl, rfl, rfl, v, w9, hv, rfl⟩
theorem T_lose_0 {w : Wd} {x0 : Int32} {fr lo : Nat} (hK : CXF yX6_lose cX6_lose 2 (some .int) fr lo [.ref 0, .int x0] w "java/lang/IndexOutOfBoundsException") :
    CH yL_lose cL_lose 4 [(0, 9, 12, 20), (0, 9, 15, 15)] (fr + 1) (21 + lo) [.ref 0, .int x0, .ref 218] w 1 (fun o w' => o = 1 ∧ w' = w) := by
  intro ex us
  refine CW.of cwL_lose (Nat.le_of_ble_eq_true rfl) (fun G9 p9 l9 e9 s9 m9 ar9 be9 me9 co9 C hfl htb hr => ?_)
  refine a_pad 1 ?_
  refine a_eq (L' := [some (.ref 0), some (.int x0), some (.ref 218), none]) rfl rfl rfl ?_
  refine a_aload_n C dL_lose_0 rfl rfl ?_
  refine a_iconst (v := 0) C dL_lose_1 (by decide) ?_
  refine a_aload_n C dL_lose_2 rfl rfl ?_
  refine a_iload_n C dL_lose_3 rfl rfl ?_
  refine a_xcatN C hfl [.int x0] 6 (hK ex us) vL_29 (show 0 < 219 by decide) (by decide) (show fz w 0 = .inr (6, _) from rfl) rfl dL_lose_4 rfl (Nat.le_of_ble_eq_true rfl) ⟨Nat.le_refl _, by show 8 + (2 + 11) + lo ≤ 21 + lo; omega⟩ ⟨by show 219 + ex + 1 ≤ 219 + ex + 1; omega, by show us + 6 ≤ us + 6 * 1; omega⟩ (E := "java/lang/IndexOutOfBoundsException") (by decide) (fun E' M' h => h.1) [] ⟨0, 9, 12, 20⟩ [⟨0, 9, 15, 15⟩] htb (fun z hz => by cases hz) rfl (by decide) kL_20 dL_lose_12 (by decide) (fun M9 hp9 _ _ => ?_)
  obtain ⟨-, rfl⟩ := hp9
  refine a_iconst (v := 1) C dL_lose_13 (by decide) ?_
  exact a_iret C hr rfl dL_lose_14 rfl rfl ⟨1, w, rfl, rfl, rfl, rfl⟩
theorem T_lose_1 {w : Wd} {x0 : Int32} {fr lo : Nat} (hK : CXF yX6_lose cX6_lose 2 (some .int) fr lo [.ref 0, .int x0] w "java/lang/IllegalStateException") :
    CH yL_lose cL_lose 4 [(0, 9, 12, 20), (0, 9, 15, 15)] (fr + 1) (21 + lo) [.ref 0, .int x0, .ref 218] w 1 (fun o w' => o = 2 ∧ w' = w) := by
  intro ex us
  refine CW.of cwL_lose (Nat.le_of_ble_eq_true rfl) (fun G9 p9 l9 e9 s9 m9 ar9 be9 me9 co9 C hfl htb hr => ?_)
  refine a_pad 1 ?_
  refine a_eq (L' := [some (.ref 0), some (.int x0), some (.ref 218), none]) rfl rfl rfl ?_
  refine a_aload_n C dL_lose_0 rfl rfl ?_
  refine a_iconst (v := 0) C dL_lose_1 (by decide) ?_
  refine a_aload_n C dL_lose_2 rfl rfl ?_
  refine a_iload_n C dL_lose_3 rfl rfl ?_
  refine a_xcatN C hfl [.int x0] 6 (hK ex us) vL_29 (show 0 < 219 by decide) (by decide) (show fz w 0 = .inr (6, _) from rfl) rfl dL_lose_4 rfl (Nat.le_of_ble_eq_true rfl) ⟨Nat.le_refl _, by show 8 + (2 + 11) + lo ≤ 21 + lo; omega⟩ ⟨by show 219 + ex + 1 ≤ 219 + ex + 1; omega, by show us + 6 ≤ us + 6 * 1; omega⟩ (E := "java/lang/IllegalStateException") (by decide) (fun E' M' h => h.1) [⟨0, 9, 12, 20⟩] ⟨0, 9, 15, 15⟩ [] htb (fun z hz => by
    rcases List.mem_cons.mp hz with rfl | hz
    · exact Or.inr ⟨by decide, "java/lang/IndexOutOfBoundsException", by decide, by decide, kL_20⟩
    cases hz) rfl (by decide) kL_15 dL_lose_15 (by decide) (fun M9 hp9 _ _ => ?_)
  obtain ⟨-, rfl⟩ := hp9
  refine a_iconst (v := 2) C dL_lose_16 (by decide) ?_
  exact a_iret C hr rfl dL_lose_17 rfl rfl ⟨2, w, rfl, rfl, rfl, rfl⟩
theorem cwL_find : aCodeW yL_find cL_find 4 (some .int) [(0, 9, 12, 20), (0, 9, 15, 15)] := ⟨gw_in (List.mem_of_getElem? (i := 911) (by decide +kernel)) rfl, gw_in (List.mem_of_getElem? (i := 116) (by decide +kernel)) rfl, by decide +kernel, by decide +kernel, by decide +kernel⟩
theorem H_find {w : Wd} {x0 : Int32} {fr lo : Nat} {P : Option Value → Wd → Prop} {P2 : Int32 → Wd → Prop} (hK : CF yX6_find cX6_find 2 (some .int) fr lo [.ref 0, .int x0] w P) (hP : ∀ r w', P r w' → ∃ v, r = some (.int v) ∧ P2 v w') :
    CH yL_find cL_find 4 [(0, 9, 12, 20), (0, 9, 15, 15)] (fr + 1) (21 + lo) [.ref 0, .int x0, .ref 218] w 0 (fun o w' => o = 0 ∧ ∃ v w9, P2 v w9 ∧ w' = wLong w9 218 v.toInt64) := by
  intro ex us
  refine CW.of cwL_find (Nat.le_of_ble_eq_true rfl) (fun G9 p9 l9 e9 s9 m9 ar9 be9 me9 co9 C hfl htb hr => ?_)
  refine a_pad 1 ?_
  refine a_eq (L' := [some (.ref 0), some (.int x0), some (.ref 218), none]) rfl rfl rfl ?_
  refine a_aload_n C dL_find_0 rfl rfl ?_
  refine a_iconst (v := 0) C dL_find_1 (by decide) ?_
  refine a_aload_n C dL_find_2 rfl rfl ?_
  refine a_iload_n C dL_find_3 rfl rfl ?_
  refine a_callV C [.int x0] 6 (hK ex us) vL_32 (show 0 < 219 by decide) (by decide) (show fz w 0 = .inr (6, _) from rfl) rfl dL_find_4 rfl (Nat.le_of_ble_eq_true rfl) ⟨Nat.le_refl _, by show 8 + (2 + 11) + lo ≤ 21 + lo; omega⟩ ⟨by show 219 + ex + 0 ≤ 219 + ex + 0; omega, by show us + 0 ≤ us + 0; omega⟩ (fun r9 M9 hp9 _ _ => ?_)
  obtain ⟨w9, rfl, hp9⟩ := hp9
  obtain ⟨v, rfl, hv⟩ := hP _ _ hp9
  refine a_eq (st' := [.int v, .int 0, .ref 218]) rfl rfl rfl ?_
  refine a_i2l C dL_find_7 ?_
  refine o_store C dL_find_8 ?_
  refine a_goto (tgt := 18) C dL_find_9 (by decide) ?_
  refine a_iconst (v := 0) C dL_find_18 (by decide) ?_
  exact a_iret C hr rfl dL_find_19 rfl rfl ⟨0, _, rfl, rfl, rfl, v, w9, hv, rfl⟩
theorem T_find_0 {w : Wd} {x0 : Int32} {fr lo : Nat} (hK : CXF yX6_find cX6_find 2 (some .int) fr lo [.ref 0, .int x0] w "java/lang/IndexOutOfBoundsException") :
    CH yL_find cL_find 4 [(0, 9, 12, 20), (0, 9, 15, 15)] (fr + 1) (21 + lo) [.ref 0, .int x0, .ref 218] w 1 (fun o w' => o = 1 ∧ w' = w) := by
  intro ex us
  refine CW.of cwL_find (Nat.le_of_ble_eq_true rfl) (fun G9 p9 l9 e9 s9 m9 ar9 be9 me9 co9 C hfl htb hr => ?_)
  refine a_pad 1 ?_
  refine a_eq (L' := [some (.ref 0), some (.int x0), some (.ref 218), none]) rfl rfl rfl ?_
  refine a_aload_n C dL_find_0 rfl rfl ?_
  refine a_iconst (v := 0) C dL_find_1 (by decide) ?_
  refine a_aload_n C dL_find_2 rfl rfl ?_
  refine a_iload_n C dL_find_3 rfl rfl ?_
  refine a_xcatN C hfl [.int x0] 6 (hK ex us) vL_32 (show 0 < 219 by decide) (by decide) (show fz w 0 = .inr (6, _) from rfl) rfl dL_find_4 rfl (Nat.le_of_ble_eq_true rfl) ⟨Nat.le_refl _, by show 8 + (2 + 11) + lo ≤ 21 + lo; omega⟩ ⟨by show 219 + ex + 1 ≤ 219 + ex + 1; omega, by show us + 6 ≤ us + 6 * 1; omega⟩ (E := "java/lang/IndexOutOfBoundsException") (by decide) (fun E' M' h => h.1) [] ⟨0, 9, 12, 20⟩ [⟨0, 9, 15, 15⟩] htb (fun z hz => by cases hz) rfl (by decide) kL_20 dL_find_12 (by decide) (fun M9 hp9 _ _ => ?_)
  obtain ⟨-, rfl⟩ := hp9
  refine a_iconst (v := 1) C dL_find_13 (by decide) ?_
  exact a_iret C hr rfl dL_find_14 rfl rfl ⟨1, w, rfl, rfl, rfl, rfl⟩
theorem T_find_1 {w : Wd} {x0 : Int32} {fr lo : Nat} (hK : CXF yX6_find cX6_find 2 (some .int) fr lo [.ref 0, .int x0] w "java/lang/IllegalStateException") :
    CH yL_find cL_find 4 [(0, 9, 12, 20), (0, 9, 15, 15)] (fr + 1) (21 + lo) [.ref 0, .int x0, .ref 218] w 1 (fun o w' => o = 2 ∧ w' = w) := by
  intro ex us
  refine CW.of cwL_find (Nat.le_of_ble_eq_true rfl) (fun G9 p9 l9 e9 s9 m9 ar9 be9 me9 co9 C hfl htb hr => ?_)
  refine a_pad 1 ?_
  refine a_eq (L' := [some (.ref 0), some (.int x0), some (.ref 218), none]) rfl rfl rfl ?_
  refine a_aload_n C dL_find_0 rfl rfl ?_
  refine a_iconst (v := 0) C dL_find_1 (by decide) ?_
  refine a_aload_n C dL_find_2 rfl rfl ?_
  refine a_iload_n C dL_find_3 rfl rfl ?_
  refine a_xcatN C hfl [.int x0] 6 (hK ex us) vL_32 (show 0 < 219 by decide) (by decide) (show fz w 0 = .inr (6, _) from rfl) rfl dL_find_4 rfl (Nat.le_of_ble_eq_true rfl) ⟨Nat.le_refl _, by show 8 + (2 + 11) + lo ≤ 21 + lo; omega⟩ ⟨by show 219 + ex + 1 ≤ 219 + ex + 1; omega, by show us + 6 ≤ us + 6 * 1; omega⟩ (E := "java/lang/IllegalStateException") (by decide) (fun E' M' h => h.1) [⟨0, 9, 12, 20⟩] ⟨0, 9, 15, 15⟩ [] htb (fun z hz => by
    rcases List.mem_cons.mp hz with rfl | hz
    · exact Or.inr ⟨by decide, "java/lang/IndexOutOfBoundsException", by decide, by decide, kL_20⟩
    cases hz) rfl (by decide) kL_15 dL_find_15 (by decide) (fun M9 hp9 _ _ => ?_)
  obtain ⟨-, rfl⟩ := hp9
  refine a_iconst (v := 2) C dL_find_16 (by decide) ?_
  exact a_iret C hr rfl dL_find_17 rfl rfl ⟨2, w, rfl, rfl, rfl, rfl⟩
theorem cwL_ward : aCodeW yL_ward cL_ward 5 (some .int) [(0, 10, 13, 20), (0, 10, 17, 13)] := ⟨gw_in (List.mem_of_getElem? (i := 919) (by decide +kernel)) rfl, gw_in (List.mem_of_getElem? (i := 116) (by decide +kernel)) rfl, by decide +kernel, by decide +kernel, by decide +kernel⟩
theorem H_ward {w : Wd} {x0 x1 : Int32} {fr lo : Nat} {P : Option Value → Wd → Prop} {P2 : Int32 → Wd → Prop} (hK : CF yX6_ward cX6_ward 4 (some .int) fr lo [.ref 0, .int x0, .int x1] w P) (hP : ∀ r w', P r w' → ∃ v, r = some (.int v) ∧ P2 v w') :
    CH yL_ward cL_ward 5 [(0, 10, 13, 20), (0, 10, 17, 13)] (fr + 1) (23 + lo) [.ref 0, .int x0, .int x1, .ref 218] w 0 (fun o w' => o = 0 ∧ ∃ v w9, P2 v w9 ∧ w' = wLong w9 218 v.toInt64) := by
  intro ex us
  refine CW.of cwL_ward (Nat.le_of_ble_eq_true rfl) (fun G9 p9 l9 e9 s9 m9 ar9 be9 me9 co9 C hfl htb hr => ?_)
  refine a_pad 1 ?_
  refine a_eq (L' := [some (.ref 0), some (.int x0), some (.int x1), some (.ref 218), none]) rfl rfl rfl ?_
  refine a_aload_n C dL_ward_0 rfl rfl ?_
  refine a_iconst (v := 0) C dL_ward_1 (by decide) ?_
  refine a_aload_n C dL_ward_2 rfl rfl ?_
  refine a_iload_n C dL_ward_3 rfl rfl ?_
  refine a_iload_n C dL_ward_4 rfl rfl ?_
  refine a_callV C [.int x0, .int x1] 6 (hK ex us) vL_35 (show 0 < 219 by decide) (by decide) (show fz w 0 = .inr (6, _) from rfl) rfl dL_ward_5 rfl (Nat.le_of_ble_eq_true rfl) ⟨Nat.le_refl _, by show 8 + (4 + 11) + lo ≤ 23 + lo; omega⟩ ⟨by show 219 + ex + 0 ≤ 219 + ex + 0; omega, by show us + 0 ≤ us + 0; omega⟩ (fun r9 M9 hp9 _ _ => ?_)
  obtain ⟨w9, rfl, hp9⟩ := hp9
  obtain ⟨v, rfl, hv⟩ := hP _ _ hp9
  refine a_eq (st' := [.int v, .int 0, .ref 218]) rfl rfl rfl ?_
  refine a_i2l C dL_ward_8 ?_
  refine o_store C dL_ward_9 ?_
  refine a_goto (tgt := 21) C dL_ward_10 (by decide) ?_
  refine a_iconst (v := 0) C dL_ward_21 (by decide) ?_
  exact a_iret C hr rfl dL_ward_22 rfl rfl ⟨0, _, rfl, rfl, rfl, v, w9, hv, rfl⟩
theorem T_ward_0 {w : Wd} {x0 x1 : Int32} {fr lo : Nat} (hK : CXF yX6_ward cX6_ward 4 (some .int) fr lo [.ref 0, .int x0, .int x1] w "java/lang/IndexOutOfBoundsException") :
    CH yL_ward cL_ward 5 [(0, 10, 13, 20), (0, 10, 17, 13)] (fr + 1) (23 + lo) [.ref 0, .int x0, .int x1, .ref 218] w 1 (fun o w' => o = 1 ∧ w' = w) := by
  intro ex us
  refine CW.of cwL_ward (Nat.le_of_ble_eq_true rfl) (fun G9 p9 l9 e9 s9 m9 ar9 be9 me9 co9 C hfl htb hr => ?_)
  refine a_pad 1 ?_
  refine a_eq (L' := [some (.ref 0), some (.int x0), some (.int x1), some (.ref 218), none]) rfl rfl rfl ?_
  refine a_aload_n C dL_ward_0 rfl rfl ?_
  refine a_iconst (v := 0) C dL_ward_1 (by decide) ?_
  refine a_aload_n C dL_ward_2 rfl rfl ?_
  refine a_iload_n C dL_ward_3 rfl rfl ?_
  refine a_iload_n C dL_ward_4 rfl rfl ?_
  refine a_xcat C hfl [.int x0, .int x1] 6 (hK ex us) vL_35 (show 0 < 219 by decide) (by decide) (show fz w 0 = .inr (6, _) from rfl) rfl dL_ward_5 rfl (Nat.le_of_ble_eq_true rfl) ⟨Nat.le_refl _, by show 8 + (4 + 11) + lo ≤ 23 + lo; omega⟩ ⟨by show 219 + ex + 1 ≤ 219 + ex + 1; omega, by show us + 6 ≤ us + 6 * 1; omega⟩ (E := "java/lang/IndexOutOfBoundsException") (by decide) (fun E' M' h => h.1) [] ⟨0, 10, 13, 20⟩ [⟨0, 10, 17, 13⟩] htb (fun z hz => by cases hz) rfl (by decide) kL_20 dL_ward_13 (by decide) (fun M9 hp9 _ _ => ?_)
  obtain ⟨-, rfl⟩ := hp9
  refine a_iconst (v := 1) C dL_ward_15 (by decide) ?_
  exact a_iret C hr rfl dL_ward_16 rfl rfl ⟨1, w, rfl, rfl, rfl, rfl⟩
theorem T_ward_1 {w : Wd} {x0 x1 : Int32} {fr lo : Nat} (hK : CXF yX6_ward cX6_ward 4 (some .int) fr lo [.ref 0, .int x0, .int x1] w "java/lang/IllegalArgumentException") :
    CH yL_ward cL_ward 5 [(0, 10, 13, 20), (0, 10, 17, 13)] (fr + 1) (23 + lo) [.ref 0, .int x0, .int x1, .ref 218] w 1 (fun o w' => o = 2 ∧ w' = w) := by
  intro ex us
  refine CW.of cwL_ward (Nat.le_of_ble_eq_true rfl) (fun G9 p9 l9 e9 s9 m9 ar9 be9 me9 co9 C hfl htb hr => ?_)
  refine a_pad 1 ?_
  refine a_eq (L' := [some (.ref 0), some (.int x0), some (.int x1), some (.ref 218), none]) rfl rfl rfl ?_
  refine a_aload_n C dL_ward_0 rfl rfl ?_
  refine a_iconst (v := 0) C dL_ward_1 (by decide) ?_
  refine a_aload_n C dL_ward_2 rfl rfl ?_
  refine a_iload_n C dL_ward_3 rfl rfl ?_
  refine a_iload_n C dL_ward_4 rfl rfl ?_
  refine a_xcat C hfl [.int x0, .int x1] 6 (hK ex us) vL_35 (show 0 < 219 by decide) (by decide) (show fz w 0 = .inr (6, _) from rfl) rfl dL_ward_5 rfl (Nat.le_of_ble_eq_true rfl) ⟨Nat.le_refl _, by show 8 + (4 + 11) + lo ≤ 23 + lo; omega⟩ ⟨by show 219 + ex + 1 ≤ 219 + ex + 1; omega, by show us + 6 ≤ us + 6 * 1; omega⟩ (E := "java/lang/IllegalArgumentException") (by decide) (fun E' M' h => h.1) [⟨0, 10, 13, 20⟩] ⟨0, 10, 17, 13⟩ [] htb (fun z hz => by
    rcases List.mem_cons.mp hz with rfl | hz
    · exact Or.inr ⟨by decide, "java/lang/IndexOutOfBoundsException", by decide, by decide, kL_20⟩
    cases hz) rfl (by decide) kL_13 dL_ward_17 (by decide) (fun M9 hp9 _ _ => ?_)
  obtain ⟨-, rfl⟩ := hp9
  refine a_iconst (v := 2) C dL_ward_19 (by decide) ?_
  exact a_iret C hr rfl dL_ward_20 rfl rfl ⟨2, w, rfl, rfl, rfl, rfl⟩
theorem cwL_guest : aCodeW yL_guest cL_guest 5 (some .int) [(0, 10, 13, 20), (0, 10, 17, 13), (0, 10, 21, 15)] := ⟨gw_in (List.mem_of_getElem? (i := 926) (by decide +kernel)) rfl, gw_in (List.mem_of_getElem? (i := 116) (by decide +kernel)) rfl, by decide +kernel, by decide +kernel, by decide +kernel⟩
theorem H_guest {w : Wd} {x0 x1 : Int32} {fr lo : Nat} {P : Option Value → Wd → Prop} {P2 : Int32 → Wd → Prop} (hK : CF yX6_guest cX6_guest 4 (some .int) fr lo [.ref 0, .int x0, .int x1] w P) (hP : ∀ r w', P r w' → ∃ v, r = some (.int v) ∧ P2 v w') :
    CH yL_guest cL_guest 5 [(0, 10, 13, 20), (0, 10, 17, 13), (0, 10, 21, 15)] (fr + 1) (23 + lo) [.ref 0, .int x0, .int x1, .ref 218] w 0 (fun o w' => o = 0 ∧ ∃ v w9, P2 v w9 ∧ w' = wLong w9 218 v.toInt64) := by
  intro ex us
  refine CW.of cwL_guest (Nat.le_of_ble_eq_true rfl) (fun G9 p9 l9 e9 s9 m9 ar9 be9 me9 co9 C hfl htb hr => ?_)
  refine a_pad 1 ?_
  refine a_eq (L' := [some (.ref 0), some (.int x0), some (.int x1), some (.ref 218), none]) rfl rfl rfl ?_
  refine a_aload_n C dL_guest_0 rfl rfl ?_
  refine a_iconst (v := 0) C dL_guest_1 (by decide) ?_
  refine a_aload_n C dL_guest_2 rfl rfl ?_
  refine a_iload_n C dL_guest_3 rfl rfl ?_
  refine a_iload_n C dL_guest_4 rfl rfl ?_
  refine a_callV C [.int x0, .int x1] 6 (hK ex us) vL_38 (show 0 < 219 by decide) (by decide) (show fz w 0 = .inr (6, _) from rfl) rfl dL_guest_5 rfl (Nat.le_of_ble_eq_true rfl) ⟨Nat.le_refl _, by show 8 + (4 + 11) + lo ≤ 23 + lo; omega⟩ ⟨by show 219 + ex + 0 ≤ 219 + ex + 0; omega, by show us + 0 ≤ us + 0; omega⟩ (fun r9 M9 hp9 _ _ => ?_)
  obtain ⟨w9, rfl, hp9⟩ := hp9
  obtain ⟨v, rfl, hv⟩ := hP _ _ hp9
  refine a_eq (st' := [.int v, .int 0, .ref 218]) rfl rfl rfl ?_
  refine a_i2l C dL_guest_8 ?_
  refine o_store C dL_guest_9 ?_
  refine a_goto (tgt := 25) C dL_guest_10 (by decide) ?_
  refine a_iconst (v := 0) C dL_guest_25 (by decide) ?_
  exact a_iret C hr rfl dL_guest_26 rfl rfl ⟨0, _, rfl, rfl, rfl, v, w9, hv, rfl⟩
theorem T_guest_0 {w : Wd} {x0 x1 : Int32} {fr lo : Nat} (hK : CXF yX6_guest cX6_guest 4 (some .int) fr lo [.ref 0, .int x0, .int x1] w "java/lang/IndexOutOfBoundsException") :
    CH yL_guest cL_guest 5 [(0, 10, 13, 20), (0, 10, 17, 13), (0, 10, 21, 15)] (fr + 1) (23 + lo) [.ref 0, .int x0, .int x1, .ref 218] w 1 (fun o w' => o = 1 ∧ w' = w) := by
  intro ex us
  refine CW.of cwL_guest (Nat.le_of_ble_eq_true rfl) (fun G9 p9 l9 e9 s9 m9 ar9 be9 me9 co9 C hfl htb hr => ?_)
  refine a_pad 1 ?_
  refine a_eq (L' := [some (.ref 0), some (.int x0), some (.int x1), some (.ref 218), none]) rfl rfl rfl ?_
  refine a_aload_n C dL_guest_0 rfl rfl ?_
  refine a_iconst (v := 0) C dL_guest_1 (by decide) ?_
  refine a_aload_n C dL_guest_2 rfl rfl ?_
  refine a_iload_n C dL_guest_3 rfl rfl ?_
  refine a_iload_n C dL_guest_4 rfl rfl ?_
  refine a_xcat C hfl [.int x0, .int x1] 6 (hK ex us) vL_38 (show 0 < 219 by decide) (by decide) (show fz w 0 = .inr (6, _) from rfl) rfl dL_guest_5 rfl (Nat.le_of_ble_eq_true rfl) ⟨Nat.le_refl _, by show 8 + (4 + 11) + lo ≤ 23 + lo; omega⟩ ⟨by show 219 + ex + 1 ≤ 219 + ex + 1; omega, by show us + 6 ≤ us + 6 * 1; omega⟩ (E := "java/lang/IndexOutOfBoundsException") (by decide) (fun E' M' h => h.1) [] ⟨0, 10, 13, 20⟩ [⟨0, 10, 17, 13⟩, ⟨0, 10, 21, 15⟩] htb (fun z hz => by cases hz) rfl (by decide) kL_20 dL_guest_13 (by decide) (fun M9 hp9 _ _ => ?_)
  obtain ⟨-, rfl⟩ := hp9
  refine a_iconst (v := 1) C dL_guest_15 (by decide) ?_
  exact a_iret C hr rfl dL_guest_16 rfl rfl ⟨1, w, rfl, rfl, rfl, rfl⟩
theorem T_guest_1 {w : Wd} {x0 x1 : Int32} {fr lo : Nat} (hK : CXF yX6_guest cX6_guest 4 (some .int) fr lo [.ref 0, .int x0, .int x1] w "java/lang/IllegalArgumentException") :
    CH yL_guest cL_guest 5 [(0, 10, 13, 20), (0, 10, 17, 13), (0, 10, 21, 15)] (fr + 1) (23 + lo) [.ref 0, .int x0, .int x1, .ref 218] w 1 (fun o w' => o = 2 ∧ w' = w) := by
  intro ex us
  refine CW.of cwL_guest (Nat.le_of_ble_eq_true rfl) (fun G9 p9 l9 e9 s9 m9 ar9 be9 me9 co9 C hfl htb hr => ?_)
  refine a_pad 1 ?_
  refine a_eq (L' := [some (.ref 0), some (.int x0), some (.int x1), some (.ref 218), none]) rfl rfl rfl ?_
  refine a_aload_n C dL_guest_0 rfl rfl ?_
  refine a_iconst (v := 0) C dL_guest_1 (by decide) ?_
  refine a_aload_n C dL_guest_2 rfl rfl ?_
  refine a_iload_n C dL_guest_3 rfl rfl ?_
  refine a_iload_n C dL_guest_4 rfl rfl ?_
  refine a_xcat C hfl [.int x0, .int x1] 6 (hK ex us) vL_38 (show 0 < 219 by decide) (by decide) (show fz w 0 = .inr (6, _) from rfl) rfl dL_guest_5 rfl (Nat.le_of_ble_eq_true rfl) ⟨Nat.le_refl _, by show 8 + (4 + 11) + lo ≤ 23 + lo; omega⟩ ⟨by show 219 + ex + 1 ≤ 219 + ex + 1; omega, by show us + 6 ≤ us + 6 * 1; omega⟩ (E := "java/lang/IllegalArgumentException") (by decide) (fun E' M' h => h.1) [⟨0, 10, 13, 20⟩] ⟨0, 10, 17, 13⟩ [⟨0, 10, 21, 15⟩] htb (fun z hz => by
    rcases List.mem_cons.mp hz with rfl | hz
    · exact Or.inr ⟨by decide, "java/lang/IndexOutOfBoundsException", by decide, by decide, kL_20⟩
    cases hz) rfl (by decide) kL_13 dL_guest_17 (by decide) (fun M9 hp9 _ _ => ?_)
  obtain ⟨-, rfl⟩ := hp9
  refine a_iconst (v := 2) C dL_guest_19 (by decide) ?_
  exact a_iret C hr rfl dL_guest_20 rfl rfl ⟨2, w, rfl, rfl, rfl, rfl⟩
theorem T_guest_2 {w : Wd} {x0 x1 : Int32} {fr lo : Nat} (hK : CXF yX6_guest cX6_guest 4 (some .int) fr lo [.ref 0, .int x0, .int x1] w "java/lang/IllegalStateException") :
    CH yL_guest cL_guest 5 [(0, 10, 13, 20), (0, 10, 17, 13), (0, 10, 21, 15)] (fr + 1) (23 + lo) [.ref 0, .int x0, .int x1, .ref 218] w 1 (fun o w' => o = 3 ∧ w' = w) := by
  intro ex us
  refine CW.of cwL_guest (Nat.le_of_ble_eq_true rfl) (fun G9 p9 l9 e9 s9 m9 ar9 be9 me9 co9 C hfl htb hr => ?_)
  refine a_pad 1 ?_
  refine a_eq (L' := [some (.ref 0), some (.int x0), some (.int x1), some (.ref 218), none]) rfl rfl rfl ?_
  refine a_aload_n C dL_guest_0 rfl rfl ?_
  refine a_iconst (v := 0) C dL_guest_1 (by decide) ?_
  refine a_aload_n C dL_guest_2 rfl rfl ?_
  refine a_iload_n C dL_guest_3 rfl rfl ?_
  refine a_iload_n C dL_guest_4 rfl rfl ?_
  refine a_xcat C hfl [.int x0, .int x1] 6 (hK ex us) vL_38 (show 0 < 219 by decide) (by decide) (show fz w 0 = .inr (6, _) from rfl) rfl dL_guest_5 rfl (Nat.le_of_ble_eq_true rfl) ⟨Nat.le_refl _, by show 8 + (4 + 11) + lo ≤ 23 + lo; omega⟩ ⟨by show 219 + ex + 1 ≤ 219 + ex + 1; omega, by show us + 6 ≤ us + 6 * 1; omega⟩ (E := "java/lang/IllegalStateException") (by decide) (fun E' M' h => h.1) [⟨0, 10, 13, 20⟩, ⟨0, 10, 17, 13⟩] ⟨0, 10, 21, 15⟩ [] htb (fun z hz => by
    rcases List.mem_cons.mp hz with rfl | hz
    · exact Or.inr ⟨by decide, "java/lang/IndexOutOfBoundsException", by decide, by decide, kL_20⟩
    rcases List.mem_cons.mp hz with rfl | hz
    · exact Or.inr ⟨by decide, "java/lang/IllegalArgumentException", by decide, by decide, kL_13⟩
    cases hz) rfl (by decide) kL_15 dL_guest_21 (by decide) (fun M9 hp9 _ _ => ?_)
  obtain ⟨-, rfl⟩ := hp9
  refine a_iconst (v := 3) C dL_guest_23 (by decide) ?_
  exact a_iret C hr rfl dL_guest_24 rfl rfl ⟨3, w, rfl, rfl, rfl, rfl⟩
theorem cwL_take : aCodeW yL_take cL_take 4 (some .int) [(0, 9, 12, 20), (0, 9, 15, 15)] := ⟨gw_in (List.mem_of_getElem? (i := 934) (by decide +kernel)) rfl, gw_in (List.mem_of_getElem? (i := 116) (by decide +kernel)) rfl, by decide +kernel, by decide +kernel, by decide +kernel⟩
theorem H_take {w : Wd} {x0 : Int32} {fr lo : Nat} {P : Option Value → Wd → Prop} {P2 : Int32 → Wd → Prop} (hK : CF yX6_take cX6_take 3 (some .int) fr lo [.ref 0, .int x0] w P) (hP : ∀ r w', P r w' → ∃ v, r = some (.int v) ∧ P2 v w') :
    CH yL_take cL_take 4 [(0, 9, 12, 20), (0, 9, 15, 15)] (fr + 1) (22 + lo) [.ref 0, .int x0, .ref 218] w 0 (fun o w' => o = 0 ∧ ∃ v w9, P2 v w9 ∧ w' = wLong w9 218 v.toInt64) := by
  intro ex us
  refine CW.of cwL_take (Nat.le_of_ble_eq_true rfl) (fun G9 p9 l9 e9 s9 m9 ar9 be9 me9 co9 C hfl htb hr => ?_)
  refine a_pad 1 ?_
  refine a_eq (L' := [some (.ref 0), some (.int x0), some (.ref 218), none]) rfl rfl rfl ?_
  refine a_aload_n C dL_take_0 rfl rfl ?_
  refine a_iconst (v := 0) C dL_take_1 (by decide) ?_
  refine a_aload_n C dL_take_2 rfl rfl ?_
  refine a_iload_n C dL_take_3 rfl rfl ?_
  refine a_callV C [.int x0] 6 (hK ex us) vL_41 (show 0 < 219 by decide) (by decide) (show fz w 0 = .inr (6, _) from rfl) rfl dL_take_4 rfl (Nat.le_of_ble_eq_true rfl) ⟨Nat.le_refl _, by show 8 + (3 + 11) + lo ≤ 22 + lo; omega⟩ ⟨by show 219 + ex + 0 ≤ 219 + ex + 0; omega, by show us + 0 ≤ us + 0; omega⟩ (fun r9 M9 hp9 _ _ => ?_)
  obtain ⟨w9, rfl, hp9⟩ := hp9
  obtain ⟨v, rfl, hv⟩ := hP _ _ hp9
  refine a_eq (st' := [.int v, .int 0, .ref 218]) rfl rfl rfl ?_
  refine a_i2l C dL_take_7 ?_
  refine o_store C dL_take_8 ?_
  refine a_goto (tgt := 18) C dL_take_9 (by decide) ?_
  refine a_iconst (v := 0) C dL_take_18 (by decide) ?_
  exact a_iret C hr rfl dL_take_19 rfl rfl ⟨0, _, rfl, rfl, rfl, v, w9, hv, rfl⟩
theorem T_take_0 {w : Wd} {x0 : Int32} {fr lo : Nat} (hK : CXF yX6_take cX6_take 3 (some .int) fr lo [.ref 0, .int x0] w "java/lang/IndexOutOfBoundsException") :
    CH yL_take cL_take 4 [(0, 9, 12, 20), (0, 9, 15, 15)] (fr + 1) (22 + lo) [.ref 0, .int x0, .ref 218] w 1 (fun o w' => o = 1 ∧ w' = w) := by
  intro ex us
  refine CW.of cwL_take (Nat.le_of_ble_eq_true rfl) (fun G9 p9 l9 e9 s9 m9 ar9 be9 me9 co9 C hfl htb hr => ?_)
  refine a_pad 1 ?_
  refine a_eq (L' := [some (.ref 0), some (.int x0), some (.ref 218), none]) rfl rfl rfl ?_
  refine a_aload_n C dL_take_0 rfl rfl ?_
  refine a_iconst (v := 0) C dL_take_1 (by decide) ?_
  refine a_aload_n C dL_take_2 rfl rfl ?_
  refine a_iload_n C dL_take_3 rfl rfl ?_
  refine a_xcatN C hfl [.int x0] 6 (hK ex us) vL_41 (show 0 < 219 by decide) (by decide) (show fz w 0 = .inr (6, _) from rfl) rfl dL_take_4 rfl (Nat.le_of_ble_eq_true rfl) ⟨Nat.le_refl _, by show 8 + (3 + 11) + lo ≤ 22 + lo; omega⟩ ⟨by show 219 + ex + 1 ≤ 219 + ex + 1; omega, by show us + 6 ≤ us + 6 * 1; omega⟩ (E := "java/lang/IndexOutOfBoundsException") (by decide) (fun E' M' h => h.1) [] ⟨0, 9, 12, 20⟩ [⟨0, 9, 15, 15⟩] htb (fun z hz => by cases hz) rfl (by decide) kL_20 dL_take_12 (by decide) (fun M9 hp9 _ _ => ?_)
  obtain ⟨-, rfl⟩ := hp9
  refine a_iconst (v := 1) C dL_take_13 (by decide) ?_
  exact a_iret C hr rfl dL_take_14 rfl rfl ⟨1, w, rfl, rfl, rfl, rfl⟩
theorem T_take_1 {w : Wd} {x0 : Int32} {fr lo : Nat} (hK : CXF yX6_take cX6_take 3 (some .int) fr lo [.ref 0, .int x0] w "java/lang/IllegalStateException") :
    CH yL_take cL_take 4 [(0, 9, 12, 20), (0, 9, 15, 15)] (fr + 1) (22 + lo) [.ref 0, .int x0, .ref 218] w 1 (fun o w' => o = 2 ∧ w' = w) := by
  intro ex us
  refine CW.of cwL_take (Nat.le_of_ble_eq_true rfl) (fun G9 p9 l9 e9 s9 m9 ar9 be9 me9 co9 C hfl htb hr => ?_)
  refine a_pad 1 ?_
  refine a_eq (L' := [some (.ref 0), some (.int x0), some (.ref 218), none]) rfl rfl rfl ?_
  refine a_aload_n C dL_take_0 rfl rfl ?_
  refine a_iconst (v := 0) C dL_take_1 (by decide) ?_
  refine a_aload_n C dL_take_2 rfl rfl ?_
  refine a_iload_n C dL_take_3 rfl rfl ?_
  refine a_xcatN C hfl [.int x0] 6 (hK ex us) vL_41 (show 0 < 219 by decide) (by decide) (show fz w 0 = .inr (6, _) from rfl) rfl dL_take_4 rfl (Nat.le_of_ble_eq_true rfl) ⟨Nat.le_refl _, by show 8 + (3 + 11) + lo ≤ 22 + lo; omega⟩ ⟨by show 219 + ex + 1 ≤ 219 + ex + 1; omega, by show us + 6 ≤ us + 6 * 1; omega⟩ (E := "java/lang/IllegalStateException") (by decide) (fun E' M' h => h.1) [⟨0, 9, 12, 20⟩] ⟨0, 9, 15, 15⟩ [] htb (fun z hz => by
    rcases List.mem_cons.mp hz with rfl | hz
    · exact Or.inr ⟨by decide, "java/lang/IndexOutOfBoundsException", by decide, by decide, kL_20⟩
    cases hz) rfl (by decide) kL_15 dL_take_15 (by decide) (fun M9 hp9 _ _ => ?_)
  obtain ⟨-, rfl⟩ := hp9
  refine a_iconst (v := 2) C dL_take_16 (by decide) ?_
  exact a_iret C hr rfl dL_take_17 rfl rfl ⟨2, w, rfl, rfl, rfl, rfl⟩
theorem cwL_turn : aCodeW yL_turn cL_turn 5 (some .int) [(0, 10, 13, 20), (0, 10, 17, 15)] := ⟨gw_in (List.mem_of_getElem? (i := 945) (by decide +kernel)) rfl, gw_in (List.mem_of_getElem? (i := 116) (by decide +kernel)) rfl, by decide +kernel, by decide +kernel, by decide +kernel⟩
theorem H_turn {w : Wd} {x0 x1 : Int32} {fr lo : Nat} {P : Option Value → Wd → Prop} {P2 : Int32 → Wd → Prop} (hK : CF yX6_turn cX6_turn 3 (some .int) fr lo [.ref 0, .int x0, .int x1] w P) (hP : ∀ r w', P r w' → ∃ v, r = some (.int v) ∧ P2 v w') :
    CH yL_turn cL_turn 5 [(0, 10, 13, 20), (0, 10, 17, 15)] (fr + 1) (22 + lo) [.ref 0, .int x0, .int x1, .ref 218] w 0 (fun o w' => o = 0 ∧ ∃ v w9, P2 v w9 ∧ w' = wLong w9 218 v.toInt64) := by
  intro ex us
  refine CW.of cwL_turn (Nat.le_of_ble_eq_true rfl) (fun G9 p9 l9 e9 s9 m9 ar9 be9 me9 co9 C hfl htb hr => ?_)
  refine a_pad 1 ?_
  refine a_eq (L' := [some (.ref 0), some (.int x0), some (.int x1), some (.ref 218), none]) rfl rfl rfl ?_
  refine a_aload_n C dL_turn_0 rfl rfl ?_
  refine a_iconst (v := 0) C dL_turn_1 (by decide) ?_
  refine a_aload_n C dL_turn_2 rfl rfl ?_
  refine a_iload_n C dL_turn_3 rfl rfl ?_
  refine a_iload_n C dL_turn_4 rfl rfl ?_
  refine a_callV C [.int x0, .int x1] 6 (hK ex us) vL_44 (show 0 < 219 by decide) (by decide) (show fz w 0 = .inr (6, _) from rfl) rfl dL_turn_5 rfl (Nat.le_of_ble_eq_true rfl) ⟨Nat.le_refl _, by show 8 + (3 + 11) + lo ≤ 22 + lo; omega⟩ ⟨by show 219 + ex + 0 ≤ 219 + ex + 0; omega, by show us + 0 ≤ us + 0; omega⟩ (fun r9 M9 hp9 _ _ => ?_)
  obtain ⟨w9, rfl, hp9⟩ := hp9
  obtain ⟨v, rfl, hv⟩ := hP _ _ hp9
  refine a_eq (st' := [.int v, .int 0, .ref 218]) rfl rfl rfl ?_
  refine a_i2l C dL_turn_8 ?_
  refine o_store C dL_turn_9 ?_
  refine a_goto (tgt := 21) C dL_turn_10 (by decide) ?_
  refine a_iconst (v := 0) C dL_turn_21 (by decide) ?_
  exact a_iret C hr rfl dL_turn_22 rfl rfl ⟨0, _, rfl, rfl, rfl, v, w9, hv, rfl⟩
theorem T_turn_0 {w : Wd} {x0 x1 : Int32} {fr lo : Nat} (hK : CXF yX6_turn cX6_turn 3 (some .int) fr lo [.ref 0, .int x0, .int x1] w "java/lang/IndexOutOfBoundsException") :
    CH yL_turn cL_turn 5 [(0, 10, 13, 20), (0, 10, 17, 15)] (fr + 1) (22 + lo) [.ref 0, .int x0, .int x1, .ref 218] w 1 (fun o w' => o = 1 ∧ w' = w) := by
  intro ex us
  refine CW.of cwL_turn (Nat.le_of_ble_eq_true rfl) (fun G9 p9 l9 e9 s9 m9 ar9 be9 me9 co9 C hfl htb hr => ?_)
  refine a_pad 1 ?_
  refine a_eq (L' := [some (.ref 0), some (.int x0), some (.int x1), some (.ref 218), none]) rfl rfl rfl ?_
  refine a_aload_n C dL_turn_0 rfl rfl ?_
  refine a_iconst (v := 0) C dL_turn_1 (by decide) ?_
  refine a_aload_n C dL_turn_2 rfl rfl ?_
  refine a_iload_n C dL_turn_3 rfl rfl ?_
  refine a_iload_n C dL_turn_4 rfl rfl ?_
  refine a_xcat C hfl [.int x0, .int x1] 6 (hK ex us) vL_44 (show 0 < 219 by decide) (by decide) (show fz w 0 = .inr (6, _) from rfl) rfl dL_turn_5 rfl (Nat.le_of_ble_eq_true rfl) ⟨Nat.le_refl _, by show 8 + (3 + 11) + lo ≤ 22 + lo; omega⟩ ⟨by show 219 + ex + 1 ≤ 219 + ex + 1; omega, by show us + 6 ≤ us + 6 * 1; omega⟩ (E := "java/lang/IndexOutOfBoundsException") (by decide) (fun E' M' h => h.1) [] ⟨0, 10, 13, 20⟩ [⟨0, 10, 17, 15⟩] htb (fun z hz => by cases hz) rfl (by decide) kL_20 dL_turn_13 (by decide) (fun M9 hp9 _ _ => ?_)
  obtain ⟨-, rfl⟩ := hp9
  refine a_iconst (v := 1) C dL_turn_15 (by decide) ?_
  exact a_iret C hr rfl dL_turn_16 rfl rfl ⟨1, w, rfl, rfl, rfl, rfl⟩
theorem T_turn_1 {w : Wd} {x0 x1 : Int32} {fr lo : Nat} (hK : CXF yX6_turn cX6_turn 3 (some .int) fr lo [.ref 0, .int x0, .int x1] w "java/lang/IllegalStateException") :
    CH yL_turn cL_turn 5 [(0, 10, 13, 20), (0, 10, 17, 15)] (fr + 1) (22 + lo) [.ref 0, .int x0, .int x1, .ref 218] w 1 (fun o w' => o = 2 ∧ w' = w) := by
  intro ex us
  refine CW.of cwL_turn (Nat.le_of_ble_eq_true rfl) (fun G9 p9 l9 e9 s9 m9 ar9 be9 me9 co9 C hfl htb hr => ?_)
  refine a_pad 1 ?_
  refine a_eq (L' := [some (.ref 0), some (.int x0), some (.int x1), some (.ref 218), none]) rfl rfl rfl ?_
  refine a_aload_n C dL_turn_0 rfl rfl ?_
  refine a_iconst (v := 0) C dL_turn_1 (by decide) ?_
  refine a_aload_n C dL_turn_2 rfl rfl ?_
  refine a_iload_n C dL_turn_3 rfl rfl ?_
  refine a_iload_n C dL_turn_4 rfl rfl ?_
  refine a_xcat C hfl [.int x0, .int x1] 6 (hK ex us) vL_44 (show 0 < 219 by decide) (by decide) (show fz w 0 = .inr (6, _) from rfl) rfl dL_turn_5 rfl (Nat.le_of_ble_eq_true rfl) ⟨Nat.le_refl _, by show 8 + (3 + 11) + lo ≤ 22 + lo; omega⟩ ⟨by show 219 + ex + 1 ≤ 219 + ex + 1; omega, by show us + 6 ≤ us + 6 * 1; omega⟩ (E := "java/lang/IllegalStateException") (by decide) (fun E' M' h => h.1) [⟨0, 10, 13, 20⟩] ⟨0, 10, 17, 15⟩ [] htb (fun z hz => by
    rcases List.mem_cons.mp hz with rfl | hz
    · exact Or.inr ⟨by decide, "java/lang/IndexOutOfBoundsException", by decide, by decide, kL_20⟩
    cases hz) rfl (by decide) kL_15 dL_turn_17 (by decide) (fun M9 hp9 _ _ => ?_)
  obtain ⟨-, rfl⟩ := hp9
  refine a_iconst (v := 2) C dL_turn_19 (by decide) ?_
  exact a_iret C hr rfl dL_turn_20 rfl rfl ⟨2, w, rfl, rfl, rfl, rfl⟩
theorem cwL_set : aCodeW yL_set cL_set 5 (some .int) [(0, 10, 13, 20), (0, 10, 17, 13)] := ⟨gw_in (List.mem_of_getElem? (i := 958) (by decide +kernel)) rfl, gw_in (List.mem_of_getElem? (i := 116) (by decide +kernel)) rfl, by decide +kernel, by decide +kernel, by decide +kernel⟩
theorem H_set {w : Wd} {x0 x1 : Int32} {fr lo : Nat} {P : Option Value → Wd → Prop} {P2 : Int32 → Wd → Prop} (hK : CF yX6_set cX6_set 4 (some .int) fr lo [.ref 0, .int x0, .int x1] w P) (hP : ∀ r w', P r w' → ∃ v, r = some (.int v) ∧ P2 v w') :
    CH yL_set cL_set 5 [(0, 10, 13, 20), (0, 10, 17, 13)] (fr + 1) (23 + lo) [.ref 0, .int x0, .int x1, .ref 218] w 0 (fun o w' => o = 0 ∧ ∃ v w9, P2 v w9 ∧ w' = wLong w9 218 v.toInt64) := by
  intro ex us
  refine CW.of cwL_set (Nat.le_of_ble_eq_true rfl) (fun G9 p9 l9 e9 s9 m9 ar9 be9 me9 co9 C hfl htb hr => ?_)
  refine a_pad 1 ?_
  refine a_eq (L' := [some (.ref 0), some (.int x0), some (.int x1), some (.ref 218), none]) rfl rfl rfl ?_
  refine a_aload_n C dL_set_0 rfl rfl ?_
  refine a_iconst (v := 0) C dL_set_1 (by decide) ?_
  refine a_aload_n C dL_set_2 rfl rfl ?_
  refine a_iload_n C dL_set_3 rfl rfl ?_
  refine a_iload_n C dL_set_4 rfl rfl ?_
  refine a_callV C [.int x0, .int x1] 6 (hK ex us) vL_47 (show 0 < 219 by decide) (by decide) (show fz w 0 = .inr (6, _) from rfl) rfl dL_set_5 rfl (Nat.le_of_ble_eq_true rfl) ⟨Nat.le_refl _, by show 8 + (4 + 11) + lo ≤ 23 + lo; omega⟩ ⟨by show 219 + ex + 0 ≤ 219 + ex + 0; omega, by show us + 0 ≤ us + 0; omega⟩ (fun r9 M9 hp9 _ _ => ?_)
  obtain ⟨w9, rfl, hp9⟩ := hp9
  obtain ⟨v, rfl, hv⟩ := hP _ _ hp9
  refine a_eq (st' := [.int v, .int 0, .ref 218]) rfl rfl rfl ?_
  refine a_i2l C dL_set_8 ?_
  refine o_store C dL_set_9 ?_
  refine a_goto (tgt := 21) C dL_set_10 (by decide) ?_
  refine a_iconst (v := 0) C dL_set_21 (by decide) ?_
  exact a_iret C hr rfl dL_set_22 rfl rfl ⟨0, _, rfl, rfl, rfl, v, w9, hv, rfl⟩
theorem T_set_0 {w : Wd} {x0 x1 : Int32} {fr lo : Nat} (hK : CXF yX6_set cX6_set 4 (some .int) fr lo [.ref 0, .int x0, .int x1] w "java/lang/IndexOutOfBoundsException") :
    CH yL_set cL_set 5 [(0, 10, 13, 20), (0, 10, 17, 13)] (fr + 1) (23 + lo) [.ref 0, .int x0, .int x1, .ref 218] w 1 (fun o w' => o = 1 ∧ w' = w) := by
  intro ex us
  refine CW.of cwL_set (Nat.le_of_ble_eq_true rfl) (fun G9 p9 l9 e9 s9 m9 ar9 be9 me9 co9 C hfl htb hr => ?_)
  refine a_pad 1 ?_
  refine a_eq (L' := [some (.ref 0), some (.int x0), some (.int x1), some (.ref 218), none]) rfl rfl rfl ?_
  refine a_aload_n C dL_set_0 rfl rfl ?_
  refine a_iconst (v := 0) C dL_set_1 (by decide) ?_
  refine a_aload_n C dL_set_2 rfl rfl ?_
  refine a_iload_n C dL_set_3 rfl rfl ?_
  refine a_iload_n C dL_set_4 rfl rfl ?_
  refine a_xcat C hfl [.int x0, .int x1] 6 (hK ex us) vL_47 (show 0 < 219 by decide) (by decide) (show fz w 0 = .inr (6, _) from rfl) rfl dL_set_5 rfl (Nat.le_of_ble_eq_true rfl) ⟨Nat.le_refl _, by show 8 + (4 + 11) + lo ≤ 23 + lo; omega⟩ ⟨by show 219 + ex + 1 ≤ 219 + ex + 1; omega, by show us + 6 ≤ us + 6 * 1; omega⟩ (E := "java/lang/IndexOutOfBoundsException") (by decide) (fun E' M' h => h.1) [] ⟨0, 10, 13, 20⟩ [⟨0, 10, 17, 13⟩] htb (fun z hz => by cases hz) rfl (by decide) kL_20 dL_set_13 (by decide) (fun M9 hp9 _ _ => ?_)
  obtain ⟨-, rfl⟩ := hp9
  refine a_iconst (v := 1) C dL_set_15 (by decide) ?_
  exact a_iret C hr rfl dL_set_16 rfl rfl ⟨1, w, rfl, rfl, rfl, rfl⟩
theorem T_set_1 {w : Wd} {x0 x1 : Int32} {fr lo : Nat} (hK : CXF yX6_set cX6_set 4 (some .int) fr lo [.ref 0, .int x0, .int x1] w "java/lang/IllegalArgumentException") :
    CH yL_set cL_set 5 [(0, 10, 13, 20), (0, 10, 17, 13)] (fr + 1) (23 + lo) [.ref 0, .int x0, .int x1, .ref 218] w 1 (fun o w' => o = 2 ∧ w' = w) := by
  intro ex us
  refine CW.of cwL_set (Nat.le_of_ble_eq_true rfl) (fun G9 p9 l9 e9 s9 m9 ar9 be9 me9 co9 C hfl htb hr => ?_)
  refine a_pad 1 ?_
  refine a_eq (L' := [some (.ref 0), some (.int x0), some (.int x1), some (.ref 218), none]) rfl rfl rfl ?_
  refine a_aload_n C dL_set_0 rfl rfl ?_
  refine a_iconst (v := 0) C dL_set_1 (by decide) ?_
  refine a_aload_n C dL_set_2 rfl rfl ?_
  refine a_iload_n C dL_set_3 rfl rfl ?_
  refine a_iload_n C dL_set_4 rfl rfl ?_
  refine a_xcat C hfl [.int x0, .int x1] 6 (hK ex us) vL_47 (show 0 < 219 by decide) (by decide) (show fz w 0 = .inr (6, _) from rfl) rfl dL_set_5 rfl (Nat.le_of_ble_eq_true rfl) ⟨Nat.le_refl _, by show 8 + (4 + 11) + lo ≤ 23 + lo; omega⟩ ⟨by show 219 + ex + 1 ≤ 219 + ex + 1; omega, by show us + 6 ≤ us + 6 * 1; omega⟩ (E := "java/lang/IllegalArgumentException") (by decide) (fun E' M' h => h.1) [⟨0, 10, 13, 20⟩] ⟨0, 10, 17, 13⟩ [] htb (fun z hz => by
    rcases List.mem_cons.mp hz with rfl | hz
    · exact Or.inr ⟨by decide, "java/lang/IndexOutOfBoundsException", by decide, by decide, kL_20⟩
    cases hz) rfl (by decide) kL_13 dL_set_17 (by decide) (fun M9 hp9 _ _ => ?_)
  obtain ⟨-, rfl⟩ := hp9
  refine a_iconst (v := 2) C dL_set_19 (by decide) ?_
  exact a_iret C hr rfl dL_set_20 rfl rfl ⟨2, w, rfl, rfl, rfl, rfl⟩
theorem cwL_append : aCodeW yL_append cL_append 4 (some .int) [(0, 9, 12, 13), (0, 9, 15, 15)] := ⟨gw_in (List.mem_of_getElem? (i := 974) (by decide +kernel)) rfl, gw_in (List.mem_of_getElem? (i := 116) (by decide +kernel)) rfl, by decide +kernel, by decide +kernel, by decide +kernel⟩
theorem H_append {w : Wd} {x0 : Int32} {fr lo : Nat} {P : Option Value → Wd → Prop} {P2 : Int32 → Wd → Prop} (hK : CF yX6_append cX6_append 2 (some .int) fr lo [.ref 0, .int x0] w P) (hP : ∀ r w', P r w' → ∃ v, r = some (.int v) ∧ P2 v w') :
    CH yL_append cL_append 4 [(0, 9, 12, 13), (0, 9, 15, 15)] (fr + 1) (21 + lo) [.ref 0, .int x0, .ref 218] w 0 (fun o w' => o = 0 ∧ ∃ v w9, P2 v w9 ∧ w' = wLong w9 218 v.toInt64) := by
  intro ex us
  refine CW.of cwL_append (Nat.le_of_ble_eq_true rfl) (fun G9 p9 l9 e9 s9 m9 ar9 be9 me9 co9 C hfl htb hr => ?_)
  refine a_pad 1 ?_
  refine a_eq (L' := [some (.ref 0), some (.int x0), some (.ref 218), none]) rfl rfl rfl ?_
  refine a_aload_n C dL_append_0 rfl rfl ?_
  refine a_iconst (v := 0) C dL_append_1 (by decide) ?_
  refine a_aload_n C dL_append_2 rfl rfl ?_
  refine a_iload_n C dL_append_3 rfl rfl ?_
  refine a_callV C [.int x0] 6 (hK ex us) vL_50 (show 0 < 219 by decide) (by decide) (show fz w 0 = .inr (6, _) from rfl) rfl dL_append_4 rfl (Nat.le_of_ble_eq_true rfl) ⟨Nat.le_refl _, by show 8 + (2 + 11) + lo ≤ 21 + lo; omega⟩ ⟨by show 219 + ex + 0 ≤ 219 + ex + 0; omega, by show us + 0 ≤ us + 0; omega⟩ (fun r9 M9 hp9 _ _ => ?_)
  obtain ⟨w9, rfl, hp9⟩ := hp9
  obtain ⟨v, rfl, hv⟩ := hP _ _ hp9
  refine a_eq (st' := [.int v, .int 0, .ref 218]) rfl rfl rfl ?_
  refine a_i2l C dL_append_7 ?_
  refine o_store C dL_append_8 ?_
  refine a_goto (tgt := 18) C dL_append_9 (by decide) ?_
  refine a_iconst (v := 0) C dL_append_18 (by decide) ?_
  exact a_iret C hr rfl dL_append_19 rfl rfl ⟨0, _, rfl, rfl, rfl, v, w9, hv, rfl⟩
theorem T_append_0 {w : Wd} {x0 : Int32} {fr lo : Nat} (hK : CXF yX6_append cX6_append 2 (some .int) fr lo [.ref 0, .int x0] w "java/lang/IllegalArgumentException") :
    CH yL_append cL_append 4 [(0, 9, 12, 13), (0, 9, 15, 15)] (fr + 1) (21 + lo) [.ref 0, .int x0, .ref 218] w 1 (fun o w' => o = 1 ∧ w' = w) := by
  intro ex us
  refine CW.of cwL_append (Nat.le_of_ble_eq_true rfl) (fun G9 p9 l9 e9 s9 m9 ar9 be9 me9 co9 C hfl htb hr => ?_)
  refine a_pad 1 ?_
  refine a_eq (L' := [some (.ref 0), some (.int x0), some (.ref 218), none]) rfl rfl rfl ?_
  refine a_aload_n C dL_append_0 rfl rfl ?_
  refine a_iconst (v := 0) C dL_append_1 (by decide) ?_
  refine a_aload_n C dL_append_2 rfl rfl ?_
  refine a_iload_n C dL_append_3 rfl rfl ?_
  refine a_xcatN C hfl [.int x0] 6 (hK ex us) vL_50 (show 0 < 219 by decide) (by decide) (show fz w 0 = .inr (6, _) from rfl) rfl dL_append_4 rfl (Nat.le_of_ble_eq_true rfl) ⟨Nat.le_refl _, by show 8 + (2 + 11) + lo ≤ 21 + lo; omega⟩ ⟨by show 219 + ex + 1 ≤ 219 + ex + 1; omega, by show us + 6 ≤ us + 6 * 1; omega⟩ (E := "java/lang/IllegalArgumentException") (by decide) (fun E' M' h => h.1) [] ⟨0, 9, 12, 13⟩ [⟨0, 9, 15, 15⟩] htb (fun z hz => by cases hz) rfl (by decide) kL_13 dL_append_12 (by decide) (fun M9 hp9 _ _ => ?_)
  obtain ⟨-, rfl⟩ := hp9
  refine a_iconst (v := 1) C dL_append_13 (by decide) ?_
  exact a_iret C hr rfl dL_append_14 rfl rfl ⟨1, w, rfl, rfl, rfl, rfl⟩
theorem T_append_1 {w : Wd} {x0 : Int32} {fr lo : Nat} (hK : CXF yX6_append cX6_append 2 (some .int) fr lo [.ref 0, .int x0] w "java/lang/IllegalStateException") :
    CH yL_append cL_append 4 [(0, 9, 12, 13), (0, 9, 15, 15)] (fr + 1) (21 + lo) [.ref 0, .int x0, .ref 218] w 1 (fun o w' => o = 2 ∧ w' = w) := by
  intro ex us
  refine CW.of cwL_append (Nat.le_of_ble_eq_true rfl) (fun G9 p9 l9 e9 s9 m9 ar9 be9 me9 co9 C hfl htb hr => ?_)
  refine a_pad 1 ?_
  refine a_eq (L' := [some (.ref 0), some (.int x0), some (.ref 218), none]) rfl rfl rfl ?_
  refine a_aload_n C dL_append_0 rfl rfl ?_
  refine a_iconst (v := 0) C dL_append_1 (by decide) ?_
  refine a_aload_n C dL_append_2 rfl rfl ?_
  refine a_iload_n C dL_append_3 rfl rfl ?_
  refine a_xcatN C hfl [.int x0] 6 (hK ex us) vL_50 (show 0 < 219 by decide) (by decide) (show fz w 0 = .inr (6, _) from rfl) rfl dL_append_4 rfl (Nat.le_of_ble_eq_true rfl) ⟨Nat.le_refl _, by show 8 + (2 + 11) + lo ≤ 21 + lo; omega⟩ ⟨by show 219 + ex + 1 ≤ 219 + ex + 1; omega, by show us + 6 ≤ us + 6 * 1; omega⟩ (E := "java/lang/IllegalStateException") (by decide) (fun E' M' h => h.1) [⟨0, 9, 12, 13⟩] ⟨0, 9, 15, 15⟩ [] htb (fun z hz => by
    rcases List.mem_cons.mp hz with rfl | hz
    · exact Or.inr ⟨by decide, "java/lang/IllegalArgumentException", by decide, by decide, kL_13⟩
    cases hz) rfl (by decide) kL_15 dL_append_15 (by decide) (fun M9 hp9 _ _ => ?_)
  obtain ⟨-, rfl⟩ := hp9
  refine a_iconst (v := 2) C dL_append_16 (by decide) ?_
  exact a_iret C hr rfl dL_append_17 rfl rfl ⟨2, w, rfl, rfl, rfl, rfl⟩
theorem cwL_obey : aCodeW yL_obey cL_obey 3 (some .int) [(0, 8, 11, 13)] := ⟨gw_in (List.mem_of_getElem? (i := 983) (by decide +kernel)) rfl, gw_in (List.mem_of_getElem? (i := 116) (by decide +kernel)) rfl, by decide +kernel, by decide +kernel, by decide +kernel⟩
theorem H_obey {w : Wd} {fr lo : Nat} {P : Option Value → Wd → Prop} {P2 : Int32 → Wd → Prop} (hK : CF yX6_obey cX6_obey 2 (some .int) fr lo [.ref 0] w P) (hP : ∀ r w', P r w' → ∃ v, r = some (.int v) ∧ P2 v w') :
    CH yL_obey cL_obey 3 [(0, 8, 11, 13)] (fr + 1) (21 + lo) [.ref 0, .ref 218] w 0 (fun o w' => o = 0 ∧ ∃ v w9, P2 v w9 ∧ w' = wLong w9 218 v.toInt64) := by
  intro ex us
  refine CW.of cwL_obey (Nat.le_of_ble_eq_true rfl) (fun G9 p9 l9 e9 s9 m9 ar9 be9 me9 co9 C hfl htb hr => ?_)
  refine a_pad 1 ?_
  refine a_eq (L' := [some (.ref 0), some (.ref 218), none]) rfl rfl rfl ?_
  refine a_aload_n C dL_obey_0 rfl rfl ?_
  refine a_iconst (v := 0) C dL_obey_1 (by decide) ?_
  refine a_aload_n C dL_obey_2 rfl rfl ?_
  refine a_callV C [] 6 (hK ex us) vL_53 (show 0 < 219 by decide) (by decide) (show fz w 0 = .inr (6, _) from rfl) rfl dL_obey_3 rfl (Nat.le_of_ble_eq_true rfl) ⟨Nat.le_refl _, by show 8 + (2 + 11) + lo ≤ 21 + lo; omega⟩ ⟨by show 219 + ex + 0 ≤ 219 + ex + 0; omega, by show us + 0 ≤ us + 0; omega⟩ (fun r9 M9 hp9 _ _ => ?_)
  obtain ⟨w9, rfl, hp9⟩ := hp9
  obtain ⟨v, rfl, hv⟩ := hP _ _ hp9
  refine a_eq (st' := [.int v, .int 0, .ref 218]) rfl rfl rfl ?_
  refine a_i2l C dL_obey_6 ?_
  refine o_store C dL_obey_7 ?_
  refine a_goto (tgt := 14) C dL_obey_8 (by decide) ?_
  refine a_iconst (v := 0) C dL_obey_14 (by decide) ?_
  exact a_iret C hr rfl dL_obey_15 rfl rfl ⟨0, _, rfl, rfl, rfl, v, w9, hv, rfl⟩
theorem T_obey_0 {w : Wd} {fr lo : Nat} (hK : CXF yX6_obey cX6_obey 2 (some .int) fr lo [.ref 0] w "java/lang/IllegalArgumentException") :
    CH yL_obey cL_obey 3 [(0, 8, 11, 13)] (fr + 1) (21 + lo) [.ref 0, .ref 218] w 1 (fun o w' => o = 1 ∧ w' = w) := by
  intro ex us
  refine CW.of cwL_obey (Nat.le_of_ble_eq_true rfl) (fun G9 p9 l9 e9 s9 m9 ar9 be9 me9 co9 C hfl htb hr => ?_)
  refine a_pad 1 ?_
  refine a_eq (L' := [some (.ref 0), some (.ref 218), none]) rfl rfl rfl ?_
  refine a_aload_n C dL_obey_0 rfl rfl ?_
  refine a_iconst (v := 0) C dL_obey_1 (by decide) ?_
  refine a_aload_n C dL_obey_2 rfl rfl ?_
  refine a_xcatN C hfl [] 6 (hK ex us) vL_53 (show 0 < 219 by decide) (by decide) (show fz w 0 = .inr (6, _) from rfl) rfl dL_obey_3 rfl (Nat.le_of_ble_eq_true rfl) ⟨Nat.le_refl _, by show 8 + (2 + 11) + lo ≤ 21 + lo; omega⟩ ⟨by show 219 + ex + 1 ≤ 219 + ex + 1; omega, by show us + 6 ≤ us + 6 * 1; omega⟩ (E := "java/lang/IllegalArgumentException") (by decide) (fun E' M' h => h.1) [] ⟨0, 8, 11, 13⟩ [] htb (fun z hz => by cases hz) rfl (by decide) kL_13 dL_obey_11 (by decide) (fun M9 hp9 _ _ => ?_)
  obtain ⟨-, rfl⟩ := hp9
  refine a_iconst (v := 1) C dL_obey_12 (by decide) ?_
  exact a_iret C hr rfl dL_obey_13 rfl rfl ⟨1, w, rfl, rfl, rfl, rfl⟩
theorem To_obey_0 {w : Wd} {fr lo : Nat} (hK : CXO yX6_obey cX6_obey 2 (some .int) fr lo [.ref 0] w "java/lang/IllegalArgumentException") :
    CH yL_obey cL_obey 3 [(0, 8, 11, 13)] (fr + 1) (21 + lo) [.ref 0, .ref 218] w 1 (fun o w' => o = 1 ∧ OT w w') := by
  intro ex us
  refine CW.of cwL_obey (Nat.le_of_ble_eq_true rfl) (fun G9 p9 l9 e9 s9 m9 ar9 be9 me9 co9 C hfl htb hr => ?_)
  refine a_pad 1 ?_
  refine a_eq (L' := [some (.ref 0), some (.ref 218), none]) rfl rfl rfl ?_
  refine a_aload_n C dL_obey_0 rfl rfl ?_
  refine a_iconst (v := 0) C dL_obey_1 (by decide) ?_
  refine a_aload_n C dL_obey_2 rfl rfl ?_
  refine a_xcatN C hfl [] 6 (hK ex us) vL_53 (show 0 < 219 by decide) (by decide) (show fz w 0 = .inr (6, _) from rfl) rfl dL_obey_3 rfl (Nat.le_of_ble_eq_true rfl) ⟨Nat.le_refl _, by show 8 + (2 + 11) + lo ≤ 21 + lo; omega⟩ ⟨by show 219 + ex + 1 ≤ 219 + ex + 1; omega, by show us + 6 ≤ us + 6 * 1; omega⟩ (E := "java/lang/IllegalArgumentException") (by decide) (fun E' M' h => h.1) [] ⟨0, 8, 11, 13⟩ [] htb (fun z hz => by cases hz) rfl (by decide) kL_13 dL_obey_11 (by decide) (fun M9 hp9 _ _ => ?_)
  obtain ⟨-, w9, hw9, rfl⟩ := hp9
  refine a_iconst (v := 1) C dL_obey_12 (by decide) ?_
  exact a_iret C hr rfl dL_obey_13 rfl rfl ⟨1, w9, rfl, rfl, rfl, hw9⟩
theorem cwL_goBack : aCodeW yL_goBack cL_goBack 3 (some .int) [(0, 8, 11, 15)] := ⟨gw_in (List.mem_of_getElem? (i := 1017) (by decide +kernel)) rfl, gw_in (List.mem_of_getElem? (i := 116) (by decide +kernel)) rfl, by decide +kernel, by decide +kernel, by decide +kernel⟩
theorem H_goBack {w : Wd} {fr lo : Nat} {P : Option Value → Wd → Prop} {P2 : Int32 → Wd → Prop} (hK : CF yX6_goBack cX6_goBack 1 (some .int) fr lo [.ref 0] w P) (hP : ∀ r w', P r w' → ∃ v, r = some (.int v) ∧ P2 v w') :
    CH yL_goBack cL_goBack 3 [(0, 8, 11, 15)] (fr + 1) (20 + lo) [.ref 0, .ref 218] w 0 (fun o w' => o = 0 ∧ ∃ v w9, P2 v w9 ∧ w' = wLong w9 218 v.toInt64) := by
  intro ex us
  refine CW.of cwL_goBack (Nat.le_of_ble_eq_true rfl) (fun G9 p9 l9 e9 s9 m9 ar9 be9 me9 co9 C hfl htb hr => ?_)
  refine a_pad 1 ?_
  refine a_eq (L' := [some (.ref 0), some (.ref 218), none]) rfl rfl rfl ?_
  refine a_aload_n C dL_goBack_0 rfl rfl ?_
  refine a_iconst (v := 0) C dL_goBack_1 (by decide) ?_
  refine a_aload_n C dL_goBack_2 rfl rfl ?_
  refine a_callV C [] 6 (hK ex us) vL_57 (show 0 < 219 by decide) (by decide) (show fz w 0 = .inr (6, _) from rfl) rfl dL_goBack_3 rfl (Nat.le_of_ble_eq_true rfl) ⟨Nat.le_refl _, by show 8 + (1 + 11) + lo ≤ 20 + lo; omega⟩ ⟨by show 219 + ex + 0 ≤ 219 + ex + 0; omega, by show us + 0 ≤ us + 0; omega⟩ (fun r9 M9 hp9 _ _ => ?_)
  obtain ⟨w9, rfl, hp9⟩ := hp9
  obtain ⟨v, rfl, hv⟩ := hP _ _ hp9
  refine a_eq (st' := [.int v, .int 0, .ref 218]) rfl rfl rfl ?_
  refine a_i2l C dL_goBack_6 ?_
  refine o_store C dL_goBack_7 ?_
  refine a_goto (tgt := 14) C dL_goBack_8 (by decide) ?_
  refine a_iconst (v := 0) C dL_goBack_14 (by decide) ?_
  exact a_iret C hr rfl dL_goBack_15 rfl rfl ⟨0, _, rfl, rfl, rfl, v, w9, hv, rfl⟩
theorem T_goBack_0 {w : Wd} {fr lo : Nat} (hK : CXF yX6_goBack cX6_goBack 1 (some .int) fr lo [.ref 0] w "java/lang/IllegalStateException") :
    CH yL_goBack cL_goBack 3 [(0, 8, 11, 15)] (fr + 1) (20 + lo) [.ref 0, .ref 218] w 1 (fun o w' => o = 1 ∧ w' = w) := by
  intro ex us
  refine CW.of cwL_goBack (Nat.le_of_ble_eq_true rfl) (fun G9 p9 l9 e9 s9 m9 ar9 be9 me9 co9 C hfl htb hr => ?_)
  refine a_pad 1 ?_
  refine a_eq (L' := [some (.ref 0), some (.ref 218), none]) rfl rfl rfl ?_
  refine a_aload_n C dL_goBack_0 rfl rfl ?_
  refine a_iconst (v := 0) C dL_goBack_1 (by decide) ?_
  refine a_aload_n C dL_goBack_2 rfl rfl ?_
  refine a_xcatN C hfl [] 6 (hK ex us) vL_57 (show 0 < 219 by decide) (by decide) (show fz w 0 = .inr (6, _) from rfl) rfl dL_goBack_3 rfl (Nat.le_of_ble_eq_true rfl) ⟨Nat.le_refl _, by show 8 + (1 + 11) + lo ≤ 20 + lo; omega⟩ ⟨by show 219 + ex + 1 ≤ 219 + ex + 1; omega, by show us + 6 ≤ us + 6 * 1; omega⟩ (E := "java/lang/IllegalStateException") (by decide) (fun E' M' h => h.1) [] ⟨0, 8, 11, 15⟩ [] htb (fun z hz => by cases hz) rfl (by decide) kL_15 dL_goBack_11 (by decide) (fun M9 hp9 _ _ => ?_)
  obtain ⟨-, rfl⟩ := hp9
  refine a_iconst (v := 1) C dL_goBack_12 (by decide) ?_
  exact a_iret C hr rfl dL_goBack_13 rfl rfl ⟨1, w, rfl, rfl, rfl, rfl⟩
theorem cwL_undo : aCodeW yL_undo cL_undo 3 (some .int) [(0, 8, 11, 15)] := ⟨gw_in (List.mem_of_getElem? (i := 1025) (by decide +kernel)) rfl, gw_in (List.mem_of_getElem? (i := 116) (by decide +kernel)) rfl, by decide +kernel, by decide +kernel, by decide +kernel⟩
theorem H_undo {w : Wd} {fr lo : Nat} {P : Option Value → Wd → Prop} {P2 : Int32 → Wd → Prop} (hK : CF yX6_undo cX6_undo 1 (some .int) fr lo [.ref 0] w P) (hP : ∀ r w', P r w' → ∃ v, r = some (.int v) ∧ P2 v w') :
    CH yL_undo cL_undo 3 [(0, 8, 11, 15)] (fr + 1) (20 + lo) [.ref 0, .ref 218] w 0 (fun o w' => o = 0 ∧ ∃ v w9, P2 v w9 ∧ w' = wLong w9 218 v.toInt64) := by
  intro ex us
  refine CW.of cwL_undo (Nat.le_of_ble_eq_true rfl) (fun G9 p9 l9 e9 s9 m9 ar9 be9 me9 co9 C hfl htb hr => ?_)
  refine a_pad 1 ?_
  refine a_eq (L' := [some (.ref 0), some (.ref 218), none]) rfl rfl rfl ?_
  refine a_aload_n C dL_undo_0 rfl rfl ?_
  refine a_iconst (v := 0) C dL_undo_1 (by decide) ?_
  refine a_aload_n C dL_undo_2 rfl rfl ?_
  refine a_callV C [] 6 (hK ex us) vL_60 (show 0 < 219 by decide) (by decide) (show fz w 0 = .inr (6, _) from rfl) rfl dL_undo_3 rfl (Nat.le_of_ble_eq_true rfl) ⟨Nat.le_refl _, by show 8 + (1 + 11) + lo ≤ 20 + lo; omega⟩ ⟨by show 219 + ex + 0 ≤ 219 + ex + 0; omega, by show us + 0 ≤ us + 0; omega⟩ (fun r9 M9 hp9 _ _ => ?_)
  obtain ⟨w9, rfl, hp9⟩ := hp9
  obtain ⟨v, rfl, hv⟩ := hP _ _ hp9
  refine a_eq (st' := [.int v, .int 0, .ref 218]) rfl rfl rfl ?_
  refine a_i2l C dL_undo_6 ?_
  refine o_store C dL_undo_7 ?_
  refine a_goto (tgt := 14) C dL_undo_8 (by decide) ?_
  refine a_iconst (v := 0) C dL_undo_14 (by decide) ?_
  exact a_iret C hr rfl dL_undo_15 rfl rfl ⟨0, _, rfl, rfl, rfl, v, w9, hv, rfl⟩
theorem T_undo_0 {w : Wd} {fr lo : Nat} (hK : CXF yX6_undo cX6_undo 1 (some .int) fr lo [.ref 0] w "java/lang/IllegalStateException") :
    CH yL_undo cL_undo 3 [(0, 8, 11, 15)] (fr + 1) (20 + lo) [.ref 0, .ref 218] w 1 (fun o w' => o = 1 ∧ w' = w) := by
  intro ex us
  refine CW.of cwL_undo (Nat.le_of_ble_eq_true rfl) (fun G9 p9 l9 e9 s9 m9 ar9 be9 me9 co9 C hfl htb hr => ?_)
  refine a_pad 1 ?_
  refine a_eq (L' := [some (.ref 0), some (.ref 218), none]) rfl rfl rfl ?_
  refine a_aload_n C dL_undo_0 rfl rfl ?_
  refine a_iconst (v := 0) C dL_undo_1 (by decide) ?_
  refine a_aload_n C dL_undo_2 rfl rfl ?_
  refine a_xcatN C hfl [] 6 (hK ex us) vL_60 (show 0 < 219 by decide) (by decide) (show fz w 0 = .inr (6, _) from rfl) rfl dL_undo_3 rfl (Nat.le_of_ble_eq_true rfl) ⟨Nat.le_refl _, by show 8 + (1 + 11) + lo ≤ 20 + lo; omega⟩ ⟨by show 219 + ex + 1 ≤ 219 + ex + 1; omega, by show us + 6 ≤ us + 6 * 1; omega⟩ (E := "java/lang/IllegalStateException") (by decide) (fun E' M' h => h.1) [] ⟨0, 8, 11, 15⟩ [] htb (fun z hz => by cases hz) rfl (by decide) kL_15 dL_undo_11 (by decide) (fun M9 hp9 _ _ => ?_)
  obtain ⟨-, rfl⟩ := hp9
  refine a_iconst (v := 1) C dL_undo_12 (by decide) ?_
  exact a_iret C hr rfl dL_undo_13 rfl rfl ⟨1, w, rfl, rfl, rfl, rfl⟩
theorem cwL_key : aCodeW yL_key cL_key 5 (some .int) [(0, 10, 13, 20), (0, 10, 17, 13)] := ⟨gw_in (List.mem_of_getElem? (i := 1033) (by decide +kernel)) rfl, gw_in (List.mem_of_getElem? (i := 116) (by decide +kernel)) rfl, by decide +kernel, by decide +kernel, by decide +kernel⟩
theorem H_key {w : Wd} {x0 x1 : Int32} {fr lo : Nat} {P : Option Value → Wd → Prop} {P2 : Int32 → Wd → Prop} (hK : CF yX6_key cX6_key 4 (some .int) fr lo [.ref 0, .int x0, .int x1] w P) (hP : ∀ r w', P r w' → ∃ v, r = some (.int v) ∧ P2 v w') :
    CH yL_key cL_key 5 [(0, 10, 13, 20), (0, 10, 17, 13)] (fr + 1) (23 + lo) [.ref 0, .int x0, .int x1, .ref 218] w 0 (fun o w' => o = 0 ∧ ∃ v w9, P2 v w9 ∧ w' = wLong w9 218 v.toInt64) := by
  intro ex us
  refine CW.of cwL_key (Nat.le_of_ble_eq_true rfl) (fun G9 p9 l9 e9 s9 m9 ar9 be9 me9 co9 C hfl htb hr => ?_)
  refine a_pad 1 ?_
  refine a_eq (L' := [some (.ref 0), some (.int x0), some (.int x1), some (.ref 218), none]) rfl rfl rfl ?_
  refine a_aload_n C dL_key_0 rfl rfl ?_
  refine a_iconst (v := 0) C dL_key_1 (by decide) ?_
  refine a_aload_n C dL_key_2 rfl rfl ?_
  refine a_iload_n C dL_key_3 rfl rfl ?_
  refine a_iload_n C dL_key_4 rfl rfl ?_
  refine a_callV C [.int x0, .int x1] 6 (hK ex us) vL_63 (show 0 < 219 by decide) (by decide) (show fz w 0 = .inr (6, _) from rfl) rfl dL_key_5 rfl (Nat.le_of_ble_eq_true rfl) ⟨Nat.le_refl _, by show 8 + (4 + 11) + lo ≤ 23 + lo; omega⟩ ⟨by show 219 + ex + 0 ≤ 219 + ex + 0; omega, by show us + 0 ≤ us + 0; omega⟩ (fun r9 M9 hp9 _ _ => ?_)
  obtain ⟨w9, rfl, hp9⟩ := hp9
  obtain ⟨v, rfl, hv⟩ := hP _ _ hp9
  refine a_eq (st' := [.int v, .int 0, .ref 218]) rfl rfl rfl ?_
  refine a_i2l C dL_key_8 ?_
  refine o_store C dL_key_9 ?_
  refine a_goto (tgt := 21) C dL_key_10 (by decide) ?_
  refine a_iconst (v := 0) C dL_key_21 (by decide) ?_
  exact a_iret C hr rfl dL_key_22 rfl rfl ⟨0, _, rfl, rfl, rfl, v, w9, hv, rfl⟩
theorem T_key_0 {w : Wd} {x0 x1 : Int32} {fr lo : Nat} (hK : CXF yX6_key cX6_key 4 (some .int) fr lo [.ref 0, .int x0, .int x1] w "java/lang/IndexOutOfBoundsException") :
    CH yL_key cL_key 5 [(0, 10, 13, 20), (0, 10, 17, 13)] (fr + 1) (23 + lo) [.ref 0, .int x0, .int x1, .ref 218] w 1 (fun o w' => o = 1 ∧ w' = w) := by
  intro ex us
  refine CW.of cwL_key (Nat.le_of_ble_eq_true rfl) (fun G9 p9 l9 e9 s9 m9 ar9 be9 me9 co9 C hfl htb hr => ?_)
  refine a_pad 1 ?_
  refine a_eq (L' := [some (.ref 0), some (.int x0), some (.int x1), some (.ref 218), none]) rfl rfl rfl ?_
  refine a_aload_n C dL_key_0 rfl rfl ?_
  refine a_iconst (v := 0) C dL_key_1 (by decide) ?_
  refine a_aload_n C dL_key_2 rfl rfl ?_
  refine a_iload_n C dL_key_3 rfl rfl ?_
  refine a_iload_n C dL_key_4 rfl rfl ?_
  refine a_xcat C hfl [.int x0, .int x1] 6 (hK ex us) vL_63 (show 0 < 219 by decide) (by decide) (show fz w 0 = .inr (6, _) from rfl) rfl dL_key_5 rfl (Nat.le_of_ble_eq_true rfl) ⟨Nat.le_refl _, by show 8 + (4 + 11) + lo ≤ 23 + lo; omega⟩ ⟨by show 219 + ex + 1 ≤ 219 + ex + 1; omega, by show us + 6 ≤ us + 6 * 1; omega⟩ (E := "java/lang/IndexOutOfBoundsException") (by decide) (fun E' M' h => h.1) [] ⟨0, 10, 13, 20⟩ [⟨0, 10, 17, 13⟩] htb (fun z hz => by cases hz) rfl (by decide) kL_20 dL_key_13 (by decide) (fun M9 hp9 _ _ => ?_)
  obtain ⟨-, rfl⟩ := hp9
  refine a_iconst (v := 1) C dL_key_15 (by decide) ?_
  exact a_iret C hr rfl dL_key_16 rfl rfl ⟨1, w, rfl, rfl, rfl, rfl⟩
theorem T_key_1 {w : Wd} {x0 x1 : Int32} {fr lo : Nat} (hK : CXF yX6_key cX6_key 4 (some .int) fr lo [.ref 0, .int x0, .int x1] w "java/lang/IllegalArgumentException") :
    CH yL_key cL_key 5 [(0, 10, 13, 20), (0, 10, 17, 13)] (fr + 1) (23 + lo) [.ref 0, .int x0, .int x1, .ref 218] w 1 (fun o w' => o = 2 ∧ w' = w) := by
  intro ex us
  refine CW.of cwL_key (Nat.le_of_ble_eq_true rfl) (fun G9 p9 l9 e9 s9 m9 ar9 be9 me9 co9 C hfl htb hr => ?_)
  refine a_pad 1 ?_
  refine a_eq (L' := [some (.ref 0), some (.int x0), some (.int x1), some (.ref 218), none]) rfl rfl rfl ?_
  refine a_aload_n C dL_key_0 rfl rfl ?_
  refine a_iconst (v := 0) C dL_key_1 (by decide) ?_
  refine a_aload_n C dL_key_2 rfl rfl ?_
  refine a_iload_n C dL_key_3 rfl rfl ?_
  refine a_iload_n C dL_key_4 rfl rfl ?_
  refine a_xcat C hfl [.int x0, .int x1] 6 (hK ex us) vL_63 (show 0 < 219 by decide) (by decide) (show fz w 0 = .inr (6, _) from rfl) rfl dL_key_5 rfl (Nat.le_of_ble_eq_true rfl) ⟨Nat.le_refl _, by show 8 + (4 + 11) + lo ≤ 23 + lo; omega⟩ ⟨by show 219 + ex + 1 ≤ 219 + ex + 1; omega, by show us + 6 ≤ us + 6 * 1; omega⟩ (E := "java/lang/IllegalArgumentException") (by decide) (fun E' M' h => h.1) [⟨0, 10, 13, 20⟩] ⟨0, 10, 17, 13⟩ [] htb (fun z hz => by
    rcases List.mem_cons.mp hz with rfl | hz
    · exact Or.inr ⟨by decide, "java/lang/IndexOutOfBoundsException", by decide, by decide, kL_20⟩
    cases hz) rfl (by decide) kL_13 dL_key_17 (by decide) (fun M9 hp9 _ _ => ?_)
  obtain ⟨-, rfl⟩ := hp9
  refine a_iconst (v := 2) C dL_key_19 (by decide) ?_
  exact a_iret C hr rfl dL_key_20 rfl rfl ⟨2, w, rfl, rfl, rfl, rfl⟩
theorem cwL_lock : aCodeW yL_lock cL_lock 5 (some .int) [(0, 10, 13, 20), (0, 10, 17, 13)] := ⟨gw_in (List.mem_of_getElem? (i := 1037) (by decide +kernel)) rfl, gw_in (List.mem_of_getElem? (i := 116) (by decide +kernel)) rfl, by decide +kernel, by decide +kernel, by decide +kernel⟩
theorem H_lock {w : Wd} {x0 x1 : Int32} {fr lo : Nat} {P : Option Value → Wd → Prop} {P2 : Int32 → Wd → Prop} (hK : CF yX6_lock cX6_lock 4 (some .int) fr lo [.ref 0, .int x0, .int x1] w P) (hP : ∀ r w', P r w' → ∃ v, r = some (.int v) ∧ P2 v w') :
    CH yL_lock cL_lock 5 [(0, 10, 13, 20), (0, 10, 17, 13)] (fr + 1) (23 + lo) [.ref 0, .int x0, .int x1, .ref 218] w 0 (fun o w' => o = 0 ∧ ∃ v w9, P2 v w9 ∧ w' = wLong w9 218 v.toInt64) := by
  intro ex us
  refine CW.of cwL_lock (Nat.le_of_ble_eq_true rfl) (fun G9 p9 l9 e9 s9 m9 ar9 be9 me9 co9 C hfl htb hr => ?_)
  refine a_pad 1 ?_
  refine a_eq (L' := [some (.ref 0), some (.int x0), some (.int x1), some (.ref 218), none]) rfl rfl rfl ?_
  refine a_aload_n C dL_lock_0 rfl rfl ?_
  refine a_iconst (v := 0) C dL_lock_1 (by decide) ?_
  refine a_aload_n C dL_lock_2 rfl rfl ?_
  refine a_iload_n C dL_lock_3 rfl rfl ?_
  refine a_iload_n C dL_lock_4 rfl rfl ?_
  refine a_callV C [.int x0, .int x1] 6 (hK ex us) vL_66 (show 0 < 219 by decide) (by decide) (show fz w 0 = .inr (6, _) from rfl) rfl dL_lock_5 rfl (Nat.le_of_ble_eq_true rfl) ⟨Nat.le_refl _, by show 8 + (4 + 11) + lo ≤ 23 + lo; omega⟩ ⟨by show 219 + ex + 0 ≤ 219 + ex + 0; omega, by show us + 0 ≤ us + 0; omega⟩ (fun r9 M9 hp9 _ _ => ?_)
  obtain ⟨w9, rfl, hp9⟩ := hp9
  obtain ⟨v, rfl, hv⟩ := hP _ _ hp9
  refine a_eq (st' := [.int v, .int 0, .ref 218]) rfl rfl rfl ?_
  refine a_i2l C dL_lock_8 ?_
  refine o_store C dL_lock_9 ?_
  refine a_goto (tgt := 21) C dL_lock_10 (by decide) ?_
  refine a_iconst (v := 0) C dL_lock_21 (by decide) ?_
  exact a_iret C hr rfl dL_lock_22 rfl rfl ⟨0, _, rfl, rfl, rfl, v, w9, hv, rfl⟩
theorem T_lock_0 {w : Wd} {x0 x1 : Int32} {fr lo : Nat} (hK : CXF yX6_lock cX6_lock 4 (some .int) fr lo [.ref 0, .int x0, .int x1] w "java/lang/IndexOutOfBoundsException") :
    CH yL_lock cL_lock 5 [(0, 10, 13, 20), (0, 10, 17, 13)] (fr + 1) (23 + lo) [.ref 0, .int x0, .int x1, .ref 218] w 1 (fun o w' => o = 1 ∧ w' = w) := by
  intro ex us
  refine CW.of cwL_lock (Nat.le_of_ble_eq_true rfl) (fun G9 p9 l9 e9 s9 m9 ar9 be9 me9 co9 C hfl htb hr => ?_)
  refine a_pad 1 ?_
  refine a_eq (L' := [some (.ref 0), some (.int x0), some (.int x1), some (.ref 218), none]) rfl rfl rfl ?_
  refine a_aload_n C dL_lock_0 rfl rfl ?_
  refine a_iconst (v := 0) C dL_lock_1 (by decide) ?_
  refine a_aload_n C dL_lock_2 rfl rfl ?_
  refine a_iload_n C dL_lock_3 rfl rfl ?_
  refine a_iload_n C dL_lock_4 rfl rfl ?_
  refine a_xcat C hfl [.int x0, .int x1] 6 (hK ex us) vL_66 (show 0 < 219 by decide) (by decide) (show fz w 0 = .inr (6, _) from rfl) rfl dL_lock_5 rfl (Nat.le_of_ble_eq_true rfl) ⟨Nat.le_refl _, by show 8 + (4 + 11) + lo ≤ 23 + lo; omega⟩ ⟨by show 219 + ex + 1 ≤ 219 + ex + 1; omega, by show us + 6 ≤ us + 6 * 1; omega⟩ (E := "java/lang/IndexOutOfBoundsException") (by decide) (fun E' M' h => h.1) [] ⟨0, 10, 13, 20⟩ [⟨0, 10, 17, 13⟩] htb (fun z hz => by cases hz) rfl (by decide) kL_20 dL_lock_13 (by decide) (fun M9 hp9 _ _ => ?_)
  obtain ⟨-, rfl⟩ := hp9
  refine a_iconst (v := 1) C dL_lock_15 (by decide) ?_
  exact a_iret C hr rfl dL_lock_16 rfl rfl ⟨1, w, rfl, rfl, rfl, rfl⟩
theorem T_lock_1 {w : Wd} {x0 x1 : Int32} {fr lo : Nat} (hK : CXF yX6_lock cX6_lock 4 (some .int) fr lo [.ref 0, .int x0, .int x1] w "java/lang/IllegalArgumentException") :
    CH yL_lock cL_lock 5 [(0, 10, 13, 20), (0, 10, 17, 13)] (fr + 1) (23 + lo) [.ref 0, .int x0, .int x1, .ref 218] w 1 (fun o w' => o = 2 ∧ w' = w) := by
  intro ex us
  refine CW.of cwL_lock (Nat.le_of_ble_eq_true rfl) (fun G9 p9 l9 e9 s9 m9 ar9 be9 me9 co9 C hfl htb hr => ?_)
  refine a_pad 1 ?_
  refine a_eq (L' := [some (.ref 0), some (.int x0), some (.int x1), some (.ref 218), none]) rfl rfl rfl ?_
  refine a_aload_n C dL_lock_0 rfl rfl ?_
  refine a_iconst (v := 0) C dL_lock_1 (by decide) ?_
  refine a_aload_n C dL_lock_2 rfl rfl ?_
  refine a_iload_n C dL_lock_3 rfl rfl ?_
  refine a_iload_n C dL_lock_4 rfl rfl ?_
  refine a_xcat C hfl [.int x0, .int x1] 6 (hK ex us) vL_66 (show 0 < 219 by decide) (by decide) (show fz w 0 = .inr (6, _) from rfl) rfl dL_lock_5 rfl (Nat.le_of_ble_eq_true rfl) ⟨Nat.le_refl _, by show 8 + (4 + 11) + lo ≤ 23 + lo; omega⟩ ⟨by show 219 + ex + 1 ≤ 219 + ex + 1; omega, by show us + 6 ≤ us + 6 * 1; omega⟩ (E := "java/lang/IllegalArgumentException") (by decide) (fun E' M' h => h.1) [⟨0, 10, 13, 20⟩] ⟨0, 10, 17, 13⟩ [] htb (fun z hz => by
    rcases List.mem_cons.mp hz with rfl | hz
    · exact Or.inr ⟨by decide, "java/lang/IndexOutOfBoundsException", by decide, by decide, kL_20⟩
    cases hz) rfl (by decide) kL_13 dL_lock_17 (by decide) (fun M9 hp9 _ _ => ?_)
  obtain ⟨-, rfl⟩ := hp9
  refine a_iconst (v := 2) C dL_lock_19 (by decide) ?_
  exact a_iret C hr rfl dL_lock_20 rfl rfl ⟨2, w, rfl, rfl, rfl, rfl⟩
theorem cwL_person : aCodeW yL_person cL_person 5 (some .int) [(0, 10, 13, 20), (0, 10, 17, 13)] := ⟨gw_in (List.mem_of_getElem? (i := 1041) (by decide +kernel)) rfl, gw_in (List.mem_of_getElem? (i := 116) (by decide +kernel)) rfl, by decide +kernel, by decide +kernel, by decide +kernel⟩
theorem H_person {w : Wd} {x0 x1 : Int32} {fr lo : Nat} {P : Option Value → Wd → Prop} {P2 : Int32 → Wd → Prop} (hK : CF yX6_person cX6_person 3 (some .int) fr lo [.ref 0, .int x0, .int x1] w P) (hP : ∀ r w', P r w' → ∃ v, r = some (.int v) ∧ P2 v w') :
    CH yL_person cL_person 5 [(0, 10, 13, 20), (0, 10, 17, 13)] (fr + 1) (22 + lo) [.ref 0, .int x0, .int x1, .ref 218] w 0 (fun o w' => o = 0 ∧ ∃ v w9, P2 v w9 ∧ w' = wLong w9 218 v.toInt64) := by
  intro ex us
  refine CW.of cwL_person (Nat.le_of_ble_eq_true rfl) (fun G9 p9 l9 e9 s9 m9 ar9 be9 me9 co9 C hfl htb hr => ?_)
  refine a_pad 1 ?_
  refine a_eq (L' := [some (.ref 0), some (.int x0), some (.int x1), some (.ref 218), none]) rfl rfl rfl ?_
  refine a_aload_n C dL_person_0 rfl rfl ?_
  refine a_iconst (v := 0) C dL_person_1 (by decide) ?_
  refine a_aload_n C dL_person_2 rfl rfl ?_
  refine a_iload_n C dL_person_3 rfl rfl ?_
  refine a_iload_n C dL_person_4 rfl rfl ?_
  refine a_callV C [.int x0, .int x1] 6 (hK ex us) vL_69 (show 0 < 219 by decide) (by decide) (show fz w 0 = .inr (6, _) from rfl) rfl dL_person_5 rfl (Nat.le_of_ble_eq_true rfl) ⟨Nat.le_refl _, by show 8 + (3 + 11) + lo ≤ 22 + lo; omega⟩ ⟨by show 219 + ex + 0 ≤ 219 + ex + 0; omega, by show us + 0 ≤ us + 0; omega⟩ (fun r9 M9 hp9 _ _ => ?_)
  obtain ⟨w9, rfl, hp9⟩ := hp9
  obtain ⟨v, rfl, hv⟩ := hP _ _ hp9
  refine a_eq (st' := [.int v, .int 0, .ref 218]) rfl rfl rfl ?_
  refine a_i2l C dL_person_8 ?_
  refine o_store C dL_person_9 ?_
  refine a_goto (tgt := 21) C dL_person_10 (by decide) ?_
  refine a_iconst (v := 0) C dL_person_21 (by decide) ?_
  exact a_iret C hr rfl dL_person_22 rfl rfl ⟨0, _, rfl, rfl, rfl, v, w9, hv, rfl⟩
theorem T_person_0 {w : Wd} {x0 x1 : Int32} {fr lo : Nat} (hK : CXF yX6_person cX6_person 3 (some .int) fr lo [.ref 0, .int x0, .int x1] w "java/lang/IndexOutOfBoundsException") :
    CH yL_person cL_person 5 [(0, 10, 13, 20), (0, 10, 17, 13)] (fr + 1) (22 + lo) [.ref 0, .int x0, .int x1, .ref 218] w 1 (fun o w' => o = 1 ∧ w' = w) := by
  intro ex us
  refine CW.of cwL_person (Nat.le_of_ble_eq_true rfl) (fun G9 p9 l9 e9 s9 m9 ar9 be9 me9 co9 C hfl htb hr => ?_)
  refine a_pad 1 ?_
  refine a_eq (L' := [some (.ref 0), some (.int x0), some (.int x1), some (.ref 218), none]) rfl rfl rfl ?_
  refine a_aload_n C dL_person_0 rfl rfl ?_
  refine a_iconst (v := 0) C dL_person_1 (by decide) ?_
  refine a_aload_n C dL_person_2 rfl rfl ?_
  refine a_iload_n C dL_person_3 rfl rfl ?_
  refine a_iload_n C dL_person_4 rfl rfl ?_
  refine a_xcat C hfl [.int x0, .int x1] 6 (hK ex us) vL_69 (show 0 < 219 by decide) (by decide) (show fz w 0 = .inr (6, _) from rfl) rfl dL_person_5 rfl (Nat.le_of_ble_eq_true rfl) ⟨Nat.le_refl _, by show 8 + (3 + 11) + lo ≤ 22 + lo; omega⟩ ⟨by show 219 + ex + 1 ≤ 219 + ex + 1; omega, by show us + 6 ≤ us + 6 * 1; omega⟩ (E := "java/lang/IndexOutOfBoundsException") (by decide) (fun E' M' h => h.1) [] ⟨0, 10, 13, 20⟩ [⟨0, 10, 17, 13⟩] htb (fun z hz => by cases hz) rfl (by decide) kL_20 dL_person_13 (by decide) (fun M9 hp9 _ _ => ?_)
  obtain ⟨-, rfl⟩ := hp9
  refine a_iconst (v := 1) C dL_person_15 (by decide) ?_
  exact a_iret C hr rfl dL_person_16 rfl rfl ⟨1, w, rfl, rfl, rfl, rfl⟩
theorem T_person_1 {w : Wd} {x0 x1 : Int32} {fr lo : Nat} (hK : CXF yX6_person cX6_person 3 (some .int) fr lo [.ref 0, .int x0, .int x1] w "java/lang/IllegalArgumentException") :
    CH yL_person cL_person 5 [(0, 10, 13, 20), (0, 10, 17, 13)] (fr + 1) (22 + lo) [.ref 0, .int x0, .int x1, .ref 218] w 1 (fun o w' => o = 2 ∧ w' = w) := by
  intro ex us
  refine CW.of cwL_person (Nat.le_of_ble_eq_true rfl) (fun G9 p9 l9 e9 s9 m9 ar9 be9 me9 co9 C hfl htb hr => ?_)
  refine a_pad 1 ?_
  refine a_eq (L' := [some (.ref 0), some (.int x0), some (.int x1), some (.ref 218), none]) rfl rfl rfl ?_
  refine a_aload_n C dL_person_0 rfl rfl ?_
  refine a_iconst (v := 0) C dL_person_1 (by decide) ?_
  refine a_aload_n C dL_person_2 rfl rfl ?_
  refine a_iload_n C dL_person_3 rfl rfl ?_
  refine a_iload_n C dL_person_4 rfl rfl ?_
  refine a_xcat C hfl [.int x0, .int x1] 6 (hK ex us) vL_69 (show 0 < 219 by decide) (by decide) (show fz w 0 = .inr (6, _) from rfl) rfl dL_person_5 rfl (Nat.le_of_ble_eq_true rfl) ⟨Nat.le_refl _, by show 8 + (3 + 11) + lo ≤ 22 + lo; omega⟩ ⟨by show 219 + ex + 1 ≤ 219 + ex + 1; omega, by show us + 6 ≤ us + 6 * 1; omega⟩ (E := "java/lang/IllegalArgumentException") (by decide) (fun E' M' h => h.1) [⟨0, 10, 13, 20⟩] ⟨0, 10, 17, 13⟩ [] htb (fun z hz => by
    rcases List.mem_cons.mp hz with rfl | hz
    · exact Or.inr ⟨by decide, "java/lang/IndexOutOfBoundsException", by decide, by decide, kL_20⟩
    cases hz) rfl (by decide) kL_13 dL_person_17 (by decide) (fun M9 hp9 _ _ => ?_)
  obtain ⟨-, rfl⟩ := hp9
  refine a_iconst (v := 2) C dL_person_19 (by decide) ?_
  exact a_iret C hr rfl dL_person_20 rfl rfl ⟨2, w, rfl, rfl, rfl, rfl⟩
theorem cwL_code : aCodeW yL_code cL_code 5 (some .int) [(0, 10, 13, 13)] := ⟨gw_in (List.mem_of_getElem? (i := 1045) (by decide +kernel)) rfl, gw_in (List.mem_of_getElem? (i := 116) (by decide +kernel)) rfl, by decide +kernel, by decide +kernel, by decide +kernel⟩
theorem H_code {w : Wd} {x0 x1 : Int32} {fr lo : Nat} {P : Option Value → Wd → Prop} {P2 : Int32 → Wd → Prop} (hK : CF yX6_code cX6_code 3 (some .int) fr lo [.ref 0, .int x0, .int x1] w P) (hP : ∀ r w', P r w' → ∃ v, r = some (.int v) ∧ P2 v w') :
    CH yL_code cL_code 5 [(0, 10, 13, 13)] (fr + 1) (22 + lo) [.ref 0, .int x0, .int x1, .ref 218] w 0 (fun o w' => o = 0 ∧ ∃ v w9, P2 v w9 ∧ w' = wLong w9 218 v.toInt64) := by
  intro ex us
  refine CW.of cwL_code (Nat.le_of_ble_eq_true rfl) (fun G9 p9 l9 e9 s9 m9 ar9 be9 me9 co9 C hfl htb hr => ?_)
  refine a_pad 1 ?_
  refine a_eq (L' := [some (.ref 0), some (.int x0), some (.int x1), some (.ref 218), none]) rfl rfl rfl ?_
  refine a_aload_n C dL_code_0 rfl rfl ?_
  refine a_iconst (v := 0) C dL_code_1 (by decide) ?_
  refine a_aload_n C dL_code_2 rfl rfl ?_
  refine a_iload_n C dL_code_3 rfl rfl ?_
  refine a_iload_n C dL_code_4 rfl rfl ?_
  refine a_callV C [.int x0, .int x1] 6 (hK ex us) vL_72 (show 0 < 219 by decide) (by decide) (show fz w 0 = .inr (6, _) from rfl) rfl dL_code_5 rfl (Nat.le_of_ble_eq_true rfl) ⟨Nat.le_refl _, by show 8 + (3 + 11) + lo ≤ 22 + lo; omega⟩ ⟨by show 219 + ex + 0 ≤ 219 + ex + 0; omega, by show us + 0 ≤ us + 0; omega⟩ (fun r9 M9 hp9 _ _ => ?_)
  obtain ⟨w9, rfl, hp9⟩ := hp9
  obtain ⟨v, rfl, hv⟩ := hP _ _ hp9
  refine a_eq (st' := [.int v, .int 0, .ref 218]) rfl rfl rfl ?_
  refine a_i2l C dL_code_8 ?_
  refine o_store C dL_code_9 ?_
  refine a_goto (tgt := 17) C dL_code_10 (by decide) ?_
  refine a_iconst (v := 0) C dL_code_17 (by decide) ?_
  exact a_iret C hr rfl dL_code_18 rfl rfl ⟨0, _, rfl, rfl, rfl, v, w9, hv, rfl⟩
theorem T_code_0 {w : Wd} {x0 x1 : Int32} {fr lo : Nat} (hK : CXF yX6_code cX6_code 3 (some .int) fr lo [.ref 0, .int x0, .int x1] w "java/lang/IllegalArgumentException") :
    CH yL_code cL_code 5 [(0, 10, 13, 13)] (fr + 1) (22 + lo) [.ref 0, .int x0, .int x1, .ref 218] w 1 (fun o w' => o = 1 ∧ w' = w) := by
  intro ex us
  refine CW.of cwL_code (Nat.le_of_ble_eq_true rfl) (fun G9 p9 l9 e9 s9 m9 ar9 be9 me9 co9 C hfl htb hr => ?_)
  refine a_pad 1 ?_
  refine a_eq (L' := [some (.ref 0), some (.int x0), some (.int x1), some (.ref 218), none]) rfl rfl rfl ?_
  refine a_aload_n C dL_code_0 rfl rfl ?_
  refine a_iconst (v := 0) C dL_code_1 (by decide) ?_
  refine a_aload_n C dL_code_2 rfl rfl ?_
  refine a_iload_n C dL_code_3 rfl rfl ?_
  refine a_iload_n C dL_code_4 rfl rfl ?_
  refine a_xcat C hfl [.int x0, .int x1] 6 (hK ex us) vL_72 (show 0 < 219 by decide) (by decide) (show fz w 0 = .inr (6, _) from rfl) rfl dL_code_5 rfl (Nat.le_of_ble_eq_true rfl) ⟨Nat.le_refl _, by show 8 + (3 + 11) + lo ≤ 22 + lo; omega⟩ ⟨by show 219 + ex + 1 ≤ 219 + ex + 1; omega, by show us + 6 ≤ us + 6 * 1; omega⟩ (E := "java/lang/IllegalArgumentException") (by decide) (fun E' M' h => h.1) [] ⟨0, 10, 13, 13⟩ [] htb (fun z hz => by cases hz) rfl (by decide) kL_13 dL_code_13 (by decide) (fun M9 hp9 _ _ => ?_)
  obtain ⟨-, rfl⟩ := hp9
  refine a_iconst (v := 1) C dL_code_15 (by decide) ?_
  exact a_iret C hr rfl dL_code_16 rfl rfl ⟨1, w, rfl, rfl, rfl, rfl⟩
theorem cwL_level : aCodeW yL_level cL_level 5 (some .int) [(0, 10, 13, 20), (0, 10, 17, 13)] := ⟨gw_in (List.mem_of_getElem? (i := 1049) (by decide +kernel)) rfl, gw_in (List.mem_of_getElem? (i := 116) (by decide +kernel)) rfl, by decide +kernel, by decide +kernel, by decide +kernel⟩
theorem H_level {w : Wd} {x0 x1 : Int32} {fr lo : Nat} {P : Option Value → Wd → Prop} {P2 : Int32 → Wd → Prop} (hK : CF yX6_level cX6_level 3 (some .int) fr lo [.ref 0, .int x0, .int x1] w P) (hP : ∀ r w', P r w' → ∃ v, r = some (.int v) ∧ P2 v w') :
    CH yL_level cL_level 5 [(0, 10, 13, 20), (0, 10, 17, 13)] (fr + 1) (22 + lo) [.ref 0, .int x0, .int x1, .ref 218] w 0 (fun o w' => o = 0 ∧ ∃ v w9, P2 v w9 ∧ w' = wLong w9 218 v.toInt64) := by
  intro ex us
  refine CW.of cwL_level (Nat.le_of_ble_eq_true rfl) (fun G9 p9 l9 e9 s9 m9 ar9 be9 me9 co9 C hfl htb hr => ?_)
  refine a_pad 1 ?_
  refine a_eq (L' := [some (.ref 0), some (.int x0), some (.int x1), some (.ref 218), none]) rfl rfl rfl ?_
  refine a_aload_n C dL_level_0 rfl rfl ?_
  refine a_iconst (v := 0) C dL_level_1 (by decide) ?_
  refine a_aload_n C dL_level_2 rfl rfl ?_
  refine a_iload_n C dL_level_3 rfl rfl ?_
  refine a_iload_n C dL_level_4 rfl rfl ?_
  refine a_callV C [.int x0, .int x1] 6 (hK ex us) vL_75 (show 0 < 219 by decide) (by decide) (show fz w 0 = .inr (6, _) from rfl) rfl dL_level_5 rfl (Nat.le_of_ble_eq_true rfl) ⟨Nat.le_refl _, by show 8 + (3 + 11) + lo ≤ 22 + lo; omega⟩ ⟨by show 219 + ex + 0 ≤ 219 + ex + 0; omega, by show us + 0 ≤ us + 0; omega⟩ (fun r9 M9 hp9 _ _ => ?_)
  obtain ⟨w9, rfl, hp9⟩ := hp9
  obtain ⟨v, rfl, hv⟩ := hP _ _ hp9
  refine a_eq (st' := [.int v, .int 0, .ref 218]) rfl rfl rfl ?_
  refine a_i2l C dL_level_8 ?_
  refine o_store C dL_level_9 ?_
  refine a_goto (tgt := 21) C dL_level_10 (by decide) ?_
  refine a_iconst (v := 0) C dL_level_21 (by decide) ?_
  exact a_iret C hr rfl dL_level_22 rfl rfl ⟨0, _, rfl, rfl, rfl, v, w9, hv, rfl⟩
theorem T_level_0 {w : Wd} {x0 x1 : Int32} {fr lo : Nat} (hK : CXF yX6_level cX6_level 3 (some .int) fr lo [.ref 0, .int x0, .int x1] w "java/lang/IndexOutOfBoundsException") :
    CH yL_level cL_level 5 [(0, 10, 13, 20), (0, 10, 17, 13)] (fr + 1) (22 + lo) [.ref 0, .int x0, .int x1, .ref 218] w 1 (fun o w' => o = 1 ∧ w' = w) := by
  intro ex us
  refine CW.of cwL_level (Nat.le_of_ble_eq_true rfl) (fun G9 p9 l9 e9 s9 m9 ar9 be9 me9 co9 C hfl htb hr => ?_)
  refine a_pad 1 ?_
  refine a_eq (L' := [some (.ref 0), some (.int x0), some (.int x1), some (.ref 218), none]) rfl rfl rfl ?_
  refine a_aload_n C dL_level_0 rfl rfl ?_
  refine a_iconst (v := 0) C dL_level_1 (by decide) ?_
  refine a_aload_n C dL_level_2 rfl rfl ?_
  refine a_iload_n C dL_level_3 rfl rfl ?_
  refine a_iload_n C dL_level_4 rfl rfl ?_
  refine a_xcat C hfl [.int x0, .int x1] 6 (hK ex us) vL_75 (show 0 < 219 by decide) (by decide) (show fz w 0 = .inr (6, _) from rfl) rfl dL_level_5 rfl (Nat.le_of_ble_eq_true rfl) ⟨Nat.le_refl _, by show 8 + (3 + 11) + lo ≤ 22 + lo; omega⟩ ⟨by show 219 + ex + 1 ≤ 219 + ex + 1; omega, by show us + 6 ≤ us + 6 * 1; omega⟩ (E := "java/lang/IndexOutOfBoundsException") (by decide) (fun E' M' h => h.1) [] ⟨0, 10, 13, 20⟩ [⟨0, 10, 17, 13⟩] htb (fun z hz => by cases hz) rfl (by decide) kL_20 dL_level_13 (by decide) (fun M9 hp9 _ _ => ?_)
  obtain ⟨-, rfl⟩ := hp9
  refine a_iconst (v := 1) C dL_level_15 (by decide) ?_
  exact a_iret C hr rfl dL_level_16 rfl rfl ⟨1, w, rfl, rfl, rfl, rfl⟩
theorem T_level_1 {w : Wd} {x0 x1 : Int32} {fr lo : Nat} (hK : CXF yX6_level cX6_level 3 (some .int) fr lo [.ref 0, .int x0, .int x1] w "java/lang/IllegalArgumentException") :
    CH yL_level cL_level 5 [(0, 10, 13, 20), (0, 10, 17, 13)] (fr + 1) (22 + lo) [.ref 0, .int x0, .int x1, .ref 218] w 1 (fun o w' => o = 2 ∧ w' = w) := by
  intro ex us
  refine CW.of cwL_level (Nat.le_of_ble_eq_true rfl) (fun G9 p9 l9 e9 s9 m9 ar9 be9 me9 co9 C hfl htb hr => ?_)
  refine a_pad 1 ?_
  refine a_eq (L' := [some (.ref 0), some (.int x0), some (.int x1), some (.ref 218), none]) rfl rfl rfl ?_
  refine a_aload_n C dL_level_0 rfl rfl ?_
  refine a_iconst (v := 0) C dL_level_1 (by decide) ?_
  refine a_aload_n C dL_level_2 rfl rfl ?_
  refine a_iload_n C dL_level_3 rfl rfl ?_
  refine a_iload_n C dL_level_4 rfl rfl ?_
  refine a_xcat C hfl [.int x0, .int x1] 6 (hK ex us) vL_75 (show 0 < 219 by decide) (by decide) (show fz w 0 = .inr (6, _) from rfl) rfl dL_level_5 rfl (Nat.le_of_ble_eq_true rfl) ⟨Nat.le_refl _, by show 8 + (3 + 11) + lo ≤ 22 + lo; omega⟩ ⟨by show 219 + ex + 1 ≤ 219 + ex + 1; omega, by show us + 6 ≤ us + 6 * 1; omega⟩ (E := "java/lang/IllegalArgumentException") (by decide) (fun E' M' h => h.1) [⟨0, 10, 13, 20⟩] ⟨0, 10, 17, 13⟩ [] htb (fun z hz => by
    rcases List.mem_cons.mp hz with rfl | hz
    · exact Or.inr ⟨by decide, "java/lang/IndexOutOfBoundsException", by decide, by decide, kL_20⟩
    cases hz) rfl (by decide) kL_13 dL_level_17 (by decide) (fun M9 hp9 _ _ => ?_)
  obtain ⟨-, rfl⟩ := hp9
  refine a_iconst (v := 2) C dL_level_19 (by decide) ?_
  exact a_iret C hr rfl dL_level_20 rfl rfl ⟨2, w, rfl, rfl, rfl, rfl⟩
theorem cwL_count : aCodeW yL_count cL_count 4 (some .int) [(0, 9, 12, 13)] := ⟨gw_in (List.mem_of_getElem? (i := 1053) (by decide +kernel)) rfl, gw_in (List.mem_of_getElem? (i := 116) (by decide +kernel)) rfl, by decide +kernel, by decide +kernel, by decide +kernel⟩
theorem H_count {w : Wd} {x0 : Int32} {fr lo : Nat} {P : Option Value → Wd → Prop} {P2 : Int32 → Wd → Prop} (hK : CF yX6_count cX6_count 2 (some .int) fr lo [.ref 0, .int x0] w P) (hP : ∀ r w', P r w' → ∃ v, r = some (.int v) ∧ P2 v w') :
    CH yL_count cL_count 4 [(0, 9, 12, 13)] (fr + 1) (21 + lo) [.ref 0, .int x0, .ref 218] w 0 (fun o w' => o = 0 ∧ ∃ v w9, P2 v w9 ∧ w' = wLong w9 218 v.toInt64) := by
  intro ex us
  refine CW.of cwL_count (Nat.le_of_ble_eq_true rfl) (fun G9 p9 l9 e9 s9 m9 ar9 be9 me9 co9 C hfl htb hr => ?_)
  refine a_pad 1 ?_
  refine a_eq (L' := [some (.ref 0), some (.int x0), some (.ref 218), none]) rfl rfl rfl ?_
  refine a_aload_n C dL_count_0 rfl rfl ?_
  refine a_iconst (v := 0) C dL_count_1 (by decide) ?_
  refine a_aload_n C dL_count_2 rfl rfl ?_
  refine a_iload_n C dL_count_3 rfl rfl ?_
  refine a_callV C [.int x0] 6 (hK ex us) vL_78 (show 0 < 219 by decide) (by decide) (show fz w 0 = .inr (6, _) from rfl) rfl dL_count_4 rfl (Nat.le_of_ble_eq_true rfl) ⟨Nat.le_refl _, by show 8 + (2 + 11) + lo ≤ 21 + lo; omega⟩ ⟨by show 219 + ex + 0 ≤ 219 + ex + 0; omega, by show us + 0 ≤ us + 0; omega⟩ (fun r9 M9 hp9 _ _ => ?_)
  obtain ⟨w9, rfl, hp9⟩ := hp9
  obtain ⟨v, rfl, hv⟩ := hP _ _ hp9
  refine a_eq (st' := [.int v, .int 0, .ref 218]) rfl rfl rfl ?_
  refine a_i2l C dL_count_7 ?_
  refine o_store C dL_count_8 ?_
  refine a_goto (tgt := 15) C dL_count_9 (by decide) ?_
  refine a_iconst (v := 0) C dL_count_15 (by decide) ?_
  exact a_iret C hr rfl dL_count_16 rfl rfl ⟨0, _, rfl, rfl, rfl, v, w9, hv, rfl⟩
theorem T_count_0 {w : Wd} {x0 : Int32} {fr lo : Nat} (hK : CXF yX6_count cX6_count 2 (some .int) fr lo [.ref 0, .int x0] w "java/lang/IllegalArgumentException") :
    CH yL_count cL_count 4 [(0, 9, 12, 13)] (fr + 1) (21 + lo) [.ref 0, .int x0, .ref 218] w 1 (fun o w' => o = 1 ∧ w' = w) := by
  intro ex us
  refine CW.of cwL_count (Nat.le_of_ble_eq_true rfl) (fun G9 p9 l9 e9 s9 m9 ar9 be9 me9 co9 C hfl htb hr => ?_)
  refine a_pad 1 ?_
  refine a_eq (L' := [some (.ref 0), some (.int x0), some (.ref 218), none]) rfl rfl rfl ?_
  refine a_aload_n C dL_count_0 rfl rfl ?_
  refine a_iconst (v := 0) C dL_count_1 (by decide) ?_
  refine a_aload_n C dL_count_2 rfl rfl ?_
  refine a_iload_n C dL_count_3 rfl rfl ?_
  refine a_xcatN C hfl [.int x0] 6 (hK ex us) vL_78 (show 0 < 219 by decide) (by decide) (show fz w 0 = .inr (6, _) from rfl) rfl dL_count_4 rfl (Nat.le_of_ble_eq_true rfl) ⟨Nat.le_refl _, by show 8 + (2 + 11) + lo ≤ 21 + lo; omega⟩ ⟨by show 219 + ex + 1 ≤ 219 + ex + 1; omega, by show us + 6 ≤ us + 6 * 1; omega⟩ (E := "java/lang/IllegalArgumentException") (by decide) (fun E' M' h => h.1) [] ⟨0, 9, 12, 13⟩ [] htb (fun z hz => by cases hz) rfl (by decide) kL_13 dL_count_12 (by decide) (fun M9 hp9 _ _ => ?_)
  obtain ⟨-, rfl⟩ := hp9
  refine a_iconst (v := 1) C dL_count_13 (by decide) ?_
  exact a_iret C hr rfl dL_count_14 rfl rfl ⟨1, w, rfl, rfl, rfl, rfl⟩
theorem cwL_setting : aCodeW yL_setting cL_setting 4 (some .int) [(0, 9, 12, 20)] := ⟨gw_in (List.mem_of_getElem? (i := 1057) (by decide +kernel)) rfl, gw_in (List.mem_of_getElem? (i := 116) (by decide +kernel)) rfl, by decide +kernel, by decide +kernel, by decide +kernel⟩
theorem H_setting {w : Wd} {x0 : Int32} {fr lo : Nat} {P : Option Value → Wd → Prop} {P2 : Int32 → Wd → Prop} (hK : CF yX6_setting cX6_setting 2 (some .int) fr lo [.ref 0, .int x0] w P) (hP : ∀ r w', P r w' → ∃ v, r = some (.int v) ∧ P2 v w') :
    CH yL_setting cL_setting 4 [(0, 9, 12, 20)] (fr + 1) (21 + lo) [.ref 0, .int x0, .ref 218] w 0 (fun o w' => o = 0 ∧ ∃ v w9, P2 v w9 ∧ w' = wLong w9 218 v.toInt64) := by
  intro ex us
  refine CW.of cwL_setting (Nat.le_of_ble_eq_true rfl) (fun G9 p9 l9 e9 s9 m9 ar9 be9 me9 co9 C hfl htb hr => ?_)
  refine a_pad 1 ?_
  refine a_eq (L' := [some (.ref 0), some (.int x0), some (.ref 218), none]) rfl rfl rfl ?_
  refine a_aload_n C dL_setting_0 rfl rfl ?_
  refine a_iconst (v := 0) C dL_setting_1 (by decide) ?_
  refine a_aload_n C dL_setting_2 rfl rfl ?_
  refine a_iload_n C dL_setting_3 rfl rfl ?_
  refine a_callV C [.int x0] 6 (hK ex us) vL_81 (show 0 < 219 by decide) (by decide) (show fz w 0 = .inr (6, _) from rfl) rfl dL_setting_4 rfl (Nat.le_of_ble_eq_true rfl) ⟨Nat.le_refl _, by show 8 + (2 + 11) + lo ≤ 21 + lo; omega⟩ ⟨by show 219 + ex + 0 ≤ 219 + ex + 0; omega, by show us + 0 ≤ us + 0; omega⟩ (fun r9 M9 hp9 _ _ => ?_)
  obtain ⟨w9, rfl, hp9⟩ := hp9
  obtain ⟨v, rfl, hv⟩ := hP _ _ hp9
  refine a_eq (st' := [.int v, .int 0, .ref 218]) rfl rfl rfl ?_
  refine a_i2l C dL_setting_7 ?_
  refine o_store C dL_setting_8 ?_
  refine a_goto (tgt := 15) C dL_setting_9 (by decide) ?_
  refine a_iconst (v := 0) C dL_setting_15 (by decide) ?_
  exact a_iret C hr rfl dL_setting_16 rfl rfl ⟨0, _, rfl, rfl, rfl, v, w9, hv, rfl⟩
theorem T_setting_0 {w : Wd} {x0 : Int32} {fr lo : Nat} (hK : CXF yX6_setting cX6_setting 2 (some .int) fr lo [.ref 0, .int x0] w "java/lang/IndexOutOfBoundsException") :
    CH yL_setting cL_setting 4 [(0, 9, 12, 20)] (fr + 1) (21 + lo) [.ref 0, .int x0, .ref 218] w 1 (fun o w' => o = 1 ∧ w' = w) := by
  intro ex us
  refine CW.of cwL_setting (Nat.le_of_ble_eq_true rfl) (fun G9 p9 l9 e9 s9 m9 ar9 be9 me9 co9 C hfl htb hr => ?_)
  refine a_pad 1 ?_
  refine a_eq (L' := [some (.ref 0), some (.int x0), some (.ref 218), none]) rfl rfl rfl ?_
  refine a_aload_n C dL_setting_0 rfl rfl ?_
  refine a_iconst (v := 0) C dL_setting_1 (by decide) ?_
  refine a_aload_n C dL_setting_2 rfl rfl ?_
  refine a_iload_n C dL_setting_3 rfl rfl ?_
  refine a_xcatN C hfl [.int x0] 6 (hK ex us) vL_81 (show 0 < 219 by decide) (by decide) (show fz w 0 = .inr (6, _) from rfl) rfl dL_setting_4 rfl (Nat.le_of_ble_eq_true rfl) ⟨Nat.le_refl _, by show 8 + (2 + 11) + lo ≤ 21 + lo; omega⟩ ⟨by show 219 + ex + 1 ≤ 219 + ex + 1; omega, by show us + 6 ≤ us + 6 * 1; omega⟩ (E := "java/lang/IndexOutOfBoundsException") (by decide) (fun E' M' h => h.1) [] ⟨0, 9, 12, 20⟩ [] htb (fun z hz => by cases hz) rfl (by decide) kL_20 dL_setting_12 (by decide) (fun M9 hp9 _ _ => ?_)
  obtain ⟨-, rfl⟩ := hp9
  refine a_iconst (v := 1) C dL_setting_13 (by decide) ?_
  exact a_iret C hr rfl dL_setting_14 rfl rfl ⟨1, w, rfl, rfl, rfl, rfl⟩
theorem cwL_why : aCodeW yL_why cL_why 5 (some .int) [(0, 10, 13, 20)] := ⟨gw_in (List.mem_of_getElem? (i := 1064) (by decide +kernel)) rfl, gw_in (List.mem_of_getElem? (i := 116) (by decide +kernel)) rfl, by decide +kernel, by decide +kernel, by decide +kernel⟩
theorem H_why {w : Wd} {x0 x1 : Int32} {fr lo : Nat} {P : Option Value → Wd → Prop} {P2 : Int32 → Wd → Prop} (hK : CF yX6_why cX6_why 3 (some .int) fr lo [.ref 0, .int x0, .int x1] w P) (hP : ∀ r w', P r w' → ∃ v, r = some (.int v) ∧ P2 v w') :
    CH yL_why cL_why 5 [(0, 10, 13, 20)] (fr + 1) (22 + lo) [.ref 0, .int x0, .int x1, .ref 218] w 0 (fun o w' => o = 0 ∧ ∃ v w9, P2 v w9 ∧ w' = wLong w9 218 v.toInt64) := by
  intro ex us
  refine CW.of cwL_why (Nat.le_of_ble_eq_true rfl) (fun G9 p9 l9 e9 s9 m9 ar9 be9 me9 co9 C hfl htb hr => ?_)
  refine a_pad 1 ?_
  refine a_eq (L' := [some (.ref 0), some (.int x0), some (.int x1), some (.ref 218), none]) rfl rfl rfl ?_
  refine a_aload_n C dL_why_0 rfl rfl ?_
  refine a_iconst (v := 0) C dL_why_1 (by decide) ?_
  refine a_aload_n C dL_why_2 rfl rfl ?_
  refine a_iload_n C dL_why_3 rfl rfl ?_
  refine a_iload_n C dL_why_4 rfl rfl ?_
  refine a_callV C [.int x0, .int x1] 6 (hK ex us) vL_84 (show 0 < 219 by decide) (by decide) (show fz w 0 = .inr (6, _) from rfl) rfl dL_why_5 rfl (Nat.le_of_ble_eq_true rfl) ⟨Nat.le_refl _, by show 8 + (3 + 11) + lo ≤ 22 + lo; omega⟩ ⟨by show 219 + ex + 0 ≤ 219 + ex + 0; omega, by show us + 0 ≤ us + 0; omega⟩ (fun r9 M9 hp9 _ _ => ?_)
  obtain ⟨w9, rfl, hp9⟩ := hp9
  obtain ⟨v, rfl, hv⟩ := hP _ _ hp9
  refine a_eq (st' := [.int v, .int 0, .ref 218]) rfl rfl rfl ?_
  refine a_i2l C dL_why_8 ?_
  refine o_store C dL_why_9 ?_
  refine a_goto (tgt := 17) C dL_why_10 (by decide) ?_
  refine a_iconst (v := 0) C dL_why_17 (by decide) ?_
  exact a_iret C hr rfl dL_why_18 rfl rfl ⟨0, _, rfl, rfl, rfl, v, w9, hv, rfl⟩
theorem T_why_0 {w : Wd} {x0 x1 : Int32} {fr lo : Nat} (hK : CXF yX6_why cX6_why 3 (some .int) fr lo [.ref 0, .int x0, .int x1] w "java/lang/IndexOutOfBoundsException") :
    CH yL_why cL_why 5 [(0, 10, 13, 20)] (fr + 1) (22 + lo) [.ref 0, .int x0, .int x1, .ref 218] w 1 (fun o w' => o = 1 ∧ w' = w) := by
  intro ex us
  refine CW.of cwL_why (Nat.le_of_ble_eq_true rfl) (fun G9 p9 l9 e9 s9 m9 ar9 be9 me9 co9 C hfl htb hr => ?_)
  refine a_pad 1 ?_
  refine a_eq (L' := [some (.ref 0), some (.int x0), some (.int x1), some (.ref 218), none]) rfl rfl rfl ?_
  refine a_aload_n C dL_why_0 rfl rfl ?_
  refine a_iconst (v := 0) C dL_why_1 (by decide) ?_
  refine a_aload_n C dL_why_2 rfl rfl ?_
  refine a_iload_n C dL_why_3 rfl rfl ?_
  refine a_iload_n C dL_why_4 rfl rfl ?_
  refine a_xcat C hfl [.int x0, .int x1] 6 (hK ex us) vL_84 (show 0 < 219 by decide) (by decide) (show fz w 0 = .inr (6, _) from rfl) rfl dL_why_5 rfl (Nat.le_of_ble_eq_true rfl) ⟨Nat.le_refl _, by show 8 + (3 + 11) + lo ≤ 22 + lo; omega⟩ ⟨by show 219 + ex + 1 ≤ 219 + ex + 1; omega, by show us + 6 ≤ us + 6 * 1; omega⟩ (E := "java/lang/IndexOutOfBoundsException") (by decide) (fun E' M' h => h.1) [] ⟨0, 10, 13, 20⟩ [] htb (fun z hz => by cases hz) rfl (by decide) kL_20 dL_why_13 (by decide) (fun M9 hp9 _ _ => ?_)
  obtain ⟨-, rfl⟩ := hp9
  refine a_iconst (v := 1) C dL_why_15 (by decide) ?_
  exact a_iret C hr rfl dL_why_16 rfl rfl ⟨1, w, rfl, rfl, rfl, rfl⟩
theorem cwL_stopped : aCodeW yL_stopped cL_stopped 4 (some .int) [(0, 9, 12, 13)] := ⟨gw_in (List.mem_of_getElem? (i := 1068) (by decide +kernel)) rfl, gw_in (List.mem_of_getElem? (i := 116) (by decide +kernel)) rfl, by decide +kernel, by decide +kernel, by decide +kernel⟩
theorem H_stopped {w : Wd} {x0 : Int32} {fr lo : Nat} {P : Option Value → Wd → Prop} {P2 : Int32 → Wd → Prop} (hK : CF yX6_stopped cX6_stopped 2 (some .int) fr lo [.ref 0, .int x0] w P) (hP : ∀ r w', P r w' → ∃ v, r = some (.int v) ∧ P2 v w') :
    CH yL_stopped cL_stopped 4 [(0, 9, 12, 13)] (fr + 1) (21 + lo) [.ref 0, .int x0, .ref 218] w 0 (fun o w' => o = 0 ∧ ∃ v w9, P2 v w9 ∧ w' = wLong w9 218 v.toInt64) := by
  intro ex us
  refine CW.of cwL_stopped (Nat.le_of_ble_eq_true rfl) (fun G9 p9 l9 e9 s9 m9 ar9 be9 me9 co9 C hfl htb hr => ?_)
  refine a_pad 1 ?_
  refine a_eq (L' := [some (.ref 0), some (.int x0), some (.ref 218), none]) rfl rfl rfl ?_
  refine a_aload_n C dL_stopped_0 rfl rfl ?_
  refine a_iconst (v := 0) C dL_stopped_1 (by decide) ?_
  refine a_aload_n C dL_stopped_2 rfl rfl ?_
  refine a_iload_n C dL_stopped_3 rfl rfl ?_
  refine a_callV C [.int x0] 6 (hK ex us) vL_87 (show 0 < 219 by decide) (by decide) (show fz w 0 = .inr (6, _) from rfl) rfl dL_stopped_4 rfl (Nat.le_of_ble_eq_true rfl) ⟨Nat.le_refl _, by show 8 + (2 + 11) + lo ≤ 21 + lo; omega⟩ ⟨by show 219 + ex + 0 ≤ 219 + ex + 0; omega, by show us + 0 ≤ us + 0; omega⟩ (fun r9 M9 hp9 _ _ => ?_)
  obtain ⟨w9, rfl, hp9⟩ := hp9
  obtain ⟨v, rfl, hv⟩ := hP _ _ hp9
  refine a_eq (st' := [.int v, .int 0, .ref 218]) rfl rfl rfl ?_
  refine a_i2l C dL_stopped_7 ?_
  refine o_store C dL_stopped_8 ?_
  refine a_goto (tgt := 15) C dL_stopped_9 (by decide) ?_
  refine a_iconst (v := 0) C dL_stopped_15 (by decide) ?_
  exact a_iret C hr rfl dL_stopped_16 rfl rfl ⟨0, _, rfl, rfl, rfl, v, w9, hv, rfl⟩
theorem T_stopped_0 {w : Wd} {x0 : Int32} {fr lo : Nat} (hK : CXF yX6_stopped cX6_stopped 2 (some .int) fr lo [.ref 0, .int x0] w "java/lang/IllegalArgumentException") :
    CH yL_stopped cL_stopped 4 [(0, 9, 12, 13)] (fr + 1) (21 + lo) [.ref 0, .int x0, .ref 218] w 1 (fun o w' => o = 1 ∧ w' = w) := by
  intro ex us
  refine CW.of cwL_stopped (Nat.le_of_ble_eq_true rfl) (fun G9 p9 l9 e9 s9 m9 ar9 be9 me9 co9 C hfl htb hr => ?_)
  refine a_pad 1 ?_
  refine a_eq (L' := [some (.ref 0), some (.int x0), some (.ref 218), none]) rfl rfl rfl ?_
  refine a_aload_n C dL_stopped_0 rfl rfl ?_
  refine a_iconst (v := 0) C dL_stopped_1 (by decide) ?_
  refine a_aload_n C dL_stopped_2 rfl rfl ?_
  refine a_iload_n C dL_stopped_3 rfl rfl ?_
  refine a_xcatN C hfl [.int x0] 6 (hK ex us) vL_87 (show 0 < 219 by decide) (by decide) (show fz w 0 = .inr (6, _) from rfl) rfl dL_stopped_4 rfl (Nat.le_of_ble_eq_true rfl) ⟨Nat.le_refl _, by show 8 + (2 + 11) + lo ≤ 21 + lo; omega⟩ ⟨by show 219 + ex + 1 ≤ 219 + ex + 1; omega, by show us + 6 ≤ us + 6 * 1; omega⟩ (E := "java/lang/IllegalArgumentException") (by decide) (fun E' M' h => h.1) [] ⟨0, 9, 12, 13⟩ [] htb (fun z hz => by cases hz) rfl (by decide) kL_13 dL_stopped_12 (by decide) (fun M9 hp9 _ _ => ?_)
  obtain ⟨-, rfl⟩ := hp9
  refine a_iconst (v := 1) C dL_stopped_13 (by decide) ?_
  exact a_iret C hr rfl dL_stopped_14 rfl rfl ⟨1, w, rfl, rfl, rfl, rfl⟩
theorem cwL_most : aCodeW yL_most cL_most 4 (some .int) [(0, 9, 12, 13)] := ⟨gw_in (List.mem_of_getElem? (i := 1072) (by decide +kernel)) rfl, gw_in (List.mem_of_getElem? (i := 116) (by decide +kernel)) rfl, by decide +kernel, by decide +kernel, by decide +kernel⟩
theorem H_most {w : Wd} {x0 : Int32} {fr lo : Nat} {P : Option Value → Wd → Prop} {P2 : Int32 → Wd → Prop} (hK : CF yX6_most cX6_most 2 (some .int) fr lo [.ref 0, .int x0] w P) (hP : ∀ r w', P r w' → ∃ v, r = some (.int v) ∧ P2 v w') :
    CH yL_most cL_most 4 [(0, 9, 12, 13)] (fr + 1) (21 + lo) [.ref 0, .int x0, .ref 218] w 0 (fun o w' => o = 0 ∧ ∃ v w9, P2 v w9 ∧ w' = wLong w9 218 v.toInt64) := by
  intro ex us
  refine CW.of cwL_most (Nat.le_of_ble_eq_true rfl) (fun G9 p9 l9 e9 s9 m9 ar9 be9 me9 co9 C hfl htb hr => ?_)
  refine a_pad 1 ?_
  refine a_eq (L' := [some (.ref 0), some (.int x0), some (.ref 218), none]) rfl rfl rfl ?_
  refine a_aload_n C dL_most_0 rfl rfl ?_
  refine a_iconst (v := 0) C dL_most_1 (by decide) ?_
  refine a_aload_n C dL_most_2 rfl rfl ?_
  refine a_iload_n C dL_most_3 rfl rfl ?_
  refine a_callV C [.int x0] 6 (hK ex us) vL_90 (show 0 < 219 by decide) (by decide) (show fz w 0 = .inr (6, _) from rfl) rfl dL_most_4 rfl (Nat.le_of_ble_eq_true rfl) ⟨Nat.le_refl _, by show 8 + (2 + 11) + lo ≤ 21 + lo; omega⟩ ⟨by show 219 + ex + 0 ≤ 219 + ex + 0; omega, by show us + 0 ≤ us + 0; omega⟩ (fun r9 M9 hp9 _ _ => ?_)
  obtain ⟨w9, rfl, hp9⟩ := hp9
  obtain ⟨v, rfl, hv⟩ := hP _ _ hp9
  refine a_eq (st' := [.int v, .int 0, .ref 218]) rfl rfl rfl ?_
  refine a_i2l C dL_most_7 ?_
  refine o_store C dL_most_8 ?_
  refine a_goto (tgt := 15) C dL_most_9 (by decide) ?_
  refine a_iconst (v := 0) C dL_most_15 (by decide) ?_
  exact a_iret C hr rfl dL_most_16 rfl rfl ⟨0, _, rfl, rfl, rfl, v, w9, hv, rfl⟩
theorem T_most_0 {w : Wd} {x0 : Int32} {fr lo : Nat} (hK : CXF yX6_most cX6_most 2 (some .int) fr lo [.ref 0, .int x0] w "java/lang/IllegalArgumentException") :
    CH yL_most cL_most 4 [(0, 9, 12, 13)] (fr + 1) (21 + lo) [.ref 0, .int x0, .ref 218] w 1 (fun o w' => o = 1 ∧ w' = w) := by
  intro ex us
  refine CW.of cwL_most (Nat.le_of_ble_eq_true rfl) (fun G9 p9 l9 e9 s9 m9 ar9 be9 me9 co9 C hfl htb hr => ?_)
  refine a_pad 1 ?_
  refine a_eq (L' := [some (.ref 0), some (.int x0), some (.ref 218), none]) rfl rfl rfl ?_
  refine a_aload_n C dL_most_0 rfl rfl ?_
  refine a_iconst (v := 0) C dL_most_1 (by decide) ?_
  refine a_aload_n C dL_most_2 rfl rfl ?_
  refine a_iload_n C dL_most_3 rfl rfl ?_
  refine a_xcatN C hfl [.int x0] 6 (hK ex us) vL_90 (show 0 < 219 by decide) (by decide) (show fz w 0 = .inr (6, _) from rfl) rfl dL_most_4 rfl (Nat.le_of_ble_eq_true rfl) ⟨Nat.le_refl _, by show 8 + (2 + 11) + lo ≤ 21 + lo; omega⟩ ⟨by show 219 + ex + 1 ≤ 219 + ex + 1; omega, by show us + 6 ≤ us + 6 * 1; omega⟩ (E := "java/lang/IllegalArgumentException") (by decide) (fun E' M' h => h.1) [] ⟨0, 9, 12, 13⟩ [] htb (fun z hz => by cases hz) rfl (by decide) kL_13 dL_most_12 (by decide) (fun M9 hp9 _ _ => ?_)
  obtain ⟨-, rfl⟩ := hp9
  refine a_iconst (v := 1) C dL_most_13 (by decide) ?_
  exact a_iret C hr rfl dL_most_14 rfl rfl ⟨1, w, rfl, rfl, rfl, rfl⟩
theorem cwL_pick : aCodeW yL_pick cL_pick 4 (some .int) [(0, 9, 12, 20)] := ⟨gw_in (List.mem_of_getElem? (i := 1076) (by decide +kernel)) rfl, gw_in (List.mem_of_getElem? (i := 116) (by decide +kernel)) rfl, by decide +kernel, by decide +kernel, by decide +kernel⟩
theorem H_pick {w : Wd} {x0 : Int32} {fr lo : Nat} {P : Option Value → Wd → Prop} {P2 : Int32 → Wd → Prop} (hK : CF yX6_pick cX6_pick 2 (some .int) fr lo [.ref 0, .int x0] w P) (hP : ∀ r w', P r w' → ∃ v, r = some (.int v) ∧ P2 v w') :
    CH yL_pick cL_pick 4 [(0, 9, 12, 20)] (fr + 1) (21 + lo) [.ref 0, .int x0, .ref 218] w 0 (fun o w' => o = 0 ∧ ∃ v w9, P2 v w9 ∧ w' = wLong w9 218 v.toInt64) := by
  intro ex us
  refine CW.of cwL_pick (Nat.le_of_ble_eq_true rfl) (fun G9 p9 l9 e9 s9 m9 ar9 be9 me9 co9 C hfl htb hr => ?_)
  refine a_pad 1 ?_
  refine a_eq (L' := [some (.ref 0), some (.int x0), some (.ref 218), none]) rfl rfl rfl ?_
  refine a_aload_n C dL_pick_0 rfl rfl ?_
  refine a_iconst (v := 0) C dL_pick_1 (by decide) ?_
  refine a_aload_n C dL_pick_2 rfl rfl ?_
  refine a_iload_n C dL_pick_3 rfl rfl ?_
  refine a_callV C [.int x0] 6 (hK ex us) vL_93 (show 0 < 219 by decide) (by decide) (show fz w 0 = .inr (6, _) from rfl) rfl dL_pick_4 rfl (Nat.le_of_ble_eq_true rfl) ⟨Nat.le_refl _, by show 8 + (2 + 11) + lo ≤ 21 + lo; omega⟩ ⟨by show 219 + ex + 0 ≤ 219 + ex + 0; omega, by show us + 0 ≤ us + 0; omega⟩ (fun r9 M9 hp9 _ _ => ?_)
  obtain ⟨w9, rfl, hp9⟩ := hp9
  obtain ⟨v, rfl, hv⟩ := hP _ _ hp9
  refine a_eq (st' := [.int v, .int 0, .ref 218]) rfl rfl rfl ?_
  refine a_i2l C dL_pick_7 ?_
  refine o_store C dL_pick_8 ?_
  refine a_goto (tgt := 15) C dL_pick_9 (by decide) ?_
  refine a_iconst (v := 0) C dL_pick_15 (by decide) ?_
  exact a_iret C hr rfl dL_pick_16 rfl rfl ⟨0, _, rfl, rfl, rfl, v, w9, hv, rfl⟩
theorem T_pick_0 {w : Wd} {x0 : Int32} {fr lo : Nat} (hK : CXF yX6_pick cX6_pick 2 (some .int) fr lo [.ref 0, .int x0] w "java/lang/IndexOutOfBoundsException") :
    CH yL_pick cL_pick 4 [(0, 9, 12, 20)] (fr + 1) (21 + lo) [.ref 0, .int x0, .ref 218] w 1 (fun o w' => o = 1 ∧ w' = w) := by
  intro ex us
  refine CW.of cwL_pick (Nat.le_of_ble_eq_true rfl) (fun G9 p9 l9 e9 s9 m9 ar9 be9 me9 co9 C hfl htb hr => ?_)
  refine a_pad 1 ?_
  refine a_eq (L' := [some (.ref 0), some (.int x0), some (.ref 218), none]) rfl rfl rfl ?_
  refine a_aload_n C dL_pick_0 rfl rfl ?_
  refine a_iconst (v := 0) C dL_pick_1 (by decide) ?_
  refine a_aload_n C dL_pick_2 rfl rfl ?_
  refine a_iload_n C dL_pick_3 rfl rfl ?_
  refine a_xcatN C hfl [.int x0] 6 (hK ex us) vL_93 (show 0 < 219 by decide) (by decide) (show fz w 0 = .inr (6, _) from rfl) rfl dL_pick_4 rfl (Nat.le_of_ble_eq_true rfl) ⟨Nat.le_refl _, by show 8 + (2 + 11) + lo ≤ 21 + lo; omega⟩ ⟨by show 219 + ex + 1 ≤ 219 + ex + 1; omega, by show us + 6 ≤ us + 6 * 1; omega⟩ (E := "java/lang/IndexOutOfBoundsException") (by decide) (fun E' M' h => h.1) [] ⟨0, 9, 12, 20⟩ [] htb (fun z hz => by cases hz) rfl (by decide) kL_20 dL_pick_12 (by decide) (fun M9 hp9 _ _ => ?_)
  obtain ⟨-, rfl⟩ := hp9
  refine a_iconst (v := 1) C dL_pick_13 (by decide) ?_
  exact a_iret C hr rfl dL_pick_14 rfl rfl ⟨1, w, rfl, rfl, rfl, rfl⟩
theorem cwL_opener : aCodeW yL_opener cL_opener 4 (some .int) [(0, 9, 12, 13)] := ⟨gw_in (List.mem_of_getElem? (i := 1080) (by decide +kernel)) rfl, gw_in (List.mem_of_getElem? (i := 116) (by decide +kernel)) rfl, by decide +kernel, by decide +kernel, by decide +kernel⟩
theorem H_opener {w : Wd} {x0 : Int32} {fr lo : Nat} {P : Option Value → Wd → Prop} {P2 : Int32 → Wd → Prop} (hK : CF yX6_opener cX6_opener 5 (some .int) fr lo [.ref 0, .int x0] w P) (hP : ∀ r w', P r w' → ∃ v, r = some (.int v) ∧ P2 v w') :
    CH yL_opener cL_opener 4 [(0, 9, 12, 13)] (fr + 1) (24 + lo) [.ref 0, .int x0, .ref 218] w 0 (fun o w' => o = 0 ∧ ∃ v w9, P2 v w9 ∧ w' = wLong w9 218 v.toInt64) := by
  intro ex us
  refine CW.of cwL_opener (Nat.le_of_ble_eq_true rfl) (fun G9 p9 l9 e9 s9 m9 ar9 be9 me9 co9 C hfl htb hr => ?_)
  refine a_pad 1 ?_
  refine a_eq (L' := [some (.ref 0), some (.int x0), some (.ref 218), none]) rfl rfl rfl ?_
  refine a_aload_n C dL_opener_0 rfl rfl ?_
  refine a_iconst (v := 0) C dL_opener_1 (by decide) ?_
  refine a_aload_n C dL_opener_2 rfl rfl ?_
  refine a_iload_n C dL_opener_3 rfl rfl ?_
  refine a_callV C [.int x0] 6 (hK ex us) vL_96 (show 0 < 219 by decide) (by decide) (show fz w 0 = .inr (6, _) from rfl) rfl dL_opener_4 rfl (Nat.le_of_ble_eq_true rfl) ⟨Nat.le_refl _, by show 8 + (5 + 11) + lo ≤ 24 + lo; omega⟩ ⟨by show 219 + ex + 0 ≤ 219 + ex + 0; omega, by show us + 0 ≤ us + 0; omega⟩ (fun r9 M9 hp9 _ _ => ?_)
  obtain ⟨w9, rfl, hp9⟩ := hp9
  obtain ⟨v, rfl, hv⟩ := hP _ _ hp9
  refine a_eq (st' := [.int v, .int 0, .ref 218]) rfl rfl rfl ?_
  refine a_i2l C dL_opener_7 ?_
  refine o_store C dL_opener_8 ?_
  refine a_goto (tgt := 15) C dL_opener_9 (by decide) ?_
  refine a_iconst (v := 0) C dL_opener_15 (by decide) ?_
  exact a_iret C hr rfl dL_opener_16 rfl rfl ⟨0, _, rfl, rfl, rfl, v, w9, hv, rfl⟩
theorem T_opener_0 {w : Wd} {x0 : Int32} {fr lo : Nat} (hK : CXF yX6_opener cX6_opener 5 (some .int) fr lo [.ref 0, .int x0] w "java/lang/IllegalArgumentException") :
    CH yL_opener cL_opener 4 [(0, 9, 12, 13)] (fr + 1) (24 + lo) [.ref 0, .int x0, .ref 218] w 1 (fun o w' => o = 1 ∧ w' = w) := by
  intro ex us
  refine CW.of cwL_opener (Nat.le_of_ble_eq_true rfl) (fun G9 p9 l9 e9 s9 m9 ar9 be9 me9 co9 C hfl htb hr => ?_)
  refine a_pad 1 ?_
  refine a_eq (L' := [some (.ref 0), some (.int x0), some (.ref 218), none]) rfl rfl rfl ?_
  refine a_aload_n C dL_opener_0 rfl rfl ?_
  refine a_iconst (v := 0) C dL_opener_1 (by decide) ?_
  refine a_aload_n C dL_opener_2 rfl rfl ?_
  refine a_iload_n C dL_opener_3 rfl rfl ?_
  refine a_xcatN C hfl [.int x0] 6 (hK ex us) vL_96 (show 0 < 219 by decide) (by decide) (show fz w 0 = .inr (6, _) from rfl) rfl dL_opener_4 rfl (Nat.le_of_ble_eq_true rfl) ⟨Nat.le_refl _, by show 8 + (5 + 11) + lo ≤ 24 + lo; omega⟩ ⟨by show 219 + ex + 1 ≤ 219 + ex + 1; omega, by show us + 6 ≤ us + 6 * 1; omega⟩ (E := "java/lang/IllegalArgumentException") (by decide) (fun E' M' h => h.1) [] ⟨0, 9, 12, 13⟩ [] htb (fun z hz => by cases hz) rfl (by decide) kL_13 dL_opener_12 (by decide) (fun M9 hp9 _ _ => ?_)
  obtain ⟨-, rfl⟩ := hp9
  refine a_iconst (v := 1) C dL_opener_13 (by decide) ?_
  exact a_iret C hr rfl dL_opener_14 rfl rfl ⟨1, w, rfl, rfl, rfl, rfl⟩
theorem cwL_worn : aCodeW yL_worn cL_worn 5 (some .int) [(0, 10, 13, 20), (0, 10, 17, 13)] := ⟨gw_in (List.mem_of_getElem? (i := 1096) (by decide +kernel)) rfl, gw_in (List.mem_of_getElem? (i := 116) (by decide +kernel)) rfl, by decide +kernel, by decide +kernel, by decide +kernel⟩
theorem H_worn {w : Wd} {x0 x1 : Int32} {fr lo : Nat} {P : Option Value → Wd → Prop} {P2 : Int32 → Wd → Prop} (hK : CF yX6_worn cX6_worn 5 (some .int) fr lo [.ref 0, .int x0, .int x1] w P) (hP : ∀ r w', P r w' → ∃ v, r = some (.int v) ∧ P2 v w') :
    CH yL_worn cL_worn 5 [(0, 10, 13, 20), (0, 10, 17, 13)] (fr + 1) (24 + lo) [.ref 0, .int x0, .int x1, .ref 218] w 0 (fun o w' => o = 0 ∧ ∃ v w9, P2 v w9 ∧ w' = wLong w9 218 v.toInt64) := by
  intro ex us
  refine CW.of cwL_worn (Nat.le_of_ble_eq_true rfl) (fun G9 p9 l9 e9 s9 m9 ar9 be9 me9 co9 C hfl htb hr => ?_)
  refine a_pad 1 ?_
  refine a_eq (L' := [some (.ref 0), some (.int x0), some (.int x1), some (.ref 218), none]) rfl rfl rfl ?_
  refine a_aload_n C dL_worn_0 rfl rfl ?_
  refine a_iconst (v := 0) C dL_worn_1 (by decide) ?_
  refine a_aload_n C dL_worn_2 rfl rfl ?_
  refine a_iload_n C dL_worn_3 rfl rfl ?_
  refine a_iload_n C dL_worn_4 rfl rfl ?_
  refine a_callV C [.int x0, .int x1] 6 (hK ex us) vL_99 (show 0 < 219 by decide) (by decide) (show fz w 0 = .inr (6, _) from rfl) rfl dL_worn_5 rfl (Nat.le_of_ble_eq_true rfl) ⟨Nat.le_refl _, by show 8 + (5 + 11) + lo ≤ 24 + lo; omega⟩ ⟨by show 219 + ex + 0 ≤ 219 + ex + 0; omega, by show us + 0 ≤ us + 0; omega⟩ (fun r9 M9 hp9 _ _ => ?_)
  obtain ⟨w9, rfl, hp9⟩ := hp9
  obtain ⟨v, rfl, hv⟩ := hP _ _ hp9
  refine a_eq (st' := [.int v, .int 0, .ref 218]) rfl rfl rfl ?_
  refine a_i2l C dL_worn_8 ?_
  refine o_store C dL_worn_9 ?_
  refine a_goto (tgt := 21) C dL_worn_10 (by decide) ?_
  refine a_iconst (v := 0) C dL_worn_21 (by decide) ?_
  exact a_iret C hr rfl dL_worn_22 rfl rfl ⟨0, _, rfl, rfl, rfl, v, w9, hv, rfl⟩
theorem T_worn_0 {w : Wd} {x0 x1 : Int32} {fr lo : Nat} (hK : CXF yX6_worn cX6_worn 5 (some .int) fr lo [.ref 0, .int x0, .int x1] w "java/lang/IndexOutOfBoundsException") :
    CH yL_worn cL_worn 5 [(0, 10, 13, 20), (0, 10, 17, 13)] (fr + 1) (24 + lo) [.ref 0, .int x0, .int x1, .ref 218] w 1 (fun o w' => o = 1 ∧ w' = w) := by
  intro ex us
  refine CW.of cwL_worn (Nat.le_of_ble_eq_true rfl) (fun G9 p9 l9 e9 s9 m9 ar9 be9 me9 co9 C hfl htb hr => ?_)
  refine a_pad 1 ?_
  refine a_eq (L' := [some (.ref 0), some (.int x0), some (.int x1), some (.ref 218), none]) rfl rfl rfl ?_
  refine a_aload_n C dL_worn_0 rfl rfl ?_
  refine a_iconst (v := 0) C dL_worn_1 (by decide) ?_
  refine a_aload_n C dL_worn_2 rfl rfl ?_
  refine a_iload_n C dL_worn_3 rfl rfl ?_
  refine a_iload_n C dL_worn_4 rfl rfl ?_
  refine a_xcat C hfl [.int x0, .int x1] 6 (hK ex us) vL_99 (show 0 < 219 by decide) (by decide) (show fz w 0 = .inr (6, _) from rfl) rfl dL_worn_5 rfl (Nat.le_of_ble_eq_true rfl) ⟨Nat.le_refl _, by show 8 + (5 + 11) + lo ≤ 24 + lo; omega⟩ ⟨by show 219 + ex + 1 ≤ 219 + ex + 1; omega, by show us + 6 ≤ us + 6 * 1; omega⟩ (E := "java/lang/IndexOutOfBoundsException") (by decide) (fun E' M' h => h.1) [] ⟨0, 10, 13, 20⟩ [⟨0, 10, 17, 13⟩] htb (fun z hz => by cases hz) rfl (by decide) kL_20 dL_worn_13 (by decide) (fun M9 hp9 _ _ => ?_)
  obtain ⟨-, rfl⟩ := hp9
  refine a_iconst (v := 1) C dL_worn_15 (by decide) ?_
  exact a_iret C hr rfl dL_worn_16 rfl rfl ⟨1, w, rfl, rfl, rfl, rfl⟩
theorem T_worn_1 {w : Wd} {x0 x1 : Int32} {fr lo : Nat} (hK : CXF yX6_worn cX6_worn 5 (some .int) fr lo [.ref 0, .int x0, .int x1] w "java/lang/IllegalArgumentException") :
    CH yL_worn cL_worn 5 [(0, 10, 13, 20), (0, 10, 17, 13)] (fr + 1) (24 + lo) [.ref 0, .int x0, .int x1, .ref 218] w 1 (fun o w' => o = 2 ∧ w' = w) := by
  intro ex us
  refine CW.of cwL_worn (Nat.le_of_ble_eq_true rfl) (fun G9 p9 l9 e9 s9 m9 ar9 be9 me9 co9 C hfl htb hr => ?_)
  refine a_pad 1 ?_
  refine a_eq (L' := [some (.ref 0), some (.int x0), some (.int x1), some (.ref 218), none]) rfl rfl rfl ?_
  refine a_aload_n C dL_worn_0 rfl rfl ?_
  refine a_iconst (v := 0) C dL_worn_1 (by decide) ?_
  refine a_aload_n C dL_worn_2 rfl rfl ?_
  refine a_iload_n C dL_worn_3 rfl rfl ?_
  refine a_iload_n C dL_worn_4 rfl rfl ?_
  refine a_xcat C hfl [.int x0, .int x1] 6 (hK ex us) vL_99 (show 0 < 219 by decide) (by decide) (show fz w 0 = .inr (6, _) from rfl) rfl dL_worn_5 rfl (Nat.le_of_ble_eq_true rfl) ⟨Nat.le_refl _, by show 8 + (5 + 11) + lo ≤ 24 + lo; omega⟩ ⟨by show 219 + ex + 1 ≤ 219 + ex + 1; omega, by show us + 6 ≤ us + 6 * 1; omega⟩ (E := "java/lang/IllegalArgumentException") (by decide) (fun E' M' h => h.1) [⟨0, 10, 13, 20⟩] ⟨0, 10, 17, 13⟩ [] htb (fun z hz => by
    rcases List.mem_cons.mp hz with rfl | hz
    · exact Or.inr ⟨by decide, "java/lang/IndexOutOfBoundsException", by decide, by decide, kL_20⟩
    cases hz) rfl (by decide) kL_13 dL_worn_17 (by decide) (fun M9 hp9 _ _ => ?_)
  obtain ⟨-, rfl⟩ := hp9
  refine a_iconst (v := 2) C dL_worn_19 (by decide) ?_
  exact a_iret C hr rfl dL_worn_20 rfl rfl ⟨2, w, rfl, rfl, rfl, rfl⟩
theorem cwL_crossedIn : aCodeW yL_crossedIn cL_crossedIn 4 (some .int) [(0, 9, 12, 20)] := ⟨gw_in (List.mem_of_getElem? (i := 1104) (by decide +kernel)) rfl, gw_in (List.mem_of_getElem? (i := 116) (by decide +kernel)) rfl, by decide +kernel, by decide +kernel, by decide +kernel⟩
theorem H_crossedIn {w : Wd} {x0 : Int32} {fr lo : Nat} {P : Option Value → Wd → Prop} {P2 : Int32 → Wd → Prop} (hK : CF yX6_crossedIn cX6_crossedIn 5 (some .int) fr lo [.ref 0, .int x0] w P) (hP : ∀ r w', P r w' → ∃ v, r = some (.int v) ∧ P2 v w') :
    CH yL_crossedIn cL_crossedIn 4 [(0, 9, 12, 20)] (fr + 1) (24 + lo) [.ref 0, .int x0, .ref 218] w 0 (fun o w' => o = 0 ∧ ∃ v w9, P2 v w9 ∧ w' = wLong w9 218 v.toInt64) := by
  intro ex us
  refine CW.of cwL_crossedIn (Nat.le_of_ble_eq_true rfl) (fun G9 p9 l9 e9 s9 m9 ar9 be9 me9 co9 C hfl htb hr => ?_)
  refine a_pad 1 ?_
  refine a_eq (L' := [some (.ref 0), some (.int x0), some (.ref 218), none]) rfl rfl rfl ?_
  refine a_aload_n C dL_crossedIn_0 rfl rfl ?_
  refine a_iconst (v := 0) C dL_crossedIn_1 (by decide) ?_
  refine a_aload_n C dL_crossedIn_2 rfl rfl ?_
  refine a_iload_n C dL_crossedIn_3 rfl rfl ?_
  refine a_callV C [.int x0] 6 (hK ex us) vL_102 (show 0 < 219 by decide) (by decide) (show fz w 0 = .inr (6, _) from rfl) rfl dL_crossedIn_4 rfl (Nat.le_of_ble_eq_true rfl) ⟨Nat.le_refl _, by show 8 + (5 + 11) + lo ≤ 24 + lo; omega⟩ ⟨by show 219 + ex + 0 ≤ 219 + ex + 0; omega, by show us + 0 ≤ us + 0; omega⟩ (fun r9 M9 hp9 _ _ => ?_)
  obtain ⟨w9, rfl, hp9⟩ := hp9
  obtain ⟨v, rfl, hv⟩ := hP _ _ hp9
  refine a_eq (st' := [.int v, .int 0, .ref 218]) rfl rfl rfl ?_
  refine a_i2l C dL_crossedIn_7 ?_
  refine o_store C dL_crossedIn_8 ?_
  refine a_goto (tgt := 15) C dL_crossedIn_9 (by decide) ?_
  refine a_iconst (v := 0) C dL_crossedIn_15 (by decide) ?_
  exact a_iret C hr rfl dL_crossedIn_16 rfl rfl ⟨0, _, rfl, rfl, rfl, v, w9, hv, rfl⟩
theorem T_crossedIn_0 {w : Wd} {x0 : Int32} {fr lo : Nat} (hK : CXF yX6_crossedIn cX6_crossedIn 5 (some .int) fr lo [.ref 0, .int x0] w "java/lang/IndexOutOfBoundsException") :
    CH yL_crossedIn cL_crossedIn 4 [(0, 9, 12, 20)] (fr + 1) (24 + lo) [.ref 0, .int x0, .ref 218] w 1 (fun o w' => o = 1 ∧ w' = w) := by
  intro ex us
  refine CW.of cwL_crossedIn (Nat.le_of_ble_eq_true rfl) (fun G9 p9 l9 e9 s9 m9 ar9 be9 me9 co9 C hfl htb hr => ?_)
  refine a_pad 1 ?_
  refine a_eq (L' := [some (.ref 0), some (.int x0), some (.ref 218), none]) rfl rfl rfl ?_
  refine a_aload_n C dL_crossedIn_0 rfl rfl ?_
  refine a_iconst (v := 0) C dL_crossedIn_1 (by decide) ?_
  refine a_aload_n C dL_crossedIn_2 rfl rfl ?_
  refine a_iload_n C dL_crossedIn_3 rfl rfl ?_
  refine a_xcatN C hfl [.int x0] 6 (hK ex us) vL_102 (show 0 < 219 by decide) (by decide) (show fz w 0 = .inr (6, _) from rfl) rfl dL_crossedIn_4 rfl (Nat.le_of_ble_eq_true rfl) ⟨Nat.le_refl _, by show 8 + (5 + 11) + lo ≤ 24 + lo; omega⟩ ⟨by show 219 + ex + 1 ≤ 219 + ex + 1; omega, by show us + 6 ≤ us + 6 * 1; omega⟩ (E := "java/lang/IndexOutOfBoundsException") (by decide) (fun E' M' h => h.1) [] ⟨0, 9, 12, 20⟩ [] htb (fun z hz => by cases hz) rfl (by decide) kL_20 dL_crossedIn_12 (by decide) (fun M9 hp9 _ _ => ?_)
  obtain ⟨-, rfl⟩ := hp9
  refine a_iconst (v := 1) C dL_crossedIn_13 (by decide) ?_
  exact a_iret C hr rfl dL_crossedIn_14 rfl rfl ⟨1, w, rfl, rfl, rfl, rfl⟩
end A54

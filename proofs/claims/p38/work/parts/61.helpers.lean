section A61
/-! ### the law's helpers: a throw becomes a number -/
theorem cwL_undo : aCodeW yL_undo cL_undo 2 (some .int) [(0, 4, 5, 18)] := ⟨gw_in (List.mem_of_getElem? (i := 322) (by decide +kernel)) rfl, gw_in (List.mem_of_getElem? (i := 37) (by decide +kernel)) rfl, by decide +kernel, by decide +kernel, by decide +kernel⟩
theorem H_undo {w : Wd} {fr lo : Nat} {P : Option Value → Wd → Prop} (hK : CF yX6_undo cX6_undo 1 (some .int) fr lo [.ref 0] w P) (hP : ∀ r w', P r w' → ∃ v, r = some (.int v)) :
    CLW yL_undo cL_undo 2 [(0, 4, 5, 18)] (fr + 1) (20 + lo) [.ref 0] w 0 0 P := by
  intro ex us
  refine CW.of cwL_undo (Nat.le_of_ble_eq_true rfl) (fun G9 p9 l9 e9 s9 m9 ar9 be9 me9 co9 C hfl htb hr => ?_)
  refine a_pad 1 ?_
  refine a_eq (L' := [some (.ref 0), none]) rfl rfl rfl ?_
  refine a_aload_n C dL_undo_0 rfl rfl ?_
  refine a_callV C [] 6 (hK ex us) vL_53 (tw (show 0 < 207 by decide)) (by decide) (show fz w 0 = .inr (6, _) from rfl) rfl dL_undo_1 rfl (Nat.le_of_ble_eq_true rfl) ⟨Nat.le_refl _, by show 8 + (1 + 11) + lo ≤ 20 + lo; omega⟩ ⟨by show 207 + ex.1 + ex.2 + 0 ≤ 207 + ex.1 + ex.2 + 0; omega, by show us + 0 ≤ us + 0; omega⟩ (fun r9 M9 hp9 _ _ => ?_)
  obtain ⟨w9, rfl, hp9⟩ := hp9
  obtain ⟨v, rfl⟩ := hP _ _ hp9
  refine a_eq (st' := [.int v]) rfl rfl rfl ?_
  exact a_iret C hr rfl dL_undo_4 rfl rfl ⟨w9, rfl, hp9⟩
theorem T_undo_0 {w : Wd} {fr lo : Nat} (hK : CXF yX6_undo cX6_undo 1 (some .int) fr lo [.ref 0] w "java/lang/IllegalStateException") :
    CLW yL_undo cL_undo 2 [(0, 4, 5, 18)] (fr + 1) (20 + lo) [.ref 0] w 1 6 (fun r w' => r = some (.int (-103)) ∧ w' = w) := by
  intro ex us
  refine CW.of cwL_undo (Nat.le_of_ble_eq_true rfl) (fun G9 p9 l9 e9 s9 m9 ar9 be9 me9 co9 C hfl htb hr => ?_)
  refine a_pad 1 ?_
  refine a_eq (L' := [some (.ref 0), none]) rfl rfl rfl ?_
  refine a_aload_n C dL_undo_0 rfl rfl ?_
  refine a_xcatN C hfl [] 6 (hK ex us) vL_53 (tw (show 0 < 207 by decide)) (by decide) (show fz w 0 = .inr (6, _) from rfl) rfl dL_undo_1 rfl (Nat.le_of_ble_eq_true rfl) ⟨Nat.le_refl _, by show 8 + (1 + 11) + lo ≤ 20 + lo; omega⟩ ⟨by show 207 + ex.1 + ex.2 + 1 ≤ 207 + ex.1 + ex.2 + 1; omega, by show us + 6 ≤ us + 6; omega⟩ (E := "java/lang/IllegalStateException") (by decide) (fun E' M' h => h.1) [] ⟨0, 4, 5, 18⟩ [] htb (fun z hz => by cases hz) rfl (by decide) kL_18 dL_undo_5 (by decide) (fun M9 hp9 _ _ => ?_)
  obtain ⟨-, rfl⟩ := hp9
  refine a_bipush (v := (-103)) C dL_undo_6 (by decide) ?_
  exact a_iret C hr rfl dL_undo_8 rfl rfl ⟨w, rfl, rfl, rfl⟩
theorem cwL_count : aCodeW yL_count cL_count 3 (some .int) [(0, 5, 6, 16)] := ⟨gw_in (List.mem_of_getElem? (i := 418) (by decide +kernel)) rfl, gw_in (List.mem_of_getElem? (i := 37) (by decide +kernel)) rfl, by decide +kernel, by decide +kernel, by decide +kernel⟩
theorem H_count {w : Wd} {x0 : Int32} {fr lo : Nat} {P : Option Value → Wd → Prop} (hK : CF yX6_count cX6_count 2 (some .int) fr lo [.ref 0, .int x0] w P) (hP : ∀ r w', P r w' → ∃ v, r = some (.int v)) :
    CLW yL_count cL_count 3 [(0, 5, 6, 16)] (fr + 1) (21 + lo) [.ref 0, .int x0] w 0 0 P := by
  intro ex us
  refine CW.of cwL_count (Nat.le_of_ble_eq_true rfl) (fun G9 p9 l9 e9 s9 m9 ar9 be9 me9 co9 C hfl htb hr => ?_)
  refine a_pad 1 ?_
  refine a_eq (L' := [some (.ref 0), some (.int x0), none]) rfl rfl rfl ?_
  refine a_aload_n C dL_count_0 rfl rfl ?_
  refine a_iload_n C dL_count_1 rfl rfl ?_
  refine a_callV C [.int x0] 6 (hK ex us) vL_72 (tw (show 0 < 207 by decide)) (by decide) (show fz w 0 = .inr (6, _) from rfl) rfl dL_count_2 rfl (Nat.le_of_ble_eq_true rfl) ⟨Nat.le_refl _, by show 8 + (2 + 11) + lo ≤ 21 + lo; omega⟩ ⟨by show 207 + ex.1 + ex.2 + 0 ≤ 207 + ex.1 + ex.2 + 0; omega, by show us + 0 ≤ us + 0; omega⟩ (fun r9 M9 hp9 _ _ => ?_)
  obtain ⟨w9, rfl, hp9⟩ := hp9
  obtain ⟨v, rfl⟩ := hP _ _ hp9
  refine a_eq (st' := [.int v]) rfl rfl rfl ?_
  exact a_iret C hr rfl dL_count_5 rfl rfl ⟨w9, rfl, hp9⟩
theorem T_count_0 {w : Wd} {x0 : Int32} {fr lo : Nat} (hK : CXF yX6_count cX6_count 2 (some .int) fr lo [.ref 0, .int x0] w "java/lang/IllegalArgumentException") :
    CLW yL_count cL_count 3 [(0, 5, 6, 16)] (fr + 1) (21 + lo) [.ref 0, .int x0] w 1 6 (fun r w' => r = some (.int (-102)) ∧ w' = w) := by
  intro ex us
  refine CW.of cwL_count (Nat.le_of_ble_eq_true rfl) (fun G9 p9 l9 e9 s9 m9 ar9 be9 me9 co9 C hfl htb hr => ?_)
  refine a_pad 1 ?_
  refine a_eq (L' := [some (.ref 0), some (.int x0), none]) rfl rfl rfl ?_
  refine a_aload_n C dL_count_0 rfl rfl ?_
  refine a_iload_n C dL_count_1 rfl rfl ?_
  refine a_xcatN C hfl [.int x0] 6 (hK ex us) vL_72 (tw (show 0 < 207 by decide)) (by decide) (show fz w 0 = .inr (6, _) from rfl) rfl dL_count_2 rfl (Nat.le_of_ble_eq_true rfl) ⟨Nat.le_refl _, by show 8 + (2 + 11) + lo ≤ 21 + lo; omega⟩ ⟨by show 207 + ex.1 + ex.2 + 1 ≤ 207 + ex.1 + ex.2 + 1; omega, by show us + 6 ≤ us + 6; omega⟩ (E := "java/lang/IllegalArgumentException") (by decide) (fun E' M' h => h.1) [] ⟨0, 5, 6, 16⟩ [] htb (fun z hz => by cases hz) rfl (by decide) kL_16 dL_count_6 (by decide) (fun M9 hp9 _ _ => ?_)
  obtain ⟨-, rfl⟩ := hp9
  refine a_bipush (v := (-102)) C dL_count_7 (by decide) ?_
  exact a_iret C hr rfl dL_count_9 rfl rfl ⟨w, rfl, rfl, rfl⟩
theorem cwL_key : aCodeW yL_key cL_key 4 (some .int) [(0, 6, 7, 23), (0, 6, 11, 16)] := ⟨gw_in (List.mem_of_getElem? (i := 489) (by decide +kernel)) rfl, gw_in (List.mem_of_getElem? (i := 37) (by decide +kernel)) rfl, by decide +kernel, by decide +kernel, by decide +kernel⟩
theorem H_key {w : Wd} {x0 x1 : Int32} {fr lo : Nat} {P : Option Value → Wd → Prop} (hK : CF yX6_key cX6_key 4 (some .int) fr lo [.ref 0, .int x0, .int x1] w P) (hP : ∀ r w', P r w' → ∃ v, r = some (.int v)) :
    CLW yL_key cL_key 4 [(0, 6, 7, 23), (0, 6, 11, 16)] (fr + 1) (23 + lo) [.ref 0, .int x0, .int x1] w 0 0 P := by
  intro ex us
  refine CW.of cwL_key (Nat.le_of_ble_eq_true rfl) (fun G9 p9 l9 e9 s9 m9 ar9 be9 me9 co9 C hfl htb hr => ?_)
  refine a_pad 1 ?_
  refine a_eq (L' := [some (.ref 0), some (.int x0), some (.int x1), none]) rfl rfl rfl ?_
  refine a_aload_n C dL_key_0 rfl rfl ?_
  refine a_iload_n C dL_key_1 rfl rfl ?_
  refine a_iload_n C dL_key_2 rfl rfl ?_
  refine a_callV C [.int x0, .int x1] 6 (hK ex us) vL_57 (tw (show 0 < 207 by decide)) (by decide) (show fz w 0 = .inr (6, _) from rfl) rfl dL_key_3 rfl (Nat.le_of_ble_eq_true rfl) ⟨Nat.le_refl _, by show 8 + (4 + 11) + lo ≤ 23 + lo; omega⟩ ⟨by show 207 + ex.1 + ex.2 + 0 ≤ 207 + ex.1 + ex.2 + 0; omega, by show us + 0 ≤ us + 0; omega⟩ (fun r9 M9 hp9 _ _ => ?_)
  obtain ⟨w9, rfl, hp9⟩ := hp9
  obtain ⟨v, rfl⟩ := hP _ _ hp9
  refine a_eq (st' := [.int v]) rfl rfl rfl ?_
  exact a_iret C hr rfl dL_key_6 rfl rfl ⟨w9, rfl, hp9⟩
theorem T_key_0 {w : Wd} {x0 x1 : Int32} {fr lo : Nat} (hK : CXF yX6_key cX6_key 4 (some .int) fr lo [.ref 0, .int x0, .int x1] w "java/lang/IndexOutOfBoundsException") :
    CLW yL_key cL_key 4 [(0, 6, 7, 23), (0, 6, 11, 16)] (fr + 1) (23 + lo) [.ref 0, .int x0, .int x1] w 1 6 (fun r w' => r = some (.int (-101)) ∧ w' = w) := by
  intro ex us
  refine CW.of cwL_key (Nat.le_of_ble_eq_true rfl) (fun G9 p9 l9 e9 s9 m9 ar9 be9 me9 co9 C hfl htb hr => ?_)
  refine a_pad 1 ?_
  refine a_eq (L' := [some (.ref 0), some (.int x0), some (.int x1), none]) rfl rfl rfl ?_
  refine a_aload_n C dL_key_0 rfl rfl ?_
  refine a_iload_n C dL_key_1 rfl rfl ?_
  refine a_iload_n C dL_key_2 rfl rfl ?_
  refine a_xcatN C hfl [.int x0, .int x1] 6 (hK ex us) vL_57 (tw (show 0 < 207 by decide)) (by decide) (show fz w 0 = .inr (6, _) from rfl) rfl dL_key_3 rfl (Nat.le_of_ble_eq_true rfl) ⟨Nat.le_refl _, by show 8 + (4 + 11) + lo ≤ 23 + lo; omega⟩ ⟨by show 207 + ex.1 + ex.2 + 1 ≤ 207 + ex.1 + ex.2 + 1; omega, by show us + 6 ≤ us + 6; omega⟩ (E := "java/lang/IndexOutOfBoundsException") (by decide) (fun E' M' h => h.1) [] ⟨0, 6, 7, 23⟩ [⟨0, 6, 11, 16⟩] htb (fun z hz => by cases hz) rfl (by decide) kL_23 dL_key_7 (by decide) (fun M9 hp9 _ _ => ?_)
  obtain ⟨-, rfl⟩ := hp9
  refine a_bipush (v := (-101)) C dL_key_8 (by decide) ?_
  exact a_iret C hr rfl dL_key_10 rfl rfl ⟨w, rfl, rfl, rfl⟩
theorem T_key_1 {w : Wd} {x0 x1 : Int32} {fr lo : Nat} (hK : CXF yX6_key cX6_key 4 (some .int) fr lo [.ref 0, .int x0, .int x1] w "java/lang/IllegalArgumentException") :
    CLW yL_key cL_key 4 [(0, 6, 7, 23), (0, 6, 11, 16)] (fr + 1) (23 + lo) [.ref 0, .int x0, .int x1] w 1 6 (fun r w' => r = some (.int (-102)) ∧ w' = w) := by
  intro ex us
  refine CW.of cwL_key (Nat.le_of_ble_eq_true rfl) (fun G9 p9 l9 e9 s9 m9 ar9 be9 me9 co9 C hfl htb hr => ?_)
  refine a_pad 1 ?_
  refine a_eq (L' := [some (.ref 0), some (.int x0), some (.int x1), none]) rfl rfl rfl ?_
  refine a_aload_n C dL_key_0 rfl rfl ?_
  refine a_iload_n C dL_key_1 rfl rfl ?_
  refine a_iload_n C dL_key_2 rfl rfl ?_
  refine a_xcatN C hfl [.int x0, .int x1] 6 (hK ex us) vL_57 (tw (show 0 < 207 by decide)) (by decide) (show fz w 0 = .inr (6, _) from rfl) rfl dL_key_3 rfl (Nat.le_of_ble_eq_true rfl) ⟨Nat.le_refl _, by show 8 + (4 + 11) + lo ≤ 23 + lo; omega⟩ ⟨by show 207 + ex.1 + ex.2 + 1 ≤ 207 + ex.1 + ex.2 + 1; omega, by show us + 6 ≤ us + 6; omega⟩ (E := "java/lang/IllegalArgumentException") (by decide) (fun E' M' h => h.1) [⟨0, 6, 7, 23⟩] ⟨0, 6, 11, 16⟩ [] htb (fun z hz => by
    rcases List.mem_cons.mp hz with rfl | hz
    · exact Or.inr ⟨by decide, "java/lang/IndexOutOfBoundsException", by decide, by decide, kL_23⟩
    cases hz) rfl (by decide) kL_16 dL_key_11 (by decide) (fun M9 hp9 _ _ => ?_)
  obtain ⟨-, rfl⟩ := hp9
  refine a_bipush (v := (-102)) C dL_key_12 (by decide) ?_
  exact a_iret C hr rfl dL_key_14 rfl rfl ⟨w, rfl, rfl, rfl⟩
theorem cwL_lock : aCodeW yL_lock cL_lock 4 (some .int) [(0, 6, 7, 23), (0, 6, 11, 16)] := ⟨gw_in (List.mem_of_getElem? (i := 540) (by decide +kernel)) rfl, gw_in (List.mem_of_getElem? (i := 37) (by decide +kernel)) rfl, by decide +kernel, by decide +kernel, by decide +kernel⟩
theorem H_lock {w : Wd} {x0 x1 : Int32} {fr lo : Nat} {P : Option Value → Wd → Prop} (hK : CF yX6_lock cX6_lock 4 (some .int) fr lo [.ref 0, .int x0, .int x1] w P) (hP : ∀ r w', P r w' → ∃ v, r = some (.int v)) :
    CLW yL_lock cL_lock 4 [(0, 6, 7, 23), (0, 6, 11, 16)] (fr + 1) (23 + lo) [.ref 0, .int x0, .int x1] w 0 0 P := by
  intro ex us
  refine CW.of cwL_lock (Nat.le_of_ble_eq_true rfl) (fun G9 p9 l9 e9 s9 m9 ar9 be9 me9 co9 C hfl htb hr => ?_)
  refine a_pad 1 ?_
  refine a_eq (L' := [some (.ref 0), some (.int x0), some (.int x1), none]) rfl rfl rfl ?_
  refine a_aload_n C dL_lock_0 rfl rfl ?_
  refine a_iload_n C dL_lock_1 rfl rfl ?_
  refine a_iload_n C dL_lock_2 rfl rfl ?_
  refine a_callV C [.int x0, .int x1] 6 (hK ex us) vL_60 (tw (show 0 < 207 by decide)) (by decide) (show fz w 0 = .inr (6, _) from rfl) rfl dL_lock_3 rfl (Nat.le_of_ble_eq_true rfl) ⟨Nat.le_refl _, by show 8 + (4 + 11) + lo ≤ 23 + lo; omega⟩ ⟨by show 207 + ex.1 + ex.2 + 0 ≤ 207 + ex.1 + ex.2 + 0; omega, by show us + 0 ≤ us + 0; omega⟩ (fun r9 M9 hp9 _ _ => ?_)
  obtain ⟨w9, rfl, hp9⟩ := hp9
  obtain ⟨v, rfl⟩ := hP _ _ hp9
  refine a_eq (st' := [.int v]) rfl rfl rfl ?_
  exact a_iret C hr rfl dL_lock_6 rfl rfl ⟨w9, rfl, hp9⟩
theorem T_lock_0 {w : Wd} {x0 x1 : Int32} {fr lo : Nat} (hK : CXF yX6_lock cX6_lock 4 (some .int) fr lo [.ref 0, .int x0, .int x1] w "java/lang/IndexOutOfBoundsException") :
    CLW yL_lock cL_lock 4 [(0, 6, 7, 23), (0, 6, 11, 16)] (fr + 1) (23 + lo) [.ref 0, .int x0, .int x1] w 1 6 (fun r w' => r = some (.int (-101)) ∧ w' = w) := by
  intro ex us
  refine CW.of cwL_lock (Nat.le_of_ble_eq_true rfl) (fun G9 p9 l9 e9 s9 m9 ar9 be9 me9 co9 C hfl htb hr => ?_)
  refine a_pad 1 ?_
  refine a_eq (L' := [some (.ref 0), some (.int x0), some (.int x1), none]) rfl rfl rfl ?_
  refine a_aload_n C dL_lock_0 rfl rfl ?_
  refine a_iload_n C dL_lock_1 rfl rfl ?_
  refine a_iload_n C dL_lock_2 rfl rfl ?_
  refine a_xcatN C hfl [.int x0, .int x1] 6 (hK ex us) vL_60 (tw (show 0 < 207 by decide)) (by decide) (show fz w 0 = .inr (6, _) from rfl) rfl dL_lock_3 rfl (Nat.le_of_ble_eq_true rfl) ⟨Nat.le_refl _, by show 8 + (4 + 11) + lo ≤ 23 + lo; omega⟩ ⟨by show 207 + ex.1 + ex.2 + 1 ≤ 207 + ex.1 + ex.2 + 1; omega, by show us + 6 ≤ us + 6; omega⟩ (E := "java/lang/IndexOutOfBoundsException") (by decide) (fun E' M' h => h.1) [] ⟨0, 6, 7, 23⟩ [⟨0, 6, 11, 16⟩] htb (fun z hz => by cases hz) rfl (by decide) kL_23 dL_lock_7 (by decide) (fun M9 hp9 _ _ => ?_)
  obtain ⟨-, rfl⟩ := hp9
  refine a_bipush (v := (-101)) C dL_lock_8 (by decide) ?_
  exact a_iret C hr rfl dL_lock_10 rfl rfl ⟨w, rfl, rfl, rfl⟩
theorem T_lock_1 {w : Wd} {x0 x1 : Int32} {fr lo : Nat} (hK : CXF yX6_lock cX6_lock 4 (some .int) fr lo [.ref 0, .int x0, .int x1] w "java/lang/IllegalArgumentException") :
    CLW yL_lock cL_lock 4 [(0, 6, 7, 23), (0, 6, 11, 16)] (fr + 1) (23 + lo) [.ref 0, .int x0, .int x1] w 1 6 (fun r w' => r = some (.int (-102)) ∧ w' = w) := by
  intro ex us
  refine CW.of cwL_lock (Nat.le_of_ble_eq_true rfl) (fun G9 p9 l9 e9 s9 m9 ar9 be9 me9 co9 C hfl htb hr => ?_)
  refine a_pad 1 ?_
  refine a_eq (L' := [some (.ref 0), some (.int x0), some (.int x1), none]) rfl rfl rfl ?_
  refine a_aload_n C dL_lock_0 rfl rfl ?_
  refine a_iload_n C dL_lock_1 rfl rfl ?_
  refine a_iload_n C dL_lock_2 rfl rfl ?_
  refine a_xcatN C hfl [.int x0, .int x1] 6 (hK ex us) vL_60 (tw (show 0 < 207 by decide)) (by decide) (show fz w 0 = .inr (6, _) from rfl) rfl dL_lock_3 rfl (Nat.le_of_ble_eq_true rfl) ⟨Nat.le_refl _, by show 8 + (4 + 11) + lo ≤ 23 + lo; omega⟩ ⟨by show 207 + ex.1 + ex.2 + 1 ≤ 207 + ex.1 + ex.2 + 1; omega, by show us + 6 ≤ us + 6; omega⟩ (E := "java/lang/IllegalArgumentException") (by decide) (fun E' M' h => h.1) [⟨0, 6, 7, 23⟩] ⟨0, 6, 11, 16⟩ [] htb (fun z hz => by
    rcases List.mem_cons.mp hz with rfl | hz
    · exact Or.inr ⟨by decide, "java/lang/IndexOutOfBoundsException", by decide, by decide, kL_23⟩
    cases hz) rfl (by decide) kL_16 dL_lock_11 (by decide) (fun M9 hp9 _ _ => ?_)
  obtain ⟨-, rfl⟩ := hp9
  refine a_bipush (v := (-102)) C dL_lock_12 (by decide) ?_
  exact a_iret C hr rfl dL_lock_14 rfl rfl ⟨w, rfl, rfl, rfl⟩
theorem cwL_person : aCodeW yL_person cL_person 4 (some .int) [(0, 6, 7, 23), (0, 6, 11, 16)] := ⟨gw_in (List.mem_of_getElem? (i := 557) (by decide +kernel)) rfl, gw_in (List.mem_of_getElem? (i := 37) (by decide +kernel)) rfl, by decide +kernel, by decide +kernel, by decide +kernel⟩
theorem H_person {w : Wd} {x0 x1 : Int32} {fr lo : Nat} {P : Option Value → Wd → Prop} (hK : CF yX6_person cX6_person 3 (some .int) fr lo [.ref 0, .int x0, .int x1] w P) (hP : ∀ r w', P r w' → ∃ v, r = some (.int v)) :
    CLW yL_person cL_person 4 [(0, 6, 7, 23), (0, 6, 11, 16)] (fr + 1) (22 + lo) [.ref 0, .int x0, .int x1] w 0 0 P := by
  intro ex us
  refine CW.of cwL_person (Nat.le_of_ble_eq_true rfl) (fun G9 p9 l9 e9 s9 m9 ar9 be9 me9 co9 C hfl htb hr => ?_)
  refine a_pad 1 ?_
  refine a_eq (L' := [some (.ref 0), some (.int x0), some (.int x1), none]) rfl rfl rfl ?_
  refine a_aload_n C dL_person_0 rfl rfl ?_
  refine a_iload_n C dL_person_1 rfl rfl ?_
  refine a_iload_n C dL_person_2 rfl rfl ?_
  refine a_callV C [.int x0, .int x1] 6 (hK ex us) vL_63 (tw (show 0 < 207 by decide)) (by decide) (show fz w 0 = .inr (6, _) from rfl) rfl dL_person_3 rfl (Nat.le_of_ble_eq_true rfl) ⟨Nat.le_refl _, by show 8 + (3 + 11) + lo ≤ 22 + lo; omega⟩ ⟨by show 207 + ex.1 + ex.2 + 0 ≤ 207 + ex.1 + ex.2 + 0; omega, by show us + 0 ≤ us + 0; omega⟩ (fun r9 M9 hp9 _ _ => ?_)
  obtain ⟨w9, rfl, hp9⟩ := hp9
  obtain ⟨v, rfl⟩ := hP _ _ hp9
  refine a_eq (st' := [.int v]) rfl rfl rfl ?_
  exact a_iret C hr rfl dL_person_6 rfl rfl ⟨w9, rfl, hp9⟩
theorem T_person_0 {w : Wd} {x0 x1 : Int32} {fr lo : Nat} (hK : CXF yX6_person cX6_person 3 (some .int) fr lo [.ref 0, .int x0, .int x1] w "java/lang/IndexOutOfBoundsException") :
    CLW yL_person cL_person 4 [(0, 6, 7, 23), (0, 6, 11, 16)] (fr + 1) (22 + lo) [.ref 0, .int x0, .int x1] w 1 6 (fun r w' => r = some (.int (-101)) ∧ w' = w) := by
  intro ex us
  refine CW.of cwL_person (Nat.le_of_ble_eq_true rfl) (fun G9 p9 l9 e9 s9 m9 ar9 be9 me9 co9 C hfl htb hr => ?_)
  refine a_pad 1 ?_
  refine a_eq (L' := [some (.ref 0), some (.int x0), some (.int x1), none]) rfl rfl rfl ?_
  refine a_aload_n C dL_person_0 rfl rfl ?_
  refine a_iload_n C dL_person_1 rfl rfl ?_
  refine a_iload_n C dL_person_2 rfl rfl ?_
  refine a_xcatN C hfl [.int x0, .int x1] 6 (hK ex us) vL_63 (tw (show 0 < 207 by decide)) (by decide) (show fz w 0 = .inr (6, _) from rfl) rfl dL_person_3 rfl (Nat.le_of_ble_eq_true rfl) ⟨Nat.le_refl _, by show 8 + (3 + 11) + lo ≤ 22 + lo; omega⟩ ⟨by show 207 + ex.1 + ex.2 + 1 ≤ 207 + ex.1 + ex.2 + 1; omega, by show us + 6 ≤ us + 6; omega⟩ (E := "java/lang/IndexOutOfBoundsException") (by decide) (fun E' M' h => h.1) [] ⟨0, 6, 7, 23⟩ [⟨0, 6, 11, 16⟩] htb (fun z hz => by cases hz) rfl (by decide) kL_23 dL_person_7 (by decide) (fun M9 hp9 _ _ => ?_)
  obtain ⟨-, rfl⟩ := hp9
  refine a_bipush (v := (-101)) C dL_person_8 (by decide) ?_
  exact a_iret C hr rfl dL_person_10 rfl rfl ⟨w, rfl, rfl, rfl⟩
theorem T_person_1 {w : Wd} {x0 x1 : Int32} {fr lo : Nat} (hK : CXF yX6_person cX6_person 3 (some .int) fr lo [.ref 0, .int x0, .int x1] w "java/lang/IllegalArgumentException") :
    CLW yL_person cL_person 4 [(0, 6, 7, 23), (0, 6, 11, 16)] (fr + 1) (22 + lo) [.ref 0, .int x0, .int x1] w 1 6 (fun r w' => r = some (.int (-102)) ∧ w' = w) := by
  intro ex us
  refine CW.of cwL_person (Nat.le_of_ble_eq_true rfl) (fun G9 p9 l9 e9 s9 m9 ar9 be9 me9 co9 C hfl htb hr => ?_)
  refine a_pad 1 ?_
  refine a_eq (L' := [some (.ref 0), some (.int x0), some (.int x1), none]) rfl rfl rfl ?_
  refine a_aload_n C dL_person_0 rfl rfl ?_
  refine a_iload_n C dL_person_1 rfl rfl ?_
  refine a_iload_n C dL_person_2 rfl rfl ?_
  refine a_xcatN C hfl [.int x0, .int x1] 6 (hK ex us) vL_63 (tw (show 0 < 207 by decide)) (by decide) (show fz w 0 = .inr (6, _) from rfl) rfl dL_person_3 rfl (Nat.le_of_ble_eq_true rfl) ⟨Nat.le_refl _, by show 8 + (3 + 11) + lo ≤ 22 + lo; omega⟩ ⟨by show 207 + ex.1 + ex.2 + 1 ≤ 207 + ex.1 + ex.2 + 1; omega, by show us + 6 ≤ us + 6; omega⟩ (E := "java/lang/IllegalArgumentException") (by decide) (fun E' M' h => h.1) [⟨0, 6, 7, 23⟩] ⟨0, 6, 11, 16⟩ [] htb (fun z hz => by
    rcases List.mem_cons.mp hz with rfl | hz
    · exact Or.inr ⟨by decide, "java/lang/IndexOutOfBoundsException", by decide, by decide, kL_23⟩
    cases hz) rfl (by decide) kL_16 dL_person_11 (by decide) (fun M9 hp9 _ _ => ?_)
  obtain ⟨-, rfl⟩ := hp9
  refine a_bipush (v := (-102)) C dL_person_12 (by decide) ?_
  exact a_iret C hr rfl dL_person_14 rfl rfl ⟨w, rfl, rfl, rfl⟩
theorem cwL_cut : aCodeW yL_cut cL_cut 4 (some .int) [(0, 6, 7, 16), (0, 6, 11, 18)] := ⟨gw_in (List.mem_of_getElem? (i := 580) (by decide +kernel)) rfl, gw_in (List.mem_of_getElem? (i := 37) (by decide +kernel)) rfl, by decide +kernel, by decide +kernel, by decide +kernel⟩
theorem H_cut {w : Wd} {x0 x1 : Int32} {fr lo : Nat} {P : Option Value → Wd → Prop} (hK : CF yX6_cut cX6_cut 3 (some .int) fr lo [.ref 0, .int x0, .int x1] w P) (hP : ∀ r w', P r w' → ∃ v, r = some (.int v)) :
    CLW yL_cut cL_cut 4 [(0, 6, 7, 16), (0, 6, 11, 18)] (fr + 1) (22 + lo) [.ref 0, .int x0, .int x1] w 0 0 P := by
  intro ex us
  refine CW.of cwL_cut (Nat.le_of_ble_eq_true rfl) (fun G9 p9 l9 e9 s9 m9 ar9 be9 me9 co9 C hfl htb hr => ?_)
  refine a_pad 1 ?_
  refine a_eq (L' := [some (.ref 0), some (.int x0), some (.int x1), none]) rfl rfl rfl ?_
  refine a_aload_n C dL_cut_0 rfl rfl ?_
  refine a_iload_n C dL_cut_1 rfl rfl ?_
  refine a_iload_n C dL_cut_2 rfl rfl ?_
  refine a_callV C [.int x0, .int x1] 6 (hK ex us) vL_10 (tw (show 0 < 207 by decide)) (by decide) (show fz w 0 = .inr (6, _) from rfl) rfl dL_cut_3 rfl (Nat.le_of_ble_eq_true rfl) ⟨Nat.le_refl _, by show 8 + (3 + 11) + lo ≤ 22 + lo; omega⟩ ⟨by show 207 + ex.1 + ex.2 + 0 ≤ 207 + ex.1 + ex.2 + 0; omega, by show us + 0 ≤ us + 0; omega⟩ (fun r9 M9 hp9 _ _ => ?_)
  obtain ⟨w9, rfl, hp9⟩ := hp9
  obtain ⟨v, rfl⟩ := hP _ _ hp9
  refine a_eq (st' := [.int v]) rfl rfl rfl ?_
  exact a_iret C hr rfl dL_cut_6 rfl rfl ⟨w9, rfl, hp9⟩
theorem T_cut_0 {w : Wd} {x0 x1 : Int32} {fr lo : Nat} (hK : CXF yX6_cut cX6_cut 3 (some .int) fr lo [.ref 0, .int x0, .int x1] w "java/lang/IllegalArgumentException") :
    CLW yL_cut cL_cut 4 [(0, 6, 7, 16), (0, 6, 11, 18)] (fr + 1) (22 + lo) [.ref 0, .int x0, .int x1] w 1 6 (fun r w' => r = some (.int (-102)) ∧ w' = w) := by
  intro ex us
  refine CW.of cwL_cut (Nat.le_of_ble_eq_true rfl) (fun G9 p9 l9 e9 s9 m9 ar9 be9 me9 co9 C hfl htb hr => ?_)
  refine a_pad 1 ?_
  refine a_eq (L' := [some (.ref 0), some (.int x0), some (.int x1), none]) rfl rfl rfl ?_
  refine a_aload_n C dL_cut_0 rfl rfl ?_
  refine a_iload_n C dL_cut_1 rfl rfl ?_
  refine a_iload_n C dL_cut_2 rfl rfl ?_
  refine a_xcatN C hfl [.int x0, .int x1] 6 (hK ex us) vL_10 (tw (show 0 < 207 by decide)) (by decide) (show fz w 0 = .inr (6, _) from rfl) rfl dL_cut_3 rfl (Nat.le_of_ble_eq_true rfl) ⟨Nat.le_refl _, by show 8 + (3 + 11) + lo ≤ 22 + lo; omega⟩ ⟨by show 207 + ex.1 + ex.2 + 1 ≤ 207 + ex.1 + ex.2 + 1; omega, by show us + 6 ≤ us + 6; omega⟩ (E := "java/lang/IllegalArgumentException") (by decide) (fun E' M' h => h.1) [] ⟨0, 6, 7, 16⟩ [⟨0, 6, 11, 18⟩] htb (fun z hz => by cases hz) rfl (by decide) kL_16 dL_cut_7 (by decide) (fun M9 hp9 _ _ => ?_)
  obtain ⟨-, rfl⟩ := hp9
  refine a_bipush (v := (-102)) C dL_cut_8 (by decide) ?_
  exact a_iret C hr rfl dL_cut_10 rfl rfl ⟨w, rfl, rfl, rfl⟩
theorem T_cut_1 {w : Wd} {x0 x1 : Int32} {fr lo : Nat} (hK : CXF yX6_cut cX6_cut 3 (some .int) fr lo [.ref 0, .int x0, .int x1] w "java/lang/IllegalStateException") :
    CLW yL_cut cL_cut 4 [(0, 6, 7, 16), (0, 6, 11, 18)] (fr + 1) (22 + lo) [.ref 0, .int x0, .int x1] w 1 6 (fun r w' => r = some (.int (-103)) ∧ w' = w) := by
  intro ex us
  refine CW.of cwL_cut (Nat.le_of_ble_eq_true rfl) (fun G9 p9 l9 e9 s9 m9 ar9 be9 me9 co9 C hfl htb hr => ?_)
  refine a_pad 1 ?_
  refine a_eq (L' := [some (.ref 0), some (.int x0), some (.int x1), none]) rfl rfl rfl ?_
  refine a_aload_n C dL_cut_0 rfl rfl ?_
  refine a_iload_n C dL_cut_1 rfl rfl ?_
  refine a_iload_n C dL_cut_2 rfl rfl ?_
  refine a_xcatN C hfl [.int x0, .int x1] 6 (hK ex us) vL_10 (tw (show 0 < 207 by decide)) (by decide) (show fz w 0 = .inr (6, _) from rfl) rfl dL_cut_3 rfl (Nat.le_of_ble_eq_true rfl) ⟨Nat.le_refl _, by show 8 + (3 + 11) + lo ≤ 22 + lo; omega⟩ ⟨by show 207 + ex.1 + ex.2 + 1 ≤ 207 + ex.1 + ex.2 + 1; omega, by show us + 6 ≤ us + 6; omega⟩ (E := "java/lang/IllegalStateException") (by decide) (fun E' M' h => h.1) [⟨0, 6, 7, 16⟩] ⟨0, 6, 11, 18⟩ [] htb (fun z hz => by
    rcases List.mem_cons.mp hz with rfl | hz
    · exact Or.inr ⟨by decide, "java/lang/IllegalArgumentException", by decide, by decide, kL_16⟩
    cases hz) rfl (by decide) kL_18 dL_cut_11 (by decide) (fun M9 hp9 _ _ => ?_)
  obtain ⟨-, rfl⟩ := hp9
  refine a_bipush (v := (-103)) C dL_cut_12 (by decide) ?_
  exact a_iret C hr rfl dL_cut_14 rfl rfl ⟨w, rfl, rfl, rfl⟩
theorem cwL_deepen : aCodeW yL_deepen cL_deepen 4 (some .int) [(0, 6, 7, 23), (0, 6, 11, 18)] := ⟨gw_in (List.mem_of_getElem? (i := 608) (by decide +kernel)) rfl, gw_in (List.mem_of_getElem? (i := 37) (by decide +kernel)) rfl, by decide +kernel, by decide +kernel, by decide +kernel⟩
theorem H_deepen {w : Wd} {x0 x1 : Int32} {fr lo : Nat} {P : Option Value → Wd → Prop} (hK : CF yX6_deepen cX6_deepen 3 (some .int) fr lo [.ref 0, .int x0, .int x1] w P) (hP : ∀ r w', P r w' → ∃ v, r = some (.int v)) :
    CLW yL_deepen cL_deepen 4 [(0, 6, 7, 23), (0, 6, 11, 18)] (fr + 1) (22 + lo) [.ref 0, .int x0, .int x1] w 0 0 P := by
  intro ex us
  refine CW.of cwL_deepen (Nat.le_of_ble_eq_true rfl) (fun G9 p9 l9 e9 s9 m9 ar9 be9 me9 co9 C hfl htb hr => ?_)
  refine a_pad 1 ?_
  refine a_eq (L' := [some (.ref 0), some (.int x0), some (.int x1), none]) rfl rfl rfl ?_
  refine a_aload_n C dL_deepen_0 rfl rfl ?_
  refine a_iload_n C dL_deepen_1 rfl rfl ?_
  refine a_iload_n C dL_deepen_2 rfl rfl ?_
  refine a_callV C [.int x0, .int x1] 6 (hK ex us) vL_20 (tw (show 0 < 207 by decide)) (by decide) (show fz w 0 = .inr (6, _) from rfl) rfl dL_deepen_3 rfl (Nat.le_of_ble_eq_true rfl) ⟨Nat.le_refl _, by show 8 + (3 + 11) + lo ≤ 22 + lo; omega⟩ ⟨by show 207 + ex.1 + ex.2 + 0 ≤ 207 + ex.1 + ex.2 + 0; omega, by show us + 0 ≤ us + 0; omega⟩ (fun r9 M9 hp9 _ _ => ?_)
  obtain ⟨w9, rfl, hp9⟩ := hp9
  obtain ⟨v, rfl⟩ := hP _ _ hp9
  refine a_eq (st' := [.int v]) rfl rfl rfl ?_
  exact a_iret C hr rfl dL_deepen_6 rfl rfl ⟨w9, rfl, hp9⟩
theorem T_deepen_0 {w : Wd} {x0 x1 : Int32} {fr lo : Nat} (hK : CXF yX6_deepen cX6_deepen 3 (some .int) fr lo [.ref 0, .int x0, .int x1] w "java/lang/IndexOutOfBoundsException") :
    CLW yL_deepen cL_deepen 4 [(0, 6, 7, 23), (0, 6, 11, 18)] (fr + 1) (22 + lo) [.ref 0, .int x0, .int x1] w 1 6 (fun r w' => r = some (.int (-101)) ∧ w' = w) := by
  intro ex us
  refine CW.of cwL_deepen (Nat.le_of_ble_eq_true rfl) (fun G9 p9 l9 e9 s9 m9 ar9 be9 me9 co9 C hfl htb hr => ?_)
  refine a_pad 1 ?_
  refine a_eq (L' := [some (.ref 0), some (.int x0), some (.int x1), none]) rfl rfl rfl ?_
  refine a_aload_n C dL_deepen_0 rfl rfl ?_
  refine a_iload_n C dL_deepen_1 rfl rfl ?_
  refine a_iload_n C dL_deepen_2 rfl rfl ?_
  refine a_xcatN C hfl [.int x0, .int x1] 6 (hK ex us) vL_20 (tw (show 0 < 207 by decide)) (by decide) (show fz w 0 = .inr (6, _) from rfl) rfl dL_deepen_3 rfl (Nat.le_of_ble_eq_true rfl) ⟨Nat.le_refl _, by show 8 + (3 + 11) + lo ≤ 22 + lo; omega⟩ ⟨by show 207 + ex.1 + ex.2 + 1 ≤ 207 + ex.1 + ex.2 + 1; omega, by show us + 6 ≤ us + 6; omega⟩ (E := "java/lang/IndexOutOfBoundsException") (by decide) (fun E' M' h => h.1) [] ⟨0, 6, 7, 23⟩ [⟨0, 6, 11, 18⟩] htb (fun z hz => by cases hz) rfl (by decide) kL_23 dL_deepen_7 (by decide) (fun M9 hp9 _ _ => ?_)
  obtain ⟨-, rfl⟩ := hp9
  refine a_bipush (v := (-101)) C dL_deepen_8 (by decide) ?_
  exact a_iret C hr rfl dL_deepen_10 rfl rfl ⟨w, rfl, rfl, rfl⟩
theorem T_deepen_1 {w : Wd} {x0 x1 : Int32} {fr lo : Nat} (hK : CXF yX6_deepen cX6_deepen 3 (some .int) fr lo [.ref 0, .int x0, .int x1] w "java/lang/IllegalStateException") :
    CLW yL_deepen cL_deepen 4 [(0, 6, 7, 23), (0, 6, 11, 18)] (fr + 1) (22 + lo) [.ref 0, .int x0, .int x1] w 1 6 (fun r w' => r = some (.int (-103)) ∧ w' = w) := by
  intro ex us
  refine CW.of cwL_deepen (Nat.le_of_ble_eq_true rfl) (fun G9 p9 l9 e9 s9 m9 ar9 be9 me9 co9 C hfl htb hr => ?_)
  refine a_pad 1 ?_
  refine a_eq (L' := [some (.ref 0), some (.int x0), some (.int x1), none]) rfl rfl rfl ?_
  refine a_aload_n C dL_deepen_0 rfl rfl ?_
  refine a_iload_n C dL_deepen_1 rfl rfl ?_
  refine a_iload_n C dL_deepen_2 rfl rfl ?_
  refine a_xcatN C hfl [.int x0, .int x1] 6 (hK ex us) vL_20 (tw (show 0 < 207 by decide)) (by decide) (show fz w 0 = .inr (6, _) from rfl) rfl dL_deepen_3 rfl (Nat.le_of_ble_eq_true rfl) ⟨Nat.le_refl _, by show 8 + (3 + 11) + lo ≤ 22 + lo; omega⟩ ⟨by show 207 + ex.1 + ex.2 + 1 ≤ 207 + ex.1 + ex.2 + 1; omega, by show us + 6 ≤ us + 6; omega⟩ (E := "java/lang/IllegalStateException") (by decide) (fun E' M' h => h.1) [⟨0, 6, 7, 23⟩] ⟨0, 6, 11, 18⟩ [] htb (fun z hz => by
    rcases List.mem_cons.mp hz with rfl | hz
    · exact Or.inr ⟨by decide, "java/lang/IndexOutOfBoundsException", by decide, by decide, kL_23⟩
    cases hz) rfl (by decide) kL_18 dL_deepen_11 (by decide) (fun M9 hp9 _ _ => ?_)
  obtain ⟨-, rfl⟩ := hp9
  refine a_bipush (v := (-103)) C dL_deepen_12 (by decide) ?_
  exact a_iret C hr rfl dL_deepen_14 rfl rfl ⟨w, rfl, rfl, rfl⟩
theorem cwL_retire : aCodeW yL_retire cL_retire 3 (some .int) [(0, 5, 6, 23)] := ⟨gw_in (List.mem_of_getElem? (i := 630) (by decide +kernel)) rfl, gw_in (List.mem_of_getElem? (i := 37) (by decide +kernel)) rfl, by decide +kernel, by decide +kernel, by decide +kernel⟩
theorem H_retire {w : Wd} {x0 : Int32} {fr lo : Nat} {P : Option Value → Wd → Prop} (hK : CF yX6_retire cX6_retire 3 (some .int) fr lo [.ref 0, .int x0] w P) (hP : ∀ r w', P r w' → ∃ v, r = some (.int v)) :
    CLW yL_retire cL_retire 3 [(0, 5, 6, 23)] (fr + 1) (22 + lo) [.ref 0, .int x0] w 0 0 P := by
  intro ex us
  refine CW.of cwL_retire (Nat.le_of_ble_eq_true rfl) (fun G9 p9 l9 e9 s9 m9 ar9 be9 me9 co9 C hfl htb hr => ?_)
  refine a_pad 1 ?_
  refine a_eq (L' := [some (.ref 0), some (.int x0), none]) rfl rfl rfl ?_
  refine a_aload_n C dL_retire_0 rfl rfl ?_
  refine a_iload_n C dL_retire_1 rfl rfl ?_
  refine a_callV C [.int x0] 6 (hK ex us) vL_25 (tw (show 0 < 207 by decide)) (by decide) (show fz w 0 = .inr (6, _) from rfl) rfl dL_retire_2 rfl (Nat.le_of_ble_eq_true rfl) ⟨Nat.le_refl _, by show 8 + (3 + 11) + lo ≤ 22 + lo; omega⟩ ⟨by show 207 + ex.1 + ex.2 + 0 ≤ 207 + ex.1 + ex.2 + 0; omega, by show us + 0 ≤ us + 0; omega⟩ (fun r9 M9 hp9 _ _ => ?_)
  obtain ⟨w9, rfl, hp9⟩ := hp9
  obtain ⟨v, rfl⟩ := hP _ _ hp9
  refine a_eq (st' := [.int v]) rfl rfl rfl ?_
  exact a_iret C hr rfl dL_retire_5 rfl rfl ⟨w9, rfl, hp9⟩
theorem T_retire_0 {w : Wd} {x0 : Int32} {fr lo : Nat} (hK : CXF yX6_retire cX6_retire 3 (some .int) fr lo [.ref 0, .int x0] w "java/lang/IndexOutOfBoundsException") :
    CLW yL_retire cL_retire 3 [(0, 5, 6, 23)] (fr + 1) (22 + lo) [.ref 0, .int x0] w 1 6 (fun r w' => r = some (.int (-101)) ∧ w' = w) := by
  intro ex us
  refine CW.of cwL_retire (Nat.le_of_ble_eq_true rfl) (fun G9 p9 l9 e9 s9 m9 ar9 be9 me9 co9 C hfl htb hr => ?_)
  refine a_pad 1 ?_
  refine a_eq (L' := [some (.ref 0), some (.int x0), none]) rfl rfl rfl ?_
  refine a_aload_n C dL_retire_0 rfl rfl ?_
  refine a_iload_n C dL_retire_1 rfl rfl ?_
  refine a_xcatN C hfl [.int x0] 6 (hK ex us) vL_25 (tw (show 0 < 207 by decide)) (by decide) (show fz w 0 = .inr (6, _) from rfl) rfl dL_retire_2 rfl (Nat.le_of_ble_eq_true rfl) ⟨Nat.le_refl _, by show 8 + (3 + 11) + lo ≤ 22 + lo; omega⟩ ⟨by show 207 + ex.1 + ex.2 + 1 ≤ 207 + ex.1 + ex.2 + 1; omega, by show us + 6 ≤ us + 6; omega⟩ (E := "java/lang/IndexOutOfBoundsException") (by decide) (fun E' M' h => h.1) [] ⟨0, 5, 6, 23⟩ [] htb (fun z hz => by cases hz) rfl (by decide) kL_23 dL_retire_6 (by decide) (fun M9 hp9 _ _ => ?_)
  obtain ⟨-, rfl⟩ := hp9
  refine a_bipush (v := (-101)) C dL_retire_7 (by decide) ?_
  exact a_iret C hr rfl dL_retire_9 rfl rfl ⟨w, rfl, rfl, rfl⟩
theorem cwL_give : aCodeW yL_give cL_give 4 (some .int) [(0, 6, 7, 23), (0, 6, 11, 16)] := ⟨gw_in (List.mem_of_getElem? (i := 638) (by decide +kernel)) rfl, gw_in (List.mem_of_getElem? (i := 37) (by decide +kernel)) rfl, by decide +kernel, by decide +kernel, by decide +kernel⟩
theorem H_give {w : Wd} {x0 x1 : Int32} {fr lo : Nat} {P : Option Value → Wd → Prop} (hK : CF yX6_give cX6_give 5 (some .int) fr lo [.ref 0, .int x0, .int x1] w P) (hP : ∀ r w', P r w' → ∃ v, r = some (.int v)) :
    CLW yL_give cL_give 4 [(0, 6, 7, 23), (0, 6, 11, 16)] (fr + 1) (24 + lo) [.ref 0, .int x0, .int x1] w 0 0 P := by
  intro ex us
  refine CW.of cwL_give (Nat.le_of_ble_eq_true rfl) (fun G9 p9 l9 e9 s9 m9 ar9 be9 me9 co9 C hfl htb hr => ?_)
  refine a_pad 1 ?_
  refine a_eq (L' := [some (.ref 0), some (.int x0), some (.int x1), none]) rfl rfl rfl ?_
  refine a_aload_n C dL_give_0 rfl rfl ?_
  refine a_iload_n C dL_give_1 rfl rfl ?_
  refine a_iload_n C dL_give_2 rfl rfl ?_
  refine a_callV C [.int x0, .int x1] 6 (hK ex us) vL_29 (tw (show 0 < 207 by decide)) (by decide) (show fz w 0 = .inr (6, _) from rfl) rfl dL_give_3 rfl (Nat.le_of_ble_eq_true rfl) ⟨Nat.le_refl _, by show 8 + (5 + 11) + lo ≤ 24 + lo; omega⟩ ⟨by show 207 + ex.1 + ex.2 + 0 ≤ 207 + ex.1 + ex.2 + 0; omega, by show us + 0 ≤ us + 0; omega⟩ (fun r9 M9 hp9 _ _ => ?_)
  obtain ⟨w9, rfl, hp9⟩ := hp9
  obtain ⟨v, rfl⟩ := hP _ _ hp9
  refine a_eq (st' := [.int v]) rfl rfl rfl ?_
  exact a_iret C hr rfl dL_give_6 rfl rfl ⟨w9, rfl, hp9⟩
theorem T_give_0 {w : Wd} {x0 x1 : Int32} {fr lo : Nat} (hK : CXF yX6_give cX6_give 5 (some .int) fr lo [.ref 0, .int x0, .int x1] w "java/lang/IndexOutOfBoundsException") :
    CLW yL_give cL_give 4 [(0, 6, 7, 23), (0, 6, 11, 16)] (fr + 1) (24 + lo) [.ref 0, .int x0, .int x1] w 1 6 (fun r w' => r = some (.int (-101)) ∧ w' = w) := by
  intro ex us
  refine CW.of cwL_give (Nat.le_of_ble_eq_true rfl) (fun G9 p9 l9 e9 s9 m9 ar9 be9 me9 co9 C hfl htb hr => ?_)
  refine a_pad 1 ?_
  refine a_eq (L' := [some (.ref 0), some (.int x0), some (.int x1), none]) rfl rfl rfl ?_
  refine a_aload_n C dL_give_0 rfl rfl ?_
  refine a_iload_n C dL_give_1 rfl rfl ?_
  refine a_iload_n C dL_give_2 rfl rfl ?_
  refine a_xcatN C hfl [.int x0, .int x1] 6 (hK ex us) vL_29 (tw (show 0 < 207 by decide)) (by decide) (show fz w 0 = .inr (6, _) from rfl) rfl dL_give_3 rfl (Nat.le_of_ble_eq_true rfl) ⟨Nat.le_refl _, by show 8 + (5 + 11) + lo ≤ 24 + lo; omega⟩ ⟨by show 207 + ex.1 + ex.2 + 1 ≤ 207 + ex.1 + ex.2 + 1; omega, by show us + 6 ≤ us + 6; omega⟩ (E := "java/lang/IndexOutOfBoundsException") (by decide) (fun E' M' h => h.1) [] ⟨0, 6, 7, 23⟩ [⟨0, 6, 11, 16⟩] htb (fun z hz => by cases hz) rfl (by decide) kL_23 dL_give_7 (by decide) (fun M9 hp9 _ _ => ?_)
  obtain ⟨-, rfl⟩ := hp9
  refine a_bipush (v := (-101)) C dL_give_8 (by decide) ?_
  exact a_iret C hr rfl dL_give_10 rfl rfl ⟨w, rfl, rfl, rfl⟩
theorem T_give_1 {w : Wd} {x0 x1 : Int32} {fr lo : Nat} (hK : CXF yX6_give cX6_give 5 (some .int) fr lo [.ref 0, .int x0, .int x1] w "java/lang/IllegalArgumentException") :
    CLW yL_give cL_give 4 [(0, 6, 7, 23), (0, 6, 11, 16)] (fr + 1) (24 + lo) [.ref 0, .int x0, .int x1] w 1 6 (fun r w' => r = some (.int (-102)) ∧ w' = w) := by
  intro ex us
  refine CW.of cwL_give (Nat.le_of_ble_eq_true rfl) (fun G9 p9 l9 e9 s9 m9 ar9 be9 me9 co9 C hfl htb hr => ?_)
  refine a_pad 1 ?_
  refine a_eq (L' := [some (.ref 0), some (.int x0), some (.int x1), none]) rfl rfl rfl ?_
  refine a_aload_n C dL_give_0 rfl rfl ?_
  refine a_iload_n C dL_give_1 rfl rfl ?_
  refine a_iload_n C dL_give_2 rfl rfl ?_
  refine a_xcatN C hfl [.int x0, .int x1] 6 (hK ex us) vL_29 (tw (show 0 < 207 by decide)) (by decide) (show fz w 0 = .inr (6, _) from rfl) rfl dL_give_3 rfl (Nat.le_of_ble_eq_true rfl) ⟨Nat.le_refl _, by show 8 + (5 + 11) + lo ≤ 24 + lo; omega⟩ ⟨by show 207 + ex.1 + ex.2 + 1 ≤ 207 + ex.1 + ex.2 + 1; omega, by show us + 6 ≤ us + 6; omega⟩ (E := "java/lang/IllegalArgumentException") (by decide) (fun E' M' h => h.1) [⟨0, 6, 7, 23⟩] ⟨0, 6, 11, 16⟩ [] htb (fun z hz => by
    rcases List.mem_cons.mp hz with rfl | hz
    · exact Or.inr ⟨by decide, "java/lang/IndexOutOfBoundsException", by decide, by decide, kL_23⟩
    cases hz) rfl (by decide) kL_16 dL_give_11 (by decide) (fun M9 hp9 _ _ => ?_)
  obtain ⟨-, rfl⟩ := hp9
  refine a_bipush (v := (-102)) C dL_give_12 (by decide) ?_
  exact a_iret C hr rfl dL_give_14 rfl rfl ⟨w, rfl, rfl, rfl⟩
theorem cwL_lose : aCodeW yL_lose cL_lose 3 (some .int) [(0, 5, 6, 23), (0, 5, 10, 18)] := ⟨gw_in (List.mem_of_getElem? (i := 646) (by decide +kernel)) rfl, gw_in (List.mem_of_getElem? (i := 37) (by decide +kernel)) rfl, by decide +kernel, by decide +kernel, by decide +kernel⟩
theorem H_lose {w : Wd} {x0 : Int32} {fr lo : Nat} {P : Option Value → Wd → Prop} (hK : CF yX6_lose cX6_lose 2 (some .int) fr lo [.ref 0, .int x0] w P) (hP : ∀ r w', P r w' → ∃ v, r = some (.int v)) :
    CLW yL_lose cL_lose 3 [(0, 5, 6, 23), (0, 5, 10, 18)] (fr + 1) (21 + lo) [.ref 0, .int x0] w 0 0 P := by
  intro ex us
  refine CW.of cwL_lose (Nat.le_of_ble_eq_true rfl) (fun G9 p9 l9 e9 s9 m9 ar9 be9 me9 co9 C hfl htb hr => ?_)
  refine a_pad 1 ?_
  refine a_eq (L' := [some (.ref 0), some (.int x0), none]) rfl rfl rfl ?_
  refine a_aload_n C dL_lose_0 rfl rfl ?_
  refine a_iload_n C dL_lose_1 rfl rfl ?_
  refine a_callV C [.int x0] 6 (hK ex us) vL_32 (tw (show 0 < 207 by decide)) (by decide) (show fz w 0 = .inr (6, _) from rfl) rfl dL_lose_2 rfl (Nat.le_of_ble_eq_true rfl) ⟨Nat.le_refl _, by show 8 + (2 + 11) + lo ≤ 21 + lo; omega⟩ ⟨by show 207 + ex.1 + ex.2 + 0 ≤ 207 + ex.1 + ex.2 + 0; omega, by show us + 0 ≤ us + 0; omega⟩ (fun r9 M9 hp9 _ _ => ?_)
  obtain ⟨w9, rfl, hp9⟩ := hp9
  obtain ⟨v, rfl⟩ := hP _ _ hp9
  refine a_eq (st' := [.int v]) rfl rfl rfl ?_
  exact a_iret C hr rfl dL_lose_5 rfl rfl ⟨w9, rfl, hp9⟩
theorem T_lose_0 {w : Wd} {x0 : Int32} {fr lo : Nat} (hK : CXF yX6_lose cX6_lose 2 (some .int) fr lo [.ref 0, .int x0] w "java/lang/IndexOutOfBoundsException") :
    CLW yL_lose cL_lose 3 [(0, 5, 6, 23), (0, 5, 10, 18)] (fr + 1) (21 + lo) [.ref 0, .int x0] w 1 6 (fun r w' => r = some (.int (-101)) ∧ w' = w) := by
  intro ex us
  refine CW.of cwL_lose (Nat.le_of_ble_eq_true rfl) (fun G9 p9 l9 e9 s9 m9 ar9 be9 me9 co9 C hfl htb hr => ?_)
  refine a_pad 1 ?_
  refine a_eq (L' := [some (.ref 0), some (.int x0), none]) rfl rfl rfl ?_
  refine a_aload_n C dL_lose_0 rfl rfl ?_
  refine a_iload_n C dL_lose_1 rfl rfl ?_
  refine a_xcatN C hfl [.int x0] 6 (hK ex us) vL_32 (tw (show 0 < 207 by decide)) (by decide) (show fz w 0 = .inr (6, _) from rfl) rfl dL_lose_2 rfl (Nat.le_of_ble_eq_true rfl) ⟨Nat.le_refl _, by show 8 + (2 + 11) + lo ≤ 21 + lo; omega⟩ ⟨by show 207 + ex.1 + ex.2 + 1 ≤ 207 + ex.1 + ex.2 + 1; omega, by show us + 6 ≤ us + 6; omega⟩ (E := "java/lang/IndexOutOfBoundsException") (by decide) (fun E' M' h => h.1) [] ⟨0, 5, 6, 23⟩ [⟨0, 5, 10, 18⟩] htb (fun z hz => by cases hz) rfl (by decide) kL_23 dL_lose_6 (by decide) (fun M9 hp9 _ _ => ?_)
  obtain ⟨-, rfl⟩ := hp9
  refine a_bipush (v := (-101)) C dL_lose_7 (by decide) ?_
  exact a_iret C hr rfl dL_lose_9 rfl rfl ⟨w, rfl, rfl, rfl⟩
theorem T_lose_1 {w : Wd} {x0 : Int32} {fr lo : Nat} (hK : CXF yX6_lose cX6_lose 2 (some .int) fr lo [.ref 0, .int x0] w "java/lang/IllegalStateException") :
    CLW yL_lose cL_lose 3 [(0, 5, 6, 23), (0, 5, 10, 18)] (fr + 1) (21 + lo) [.ref 0, .int x0] w 1 6 (fun r w' => r = some (.int (-103)) ∧ w' = w) := by
  intro ex us
  refine CW.of cwL_lose (Nat.le_of_ble_eq_true rfl) (fun G9 p9 l9 e9 s9 m9 ar9 be9 me9 co9 C hfl htb hr => ?_)
  refine a_pad 1 ?_
  refine a_eq (L' := [some (.ref 0), some (.int x0), none]) rfl rfl rfl ?_
  refine a_aload_n C dL_lose_0 rfl rfl ?_
  refine a_iload_n C dL_lose_1 rfl rfl ?_
  refine a_xcatN C hfl [.int x0] 6 (hK ex us) vL_32 (tw (show 0 < 207 by decide)) (by decide) (show fz w 0 = .inr (6, _) from rfl) rfl dL_lose_2 rfl (Nat.le_of_ble_eq_true rfl) ⟨Nat.le_refl _, by show 8 + (2 + 11) + lo ≤ 21 + lo; omega⟩ ⟨by show 207 + ex.1 + ex.2 + 1 ≤ 207 + ex.1 + ex.2 + 1; omega, by show us + 6 ≤ us + 6; omega⟩ (E := "java/lang/IllegalStateException") (by decide) (fun E' M' h => h.1) [⟨0, 5, 6, 23⟩] ⟨0, 5, 10, 18⟩ [] htb (fun z hz => by
    rcases List.mem_cons.mp hz with rfl | hz
    · exact Or.inr ⟨by decide, "java/lang/IndexOutOfBoundsException", by decide, by decide, kL_23⟩
    cases hz) rfl (by decide) kL_18 dL_lose_10 (by decide) (fun M9 hp9 _ _ => ?_)
  obtain ⟨-, rfl⟩ := hp9
  refine a_bipush (v := (-103)) C dL_lose_11 (by decide) ?_
  exact a_iret C hr rfl dL_lose_13 rfl rfl ⟨w, rfl, rfl, rfl⟩
theorem cwL_find : aCodeW yL_find cL_find 3 (some .int) [(0, 5, 6, 23), (0, 5, 10, 18)] := ⟨gw_in (List.mem_of_getElem? (i := 660) (by decide +kernel)) rfl, gw_in (List.mem_of_getElem? (i := 37) (by decide +kernel)) rfl, by decide +kernel, by decide +kernel, by decide +kernel⟩
theorem H_find {w : Wd} {x0 : Int32} {fr lo : Nat} {P : Option Value → Wd → Prop} (hK : CF yX6_find cX6_find 2 (some .int) fr lo [.ref 0, .int x0] w P) (hP : ∀ r w', P r w' → ∃ v, r = some (.int v)) :
    CLW yL_find cL_find 3 [(0, 5, 6, 23), (0, 5, 10, 18)] (fr + 1) (21 + lo) [.ref 0, .int x0] w 0 0 P := by
  intro ex us
  refine CW.of cwL_find (Nat.le_of_ble_eq_true rfl) (fun G9 p9 l9 e9 s9 m9 ar9 be9 me9 co9 C hfl htb hr => ?_)
  refine a_pad 1 ?_
  refine a_eq (L' := [some (.ref 0), some (.int x0), none]) rfl rfl rfl ?_
  refine a_aload_n C dL_find_0 rfl rfl ?_
  refine a_iload_n C dL_find_1 rfl rfl ?_
  refine a_callV C [.int x0] 6 (hK ex us) vL_35 (tw (show 0 < 207 by decide)) (by decide) (show fz w 0 = .inr (6, _) from rfl) rfl dL_find_2 rfl (Nat.le_of_ble_eq_true rfl) ⟨Nat.le_refl _, by show 8 + (2 + 11) + lo ≤ 21 + lo; omega⟩ ⟨by show 207 + ex.1 + ex.2 + 0 ≤ 207 + ex.1 + ex.2 + 0; omega, by show us + 0 ≤ us + 0; omega⟩ (fun r9 M9 hp9 _ _ => ?_)
  obtain ⟨w9, rfl, hp9⟩ := hp9
  obtain ⟨v, rfl⟩ := hP _ _ hp9
  refine a_eq (st' := [.int v]) rfl rfl rfl ?_
  exact a_iret C hr rfl dL_find_5 rfl rfl ⟨w9, rfl, hp9⟩
theorem T_find_0 {w : Wd} {x0 : Int32} {fr lo : Nat} (hK : CXF yX6_find cX6_find 2 (some .int) fr lo [.ref 0, .int x0] w "java/lang/IndexOutOfBoundsException") :
    CLW yL_find cL_find 3 [(0, 5, 6, 23), (0, 5, 10, 18)] (fr + 1) (21 + lo) [.ref 0, .int x0] w 1 6 (fun r w' => r = some (.int (-101)) ∧ w' = w) := by
  intro ex us
  refine CW.of cwL_find (Nat.le_of_ble_eq_true rfl) (fun G9 p9 l9 e9 s9 m9 ar9 be9 me9 co9 C hfl htb hr => ?_)
  refine a_pad 1 ?_
  refine a_eq (L' := [some (.ref 0), some (.int x0), none]) rfl rfl rfl ?_
  refine a_aload_n C dL_find_0 rfl rfl ?_
  refine a_iload_n C dL_find_1 rfl rfl ?_
  refine a_xcatN C hfl [.int x0] 6 (hK ex us) vL_35 (tw (show 0 < 207 by decide)) (by decide) (show fz w 0 = .inr (6, _) from rfl) rfl dL_find_2 rfl (Nat.le_of_ble_eq_true rfl) ⟨Nat.le_refl _, by show 8 + (2 + 11) + lo ≤ 21 + lo; omega⟩ ⟨by show 207 + ex.1 + ex.2 + 1 ≤ 207 + ex.1 + ex.2 + 1; omega, by show us + 6 ≤ us + 6; omega⟩ (E := "java/lang/IndexOutOfBoundsException") (by decide) (fun E' M' h => h.1) [] ⟨0, 5, 6, 23⟩ [⟨0, 5, 10, 18⟩] htb (fun z hz => by cases hz) rfl (by decide) kL_23 dL_find_6 (by decide) (fun M9 hp9 _ _ => ?_)
  obtain ⟨-, rfl⟩ := hp9
  refine a_bipush (v := (-101)) C dL_find_7 (by decide) ?_
  exact a_iret C hr rfl dL_find_9 rfl rfl ⟨w, rfl, rfl, rfl⟩
theorem T_find_1 {w : Wd} {x0 : Int32} {fr lo : Nat} (hK : CXF yX6_find cX6_find 2 (some .int) fr lo [.ref 0, .int x0] w "java/lang/IllegalStateException") :
    CLW yL_find cL_find 3 [(0, 5, 6, 23), (0, 5, 10, 18)] (fr + 1) (21 + lo) [.ref 0, .int x0] w 1 6 (fun r w' => r = some (.int (-103)) ∧ w' = w) := by
  intro ex us
  refine CW.of cwL_find (Nat.le_of_ble_eq_true rfl) (fun G9 p9 l9 e9 s9 m9 ar9 be9 me9 co9 C hfl htb hr => ?_)
  refine a_pad 1 ?_
  refine a_eq (L' := [some (.ref 0), some (.int x0), none]) rfl rfl rfl ?_
  refine a_aload_n C dL_find_0 rfl rfl ?_
  refine a_iload_n C dL_find_1 rfl rfl ?_
  refine a_xcatN C hfl [.int x0] 6 (hK ex us) vL_35 (tw (show 0 < 207 by decide)) (by decide) (show fz w 0 = .inr (6, _) from rfl) rfl dL_find_2 rfl (Nat.le_of_ble_eq_true rfl) ⟨Nat.le_refl _, by show 8 + (2 + 11) + lo ≤ 21 + lo; omega⟩ ⟨by show 207 + ex.1 + ex.2 + 1 ≤ 207 + ex.1 + ex.2 + 1; omega, by show us + 6 ≤ us + 6; omega⟩ (E := "java/lang/IllegalStateException") (by decide) (fun E' M' h => h.1) [⟨0, 5, 6, 23⟩] ⟨0, 5, 10, 18⟩ [] htb (fun z hz => by
    rcases List.mem_cons.mp hz with rfl | hz
    · exact Or.inr ⟨by decide, "java/lang/IndexOutOfBoundsException", by decide, by decide, kL_23⟩
    cases hz) rfl (by decide) kL_18 dL_find_10 (by decide) (fun M9 hp9 _ _ => ?_)
  obtain ⟨-, rfl⟩ := hp9
  refine a_bipush (v := (-103)) C dL_find_11 (by decide) ?_
  exact a_iret C hr rfl dL_find_13 rfl rfl ⟨w, rfl, rfl, rfl⟩
theorem cwL_ward : aCodeW yL_ward cL_ward 4 (some .int) [(0, 6, 7, 23), (0, 6, 11, 16)] := ⟨gw_in (List.mem_of_getElem? (i := 668) (by decide +kernel)) rfl, gw_in (List.mem_of_getElem? (i := 37) (by decide +kernel)) rfl, by decide +kernel, by decide +kernel, by decide +kernel⟩
theorem H_ward {w : Wd} {x0 x1 : Int32} {fr lo : Nat} {P : Option Value → Wd → Prop} (hK : CF yX6_ward cX6_ward 4 (some .int) fr lo [.ref 0, .int x0, .int x1] w P) (hP : ∀ r w', P r w' → ∃ v, r = some (.int v)) :
    CLW yL_ward cL_ward 4 [(0, 6, 7, 23), (0, 6, 11, 16)] (fr + 1) (23 + lo) [.ref 0, .int x0, .int x1] w 0 0 P := by
  intro ex us
  refine CW.of cwL_ward (Nat.le_of_ble_eq_true rfl) (fun G9 p9 l9 e9 s9 m9 ar9 be9 me9 co9 C hfl htb hr => ?_)
  refine a_pad 1 ?_
  refine a_eq (L' := [some (.ref 0), some (.int x0), some (.int x1), none]) rfl rfl rfl ?_
  refine a_aload_n C dL_ward_0 rfl rfl ?_
  refine a_iload_n C dL_ward_1 rfl rfl ?_
  refine a_iload_n C dL_ward_2 rfl rfl ?_
  refine a_callV C [.int x0, .int x1] 6 (hK ex us) vL_38 (tw (show 0 < 207 by decide)) (by decide) (show fz w 0 = .inr (6, _) from rfl) rfl dL_ward_3 rfl (Nat.le_of_ble_eq_true rfl) ⟨Nat.le_refl _, by show 8 + (4 + 11) + lo ≤ 23 + lo; omega⟩ ⟨by show 207 + ex.1 + ex.2 + 0 ≤ 207 + ex.1 + ex.2 + 0; omega, by show us + 0 ≤ us + 0; omega⟩ (fun r9 M9 hp9 _ _ => ?_)
  obtain ⟨w9, rfl, hp9⟩ := hp9
  obtain ⟨v, rfl⟩ := hP _ _ hp9
  refine a_eq (st' := [.int v]) rfl rfl rfl ?_
  exact a_iret C hr rfl dL_ward_6 rfl rfl ⟨w9, rfl, hp9⟩
theorem T_ward_0 {w : Wd} {x0 x1 : Int32} {fr lo : Nat} (hK : CXF yX6_ward cX6_ward 4 (some .int) fr lo [.ref 0, .int x0, .int x1] w "java/lang/IndexOutOfBoundsException") :
    CLW yL_ward cL_ward 4 [(0, 6, 7, 23), (0, 6, 11, 16)] (fr + 1) (23 + lo) [.ref 0, .int x0, .int x1] w 1 6 (fun r w' => r = some (.int (-101)) ∧ w' = w) := by
  intro ex us
  refine CW.of cwL_ward (Nat.le_of_ble_eq_true rfl) (fun G9 p9 l9 e9 s9 m9 ar9 be9 me9 co9 C hfl htb hr => ?_)
  refine a_pad 1 ?_
  refine a_eq (L' := [some (.ref 0), some (.int x0), some (.int x1), none]) rfl rfl rfl ?_
  refine a_aload_n C dL_ward_0 rfl rfl ?_
  refine a_iload_n C dL_ward_1 rfl rfl ?_
  refine a_iload_n C dL_ward_2 rfl rfl ?_
  refine a_xcatN C hfl [.int x0, .int x1] 6 (hK ex us) vL_38 (tw (show 0 < 207 by decide)) (by decide) (show fz w 0 = .inr (6, _) from rfl) rfl dL_ward_3 rfl (Nat.le_of_ble_eq_true rfl) ⟨Nat.le_refl _, by show 8 + (4 + 11) + lo ≤ 23 + lo; omega⟩ ⟨by show 207 + ex.1 + ex.2 + 1 ≤ 207 + ex.1 + ex.2 + 1; omega, by show us + 6 ≤ us + 6; omega⟩ (E := "java/lang/IndexOutOfBoundsException") (by decide) (fun E' M' h => h.1) [] ⟨0, 6, 7, 23⟩ [⟨0, 6, 11, 16⟩] htb (fun z hz => by cases hz) rfl (by decide) kL_23 dL_ward_7 (by decide) (fun M9 hp9 _ _ => ?_)
  obtain ⟨-, rfl⟩ := hp9
  refine a_bipush (v := (-101)) C dL_ward_8 (by decide) ?_
  exact a_iret C hr rfl dL_ward_10 rfl rfl ⟨w, rfl, rfl, rfl⟩
theorem T_ward_1 {w : Wd} {x0 x1 : Int32} {fr lo : Nat} (hK : CXF yX6_ward cX6_ward 4 (some .int) fr lo [.ref 0, .int x0, .int x1] w "java/lang/IllegalArgumentException") :
    CLW yL_ward cL_ward 4 [(0, 6, 7, 23), (0, 6, 11, 16)] (fr + 1) (23 + lo) [.ref 0, .int x0, .int x1] w 1 6 (fun r w' => r = some (.int (-102)) ∧ w' = w) := by
  intro ex us
  refine CW.of cwL_ward (Nat.le_of_ble_eq_true rfl) (fun G9 p9 l9 e9 s9 m9 ar9 be9 me9 co9 C hfl htb hr => ?_)
  refine a_pad 1 ?_
  refine a_eq (L' := [some (.ref 0), some (.int x0), some (.int x1), none]) rfl rfl rfl ?_
  refine a_aload_n C dL_ward_0 rfl rfl ?_
  refine a_iload_n C dL_ward_1 rfl rfl ?_
  refine a_iload_n C dL_ward_2 rfl rfl ?_
  refine a_xcatN C hfl [.int x0, .int x1] 6 (hK ex us) vL_38 (tw (show 0 < 207 by decide)) (by decide) (show fz w 0 = .inr (6, _) from rfl) rfl dL_ward_3 rfl (Nat.le_of_ble_eq_true rfl) ⟨Nat.le_refl _, by show 8 + (4 + 11) + lo ≤ 23 + lo; omega⟩ ⟨by show 207 + ex.1 + ex.2 + 1 ≤ 207 + ex.1 + ex.2 + 1; omega, by show us + 6 ≤ us + 6; omega⟩ (E := "java/lang/IllegalArgumentException") (by decide) (fun E' M' h => h.1) [⟨0, 6, 7, 23⟩] ⟨0, 6, 11, 16⟩ [] htb (fun z hz => by
    rcases List.mem_cons.mp hz with rfl | hz
    · exact Or.inr ⟨by decide, "java/lang/IndexOutOfBoundsException", by decide, by decide, kL_23⟩
    cases hz) rfl (by decide) kL_16 dL_ward_11 (by decide) (fun M9 hp9 _ _ => ?_)
  obtain ⟨-, rfl⟩ := hp9
  refine a_bipush (v := (-102)) C dL_ward_12 (by decide) ?_
  exact a_iret C hr rfl dL_ward_14 rfl rfl ⟨w, rfl, rfl, rfl⟩
theorem cwL_guest : aCodeW yL_guest cL_guest 4 (some .int) [(0, 6, 7, 23), (0, 6, 11, 16), (0, 6, 15, 18)] := ⟨gw_in (List.mem_of_getElem? (i := 676) (by decide +kernel)) rfl, gw_in (List.mem_of_getElem? (i := 37) (by decide +kernel)) rfl, by decide +kernel, by decide +kernel, by decide +kernel⟩
theorem H_guest {w : Wd} {x0 x1 : Int32} {fr lo : Nat} {P : Option Value → Wd → Prop} (hK : CF yX6_guest cX6_guest 4 (some .int) fr lo [.ref 0, .int x0, .int x1] w P) (hP : ∀ r w', P r w' → ∃ v, r = some (.int v)) :
    CLW yL_guest cL_guest 4 [(0, 6, 7, 23), (0, 6, 11, 16), (0, 6, 15, 18)] (fr + 1) (23 + lo) [.ref 0, .int x0, .int x1] w 0 0 P := by
  intro ex us
  refine CW.of cwL_guest (Nat.le_of_ble_eq_true rfl) (fun G9 p9 l9 e9 s9 m9 ar9 be9 me9 co9 C hfl htb hr => ?_)
  refine a_pad 1 ?_
  refine a_eq (L' := [some (.ref 0), some (.int x0), some (.int x1), none]) rfl rfl rfl ?_
  refine a_aload_n C dL_guest_0 rfl rfl ?_
  refine a_iload_n C dL_guest_1 rfl rfl ?_
  refine a_iload_n C dL_guest_2 rfl rfl ?_
  refine a_callV C [.int x0, .int x1] 6 (hK ex us) vL_41 (tw (show 0 < 207 by decide)) (by decide) (show fz w 0 = .inr (6, _) from rfl) rfl dL_guest_3 rfl (Nat.le_of_ble_eq_true rfl) ⟨Nat.le_refl _, by show 8 + (4 + 11) + lo ≤ 23 + lo; omega⟩ ⟨by show 207 + ex.1 + ex.2 + 0 ≤ 207 + ex.1 + ex.2 + 0; omega, by show us + 0 ≤ us + 0; omega⟩ (fun r9 M9 hp9 _ _ => ?_)
  obtain ⟨w9, rfl, hp9⟩ := hp9
  obtain ⟨v, rfl⟩ := hP _ _ hp9
  refine a_eq (st' := [.int v]) rfl rfl rfl ?_
  exact a_iret C hr rfl dL_guest_6 rfl rfl ⟨w9, rfl, hp9⟩
theorem T_guest_0 {w : Wd} {x0 x1 : Int32} {fr lo : Nat} (hK : CXF yX6_guest cX6_guest 4 (some .int) fr lo [.ref 0, .int x0, .int x1] w "java/lang/IndexOutOfBoundsException") :
    CLW yL_guest cL_guest 4 [(0, 6, 7, 23), (0, 6, 11, 16), (0, 6, 15, 18)] (fr + 1) (23 + lo) [.ref 0, .int x0, .int x1] w 1 6 (fun r w' => r = some (.int (-101)) ∧ w' = w) := by
  intro ex us
  refine CW.of cwL_guest (Nat.le_of_ble_eq_true rfl) (fun G9 p9 l9 e9 s9 m9 ar9 be9 me9 co9 C hfl htb hr => ?_)
  refine a_pad 1 ?_
  refine a_eq (L' := [some (.ref 0), some (.int x0), some (.int x1), none]) rfl rfl rfl ?_
  refine a_aload_n C dL_guest_0 rfl rfl ?_
  refine a_iload_n C dL_guest_1 rfl rfl ?_
  refine a_iload_n C dL_guest_2 rfl rfl ?_
  refine a_xcatN C hfl [.int x0, .int x1] 6 (hK ex us) vL_41 (tw (show 0 < 207 by decide)) (by decide) (show fz w 0 = .inr (6, _) from rfl) rfl dL_guest_3 rfl (Nat.le_of_ble_eq_true rfl) ⟨Nat.le_refl _, by show 8 + (4 + 11) + lo ≤ 23 + lo; omega⟩ ⟨by show 207 + ex.1 + ex.2 + 1 ≤ 207 + ex.1 + ex.2 + 1; omega, by show us + 6 ≤ us + 6; omega⟩ (E := "java/lang/IndexOutOfBoundsException") (by decide) (fun E' M' h => h.1) [] ⟨0, 6, 7, 23⟩ [⟨0, 6, 11, 16⟩, ⟨0, 6, 15, 18⟩] htb (fun z hz => by cases hz) rfl (by decide) kL_23 dL_guest_7 (by decide) (fun M9 hp9 _ _ => ?_)
  obtain ⟨-, rfl⟩ := hp9
  refine a_bipush (v := (-101)) C dL_guest_8 (by decide) ?_
  exact a_iret C hr rfl dL_guest_10 rfl rfl ⟨w, rfl, rfl, rfl⟩
theorem T_guest_1 {w : Wd} {x0 x1 : Int32} {fr lo : Nat} (hK : CXF yX6_guest cX6_guest 4 (some .int) fr lo [.ref 0, .int x0, .int x1] w "java/lang/IllegalArgumentException") :
    CLW yL_guest cL_guest 4 [(0, 6, 7, 23), (0, 6, 11, 16), (0, 6, 15, 18)] (fr + 1) (23 + lo) [.ref 0, .int x0, .int x1] w 1 6 (fun r w' => r = some (.int (-102)) ∧ w' = w) := by
  intro ex us
  refine CW.of cwL_guest (Nat.le_of_ble_eq_true rfl) (fun G9 p9 l9 e9 s9 m9 ar9 be9 me9 co9 C hfl htb hr => ?_)
  refine a_pad 1 ?_
  refine a_eq (L' := [some (.ref 0), some (.int x0), some (.int x1), none]) rfl rfl rfl ?_
  refine a_aload_n C dL_guest_0 rfl rfl ?_
  refine a_iload_n C dL_guest_1 rfl rfl ?_
  refine a_iload_n C dL_guest_2 rfl rfl ?_
  refine a_xcatN C hfl [.int x0, .int x1] 6 (hK ex us) vL_41 (tw (show 0 < 207 by decide)) (by decide) (show fz w 0 = .inr (6, _) from rfl) rfl dL_guest_3 rfl (Nat.le_of_ble_eq_true rfl) ⟨Nat.le_refl _, by show 8 + (4 + 11) + lo ≤ 23 + lo; omega⟩ ⟨by show 207 + ex.1 + ex.2 + 1 ≤ 207 + ex.1 + ex.2 + 1; omega, by show us + 6 ≤ us + 6; omega⟩ (E := "java/lang/IllegalArgumentException") (by decide) (fun E' M' h => h.1) [⟨0, 6, 7, 23⟩] ⟨0, 6, 11, 16⟩ [⟨0, 6, 15, 18⟩] htb (fun z hz => by
    rcases List.mem_cons.mp hz with rfl | hz
    · exact Or.inr ⟨by decide, "java/lang/IndexOutOfBoundsException", by decide, by decide, kL_23⟩
    cases hz) rfl (by decide) kL_16 dL_guest_11 (by decide) (fun M9 hp9 _ _ => ?_)
  obtain ⟨-, rfl⟩ := hp9
  refine a_bipush (v := (-102)) C dL_guest_12 (by decide) ?_
  exact a_iret C hr rfl dL_guest_14 rfl rfl ⟨w, rfl, rfl, rfl⟩
theorem T_guest_2 {w : Wd} {x0 x1 : Int32} {fr lo : Nat} (hK : CXF yX6_guest cX6_guest 4 (some .int) fr lo [.ref 0, .int x0, .int x1] w "java/lang/IllegalStateException") :
    CLW yL_guest cL_guest 4 [(0, 6, 7, 23), (0, 6, 11, 16), (0, 6, 15, 18)] (fr + 1) (23 + lo) [.ref 0, .int x0, .int x1] w 1 6 (fun r w' => r = some (.int (-103)) ∧ w' = w) := by
  intro ex us
  refine CW.of cwL_guest (Nat.le_of_ble_eq_true rfl) (fun G9 p9 l9 e9 s9 m9 ar9 be9 me9 co9 C hfl htb hr => ?_)
  refine a_pad 1 ?_
  refine a_eq (L' := [some (.ref 0), some (.int x0), some (.int x1), none]) rfl rfl rfl ?_
  refine a_aload_n C dL_guest_0 rfl rfl ?_
  refine a_iload_n C dL_guest_1 rfl rfl ?_
  refine a_iload_n C dL_guest_2 rfl rfl ?_
  refine a_xcatN C hfl [.int x0, .int x1] 6 (hK ex us) vL_41 (tw (show 0 < 207 by decide)) (by decide) (show fz w 0 = .inr (6, _) from rfl) rfl dL_guest_3 rfl (Nat.le_of_ble_eq_true rfl) ⟨Nat.le_refl _, by show 8 + (4 + 11) + lo ≤ 23 + lo; omega⟩ ⟨by show 207 + ex.1 + ex.2 + 1 ≤ 207 + ex.1 + ex.2 + 1; omega, by show us + 6 ≤ us + 6; omega⟩ (E := "java/lang/IllegalStateException") (by decide) (fun E' M' h => h.1) [⟨0, 6, 7, 23⟩, ⟨0, 6, 11, 16⟩] ⟨0, 6, 15, 18⟩ [] htb (fun z hz => by
    rcases List.mem_cons.mp hz with rfl | hz
    · exact Or.inr ⟨by decide, "java/lang/IndexOutOfBoundsException", by decide, by decide, kL_23⟩
    rcases List.mem_cons.mp hz with rfl | hz
    · exact Or.inr ⟨by decide, "java/lang/IllegalArgumentException", by decide, by decide, kL_16⟩
    cases hz) rfl (by decide) kL_18 dL_guest_15 (by decide) (fun M9 hp9 _ _ => ?_)
  obtain ⟨-, rfl⟩ := hp9
  refine a_bipush (v := (-103)) C dL_guest_16 (by decide) ?_
  exact a_iret C hr rfl dL_guest_18 rfl rfl ⟨w, rfl, rfl, rfl⟩
theorem cwL_take : aCodeW yL_take cL_take 3 (some .int) [(0, 5, 6, 23), (0, 5, 10, 18)] := ⟨gw_in (List.mem_of_getElem? (i := 684) (by decide +kernel)) rfl, gw_in (List.mem_of_getElem? (i := 37) (by decide +kernel)) rfl, by decide +kernel, by decide +kernel, by decide +kernel⟩
theorem H_take {w : Wd} {x0 : Int32} {fr lo : Nat} {P : Option Value → Wd → Prop} (hK : CF yX6_take cX6_take 3 (some .int) fr lo [.ref 0, .int x0] w P) (hP : ∀ r w', P r w' → ∃ v, r = some (.int v)) :
    CLW yL_take cL_take 3 [(0, 5, 6, 23), (0, 5, 10, 18)] (fr + 1) (22 + lo) [.ref 0, .int x0] w 0 0 P := by
  intro ex us
  refine CW.of cwL_take (Nat.le_of_ble_eq_true rfl) (fun G9 p9 l9 e9 s9 m9 ar9 be9 me9 co9 C hfl htb hr => ?_)
  refine a_pad 1 ?_
  refine a_eq (L' := [some (.ref 0), some (.int x0), none]) rfl rfl rfl ?_
  refine a_aload_n C dL_take_0 rfl rfl ?_
  refine a_iload_n C dL_take_1 rfl rfl ?_
  refine a_callV C [.int x0] 6 (hK ex us) vL_44 (tw (show 0 < 207 by decide)) (by decide) (show fz w 0 = .inr (6, _) from rfl) rfl dL_take_2 rfl (Nat.le_of_ble_eq_true rfl) ⟨Nat.le_refl _, by show 8 + (3 + 11) + lo ≤ 22 + lo; omega⟩ ⟨by show 207 + ex.1 + ex.2 + 0 ≤ 207 + ex.1 + ex.2 + 0; omega, by show us + 0 ≤ us + 0; omega⟩ (fun r9 M9 hp9 _ _ => ?_)
  obtain ⟨w9, rfl, hp9⟩ := hp9
  obtain ⟨v, rfl⟩ := hP _ _ hp9
  refine a_eq (st' := [.int v]) rfl rfl rfl ?_
  exact a_iret C hr rfl dL_take_5 rfl rfl ⟨w9, rfl, hp9⟩
theorem T_take_0 {w : Wd} {x0 : Int32} {fr lo : Nat} (hK : CXF yX6_take cX6_take 3 (some .int) fr lo [.ref 0, .int x0] w "java/lang/IndexOutOfBoundsException") :
    CLW yL_take cL_take 3 [(0, 5, 6, 23), (0, 5, 10, 18)] (fr + 1) (22 + lo) [.ref 0, .int x0] w 1 6 (fun r w' => r = some (.int (-101)) ∧ w' = w) := by
  intro ex us
  refine CW.of cwL_take (Nat.le_of_ble_eq_true rfl) (fun G9 p9 l9 e9 s9 m9 ar9 be9 me9 co9 C hfl htb hr => ?_)
  refine a_pad 1 ?_
  refine a_eq (L' := [some (.ref 0), some (.int x0), none]) rfl rfl rfl ?_
  refine a_aload_n C dL_take_0 rfl rfl ?_
  refine a_iload_n C dL_take_1 rfl rfl ?_
  refine a_xcatN C hfl [.int x0] 6 (hK ex us) vL_44 (tw (show 0 < 207 by decide)) (by decide) (show fz w 0 = .inr (6, _) from rfl) rfl dL_take_2 rfl (Nat.le_of_ble_eq_true rfl) ⟨Nat.le_refl _, by show 8 + (3 + 11) + lo ≤ 22 + lo; omega⟩ ⟨by show 207 + ex.1 + ex.2 + 1 ≤ 207 + ex.1 + ex.2 + 1; omega, by show us + 6 ≤ us + 6; omega⟩ (E := "java/lang/IndexOutOfBoundsException") (by decide) (fun E' M' h => h.1) [] ⟨0, 5, 6, 23⟩ [⟨0, 5, 10, 18⟩] htb (fun z hz => by cases hz) rfl (by decide) kL_23 dL_take_6 (by decide) (fun M9 hp9 _ _ => ?_)
  obtain ⟨-, rfl⟩ := hp9
  refine a_bipush (v := (-101)) C dL_take_7 (by decide) ?_
  exact a_iret C hr rfl dL_take_9 rfl rfl ⟨w, rfl, rfl, rfl⟩
theorem T_take_1 {w : Wd} {x0 : Int32} {fr lo : Nat} (hK : CXF yX6_take cX6_take 3 (some .int) fr lo [.ref 0, .int x0] w "java/lang/IllegalStateException") :
    CLW yL_take cL_take 3 [(0, 5, 6, 23), (0, 5, 10, 18)] (fr + 1) (22 + lo) [.ref 0, .int x0] w 1 6 (fun r w' => r = some (.int (-103)) ∧ w' = w) := by
  intro ex us
  refine CW.of cwL_take (Nat.le_of_ble_eq_true rfl) (fun G9 p9 l9 e9 s9 m9 ar9 be9 me9 co9 C hfl htb hr => ?_)
  refine a_pad 1 ?_
  refine a_eq (L' := [some (.ref 0), some (.int x0), none]) rfl rfl rfl ?_
  refine a_aload_n C dL_take_0 rfl rfl ?_
  refine a_iload_n C dL_take_1 rfl rfl ?_
  refine a_xcatN C hfl [.int x0] 6 (hK ex us) vL_44 (tw (show 0 < 207 by decide)) (by decide) (show fz w 0 = .inr (6, _) from rfl) rfl dL_take_2 rfl (Nat.le_of_ble_eq_true rfl) ⟨Nat.le_refl _, by show 8 + (3 + 11) + lo ≤ 22 + lo; omega⟩ ⟨by show 207 + ex.1 + ex.2 + 1 ≤ 207 + ex.1 + ex.2 + 1; omega, by show us + 6 ≤ us + 6; omega⟩ (E := "java/lang/IllegalStateException") (by decide) (fun E' M' h => h.1) [⟨0, 5, 6, 23⟩] ⟨0, 5, 10, 18⟩ [] htb (fun z hz => by
    rcases List.mem_cons.mp hz with rfl | hz
    · exact Or.inr ⟨by decide, "java/lang/IndexOutOfBoundsException", by decide, by decide, kL_23⟩
    cases hz) rfl (by decide) kL_18 dL_take_10 (by decide) (fun M9 hp9 _ _ => ?_)
  obtain ⟨-, rfl⟩ := hp9
  refine a_bipush (v := (-103)) C dL_take_11 (by decide) ?_
  exact a_iret C hr rfl dL_take_13 rfl rfl ⟨w, rfl, rfl, rfl⟩
theorem cwL_turn : aCodeW yL_turn cL_turn 4 (some .int) [(0, 6, 7, 23), (0, 6, 11, 18)] := ⟨gw_in (List.mem_of_getElem? (i := 695) (by decide +kernel)) rfl, gw_in (List.mem_of_getElem? (i := 37) (by decide +kernel)) rfl, by decide +kernel, by decide +kernel, by decide +kernel⟩
theorem H_turn {w : Wd} {x0 x1 : Int32} {fr lo : Nat} {P : Option Value → Wd → Prop} (hK : CF yX6_turn cX6_turn 3 (some .int) fr lo [.ref 0, .int x0, .int x1] w P) (hP : ∀ r w', P r w' → ∃ v, r = some (.int v)) :
    CLW yL_turn cL_turn 4 [(0, 6, 7, 23), (0, 6, 11, 18)] (fr + 1) (22 + lo) [.ref 0, .int x0, .int x1] w 0 0 P := by
  intro ex us
  refine CW.of cwL_turn (Nat.le_of_ble_eq_true rfl) (fun G9 p9 l9 e9 s9 m9 ar9 be9 me9 co9 C hfl htb hr => ?_)
  refine a_pad 1 ?_
  refine a_eq (L' := [some (.ref 0), some (.int x0), some (.int x1), none]) rfl rfl rfl ?_
  refine a_aload_n C dL_turn_0 rfl rfl ?_
  refine a_iload_n C dL_turn_1 rfl rfl ?_
  refine a_iload_n C dL_turn_2 rfl rfl ?_
  refine a_callV C [.int x0, .int x1] 6 (hK ex us) vL_47 (tw (show 0 < 207 by decide)) (by decide) (show fz w 0 = .inr (6, _) from rfl) rfl dL_turn_3 rfl (Nat.le_of_ble_eq_true rfl) ⟨Nat.le_refl _, by show 8 + (3 + 11) + lo ≤ 22 + lo; omega⟩ ⟨by show 207 + ex.1 + ex.2 + 0 ≤ 207 + ex.1 + ex.2 + 0; omega, by show us + 0 ≤ us + 0; omega⟩ (fun r9 M9 hp9 _ _ => ?_)
  obtain ⟨w9, rfl, hp9⟩ := hp9
  obtain ⟨v, rfl⟩ := hP _ _ hp9
  refine a_eq (st' := [.int v]) rfl rfl rfl ?_
  exact a_iret C hr rfl dL_turn_6 rfl rfl ⟨w9, rfl, hp9⟩
theorem T_turn_0 {w : Wd} {x0 x1 : Int32} {fr lo : Nat} (hK : CXF yX6_turn cX6_turn 3 (some .int) fr lo [.ref 0, .int x0, .int x1] w "java/lang/IndexOutOfBoundsException") :
    CLW yL_turn cL_turn 4 [(0, 6, 7, 23), (0, 6, 11, 18)] (fr + 1) (22 + lo) [.ref 0, .int x0, .int x1] w 1 6 (fun r w' => r = some (.int (-101)) ∧ w' = w) := by
  intro ex us
  refine CW.of cwL_turn (Nat.le_of_ble_eq_true rfl) (fun G9 p9 l9 e9 s9 m9 ar9 be9 me9 co9 C hfl htb hr => ?_)
  refine a_pad 1 ?_
  refine a_eq (L' := [some (.ref 0), some (.int x0), some (.int x1), none]) rfl rfl rfl ?_
  refine a_aload_n C dL_turn_0 rfl rfl ?_
  refine a_iload_n C dL_turn_1 rfl rfl ?_
  refine a_iload_n C dL_turn_2 rfl rfl ?_
  refine a_xcatN C hfl [.int x0, .int x1] 6 (hK ex us) vL_47 (tw (show 0 < 207 by decide)) (by decide) (show fz w 0 = .inr (6, _) from rfl) rfl dL_turn_3 rfl (Nat.le_of_ble_eq_true rfl) ⟨Nat.le_refl _, by show 8 + (3 + 11) + lo ≤ 22 + lo; omega⟩ ⟨by show 207 + ex.1 + ex.2 + 1 ≤ 207 + ex.1 + ex.2 + 1; omega, by show us + 6 ≤ us + 6; omega⟩ (E := "java/lang/IndexOutOfBoundsException") (by decide) (fun E' M' h => h.1) [] ⟨0, 6, 7, 23⟩ [⟨0, 6, 11, 18⟩] htb (fun z hz => by cases hz) rfl (by decide) kL_23 dL_turn_7 (by decide) (fun M9 hp9 _ _ => ?_)
  obtain ⟨-, rfl⟩ := hp9
  refine a_bipush (v := (-101)) C dL_turn_8 (by decide) ?_
  exact a_iret C hr rfl dL_turn_10 rfl rfl ⟨w, rfl, rfl, rfl⟩
theorem T_turn_1 {w : Wd} {x0 x1 : Int32} {fr lo : Nat} (hK : CXF yX6_turn cX6_turn 3 (some .int) fr lo [.ref 0, .int x0, .int x1] w "java/lang/IllegalStateException") :
    CLW yL_turn cL_turn 4 [(0, 6, 7, 23), (0, 6, 11, 18)] (fr + 1) (22 + lo) [.ref 0, .int x0, .int x1] w 1 6 (fun r w' => r = some (.int (-103)) ∧ w' = w) := by
  intro ex us
  refine CW.of cwL_turn (Nat.le_of_ble_eq_true rfl) (fun G9 p9 l9 e9 s9 m9 ar9 be9 me9 co9 C hfl htb hr => ?_)
  refine a_pad 1 ?_
  refine a_eq (L' := [some (.ref 0), some (.int x0), some (.int x1), none]) rfl rfl rfl ?_
  refine a_aload_n C dL_turn_0 rfl rfl ?_
  refine a_iload_n C dL_turn_1 rfl rfl ?_
  refine a_iload_n C dL_turn_2 rfl rfl ?_
  refine a_xcatN C hfl [.int x0, .int x1] 6 (hK ex us) vL_47 (tw (show 0 < 207 by decide)) (by decide) (show fz w 0 = .inr (6, _) from rfl) rfl dL_turn_3 rfl (Nat.le_of_ble_eq_true rfl) ⟨Nat.le_refl _, by show 8 + (3 + 11) + lo ≤ 22 + lo; omega⟩ ⟨by show 207 + ex.1 + ex.2 + 1 ≤ 207 + ex.1 + ex.2 + 1; omega, by show us + 6 ≤ us + 6; omega⟩ (E := "java/lang/IllegalStateException") (by decide) (fun E' M' h => h.1) [⟨0, 6, 7, 23⟩] ⟨0, 6, 11, 18⟩ [] htb (fun z hz => by
    rcases List.mem_cons.mp hz with rfl | hz
    · exact Or.inr ⟨by decide, "java/lang/IndexOutOfBoundsException", by decide, by decide, kL_23⟩
    cases hz) rfl (by decide) kL_18 dL_turn_11 (by decide) (fun M9 hp9 _ _ => ?_)
  obtain ⟨-, rfl⟩ := hp9
  refine a_bipush (v := (-103)) C dL_turn_12 (by decide) ?_
  exact a_iret C hr rfl dL_turn_14 rfl rfl ⟨w, rfl, rfl, rfl⟩
theorem cwL_set : aCodeW yL_set cL_set 4 (some .int) [(0, 6, 7, 23), (0, 6, 11, 16)] := ⟨gw_in (List.mem_of_getElem? (i := 712) (by decide +kernel)) rfl, gw_in (List.mem_of_getElem? (i := 37) (by decide +kernel)) rfl, by decide +kernel, by decide +kernel, by decide +kernel⟩
theorem H_set {w : Wd} {x0 x1 : Int32} {fr lo : Nat} {P : Option Value → Wd → Prop} (hK : CF yX6_set cX6_set 4 (some .int) fr lo [.ref 0, .int x0, .int x1] w P) (hP : ∀ r w', P r w' → ∃ v, r = some (.int v)) :
    CLW yL_set cL_set 4 [(0, 6, 7, 23), (0, 6, 11, 16)] (fr + 1) (23 + lo) [.ref 0, .int x0, .int x1] w 0 0 P := by
  intro ex us
  refine CW.of cwL_set (Nat.le_of_ble_eq_true rfl) (fun G9 p9 l9 e9 s9 m9 ar9 be9 me9 co9 C hfl htb hr => ?_)
  refine a_pad 1 ?_
  refine a_eq (L' := [some (.ref 0), some (.int x0), some (.int x1), none]) rfl rfl rfl ?_
  refine a_aload_n C dL_set_0 rfl rfl ?_
  refine a_iload_n C dL_set_1 rfl rfl ?_
  refine a_iload_n C dL_set_2 rfl rfl ?_
  refine a_callV C [.int x0, .int x1] 6 (hK ex us) vL_50 (tw (show 0 < 207 by decide)) (by decide) (show fz w 0 = .inr (6, _) from rfl) rfl dL_set_3 rfl (Nat.le_of_ble_eq_true rfl) ⟨Nat.le_refl _, by show 8 + (4 + 11) + lo ≤ 23 + lo; omega⟩ ⟨by show 207 + ex.1 + ex.2 + 0 ≤ 207 + ex.1 + ex.2 + 0; omega, by show us + 0 ≤ us + 0; omega⟩ (fun r9 M9 hp9 _ _ => ?_)
  obtain ⟨w9, rfl, hp9⟩ := hp9
  obtain ⟨v, rfl⟩ := hP _ _ hp9
  refine a_eq (st' := [.int v]) rfl rfl rfl ?_
  exact a_iret C hr rfl dL_set_6 rfl rfl ⟨w9, rfl, hp9⟩
theorem T_set_0 {w : Wd} {x0 x1 : Int32} {fr lo : Nat} (hK : CXF yX6_set cX6_set 4 (some .int) fr lo [.ref 0, .int x0, .int x1] w "java/lang/IndexOutOfBoundsException") :
    CLW yL_set cL_set 4 [(0, 6, 7, 23), (0, 6, 11, 16)] (fr + 1) (23 + lo) [.ref 0, .int x0, .int x1] w 1 6 (fun r w' => r = some (.int (-101)) ∧ w' = w) := by
  intro ex us
  refine CW.of cwL_set (Nat.le_of_ble_eq_true rfl) (fun G9 p9 l9 e9 s9 m9 ar9 be9 me9 co9 C hfl htb hr => ?_)
  refine a_pad 1 ?_
  refine a_eq (L' := [some (.ref 0), some (.int x0), some (.int x1), none]) rfl rfl rfl ?_
  refine a_aload_n C dL_set_0 rfl rfl ?_
  refine a_iload_n C dL_set_1 rfl rfl ?_
  refine a_iload_n C dL_set_2 rfl rfl ?_
  refine a_xcatN C hfl [.int x0, .int x1] 6 (hK ex us) vL_50 (tw (show 0 < 207 by decide)) (by decide) (show fz w 0 = .inr (6, _) from rfl) rfl dL_set_3 rfl (Nat.le_of_ble_eq_true rfl) ⟨Nat.le_refl _, by show 8 + (4 + 11) + lo ≤ 23 + lo; omega⟩ ⟨by show 207 + ex.1 + ex.2 + 1 ≤ 207 + ex.1 + ex.2 + 1; omega, by show us + 6 ≤ us + 6; omega⟩ (E := "java/lang/IndexOutOfBoundsException") (by decide) (fun E' M' h => h.1) [] ⟨0, 6, 7, 23⟩ [⟨0, 6, 11, 16⟩] htb (fun z hz => by cases hz) rfl (by decide) kL_23 dL_set_7 (by decide) (fun M9 hp9 _ _ => ?_)
  obtain ⟨-, rfl⟩ := hp9
  refine a_bipush (v := (-101)) C dL_set_8 (by decide) ?_
  exact a_iret C hr rfl dL_set_10 rfl rfl ⟨w, rfl, rfl, rfl⟩
theorem T_set_1 {w : Wd} {x0 x1 : Int32} {fr lo : Nat} (hK : CXF yX6_set cX6_set 4 (some .int) fr lo [.ref 0, .int x0, .int x1] w "java/lang/IllegalArgumentException") :
    CLW yL_set cL_set 4 [(0, 6, 7, 23), (0, 6, 11, 16)] (fr + 1) (23 + lo) [.ref 0, .int x0, .int x1] w 1 6 (fun r w' => r = some (.int (-102)) ∧ w' = w) := by
  intro ex us
  refine CW.of cwL_set (Nat.le_of_ble_eq_true rfl) (fun G9 p9 l9 e9 s9 m9 ar9 be9 me9 co9 C hfl htb hr => ?_)
  refine a_pad 1 ?_
  refine a_eq (L' := [some (.ref 0), some (.int x0), some (.int x1), none]) rfl rfl rfl ?_
  refine a_aload_n C dL_set_0 rfl rfl ?_
  refine a_iload_n C dL_set_1 rfl rfl ?_
  refine a_iload_n C dL_set_2 rfl rfl ?_
  refine a_xcatN C hfl [.int x0, .int x1] 6 (hK ex us) vL_50 (tw (show 0 < 207 by decide)) (by decide) (show fz w 0 = .inr (6, _) from rfl) rfl dL_set_3 rfl (Nat.le_of_ble_eq_true rfl) ⟨Nat.le_refl _, by show 8 + (4 + 11) + lo ≤ 23 + lo; omega⟩ ⟨by show 207 + ex.1 + ex.2 + 1 ≤ 207 + ex.1 + ex.2 + 1; omega, by show us + 6 ≤ us + 6; omega⟩ (E := "java/lang/IllegalArgumentException") (by decide) (fun E' M' h => h.1) [⟨0, 6, 7, 23⟩] ⟨0, 6, 11, 16⟩ [] htb (fun z hz => by
    rcases List.mem_cons.mp hz with rfl | hz
    · exact Or.inr ⟨by decide, "java/lang/IndexOutOfBoundsException", by decide, by decide, kL_23⟩
    cases hz) rfl (by decide) kL_16 dL_set_11 (by decide) (fun M9 hp9 _ _ => ?_)
  obtain ⟨-, rfl⟩ := hp9
  refine a_bipush (v := (-102)) C dL_set_12 (by decide) ?_
  exact a_iret C hr rfl dL_set_14 rfl rfl ⟨w, rfl, rfl, rfl⟩
theorem cwL_code : aCodeW yL_code cL_code 4 (some .int) [(0, 6, 7, 16)] := ⟨gw_in (List.mem_of_getElem? (i := 786) (by decide +kernel)) rfl, gw_in (List.mem_of_getElem? (i := 37) (by decide +kernel)) rfl, by decide +kernel, by decide +kernel, by decide +kernel⟩
theorem H_code {w : Wd} {x0 x1 : Int32} {fr lo : Nat} {P : Option Value → Wd → Prop} (hK : CF yX6_code cX6_code 3 (some .int) fr lo [.ref 0, .int x0, .int x1] w P) (hP : ∀ r w', P r w' → ∃ v, r = some (.int v)) :
    CLW yL_code cL_code 4 [(0, 6, 7, 16)] (fr + 1) (22 + lo) [.ref 0, .int x0, .int x1] w 0 0 P := by
  intro ex us
  refine CW.of cwL_code (Nat.le_of_ble_eq_true rfl) (fun G9 p9 l9 e9 s9 m9 ar9 be9 me9 co9 C hfl htb hr => ?_)
  refine a_pad 1 ?_
  refine a_eq (L' := [some (.ref 0), some (.int x0), some (.int x1), none]) rfl rfl rfl ?_
  refine a_aload_n C dL_code_0 rfl rfl ?_
  refine a_iload_n C dL_code_1 rfl rfl ?_
  refine a_iload_n C dL_code_2 rfl rfl ?_
  refine a_callV C [.int x0, .int x1] 6 (hK ex us) vL_66 (tw (show 0 < 207 by decide)) (by decide) (show fz w 0 = .inr (6, _) from rfl) rfl dL_code_3 rfl (Nat.le_of_ble_eq_true rfl) ⟨Nat.le_refl _, by show 8 + (3 + 11) + lo ≤ 22 + lo; omega⟩ ⟨by show 207 + ex.1 + ex.2 + 0 ≤ 207 + ex.1 + ex.2 + 0; omega, by show us + 0 ≤ us + 0; omega⟩ (fun r9 M9 hp9 _ _ => ?_)
  obtain ⟨w9, rfl, hp9⟩ := hp9
  obtain ⟨v, rfl⟩ := hP _ _ hp9
  refine a_eq (st' := [.int v]) rfl rfl rfl ?_
  exact a_iret C hr rfl dL_code_6 rfl rfl ⟨w9, rfl, hp9⟩
theorem T_code_0 {w : Wd} {x0 x1 : Int32} {fr lo : Nat} (hK : CXF yX6_code cX6_code 3 (some .int) fr lo [.ref 0, .int x0, .int x1] w "java/lang/IllegalArgumentException") :
    CLW yL_code cL_code 4 [(0, 6, 7, 16)] (fr + 1) (22 + lo) [.ref 0, .int x0, .int x1] w 1 6 (fun r w' => r = some (.int (-102)) ∧ w' = w) := by
  intro ex us
  refine CW.of cwL_code (Nat.le_of_ble_eq_true rfl) (fun G9 p9 l9 e9 s9 m9 ar9 be9 me9 co9 C hfl htb hr => ?_)
  refine a_pad 1 ?_
  refine a_eq (L' := [some (.ref 0), some (.int x0), some (.int x1), none]) rfl rfl rfl ?_
  refine a_aload_n C dL_code_0 rfl rfl ?_
  refine a_iload_n C dL_code_1 rfl rfl ?_
  refine a_iload_n C dL_code_2 rfl rfl ?_
  refine a_xcatN C hfl [.int x0, .int x1] 6 (hK ex us) vL_66 (tw (show 0 < 207 by decide)) (by decide) (show fz w 0 = .inr (6, _) from rfl) rfl dL_code_3 rfl (Nat.le_of_ble_eq_true rfl) ⟨Nat.le_refl _, by show 8 + (3 + 11) + lo ≤ 22 + lo; omega⟩ ⟨by show 207 + ex.1 + ex.2 + 1 ≤ 207 + ex.1 + ex.2 + 1; omega, by show us + 6 ≤ us + 6; omega⟩ (E := "java/lang/IllegalArgumentException") (by decide) (fun E' M' h => h.1) [] ⟨0, 6, 7, 16⟩ [] htb (fun z hz => by cases hz) rfl (by decide) kL_16 dL_code_7 (by decide) (fun M9 hp9 _ _ => ?_)
  obtain ⟨-, rfl⟩ := hp9
  refine a_bipush (v := (-102)) C dL_code_8 (by decide) ?_
  exact a_iret C hr rfl dL_code_10 rfl rfl ⟨w, rfl, rfl, rfl⟩
theorem cwL_opener : aCodeW yL_opener cL_opener 3 (some .int) [(0, 5, 6, 16)] := ⟨gw_in (List.mem_of_getElem? (i := 801) (by decide +kernel)) rfl, gw_in (List.mem_of_getElem? (i := 37) (by decide +kernel)) rfl, by decide +kernel, by decide +kernel, by decide +kernel⟩
theorem H_opener {w : Wd} {x0 : Int32} {fr lo : Nat} {P : Option Value → Wd → Prop} (hK : CF yX6_opener cX6_opener 5 (some .int) fr lo [.ref 0, .int x0] w P) (hP : ∀ r w', P r w' → ∃ v, r = some (.int v)) :
    CLW yL_opener cL_opener 3 [(0, 5, 6, 16)] (fr + 1) (24 + lo) [.ref 0, .int x0] w 0 0 P := by
  intro ex us
  refine CW.of cwL_opener (Nat.le_of_ble_eq_true rfl) (fun G9 p9 l9 e9 s9 m9 ar9 be9 me9 co9 C hfl htb hr => ?_)
  refine a_pad 1 ?_
  refine a_eq (L' := [some (.ref 0), some (.int x0), none]) rfl rfl rfl ?_
  refine a_aload_n C dL_opener_0 rfl rfl ?_
  refine a_iload_n C dL_opener_1 rfl rfl ?_
  refine a_callV C [.int x0] 6 (hK ex us) vL_84 (tw (show 0 < 207 by decide)) (by decide) (show fz w 0 = .inr (6, _) from rfl) rfl dL_opener_2 rfl (Nat.le_of_ble_eq_true rfl) ⟨Nat.le_refl _, by show 8 + (5 + 11) + lo ≤ 24 + lo; omega⟩ ⟨by show 207 + ex.1 + ex.2 + 0 ≤ 207 + ex.1 + ex.2 + 0; omega, by show us + 0 ≤ us + 0; omega⟩ (fun r9 M9 hp9 _ _ => ?_)
  obtain ⟨w9, rfl, hp9⟩ := hp9
  obtain ⟨v, rfl⟩ := hP _ _ hp9
  refine a_eq (st' := [.int v]) rfl rfl rfl ?_
  exact a_iret C hr rfl dL_opener_5 rfl rfl ⟨w9, rfl, hp9⟩
theorem T_opener_0 {w : Wd} {x0 : Int32} {fr lo : Nat} (hK : CXF yX6_opener cX6_opener 5 (some .int) fr lo [.ref 0, .int x0] w "java/lang/IllegalArgumentException") :
    CLW yL_opener cL_opener 3 [(0, 5, 6, 16)] (fr + 1) (24 + lo) [.ref 0, .int x0] w 1 6 (fun r w' => r = some (.int (-102)) ∧ w' = w) := by
  intro ex us
  refine CW.of cwL_opener (Nat.le_of_ble_eq_true rfl) (fun G9 p9 l9 e9 s9 m9 ar9 be9 me9 co9 C hfl htb hr => ?_)
  refine a_pad 1 ?_
  refine a_eq (L' := [some (.ref 0), some (.int x0), none]) rfl rfl rfl ?_
  refine a_aload_n C dL_opener_0 rfl rfl ?_
  refine a_iload_n C dL_opener_1 rfl rfl ?_
  refine a_xcatN C hfl [.int x0] 6 (hK ex us) vL_84 (tw (show 0 < 207 by decide)) (by decide) (show fz w 0 = .inr (6, _) from rfl) rfl dL_opener_2 rfl (Nat.le_of_ble_eq_true rfl) ⟨Nat.le_refl _, by show 8 + (5 + 11) + lo ≤ 24 + lo; omega⟩ ⟨by show 207 + ex.1 + ex.2 + 1 ≤ 207 + ex.1 + ex.2 + 1; omega, by show us + 6 ≤ us + 6; omega⟩ (E := "java/lang/IllegalArgumentException") (by decide) (fun E' M' h => h.1) [] ⟨0, 5, 6, 16⟩ [] htb (fun z hz => by cases hz) rfl (by decide) kL_16 dL_opener_6 (by decide) (fun M9 hp9 _ _ => ?_)
  obtain ⟨-, rfl⟩ := hp9
  refine a_bipush (v := (-102)) C dL_opener_7 (by decide) ?_
  exact a_iret C hr rfl dL_opener_9 rfl rfl ⟨w, rfl, rfl, rfl⟩
theorem cwL_why : aCodeW yL_why cL_why 4 (some .int) [(0, 6, 7, 23)] := ⟨gw_in (List.mem_of_getElem? (i := 820) (by decide +kernel)) rfl, gw_in (List.mem_of_getElem? (i := 37) (by decide +kernel)) rfl, by decide +kernel, by decide +kernel, by decide +kernel⟩
theorem H_why {w : Wd} {x0 x1 : Int32} {fr lo : Nat} {P : Option Value → Wd → Prop} (hK : CF yX6_why cX6_why 3 (some .int) fr lo [.ref 0, .int x0, .int x1] w P) (hP : ∀ r w', P r w' → ∃ v, r = some (.int v)) :
    CLW yL_why cL_why 4 [(0, 6, 7, 23)] (fr + 1) (22 + lo) [.ref 0, .int x0, .int x1] w 0 0 P := by
  intro ex us
  refine CW.of cwL_why (Nat.le_of_ble_eq_true rfl) (fun G9 p9 l9 e9 s9 m9 ar9 be9 me9 co9 C hfl htb hr => ?_)
  refine a_pad 1 ?_
  refine a_eq (L' := [some (.ref 0), some (.int x0), some (.int x1), none]) rfl rfl rfl ?_
  refine a_aload_n C dL_why_0 rfl rfl ?_
  refine a_iload_n C dL_why_1 rfl rfl ?_
  refine a_iload_n C dL_why_2 rfl rfl ?_
  refine a_callV C [.int x0, .int x1] 6 (hK ex us) vL_75 (tw (show 0 < 207 by decide)) (by decide) (show fz w 0 = .inr (6, _) from rfl) rfl dL_why_3 rfl (Nat.le_of_ble_eq_true rfl) ⟨Nat.le_refl _, by show 8 + (3 + 11) + lo ≤ 22 + lo; omega⟩ ⟨by show 207 + ex.1 + ex.2 + 0 ≤ 207 + ex.1 + ex.2 + 0; omega, by show us + 0 ≤ us + 0; omega⟩ (fun r9 M9 hp9 _ _ => ?_)
  obtain ⟨w9, rfl, hp9⟩ := hp9
  obtain ⟨v, rfl⟩ := hP _ _ hp9
  refine a_eq (st' := [.int v]) rfl rfl rfl ?_
  exact a_iret C hr rfl dL_why_6 rfl rfl ⟨w9, rfl, hp9⟩
theorem T_why_0 {w : Wd} {x0 x1 : Int32} {fr lo : Nat} (hK : CXF yX6_why cX6_why 3 (some .int) fr lo [.ref 0, .int x0, .int x1] w "java/lang/IndexOutOfBoundsException") :
    CLW yL_why cL_why 4 [(0, 6, 7, 23)] (fr + 1) (22 + lo) [.ref 0, .int x0, .int x1] w 1 6 (fun r w' => r = some (.int (-101)) ∧ w' = w) := by
  intro ex us
  refine CW.of cwL_why (Nat.le_of_ble_eq_true rfl) (fun G9 p9 l9 e9 s9 m9 ar9 be9 me9 co9 C hfl htb hr => ?_)
  refine a_pad 1 ?_
  refine a_eq (L' := [some (.ref 0), some (.int x0), some (.int x1), none]) rfl rfl rfl ?_
  refine a_aload_n C dL_why_0 rfl rfl ?_
  refine a_iload_n C dL_why_1 rfl rfl ?_
  refine a_iload_n C dL_why_2 rfl rfl ?_
  refine a_xcatN C hfl [.int x0, .int x1] 6 (hK ex us) vL_75 (tw (show 0 < 207 by decide)) (by decide) (show fz w 0 = .inr (6, _) from rfl) rfl dL_why_3 rfl (Nat.le_of_ble_eq_true rfl) ⟨Nat.le_refl _, by show 8 + (3 + 11) + lo ≤ 22 + lo; omega⟩ ⟨by show 207 + ex.1 + ex.2 + 1 ≤ 207 + ex.1 + ex.2 + 1; omega, by show us + 6 ≤ us + 6; omega⟩ (E := "java/lang/IndexOutOfBoundsException") (by decide) (fun E' M' h => h.1) [] ⟨0, 6, 7, 23⟩ [] htb (fun z hz => by cases hz) rfl (by decide) kL_23 dL_why_7 (by decide) (fun M9 hp9 _ _ => ?_)
  obtain ⟨-, rfl⟩ := hp9
  refine a_bipush (v := (-101)) C dL_why_8 (by decide) ?_
  exact a_iret C hr rfl dL_why_10 rfl rfl ⟨w, rfl, rfl, rfl⟩
theorem cwL_most : aCodeW yL_most cL_most 3 (some .int) [(0, 5, 6, 16)] := ⟨gw_in (List.mem_of_getElem? (i := 830) (by decide +kernel)) rfl, gw_in (List.mem_of_getElem? (i := 37) (by decide +kernel)) rfl, by decide +kernel, by decide +kernel, by decide +kernel⟩
theorem H_most {w : Wd} {x0 : Int32} {fr lo : Nat} {P : Option Value → Wd → Prop} (hK : CF yX6_most cX6_most 2 (some .int) fr lo [.ref 0, .int x0] w P) (hP : ∀ r w', P r w' → ∃ v, r = some (.int v)) :
    CLW yL_most cL_most 3 [(0, 5, 6, 16)] (fr + 1) (21 + lo) [.ref 0, .int x0] w 0 0 P := by
  intro ex us
  refine CW.of cwL_most (Nat.le_of_ble_eq_true rfl) (fun G9 p9 l9 e9 s9 m9 ar9 be9 me9 co9 C hfl htb hr => ?_)
  refine a_pad 1 ?_
  refine a_eq (L' := [some (.ref 0), some (.int x0), none]) rfl rfl rfl ?_
  refine a_aload_n C dL_most_0 rfl rfl ?_
  refine a_iload_n C dL_most_1 rfl rfl ?_
  refine a_callV C [.int x0] 6 (hK ex us) vL_78 (tw (show 0 < 207 by decide)) (by decide) (show fz w 0 = .inr (6, _) from rfl) rfl dL_most_2 rfl (Nat.le_of_ble_eq_true rfl) ⟨Nat.le_refl _, by show 8 + (2 + 11) + lo ≤ 21 + lo; omega⟩ ⟨by show 207 + ex.1 + ex.2 + 0 ≤ 207 + ex.1 + ex.2 + 0; omega, by show us + 0 ≤ us + 0; omega⟩ (fun r9 M9 hp9 _ _ => ?_)
  obtain ⟨w9, rfl, hp9⟩ := hp9
  obtain ⟨v, rfl⟩ := hP _ _ hp9
  refine a_eq (st' := [.int v]) rfl rfl rfl ?_
  exact a_iret C hr rfl dL_most_5 rfl rfl ⟨w9, rfl, hp9⟩
theorem T_most_0 {w : Wd} {x0 : Int32} {fr lo : Nat} (hK : CXF yX6_most cX6_most 2 (some .int) fr lo [.ref 0, .int x0] w "java/lang/IllegalArgumentException") :
    CLW yL_most cL_most 3 [(0, 5, 6, 16)] (fr + 1) (21 + lo) [.ref 0, .int x0] w 1 6 (fun r w' => r = some (.int (-102)) ∧ w' = w) := by
  intro ex us
  refine CW.of cwL_most (Nat.le_of_ble_eq_true rfl) (fun G9 p9 l9 e9 s9 m9 ar9 be9 me9 co9 C hfl htb hr => ?_)
  refine a_pad 1 ?_
  refine a_eq (L' := [some (.ref 0), some (.int x0), none]) rfl rfl rfl ?_
  refine a_aload_n C dL_most_0 rfl rfl ?_
  refine a_iload_n C dL_most_1 rfl rfl ?_
  refine a_xcatN C hfl [.int x0] 6 (hK ex us) vL_78 (tw (show 0 < 207 by decide)) (by decide) (show fz w 0 = .inr (6, _) from rfl) rfl dL_most_2 rfl (Nat.le_of_ble_eq_true rfl) ⟨Nat.le_refl _, by show 8 + (2 + 11) + lo ≤ 21 + lo; omega⟩ ⟨by show 207 + ex.1 + ex.2 + 1 ≤ 207 + ex.1 + ex.2 + 1; omega, by show us + 6 ≤ us + 6; omega⟩ (E := "java/lang/IllegalArgumentException") (by decide) (fun E' M' h => h.1) [] ⟨0, 5, 6, 16⟩ [] htb (fun z hz => by cases hz) rfl (by decide) kL_16 dL_most_6 (by decide) (fun M9 hp9 _ _ => ?_)
  obtain ⟨-, rfl⟩ := hp9
  refine a_bipush (v := (-102)) C dL_most_7 (by decide) ?_
  exact a_iret C hr rfl dL_most_9 rfl rfl ⟨w, rfl, rfl, rfl⟩
theorem cwL_pick : aCodeW yL_pick cL_pick 3 (some .int) [(0, 5, 6, 23)] := ⟨gw_in (List.mem_of_getElem? (i := 879) (by decide +kernel)) rfl, gw_in (List.mem_of_getElem? (i := 37) (by decide +kernel)) rfl, by decide +kernel, by decide +kernel, by decide +kernel⟩
theorem H_pick {w : Wd} {x0 : Int32} {fr lo : Nat} {P : Option Value → Wd → Prop} (hK : CF yX6_pick cX6_pick 2 (some .int) fr lo [.ref 0, .int x0] w P) (hP : ∀ r w', P r w' → ∃ v, r = some (.int v)) :
    CLW yL_pick cL_pick 3 [(0, 5, 6, 23)] (fr + 1) (21 + lo) [.ref 0, .int x0] w 0 0 P := by
  intro ex us
  refine CW.of cwL_pick (Nat.le_of_ble_eq_true rfl) (fun G9 p9 l9 e9 s9 m9 ar9 be9 me9 co9 C hfl htb hr => ?_)
  refine a_pad 1 ?_
  refine a_eq (L' := [some (.ref 0), some (.int x0), none]) rfl rfl rfl ?_
  refine a_aload_n C dL_pick_0 rfl rfl ?_
  refine a_iload_n C dL_pick_1 rfl rfl ?_
  refine a_callV C [.int x0] 6 (hK ex us) vL_81 (tw (show 0 < 207 by decide)) (by decide) (show fz w 0 = .inr (6, _) from rfl) rfl dL_pick_2 rfl (Nat.le_of_ble_eq_true rfl) ⟨Nat.le_refl _, by show 8 + (2 + 11) + lo ≤ 21 + lo; omega⟩ ⟨by show 207 + ex.1 + ex.2 + 0 ≤ 207 + ex.1 + ex.2 + 0; omega, by show us + 0 ≤ us + 0; omega⟩ (fun r9 M9 hp9 _ _ => ?_)
  obtain ⟨w9, rfl, hp9⟩ := hp9
  obtain ⟨v, rfl⟩ := hP _ _ hp9
  refine a_eq (st' := [.int v]) rfl rfl rfl ?_
  exact a_iret C hr rfl dL_pick_5 rfl rfl ⟨w9, rfl, hp9⟩
theorem T_pick_0 {w : Wd} {x0 : Int32} {fr lo : Nat} (hK : CXF yX6_pick cX6_pick 2 (some .int) fr lo [.ref 0, .int x0] w "java/lang/IndexOutOfBoundsException") :
    CLW yL_pick cL_pick 3 [(0, 5, 6, 23)] (fr + 1) (21 + lo) [.ref 0, .int x0] w 1 6 (fun r w' => r = some (.int (-101)) ∧ w' = w) := by
  intro ex us
  refine CW.of cwL_pick (Nat.le_of_ble_eq_true rfl) (fun G9 p9 l9 e9 s9 m9 ar9 be9 me9 co9 C hfl htb hr => ?_)
  refine a_pad 1 ?_
  refine a_eq (L' := [some (.ref 0), some (.int x0), none]) rfl rfl rfl ?_
  refine a_aload_n C dL_pick_0 rfl rfl ?_
  refine a_iload_n C dL_pick_1 rfl rfl ?_
  refine a_xcatN C hfl [.int x0] 6 (hK ex us) vL_81 (tw (show 0 < 207 by decide)) (by decide) (show fz w 0 = .inr (6, _) from rfl) rfl dL_pick_2 rfl (Nat.le_of_ble_eq_true rfl) ⟨Nat.le_refl _, by show 8 + (2 + 11) + lo ≤ 21 + lo; omega⟩ ⟨by show 207 + ex.1 + ex.2 + 1 ≤ 207 + ex.1 + ex.2 + 1; omega, by show us + 6 ≤ us + 6; omega⟩ (E := "java/lang/IndexOutOfBoundsException") (by decide) (fun E' M' h => h.1) [] ⟨0, 5, 6, 23⟩ [] htb (fun z hz => by cases hz) rfl (by decide) kL_23 dL_pick_6 (by decide) (fun M9 hp9 _ _ => ?_)
  obtain ⟨-, rfl⟩ := hp9
  refine a_bipush (v := (-101)) C dL_pick_7 (by decide) ?_
  exact a_iret C hr rfl dL_pick_9 rfl rfl ⟨w, rfl, rfl, rfl⟩
theorem sW_114 : aCsW RL 114 yL_count cL_count 3 (some .int) [(0, 5, 6, 16)] 2 := ⟨cwL_count, gw_in (List.mem_of_getElem? (i := 416) (by decide +kernel)) rfl, gw_in (List.mem_of_getElem? (i := 417) (by decide +kernel)) rfl, by decide +kernel⟩
theorem sW_117 : aCsW RL 117 yL_key cL_key 4 (some .int) [(0, 6, 7, 23), (0, 6, 11, 16)] 3 := ⟨cwL_key, gw_in (List.mem_of_getElem? (i := 487) (by decide +kernel)) rfl, gw_in (List.mem_of_getElem? (i := 488) (by decide +kernel)) rfl, by decide +kernel⟩
theorem sW_124 : aCsW RL 124 yL_lock cL_lock 4 (some .int) [(0, 6, 7, 23), (0, 6, 11, 16)] 3 := ⟨cwL_lock, gw_in (List.mem_of_getElem? (i := 538) (by decide +kernel)) rfl, gw_in (List.mem_of_getElem? (i := 539) (by decide +kernel)) rfl, by decide +kernel⟩
theorem sW_126 : aCsW RL 126 yL_person cL_person 4 (some .int) [(0, 6, 7, 23), (0, 6, 11, 16)] 3 := ⟨cwL_person, gw_in (List.mem_of_getElem? (i := 555) (by decide +kernel)) rfl, gw_in (List.mem_of_getElem? (i := 556) (by decide +kernel)) rfl, by decide +kernel⟩
theorem sW_128 : aCsW RL 128 yL_cut cL_cut 4 (some .int) [(0, 6, 7, 16), (0, 6, 11, 18)] 3 := ⟨cwL_cut, gw_in (List.mem_of_getElem? (i := 578) (by decide +kernel)) rfl, gw_in (List.mem_of_getElem? (i := 579) (by decide +kernel)) rfl, by decide +kernel⟩
theorem sW_130 : aCsW RL 130 yL_deepen cL_deepen 4 (some .int) [(0, 6, 7, 23), (0, 6, 11, 18)] 3 := ⟨cwL_deepen, gw_in (List.mem_of_getElem? (i := 606) (by decide +kernel)) rfl, gw_in (List.mem_of_getElem? (i := 607) (by decide +kernel)) rfl, by decide +kernel⟩
theorem sW_132 : aCsW RL 132 yL_retire cL_retire 3 (some .int) [(0, 5, 6, 23)] 2 := ⟨cwL_retire, gw_in (List.mem_of_getElem? (i := 628) (by decide +kernel)) rfl, gw_in (List.mem_of_getElem? (i := 629) (by decide +kernel)) rfl, by decide +kernel⟩
theorem sW_134 : aCsW RL 134 yL_give cL_give 4 (some .int) [(0, 6, 7, 23), (0, 6, 11, 16)] 3 := ⟨cwL_give, gw_in (List.mem_of_getElem? (i := 636) (by decide +kernel)) rfl, gw_in (List.mem_of_getElem? (i := 637) (by decide +kernel)) rfl, by decide +kernel⟩
theorem sW_136 : aCsW RL 136 yL_lose cL_lose 3 (some .int) [(0, 5, 6, 23), (0, 5, 10, 18)] 2 := ⟨cwL_lose, gw_in (List.mem_of_getElem? (i := 644) (by decide +kernel)) rfl, gw_in (List.mem_of_getElem? (i := 645) (by decide +kernel)) rfl, by decide +kernel⟩
theorem sW_138 : aCsW RL 138 yL_find cL_find 3 (some .int) [(0, 5, 6, 23), (0, 5, 10, 18)] 2 := ⟨cwL_find, gw_in (List.mem_of_getElem? (i := 658) (by decide +kernel)) rfl, gw_in (List.mem_of_getElem? (i := 659) (by decide +kernel)) rfl, by decide +kernel⟩
theorem sW_140 : aCsW RL 140 yL_ward cL_ward 4 (some .int) [(0, 6, 7, 23), (0, 6, 11, 16)] 3 := ⟨cwL_ward, gw_in (List.mem_of_getElem? (i := 666) (by decide +kernel)) rfl, gw_in (List.mem_of_getElem? (i := 667) (by decide +kernel)) rfl, by decide +kernel⟩
theorem sW_142 : aCsW RL 142 yL_guest cL_guest 4 (some .int) [(0, 6, 7, 23), (0, 6, 11, 16), (0, 6, 15, 18)] 3 := ⟨cwL_guest, gw_in (List.mem_of_getElem? (i := 674) (by decide +kernel)) rfl, gw_in (List.mem_of_getElem? (i := 675) (by decide +kernel)) rfl, by decide +kernel⟩
theorem sW_144 : aCsW RL 144 yL_take cL_take 3 (some .int) [(0, 5, 6, 23), (0, 5, 10, 18)] 2 := ⟨cwL_take, gw_in (List.mem_of_getElem? (i := 682) (by decide +kernel)) rfl, gw_in (List.mem_of_getElem? (i := 683) (by decide +kernel)) rfl, by decide +kernel⟩
theorem sW_146 : aCsW RL 146 yL_turn cL_turn 4 (some .int) [(0, 6, 7, 23), (0, 6, 11, 18)] 3 := ⟨cwL_turn, gw_in (List.mem_of_getElem? (i := 693) (by decide +kernel)) rfl, gw_in (List.mem_of_getElem? (i := 694) (by decide +kernel)) rfl, by decide +kernel⟩
theorem sW_148 : aCsW RL 148 yL_set cL_set 4 (some .int) [(0, 6, 7, 23), (0, 6, 11, 16)] 3 := ⟨cwL_set, gw_in (List.mem_of_getElem? (i := 710) (by decide +kernel)) rfl, gw_in (List.mem_of_getElem? (i := 711) (by decide +kernel)) rfl, by decide +kernel⟩
theorem sW_171 : aCsW RL 171 yL_why cL_why 4 (some .int) [(0, 6, 7, 23)] 3 := ⟨cwL_why, gw_in (List.mem_of_getElem? (i := 818) (by decide +kernel)) rfl, gw_in (List.mem_of_getElem? (i := 819) (by decide +kernel)) rfl, by decide +kernel⟩
theorem sW_177 : aCsW RL 177 yL_most cL_most 3 (some .int) [(0, 5, 6, 16)] 2 := ⟨cwL_most, gw_in (List.mem_of_getElem? (i := 828) (by decide +kernel)) rfl, gw_in (List.mem_of_getElem? (i := 829) (by decide +kernel)) rfl, by decide +kernel⟩
theorem sW_179 : aCsW RL 179 yL_pick cL_pick 3 (some .int) [(0, 5, 6, 23)] 2 := ⟨cwL_pick, gw_in (List.mem_of_getElem? (i := 877) (by decide +kernel)) rfl, gw_in (List.mem_of_getElem? (i := 878) (by decide +kernel)) rfl, by decide +kernel⟩
theorem sW_195 : aCsW RL 195 yL_code cL_code 4 (some .int) [(0, 6, 7, 16)] 3 := ⟨cwL_code, gw_in (List.mem_of_getElem? (i := 784) (by decide +kernel)) rfl, gw_in (List.mem_of_getElem? (i := 785) (by decide +kernel)) rfl, by decide +kernel⟩
theorem sW_197 : aCsW RL 197 yL_opener cL_opener 3 (some .int) [(0, 5, 6, 16)] 2 := ⟨cwL_opener, gw_in (List.mem_of_getElem? (i := 799) (by decide +kernel)) rfl, gw_in (List.mem_of_getElem? (i := 800) (by decide +kernel)) rfl, by decide +kernel⟩
theorem sW_219 : aCsW RL 219 yL_undo cL_undo 2 (some .int) [(0, 4, 5, 18)] 1 := ⟨cwL_undo, gw_in (List.mem_of_getElem? (i := 320) (by decide +kernel)) rfl, gw_in (List.mem_of_getElem? (i := 321) (by decide +kernel)) rfl, by decide +kernel⟩
end A61

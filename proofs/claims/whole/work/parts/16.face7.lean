section A16
theorem wSet2 {w : Wd} {a k : Nat} {x y : Int32} : wSet (wSet w a k x) a k y = wSet w a k y := by
  unfold wSet
  refine Prod.ext (funext fun b => ?_) rfl
  by_cases zq_1 : b = a
  · subst zq_1
    simp only [if_true]
    funext j
    unfold upd
    by_cases zq_2 : j = k
    · simp [zq_2]
    · simp [zq_2]
  · simp [zq_1]
/-- an answer of the reference, and what it says was thrown -/
abbrev FA (w : Wd) (v : Value) (t : Nat) : Option Value → Wd → Prop := fun r w' => r = some v ∧ w' = wSet w 204 0 (nI t)
theorem win_eq {v : Int32} {n : Nat} {b : Bool} (hn : n < 2 ^ 31) (h : inR v (n + 1) = b) : decide (nI 0 ≤ v ∧ v ≤ nI n) = b := by
  have zq_1 : (nI 0 ≤ v ∧ v ≤ nI n) ↔ (0 ≤ v.toInt ∧ v.toInt < (n : Int) + 1) := by
    simp only [Int32.le_iff_toInt_le]
    rw [nI_toInt (by decide), nI_toInt hn]
    omega
  rw [← h]
  unfold inR
  exact decide_eq_decide.mpr (zq_1.trans (by omega))
set_option maxRecDepth 20000 in
set_option maxHeartbeats 4000000 in
theorem K_X7_fails {w : Wd} (t : Int32) : CF yX7_fails cX7_fails 2 (some .int) 0 0 [.ref 204, .int t] w (fun r w' => r = some (.int (nI 0)) ∧ w' = wSet w 204 0 t) := by
  refine CF.of ok_X7_fails (Nat.le_of_ble_eq_true rfl) (fun ex us G9 p9 l9 e9 s9 m9 ar9 be9 me9 co9 C hr => ?_)
  refine a_aload_n C dX7_fails_0 rfl rfl ?_
  refine a_iload_n C dX7_fails_1 rfl rfl ?_
  refine f_putf C fX7_53 dX7_fails_2 (by first | decide | omega) rfl rfl rfl (Nat.le_of_ble_eq_true rfl) rfl ?_
  refine a_iconst (v := nI 0) C dX7_fails_5 (by decide) ?_
  refine f_iret C hr ?_ dX7_fails_6 ⟨?_, ?_⟩
  · rfl
  · first | with_reducible rfl | exact gl (by first | with_reducible rfl | (refine iF ?_; simp []; done) | (refine iT ?_; simp []; done) | (refine iB ?_; simp []; done) | (simp []; done) | (simp []; omega) | omega | rfl)
  · first | with_reducible rfl | exact wSet2 | rfl

set_option maxRecDepth 20000 in
set_option maxHeartbeats 4000000 in
theorem K_X7_key {w : Wd} {A : St} (hR : RR w A) (hA : AOK A) {k : Nat} (hk : k < (kN A)) {j : Nat} (hj : j < 10)  : CF yX7_key cX7_key 3 (some .int) 7 154 [.ref 204, .int (nI k), .int (nI j)] w (FA w (.int (tkA A k j)) 0) := by
  have zq_n := hA.n12
  have zf0 : inR (nI k) (kN A) = true := ((inR_nI (by omega)).trans (decide_eq_true (by omega)))
  have zf1 : decide (nI 0 ≤ (nI j) ∧ (nI j) ≤ nI 9) = true := win_eq (by decide) ((inR_nI (by omega)).trans (decide_eq_true (by omega)))
  refine CF.of ok_X7_key (Nat.le_of_ble_eq_true rfl) (fun ex us G9 p9 l9 e9 s9 m9 ar9 be9 me9 co9 C hr => ?_)
  refine a_aload_n C dX7_key_0 rfl rfl ?_
  refine a_iconst (v := nI 0) C dX7_key_1 (by decide) ?_
  refine f_putf C fX7_53 dX7_key_2 (by first | decide | omega) rfl rfl rfl (Nat.le_of_ble_eq_true rfl) rfl ?_
  have hR : RR (wSet w 204 0 (nI 0)) A := hR
  refine a_aload_n C dX7_key_5 rfl rfl ?_
  refine a_iload_n C dX7_key_6 rfl rfl ?_
  refine p_callV C (K_X7_isKey hR hA _) vX7_131 rfl (by first | decide | omega) rfl rfl dX7_key_7 (Nat.le_of_ble_eq_true rfl) ⟨by decide, by decide⟩ ?_
  refine b_if_ne (tgt := 19) C dX7_key_10 (by decide) (fun h_10 => ?_) (fun h_10 => ?_)
  · refine a_iload_n C dX7_key_19 rfl rfl ?_
    refine a_iconst (v := nI 0) C dX7_key_20 (by decide) ?_
    refine a_bipush (v := nI 9) C dX7_key_21 (by decide) ?_
    refine p_callS C ((K_X7_within _ _ _)).cp sX7_57 rfl dX7_key_23 (Nat.le_of_ble_eq_true rfl) ⟨by decide, by decide⟩ ?_
    refine b_if_eq (tgt := 38) C dX7_key_26 (by decide) (fun h_26 => ?_) (fun h_26 => ?_)
    · exact absurd (h_26.symm.trans zf1) (by decide)
    · refine a_aload_n C dX7_key_29 rfl rfl ?_
      refine a_iload_n C dX7_key_30 rfl rfl ?_
      refine a_iload_n C dX7_key_31 rfl rfl ?_
      refine p_callV C (K_X7_tellsKey hR hA (by first | assumption | decide | omega) (by first | assumption | decide | omega)) vX7_203 rfl (by first | decide | omega) rfl rfl dX7_key_32 (Nat.le_of_ble_eq_true rfl) ⟨by decide, by decide⟩ ?_
      refine a_goto (tgt := 43) C dX7_key_35 (by decide) ?_
      refine f_iret C hr ?_ dX7_key_43 ⟨?_, ?_⟩
      · rfl
      · first | with_reducible rfl | exact gl (by first | with_reducible rfl | (refine iF ?_; simp []; done) | (refine iT ?_; simp []; done) | (refine iB ?_; simp []; done) | (simp []; done) | (simp []; omega) | omega | rfl)
      · first | with_reducible rfl | exact wSet2 | rfl
  · exact absurd (h_10.symm.trans zf0) (by decide)

set_option maxRecDepth 20000 in
set_option maxHeartbeats 4000000 in
theorem K_X7_key_0 {w : Wd} {A : St} (hR : RR w A) (hA : AOK A) (k : Int32) (hf : inR k (kN A) = false) (j : Int32)  : CF yX7_key cX7_key 3 (some .int) 7 154 [.ref 204, .int k, .int j] w (FA w (.int (nI 0)) 1) := by
  have zq_n := hA.n12
  have zf0 : inR k (kN A) = false := hf
  refine CF.of ok_X7_key (Nat.le_of_ble_eq_true rfl) (fun ex us G9 p9 l9 e9 s9 m9 ar9 be9 me9 co9 C hr => ?_)
  refine a_aload_n C dX7_key_0 rfl rfl ?_
  refine a_iconst (v := nI 0) C dX7_key_1 (by decide) ?_
  refine f_putf C fX7_53 dX7_key_2 (by first | decide | omega) rfl rfl rfl (Nat.le_of_ble_eq_true rfl) rfl ?_
  have hR : RR (wSet w 204 0 (nI 0)) A := hR
  refine a_aload_n C dX7_key_5 rfl rfl ?_
  refine a_iload_n C dX7_key_6 rfl rfl ?_
  refine p_callV C (K_X7_isKey hR hA _) vX7_131 rfl (by first | decide | omega) rfl rfl dX7_key_7 (Nat.le_of_ble_eq_true rfl) ⟨by decide, by decide⟩ ?_
  refine b_if_ne (tgt := 19) C dX7_key_10 (by decide) (fun h_10 => ?_) (fun h_10 => ?_)
  · exact absurd (h_10.symm.trans zf0) (by decide)
  · refine a_aload_n C dX7_key_13 rfl rfl ?_
    refine a_iconst (v := nI 1) C dX7_key_14 (by decide) ?_
    refine f_callV C _ _ (K_X7_fails _) vX7_68 (by first | decide | omega) rfl rfl dX7_key_15 rfl (Nat.le_of_ble_eq_true rfl) ⟨by decide, by decide⟩ (fun zr15 zw15 zp15 => ?_)
    obtain ⟨rfl, rfl⟩ := zp15
    refine f_iret C hr ?_ dX7_key_18 ⟨?_, ?_⟩
    · rfl
    · first | with_reducible rfl | exact gl (by first | with_reducible rfl | (refine iF ?_; simp []; done) | (refine iT ?_; simp []; done) | (refine iB ?_; simp []; done) | (simp []; done) | (simp []; omega) | omega | rfl)
    · first | with_reducible rfl | exact wSet2 | rfl

set_option maxRecDepth 20000 in
set_option maxHeartbeats 4000000 in
theorem K_X7_key_1 {w : Wd} {A : St} (hR : RR w A) (hA : AOK A) {k : Nat} (hk : k < (kN A)) (j : Int32) (hf : inR j 10 = false)  : CF yX7_key cX7_key 3 (some .int) 7 154 [.ref 204, .int (nI k), .int j] w (FA w (.int (nI 0)) 2) := by
  have zq_n := hA.n12
  have zf0 : inR (nI k) (kN A) = true := ((inR_nI (by omega)).trans (decide_eq_true (by omega)))
  have zf1 : decide (nI 0 ≤ j ∧ j ≤ nI 9) = false := win_eq (by decide) hf
  refine CF.of ok_X7_key (Nat.le_of_ble_eq_true rfl) (fun ex us G9 p9 l9 e9 s9 m9 ar9 be9 me9 co9 C hr => ?_)
  refine a_aload_n C dX7_key_0 rfl rfl ?_
  refine a_iconst (v := nI 0) C dX7_key_1 (by decide) ?_
  refine f_putf C fX7_53 dX7_key_2 (by first | decide | omega) rfl rfl rfl (Nat.le_of_ble_eq_true rfl) rfl ?_
  have hR : RR (wSet w 204 0 (nI 0)) A := hR
  refine a_aload_n C dX7_key_5 rfl rfl ?_
  refine a_iload_n C dX7_key_6 rfl rfl ?_
  refine p_callV C (K_X7_isKey hR hA _) vX7_131 rfl (by first | decide | omega) rfl rfl dX7_key_7 (Nat.le_of_ble_eq_true rfl) ⟨by decide, by decide⟩ ?_
  refine b_if_ne (tgt := 19) C dX7_key_10 (by decide) (fun h_10 => ?_) (fun h_10 => ?_)
  · refine a_iload_n C dX7_key_19 rfl rfl ?_
    refine a_iconst (v := nI 0) C dX7_key_20 (by decide) ?_
    refine a_bipush (v := nI 9) C dX7_key_21 (by decide) ?_
    refine p_callS C ((K_X7_within _ _ _)).cp sX7_57 rfl dX7_key_23 (Nat.le_of_ble_eq_true rfl) ⟨by decide, by decide⟩ ?_
    refine b_if_eq (tgt := 38) C dX7_key_26 (by decide) (fun h_26 => ?_) (fun h_26 => ?_)
    · refine a_aload_n C dX7_key_38 rfl rfl ?_
      refine a_iconst (v := nI 2) C dX7_key_39 (by decide) ?_
      refine f_callV C _ _ (K_X7_fails _) vX7_68 (by first | decide | omega) rfl rfl dX7_key_40 rfl (Nat.le_of_ble_eq_true rfl) ⟨by decide, by decide⟩ (fun zr40 zw40 zp40 => ?_)
      obtain ⟨rfl, rfl⟩ := zp40
      refine f_iret C hr ?_ dX7_key_43 ⟨?_, ?_⟩
      · rfl
      · first | with_reducible rfl | exact gl (by first | with_reducible rfl | (refine iF ?_; simp []; done) | (refine iT ?_; simp []; done) | (refine iB ?_; simp []; done) | (simp []; done) | (simp []; omega) | omega | rfl)
      · first | with_reducible rfl | exact wSet2 | rfl
    · exact absurd (h_26.symm.trans zf1) (by decide)
  · exact absurd (h_10.symm.trans zf0) (by decide)

set_option maxRecDepth 20000 in
set_option maxHeartbeats 4000000 in
theorem K_X7_lock {w : Wd} {A : St} (hR : RR w A) (hA : AOK A) {p : Nat} (hp : p < 6) {j : Nat} (hj : j < 6)  : CF yX7_lock cX7_lock 3 (some .int) 7 154 [.ref 204, .int (nI p), .int (nI j)] w (FA w (.int (tlA A p j)) 0) := by
  have zq_n := hA.n12
  have zf0 : inR (nI p) 6 = true := ((inR_nI (by omega)).trans (decide_eq_true (by omega)))
  have zf1 : decide (nI 0 ≤ (nI j) ∧ (nI j) ≤ nI 5) = true := win_eq (by decide) ((inR_nI (by omega)).trans (decide_eq_true (by omega)))
  refine CF.of ok_X7_lock (Nat.le_of_ble_eq_true rfl) (fun ex us G9 p9 l9 e9 s9 m9 ar9 be9 me9 co9 C hr => ?_)
  refine a_aload_n C dX7_lock_0 rfl rfl ?_
  refine a_iconst (v := nI 0) C dX7_lock_1 (by decide) ?_
  refine f_putf C fX7_53 dX7_lock_2 (by first | decide | omega) rfl rfl rfl (Nat.le_of_ble_eq_true rfl) rfl ?_
  have hR : RR (wSet w 204 0 (nI 0)) A := hR
  refine a_iload_n C dX7_lock_5 rfl rfl ?_
  refine p_callS C ((K_X7_isPlace _)).cp sX7_146 rfl dX7_lock_6 (Nat.le_of_ble_eq_true rfl) ⟨by decide, by decide⟩ ?_
  refine b_if_ne (tgt := 18) C dX7_lock_9 (by decide) (fun h_9 => ?_) (fun h_9 => ?_)
  · refine a_iload_n C dX7_lock_18 rfl rfl ?_
    refine a_iconst (v := nI 0) C dX7_lock_19 (by decide) ?_
    refine a_iconst (v := nI 5) C dX7_lock_20 (by decide) ?_
    refine p_callS C ((K_X7_within _ _ _)).cp sX7_57 rfl dX7_lock_21 (Nat.le_of_ble_eq_true rfl) ⟨by decide, by decide⟩ ?_
    refine b_if_eq (tgt := 36) C dX7_lock_24 (by decide) (fun h_24 => ?_) (fun h_24 => ?_)
    · exact absurd (h_24.symm.trans zf1) (by decide)
    · refine a_aload_n C dX7_lock_27 rfl rfl ?_
      refine a_iload_n C dX7_lock_28 rfl rfl ?_
      refine a_iload_n C dX7_lock_29 rfl rfl ?_
      refine p_callV C (K_X7_tellsLock hR hA (by first | assumption | decide | omega) (by first | assumption | decide | omega)) vX7_209 rfl (by first | decide | omega) rfl rfl dX7_lock_30 (Nat.le_of_ble_eq_true rfl) ⟨by decide, by decide⟩ ?_
      refine a_goto (tgt := 41) C dX7_lock_33 (by decide) ?_
      refine f_iret C hr ?_ dX7_lock_41 ⟨?_, ?_⟩
      · rfl
      · first | with_reducible rfl | exact gl (by first | with_reducible rfl | (refine iF ?_; simp []; done) | (refine iT ?_; simp []; done) | (refine iB ?_; simp []; done) | (simp []; done) | (simp []; omega) | omega | rfl)
      · first | with_reducible rfl | exact wSet2 | rfl
  · exact absurd (h_9.symm.trans zf0) (by decide)

set_option maxRecDepth 20000 in
set_option maxHeartbeats 4000000 in
theorem K_X7_lock_0 {w : Wd} {A : St} (hR : RR w A) (hA : AOK A) (p : Int32) (hf : inR p 6 = false) (j : Int32)  : CF yX7_lock cX7_lock 3 (some .int) 7 154 [.ref 204, .int p, .int j] w (FA w (.int (nI 0)) 1) := by
  have zq_n := hA.n12
  have zf0 : inR p 6 = false := hf
  refine CF.of ok_X7_lock (Nat.le_of_ble_eq_true rfl) (fun ex us G9 p9 l9 e9 s9 m9 ar9 be9 me9 co9 C hr => ?_)
  refine a_aload_n C dX7_lock_0 rfl rfl ?_
  refine a_iconst (v := nI 0) C dX7_lock_1 (by decide) ?_
  refine f_putf C fX7_53 dX7_lock_2 (by first | decide | omega) rfl rfl rfl (Nat.le_of_ble_eq_true rfl) rfl ?_
  have hR : RR (wSet w 204 0 (nI 0)) A := hR
  refine a_iload_n C dX7_lock_5 rfl rfl ?_
  refine p_callS C ((K_X7_isPlace _)).cp sX7_146 rfl dX7_lock_6 (Nat.le_of_ble_eq_true rfl) ⟨by decide, by decide⟩ ?_
  refine b_if_ne (tgt := 18) C dX7_lock_9 (by decide) (fun h_9 => ?_) (fun h_9 => ?_)
  · exact absurd (h_9.symm.trans zf0) (by decide)
  · refine a_aload_n C dX7_lock_12 rfl rfl ?_
    refine a_iconst (v := nI 1) C dX7_lock_13 (by decide) ?_
    refine f_callV C _ _ (K_X7_fails _) vX7_68 (by first | decide | omega) rfl rfl dX7_lock_14 rfl (Nat.le_of_ble_eq_true rfl) ⟨by decide, by decide⟩ (fun zr14 zw14 zp14 => ?_)
    obtain ⟨rfl, rfl⟩ := zp14
    refine f_iret C hr ?_ dX7_lock_17 ⟨?_, ?_⟩
    · rfl
    · first | with_reducible rfl | exact gl (by first | with_reducible rfl | (refine iF ?_; simp []; done) | (refine iT ?_; simp []; done) | (refine iB ?_; simp []; done) | (simp []; done) | (simp []; omega) | omega | rfl)
    · first | with_reducible rfl | exact wSet2 | rfl

set_option maxRecDepth 20000 in
set_option maxHeartbeats 4000000 in
theorem K_X7_lock_1 {w : Wd} {A : St} (hR : RR w A) (hA : AOK A) {p : Nat} (hp : p < 6) (j : Int32) (hf : inR j 6 = false)  : CF yX7_lock cX7_lock 3 (some .int) 7 154 [.ref 204, .int (nI p), .int j] w (FA w (.int (nI 0)) 2) := by
  have zq_n := hA.n12
  have zf0 : inR (nI p) 6 = true := ((inR_nI (by omega)).trans (decide_eq_true (by omega)))
  have zf1 : decide (nI 0 ≤ j ∧ j ≤ nI 5) = false := win_eq (by decide) hf
  refine CF.of ok_X7_lock (Nat.le_of_ble_eq_true rfl) (fun ex us G9 p9 l9 e9 s9 m9 ar9 be9 me9 co9 C hr => ?_)
  refine a_aload_n C dX7_lock_0 rfl rfl ?_
  refine a_iconst (v := nI 0) C dX7_lock_1 (by decide) ?_
  refine f_putf C fX7_53 dX7_lock_2 (by first | decide | omega) rfl rfl rfl (Nat.le_of_ble_eq_true rfl) rfl ?_
  have hR : RR (wSet w 204 0 (nI 0)) A := hR
  refine a_iload_n C dX7_lock_5 rfl rfl ?_
  refine p_callS C ((K_X7_isPlace _)).cp sX7_146 rfl dX7_lock_6 (Nat.le_of_ble_eq_true rfl) ⟨by decide, by decide⟩ ?_
  refine b_if_ne (tgt := 18) C dX7_lock_9 (by decide) (fun h_9 => ?_) (fun h_9 => ?_)
  · refine a_iload_n C dX7_lock_18 rfl rfl ?_
    refine a_iconst (v := nI 0) C dX7_lock_19 (by decide) ?_
    refine a_iconst (v := nI 5) C dX7_lock_20 (by decide) ?_
    refine p_callS C ((K_X7_within _ _ _)).cp sX7_57 rfl dX7_lock_21 (Nat.le_of_ble_eq_true rfl) ⟨by decide, by decide⟩ ?_
    refine b_if_eq (tgt := 36) C dX7_lock_24 (by decide) (fun h_24 => ?_) (fun h_24 => ?_)
    · refine a_aload_n C dX7_lock_36 rfl rfl ?_
      refine a_iconst (v := nI 2) C dX7_lock_37 (by decide) ?_
      refine f_callV C _ _ (K_X7_fails _) vX7_68 (by first | decide | omega) rfl rfl dX7_lock_38 rfl (Nat.le_of_ble_eq_true rfl) ⟨by decide, by decide⟩ (fun zr38 zw38 zp38 => ?_)
      obtain ⟨rfl, rfl⟩ := zp38
      refine f_iret C hr ?_ dX7_lock_41 ⟨?_, ?_⟩
      · rfl
      · first | with_reducible rfl | exact gl (by first | with_reducible rfl | (refine iF ?_; simp []; done) | (refine iT ?_; simp []; done) | (refine iB ?_; simp []; done) | (simp []; done) | (simp []; omega) | omega | rfl)
      · first | with_reducible rfl | exact wSet2 | rfl
    · exact absurd (h_24.symm.trans zf1) (by decide)
  · exact absurd (h_9.symm.trans zf0) (by decide)

set_option maxRecDepth 20000 in
set_option maxHeartbeats 4000000 in
theorem K_X7_person {w : Wd} {A : St} (hR : RR w A) (hA : AOK A) {q : Nat} (hq : q < 4) {j : Nat} (hj : j < 3)  : CF yX7_person cX7_person 3 (some .int) 7 157 [.ref 204, .int (nI q), .int (nI j)] w (FA w (.int (tpA A q j)) 0) := by
  have zq_n := hA.n12
  have zf0 : inR (nI q) 4 = true := ((inR_nI (by omega)).trans (decide_eq_true (by omega)))
  have zf1 : decide (nI 0 ≤ (nI j) ∧ (nI j) ≤ nI 2) = true := win_eq (by decide) ((inR_nI (by omega)).trans (decide_eq_true (by omega)))
  refine CF.of ok_X7_person (Nat.le_of_ble_eq_true rfl) (fun ex us G9 p9 l9 e9 s9 m9 ar9 be9 me9 co9 C hr => ?_)
  refine a_aload_n C dX7_person_0 rfl rfl ?_
  refine a_iconst (v := nI 0) C dX7_person_1 (by decide) ?_
  refine f_putf C fX7_53 dX7_person_2 (by first | decide | omega) rfl rfl rfl (Nat.le_of_ble_eq_true rfl) rfl ?_
  have hR : RR (wSet w 204 0 (nI 0)) A := hR
  refine a_iload_n C dX7_person_5 rfl rfl ?_
  refine p_callS C ((K_X7_isOwner _)).cp sX7_122 rfl dX7_person_6 (Nat.le_of_ble_eq_true rfl) ⟨by decide, by decide⟩ ?_
  refine b_if_ne (tgt := 18) C dX7_person_9 (by decide) (fun h_9 => ?_) (fun h_9 => ?_)
  · refine a_iload_n C dX7_person_18 rfl rfl ?_
    refine a_iconst (v := nI 0) C dX7_person_19 (by decide) ?_
    refine a_iconst (v := nI 2) C dX7_person_20 (by decide) ?_
    refine p_callS C ((K_X7_within _ _ _)).cp sX7_57 rfl dX7_person_21 (Nat.le_of_ble_eq_true rfl) ⟨by decide, by decide⟩ ?_
    refine b_if_eq (tgt := 36) C dX7_person_24 (by decide) (fun h_24 => ?_) (fun h_24 => ?_)
    · exact absurd (h_24.symm.trans zf1) (by decide)
    · refine a_aload_n C dX7_person_27 rfl rfl ?_
      refine a_iload_n C dX7_person_28 rfl rfl ?_
      refine a_iload_n C dX7_person_29 rfl rfl ?_
      refine p_callV C (K_X7_tellsPerson hR hA (by first | assumption | decide | omega) (by first | assumption | decide | omega)) vX7_212 rfl (by first | decide | omega) rfl rfl dX7_person_30 (Nat.le_of_ble_eq_true rfl) ⟨by decide, by decide⟩ ?_
      refine a_goto (tgt := 41) C dX7_person_33 (by decide) ?_
      refine f_iret C hr ?_ dX7_person_41 ⟨?_, ?_⟩
      · rfl
      · first | with_reducible rfl | exact gl (by first | with_reducible rfl | (refine iF ?_; simp []; done) | (refine iT ?_; simp []; done) | (refine iB ?_; simp []; done) | (simp []; done) | (simp []; omega) | omega | rfl)
      · first | with_reducible rfl | exact wSet2 | rfl
  · exact absurd (h_9.symm.trans zf0) (by decide)

set_option maxRecDepth 20000 in
set_option maxHeartbeats 4000000 in
theorem K_X7_person_0 {w : Wd} {A : St} (hR : RR w A) (hA : AOK A) (q : Int32) (hf : inR q 4 = false) (j : Int32)  : CF yX7_person cX7_person 3 (some .int) 7 157 [.ref 204, .int q, .int j] w (FA w (.int (nI 0)) 1) := by
  have zq_n := hA.n12
  have zf0 : inR q 4 = false := hf
  refine CF.of ok_X7_person (Nat.le_of_ble_eq_true rfl) (fun ex us G9 p9 l9 e9 s9 m9 ar9 be9 me9 co9 C hr => ?_)
  refine a_aload_n C dX7_person_0 rfl rfl ?_
  refine a_iconst (v := nI 0) C dX7_person_1 (by decide) ?_
  refine f_putf C fX7_53 dX7_person_2 (by first | decide | omega) rfl rfl rfl (Nat.le_of_ble_eq_true rfl) rfl ?_
  have hR : RR (wSet w 204 0 (nI 0)) A := hR
  refine a_iload_n C dX7_person_5 rfl rfl ?_
  refine p_callS C ((K_X7_isOwner _)).cp sX7_122 rfl dX7_person_6 (Nat.le_of_ble_eq_true rfl) ⟨by decide, by decide⟩ ?_
  refine b_if_ne (tgt := 18) C dX7_person_9 (by decide) (fun h_9 => ?_) (fun h_9 => ?_)
  · exact absurd (h_9.symm.trans zf0) (by decide)
  · refine a_aload_n C dX7_person_12 rfl rfl ?_
    refine a_iconst (v := nI 1) C dX7_person_13 (by decide) ?_
    refine f_callV C _ _ (K_X7_fails _) vX7_68 (by first | decide | omega) rfl rfl dX7_person_14 rfl (Nat.le_of_ble_eq_true rfl) ⟨by decide, by decide⟩ (fun zr14 zw14 zp14 => ?_)
    obtain ⟨rfl, rfl⟩ := zp14
    refine f_iret C hr ?_ dX7_person_17 ⟨?_, ?_⟩
    · rfl
    · first | with_reducible rfl | exact gl (by first | with_reducible rfl | (refine iF ?_; simp []; done) | (refine iT ?_; simp []; done) | (refine iB ?_; simp []; done) | (simp []; done) | (simp []; omega) | omega | rfl)
    · first | with_reducible rfl | exact wSet2 | rfl

set_option maxRecDepth 20000 in
set_option maxHeartbeats 4000000 in
theorem K_X7_person_1 {w : Wd} {A : St} (hR : RR w A) (hA : AOK A) {q : Nat} (hq : q < 4) (j : Int32) (hf : inR j 3 = false)  : CF yX7_person cX7_person 3 (some .int) 7 157 [.ref 204, .int (nI q), .int j] w (FA w (.int (nI 0)) 2) := by
  have zq_n := hA.n12
  have zf0 : inR (nI q) 4 = true := ((inR_nI (by omega)).trans (decide_eq_true (by omega)))
  have zf1 : decide (nI 0 ≤ j ∧ j ≤ nI 2) = false := win_eq (by decide) hf
  refine CF.of ok_X7_person (Nat.le_of_ble_eq_true rfl) (fun ex us G9 p9 l9 e9 s9 m9 ar9 be9 me9 co9 C hr => ?_)
  refine a_aload_n C dX7_person_0 rfl rfl ?_
  refine a_iconst (v := nI 0) C dX7_person_1 (by decide) ?_
  refine f_putf C fX7_53 dX7_person_2 (by first | decide | omega) rfl rfl rfl (Nat.le_of_ble_eq_true rfl) rfl ?_
  have hR : RR (wSet w 204 0 (nI 0)) A := hR
  refine a_iload_n C dX7_person_5 rfl rfl ?_
  refine p_callS C ((K_X7_isOwner _)).cp sX7_122 rfl dX7_person_6 (Nat.le_of_ble_eq_true rfl) ⟨by decide, by decide⟩ ?_
  refine b_if_ne (tgt := 18) C dX7_person_9 (by decide) (fun h_9 => ?_) (fun h_9 => ?_)
  · refine a_iload_n C dX7_person_18 rfl rfl ?_
    refine a_iconst (v := nI 0) C dX7_person_19 (by decide) ?_
    refine a_iconst (v := nI 2) C dX7_person_20 (by decide) ?_
    refine p_callS C ((K_X7_within _ _ _)).cp sX7_57 rfl dX7_person_21 (Nat.le_of_ble_eq_true rfl) ⟨by decide, by decide⟩ ?_
    refine b_if_eq (tgt := 36) C dX7_person_24 (by decide) (fun h_24 => ?_) (fun h_24 => ?_)
    · refine a_aload_n C dX7_person_36 rfl rfl ?_
      refine a_iconst (v := nI 2) C dX7_person_37 (by decide) ?_
      refine f_callV C _ _ (K_X7_fails _) vX7_68 (by first | decide | omega) rfl rfl dX7_person_38 rfl (Nat.le_of_ble_eq_true rfl) ⟨by decide, by decide⟩ (fun zr38 zw38 zp38 => ?_)
      obtain ⟨rfl, rfl⟩ := zp38
      refine f_iret C hr ?_ dX7_person_41 ⟨?_, ?_⟩
      · rfl
      · first | with_reducible rfl | exact gl (by first | with_reducible rfl | (refine iF ?_; simp []; done) | (refine iT ?_; simp []; done) | (refine iB ?_; simp []; done) | (simp []; done) | (simp []; omega) | omega | rfl)
      · first | with_reducible rfl | exact wSet2 | rfl
    · exact absurd (h_24.symm.trans zf1) (by decide)
  · exact absurd (h_9.symm.trans zf0) (by decide)

set_option maxRecDepth 20000 in
set_option maxHeartbeats 4000000 in
theorem K_X7_code {w : Wd} {A : St} (hR : RR w A) (hA : AOK A) {c : Nat} (hc : c < 81) {j : Nat} (hj : j < 6)  : CF yX7_code cX7_code 3 (some .int) 6 134 [.ref 204, .int (nI c), .int (nI j)] w (FA w (.int (tcA A c j)) 0) := by
  have zq_n := hA.n12
  have zf0 : inR (nI c) 81 = true := ((inR_nI (by omega)).trans (decide_eq_true (by omega)))
  have zf1 : decide (nI 0 ≤ (nI j) ∧ (nI j) ≤ nI 5) = true := win_eq (by decide) ((inR_nI (by omega)).trans (decide_eq_true (by omega)))
  refine CF.of ok_X7_code (Nat.le_of_ble_eq_true rfl) (fun ex us G9 p9 l9 e9 s9 m9 ar9 be9 me9 co9 C hr => ?_)
  refine a_aload_n C dX7_code_0 rfl rfl ?_
  refine a_iconst (v := nI 0) C dX7_code_1 (by decide) ?_
  refine f_putf C fX7_53 dX7_code_2 (by first | decide | omega) rfl rfl rfl (Nat.le_of_ble_eq_true rfl) rfl ?_
  have hR : RR (wSet w 204 0 (nI 0)) A := hR
  refine a_iload_n C dX7_code_5 rfl rfl ?_
  refine p_callS C ((K_X7_isCode _)).cp sX7_119 rfl dX7_code_6 (Nat.le_of_ble_eq_true rfl) ⟨by decide, by decide⟩ ?_
  refine b_if_eq (tgt := 30) C dX7_code_9 (by decide) (fun h_9 => ?_) (fun h_9 => ?_)
  · exact absurd (h_9.symm.trans zf0) (by decide)
  · refine a_iload_n C dX7_code_12 rfl rfl ?_
    refine a_iconst (v := nI 0) C dX7_code_13 (by decide) ?_
    refine a_iconst (v := nI 5) C dX7_code_14 (by decide) ?_
    refine p_callS C ((K_X7_within _ _ _)).cp sX7_57 rfl dX7_code_15 (Nat.le_of_ble_eq_true rfl) ⟨by decide, by decide⟩ ?_
    refine b_if_eq (tgt := 30) C dX7_code_18 (by decide) (fun h_18 => ?_) (fun h_18 => ?_)
    · exact absurd (h_18.symm.trans zf1) (by decide)
    · refine a_aload_n C dX7_code_21 rfl rfl ?_
      refine a_iload_n C dX7_code_22 rfl rfl ?_
      refine a_iload_n C dX7_code_23 rfl rfl ?_
      refine p_callV C (K_X7_tellsCode hR hA (by first | assumption | decide | omega) (by first | assumption | decide | omega)) vX7_221 rfl (by first | decide | omega) rfl rfl dX7_code_24 (Nat.le_of_ble_eq_true rfl) ⟨by decide, by decide⟩ ?_
      refine a_goto (tgt := 35) C dX7_code_27 (by decide) ?_
      refine f_iret C hr ?_ dX7_code_35 ⟨?_, ?_⟩
      · rfl
      · first | with_reducible rfl | exact gl (by first | with_reducible rfl | (refine iF ?_; simp []; done) | (refine iT ?_; simp []; done) | (refine iB ?_; simp []; done) | (simp []; done) | (simp []; omega) | omega | rfl)
      · first | with_reducible rfl | exact wSet2 | rfl

set_option maxRecDepth 20000 in
set_option maxHeartbeats 4000000 in
theorem K_X7_code_0 {w : Wd} {A : St} (hR : RR w A) (hA : AOK A) (c : Int32) (hf : inR c 81 = false) (j : Int32)  : CF yX7_code cX7_code 3 (some .int) 6 134 [.ref 204, .int c, .int j] w (FA w (.int (nI 0)) 1) := by
  have zq_n := hA.n12
  have zf0 : inR c 81 = false := hf
  refine CF.of ok_X7_code (Nat.le_of_ble_eq_true rfl) (fun ex us G9 p9 l9 e9 s9 m9 ar9 be9 me9 co9 C hr => ?_)
  refine a_aload_n C dX7_code_0 rfl rfl ?_
  refine a_iconst (v := nI 0) C dX7_code_1 (by decide) ?_
  refine f_putf C fX7_53 dX7_code_2 (by first | decide | omega) rfl rfl rfl (Nat.le_of_ble_eq_true rfl) rfl ?_
  have hR : RR (wSet w 204 0 (nI 0)) A := hR
  refine a_iload_n C dX7_code_5 rfl rfl ?_
  refine p_callS C ((K_X7_isCode _)).cp sX7_119 rfl dX7_code_6 (Nat.le_of_ble_eq_true rfl) ⟨by decide, by decide⟩ ?_
  refine b_if_eq (tgt := 30) C dX7_code_9 (by decide) (fun h_9 => ?_) (fun h_9 => ?_)
  · refine a_aload_n C dX7_code_30 rfl rfl ?_
    refine a_iconst (v := nI 1) C dX7_code_31 (by decide) ?_
    refine f_callV C _ _ (K_X7_fails _) vX7_68 (by first | decide | omega) rfl rfl dX7_code_32 rfl (Nat.le_of_ble_eq_true rfl) ⟨by decide, by decide⟩ (fun zr32 zw32 zp32 => ?_)
    obtain ⟨rfl, rfl⟩ := zp32
    refine f_iret C hr ?_ dX7_code_35 ⟨?_, ?_⟩
    · rfl
    · first | with_reducible rfl | exact gl (by first | with_reducible rfl | (refine iF ?_; simp []; done) | (refine iT ?_; simp []; done) | (refine iB ?_; simp []; done) | (simp []; done) | (simp []; omega) | omega | rfl)
    · first | with_reducible rfl | exact wSet2 | rfl
  · exact absurd (h_9.symm.trans zf0) (by decide)

set_option maxRecDepth 20000 in
set_option maxHeartbeats 4000000 in
theorem K_X7_code_1 {w : Wd} {A : St} (hR : RR w A) (hA : AOK A) {c : Nat} (hc : c < 81) (j : Int32) (hf : inR j 6 = false)  : CF yX7_code cX7_code 3 (some .int) 6 134 [.ref 204, .int (nI c), .int j] w (FA w (.int (nI 0)) 1) := by
  have zq_n := hA.n12
  have zf0 : inR (nI c) 81 = true := ((inR_nI (by omega)).trans (decide_eq_true (by omega)))
  have zf1 : decide (nI 0 ≤ j ∧ j ≤ nI 5) = false := win_eq (by decide) hf
  refine CF.of ok_X7_code (Nat.le_of_ble_eq_true rfl) (fun ex us G9 p9 l9 e9 s9 m9 ar9 be9 me9 co9 C hr => ?_)
  refine a_aload_n C dX7_code_0 rfl rfl ?_
  refine a_iconst (v := nI 0) C dX7_code_1 (by decide) ?_
  refine f_putf C fX7_53 dX7_code_2 (by first | decide | omega) rfl rfl rfl (Nat.le_of_ble_eq_true rfl) rfl ?_
  have hR : RR (wSet w 204 0 (nI 0)) A := hR
  refine a_iload_n C dX7_code_5 rfl rfl ?_
  refine p_callS C ((K_X7_isCode _)).cp sX7_119 rfl dX7_code_6 (Nat.le_of_ble_eq_true rfl) ⟨by decide, by decide⟩ ?_
  refine b_if_eq (tgt := 30) C dX7_code_9 (by decide) (fun h_9 => ?_) (fun h_9 => ?_)
  · exact absurd (h_9.symm.trans zf0) (by decide)
  · refine a_iload_n C dX7_code_12 rfl rfl ?_
    refine a_iconst (v := nI 0) C dX7_code_13 (by decide) ?_
    refine a_iconst (v := nI 5) C dX7_code_14 (by decide) ?_
    refine p_callS C ((K_X7_within _ _ _)).cp sX7_57 rfl dX7_code_15 (Nat.le_of_ble_eq_true rfl) ⟨by decide, by decide⟩ ?_
    refine b_if_eq (tgt := 30) C dX7_code_18 (by decide) (fun h_18 => ?_) (fun h_18 => ?_)
    · refine a_aload_n C dX7_code_30 rfl rfl ?_
      refine a_iconst (v := nI 1) C dX7_code_31 (by decide) ?_
      refine f_callV C _ _ (K_X7_fails _) vX7_68 (by first | decide | omega) rfl rfl dX7_code_32 rfl (Nat.le_of_ble_eq_true rfl) ⟨by decide, by decide⟩ (fun zr32 zw32 zp32 => ?_)
      obtain ⟨rfl, rfl⟩ := zp32
      refine f_iret C hr ?_ dX7_code_35 ⟨?_, ?_⟩
      · rfl
      · first | with_reducible rfl | exact gl (by first | with_reducible rfl | (refine iF ?_; simp []; done) | (refine iT ?_; simp []; done) | (refine iB ?_; simp []; done) | (simp []; done) | (simp []; omega) | omega | rfl)
      · first | with_reducible rfl | exact wSet2 | rfl
    · exact absurd (h_18.symm.trans zf1) (by decide)

set_option maxRecDepth 20000 in
set_option maxHeartbeats 4000000 in
theorem K_X7_level {w : Wd} {A : St} (hR : RR w A) (hA : AOK A) {v : Nat} (hv : v < 9) {j : Nat} (hj : j < 4)  : CF yX7_level cX7_level 3 (some .int) 6 141 [.ref 204, .int (nI v), .int (nI j)] w (FA w (.int (tvA A v j)) 0) := by
  have zq_n := hA.n12
  have zf0 : decide (nI 0 ≤ (nI v) ∧ (nI v) ≤ nI 8) = true := win_eq (by decide) ((inR_nI (by omega)).trans (decide_eq_true (by omega)))
  have zf1 : decide (nI 0 ≤ (nI j) ∧ (nI j) ≤ nI 3) = true := win_eq (by decide) ((inR_nI (by omega)).trans (decide_eq_true (by omega)))
  refine CF.of ok_X7_level (Nat.le_of_ble_eq_true rfl) (fun ex us G9 p9 l9 e9 s9 m9 ar9 be9 me9 co9 C hr => ?_)
  refine a_aload_n C dX7_level_0 rfl rfl ?_
  refine a_iconst (v := nI 0) C dX7_level_1 (by decide) ?_
  refine f_putf C fX7_53 dX7_level_2 (by first | decide | omega) rfl rfl rfl (Nat.le_of_ble_eq_true rfl) rfl ?_
  have hR : RR (wSet w 204 0 (nI 0)) A := hR
  refine a_iload_n C dX7_level_5 rfl rfl ?_
  refine a_iconst (v := nI 0) C dX7_level_6 (by decide) ?_
  refine a_bipush (v := nI 8) C dX7_level_7 (by decide) ?_
  refine p_callS C ((K_X7_within _ _ _)).cp sX7_57 rfl dX7_level_9 (Nat.le_of_ble_eq_true rfl) ⟨by decide, by decide⟩ ?_
  refine b_if_ne (tgt := 21) C dX7_level_12 (by decide) (fun h_12 => ?_) (fun h_12 => ?_)
  · refine a_iload_n C dX7_level_21 rfl rfl ?_
    refine a_iconst (v := nI 0) C dX7_level_22 (by decide) ?_
    refine a_iconst (v := nI 3) C dX7_level_23 (by decide) ?_
    refine p_callS C ((K_X7_within _ _ _)).cp sX7_57 rfl dX7_level_24 (Nat.le_of_ble_eq_true rfl) ⟨by decide, by decide⟩ ?_
    refine b_if_eq (tgt := 39) C dX7_level_27 (by decide) (fun h_27 => ?_) (fun h_27 => ?_)
    · exact absurd (h_27.symm.trans zf1) (by decide)
    · refine a_aload_n C dX7_level_30 rfl rfl ?_
      refine a_iload_n C dX7_level_31 rfl rfl ?_
      refine a_iload_n C dX7_level_32 rfl rfl ?_
      refine p_callV C (K_X7_tellsLevel hR hA (by first | assumption | decide | omega) (by first | assumption | decide | omega)) vX7_224 rfl (by first | decide | omega) rfl rfl dX7_level_33 (Nat.le_of_ble_eq_true rfl) ⟨by decide, by decide⟩ ?_
      refine a_goto (tgt := 44) C dX7_level_36 (by decide) ?_
      refine f_iret C hr ?_ dX7_level_44 ⟨?_, ?_⟩
      · rfl
      · first | with_reducible rfl | exact gl (by first | with_reducible rfl | (refine iF ?_; simp []; done) | (refine iT ?_; simp []; done) | (refine iB ?_; simp []; done) | (simp []; done) | (simp []; omega) | omega | rfl)
      · first | with_reducible rfl | exact wSet2 | rfl
  · exact absurd (h_12.symm.trans zf0) (by decide)

set_option maxRecDepth 20000 in
set_option maxHeartbeats 4000000 in
theorem K_X7_level_0 {w : Wd} {A : St} (hR : RR w A) (hA : AOK A) (v : Int32) (hf : inR v 9 = false) (j : Int32)  : CF yX7_level cX7_level 3 (some .int) 6 141 [.ref 204, .int v, .int j] w (FA w (.int (nI 0)) 1) := by
  have zq_n := hA.n12
  have zf0 : decide (nI 0 ≤ v ∧ v ≤ nI 8) = false := win_eq (by decide) hf
  refine CF.of ok_X7_level (Nat.le_of_ble_eq_true rfl) (fun ex us G9 p9 l9 e9 s9 m9 ar9 be9 me9 co9 C hr => ?_)
  refine a_aload_n C dX7_level_0 rfl rfl ?_
  refine a_iconst (v := nI 0) C dX7_level_1 (by decide) ?_
  refine f_putf C fX7_53 dX7_level_2 (by first | decide | omega) rfl rfl rfl (Nat.le_of_ble_eq_true rfl) rfl ?_
  have hR : RR (wSet w 204 0 (nI 0)) A := hR
  refine a_iload_n C dX7_level_5 rfl rfl ?_
  refine a_iconst (v := nI 0) C dX7_level_6 (by decide) ?_
  refine a_bipush (v := nI 8) C dX7_level_7 (by decide) ?_
  refine p_callS C ((K_X7_within _ _ _)).cp sX7_57 rfl dX7_level_9 (Nat.le_of_ble_eq_true rfl) ⟨by decide, by decide⟩ ?_
  refine b_if_ne (tgt := 21) C dX7_level_12 (by decide) (fun h_12 => ?_) (fun h_12 => ?_)
  · exact absurd (h_12.symm.trans zf0) (by decide)
  · refine a_aload_n C dX7_level_15 rfl rfl ?_
    refine a_iconst (v := nI 1) C dX7_level_16 (by decide) ?_
    refine f_callV C _ _ (K_X7_fails _) vX7_68 (by first | decide | omega) rfl rfl dX7_level_17 rfl (Nat.le_of_ble_eq_true rfl) ⟨by decide, by decide⟩ (fun zr17 zw17 zp17 => ?_)
    obtain ⟨rfl, rfl⟩ := zp17
    refine f_iret C hr ?_ dX7_level_20 ⟨?_, ?_⟩
    · rfl
    · first | with_reducible rfl | exact gl (by first | with_reducible rfl | (refine iF ?_; simp []; done) | (refine iT ?_; simp []; done) | (refine iB ?_; simp []; done) | (simp []; done) | (simp []; omega) | omega | rfl)
    · first | with_reducible rfl | exact wSet2 | rfl

set_option maxRecDepth 20000 in
set_option maxHeartbeats 4000000 in
theorem K_X7_level_1 {w : Wd} {A : St} (hR : RR w A) (hA : AOK A) {v : Nat} (hv : v < 9) (j : Int32) (hf : inR j 4 = false)  : CF yX7_level cX7_level 3 (some .int) 6 141 [.ref 204, .int (nI v), .int j] w (FA w (.int (nI 0)) 2) := by
  have zq_n := hA.n12
  have zf0 : decide (nI 0 ≤ (nI v) ∧ (nI v) ≤ nI 8) = true := win_eq (by decide) ((inR_nI (by omega)).trans (decide_eq_true (by omega)))
  have zf1 : decide (nI 0 ≤ j ∧ j ≤ nI 3) = false := win_eq (by decide) hf
  refine CF.of ok_X7_level (Nat.le_of_ble_eq_true rfl) (fun ex us G9 p9 l9 e9 s9 m9 ar9 be9 me9 co9 C hr => ?_)
  refine a_aload_n C dX7_level_0 rfl rfl ?_
  refine a_iconst (v := nI 0) C dX7_level_1 (by decide) ?_
  refine f_putf C fX7_53 dX7_level_2 (by first | decide | omega) rfl rfl rfl (Nat.le_of_ble_eq_true rfl) rfl ?_
  have hR : RR (wSet w 204 0 (nI 0)) A := hR
  refine a_iload_n C dX7_level_5 rfl rfl ?_
  refine a_iconst (v := nI 0) C dX7_level_6 (by decide) ?_
  refine a_bipush (v := nI 8) C dX7_level_7 (by decide) ?_
  refine p_callS C ((K_X7_within _ _ _)).cp sX7_57 rfl dX7_level_9 (Nat.le_of_ble_eq_true rfl) ⟨by decide, by decide⟩ ?_
  refine b_if_ne (tgt := 21) C dX7_level_12 (by decide) (fun h_12 => ?_) (fun h_12 => ?_)
  · refine a_iload_n C dX7_level_21 rfl rfl ?_
    refine a_iconst (v := nI 0) C dX7_level_22 (by decide) ?_
    refine a_iconst (v := nI 3) C dX7_level_23 (by decide) ?_
    refine p_callS C ((K_X7_within _ _ _)).cp sX7_57 rfl dX7_level_24 (Nat.le_of_ble_eq_true rfl) ⟨by decide, by decide⟩ ?_
    refine b_if_eq (tgt := 39) C dX7_level_27 (by decide) (fun h_27 => ?_) (fun h_27 => ?_)
    · refine a_aload_n C dX7_level_39 rfl rfl ?_
      refine a_iconst (v := nI 2) C dX7_level_40 (by decide) ?_
      refine f_callV C _ _ (K_X7_fails _) vX7_68 (by first | decide | omega) rfl rfl dX7_level_41 rfl (Nat.le_of_ble_eq_true rfl) ⟨by decide, by decide⟩ (fun zr41 zw41 zp41 => ?_)
      obtain ⟨rfl, rfl⟩ := zp41
      refine f_iret C hr ?_ dX7_level_44 ⟨?_, ?_⟩
      · rfl
      · first | with_reducible rfl | exact gl (by first | with_reducible rfl | (refine iF ?_; simp []; done) | (refine iT ?_; simp []; done) | (refine iB ?_; simp []; done) | (simp []; done) | (simp []; omega) | omega | rfl)
      · first | with_reducible rfl | exact wSet2 | rfl
    · exact absurd (h_27.symm.trans zf1) (by decide)
  · exact absurd (h_12.symm.trans zf0) (by decide)

set_option maxRecDepth 20000 in
set_option maxHeartbeats 4000000 in
theorem K_X7_count {w : Wd} {A : St} (hR : RR w A) (hA : AOK A) {j : Nat} (hj : j < 12)  : CF yX7_count cX7_count 2 (some .int) 7 156 [.ref 204, .int (nI j)] w (FA w (.int (tnA A (w.1 204 3) j)) 0) := by
  have zq_n := hA.n12
  have zf0 : decide (nI 0 ≤ (nI j) ∧ (nI j) ≤ nI 11) = true := win_eq (by decide) ((inR_nI (by omega)).trans (decide_eq_true (by omega)))
  refine CF.of ok_X7_count (Nat.le_of_ble_eq_true rfl) (fun ex us G9 p9 l9 e9 s9 m9 ar9 be9 me9 co9 C hr => ?_)
  refine a_aload_n C dX7_count_0 rfl rfl ?_
  refine a_iconst (v := nI 0) C dX7_count_1 (by decide) ?_
  refine f_putf C fX7_53 dX7_count_2 (by first | decide | omega) rfl rfl rfl (Nat.le_of_ble_eq_true rfl) rfl ?_
  have hR : RR (wSet w 204 0 (nI 0)) A := hR
  refine a_iload_n C dX7_count_5 rfl rfl ?_
  refine a_iconst (v := nI 0) C dX7_count_6 (by decide) ?_
  refine a_bipush (v := nI 11) C dX7_count_7 (by decide) ?_
  refine p_callS C ((K_X7_within _ _ _)).cp sX7_57 rfl dX7_count_9 (Nat.le_of_ble_eq_true rfl) ⟨by decide, by decide⟩ ?_
  refine b_if_eq (tgt := 23) C dX7_count_12 (by decide) (fun h_12 => ?_) (fun h_12 => ?_)
  · exact absurd (h_12.symm.trans zf0) (by decide)
  · refine a_aload_n C dX7_count_15 rfl rfl ?_
    refine a_iload_n C dX7_count_16 rfl rfl ?_
    refine p_callV C (K_X7_tellsCount hR hA (by first | assumption | decide | omega)) vX7_243 rfl (by first | decide | omega) rfl rfl dX7_count_17 (Nat.le_of_ble_eq_true rfl) ⟨by decide, by decide⟩ ?_
    refine a_goto (tgt := 28) C dX7_count_20 (by decide) ?_
    refine f_iret C hr ?_ dX7_count_28 ⟨?_, ?_⟩
    · rfl
    · first | with_reducible rfl | exact gl (by first | with_reducible rfl | (refine iF ?_; simp []; done) | (refine iT ?_; simp []; done) | (refine iB ?_; simp []; done) | (simp []; done) | (simp []; omega) | omega | rfl)
    · first | with_reducible rfl | exact wSet2 | rfl

set_option maxRecDepth 20000 in
set_option maxHeartbeats 4000000 in
theorem K_X7_count_0 {w : Wd} {A : St} (hR : RR w A) (hA : AOK A) (j : Int32) (hf : inR j 12 = false)  : CF yX7_count cX7_count 2 (some .int) 7 156 [.ref 204, .int j] w (FA w (.int (nI 0)) 1) := by
  have zq_n := hA.n12
  have zf0 : decide (nI 0 ≤ j ∧ j ≤ nI 11) = false := win_eq (by decide) hf
  refine CF.of ok_X7_count (Nat.le_of_ble_eq_true rfl) (fun ex us G9 p9 l9 e9 s9 m9 ar9 be9 me9 co9 C hr => ?_)
  refine a_aload_n C dX7_count_0 rfl rfl ?_
  refine a_iconst (v := nI 0) C dX7_count_1 (by decide) ?_
  refine f_putf C fX7_53 dX7_count_2 (by first | decide | omega) rfl rfl rfl (Nat.le_of_ble_eq_true rfl) rfl ?_
  have hR : RR (wSet w 204 0 (nI 0)) A := hR
  refine a_iload_n C dX7_count_5 rfl rfl ?_
  refine a_iconst (v := nI 0) C dX7_count_6 (by decide) ?_
  refine a_bipush (v := nI 11) C dX7_count_7 (by decide) ?_
  refine p_callS C ((K_X7_within _ _ _)).cp sX7_57 rfl dX7_count_9 (Nat.le_of_ble_eq_true rfl) ⟨by decide, by decide⟩ ?_
  refine b_if_eq (tgt := 23) C dX7_count_12 (by decide) (fun h_12 => ?_) (fun h_12 => ?_)
  · refine a_aload_n C dX7_count_23 rfl rfl ?_
    refine a_iconst (v := nI 1) C dX7_count_24 (by decide) ?_
    refine f_callV C _ _ (K_X7_fails _) vX7_68 (by first | decide | omega) rfl rfl dX7_count_25 rfl (Nat.le_of_ble_eq_true rfl) ⟨by decide, by decide⟩ (fun zr25 zw25 zp25 => ?_)
    obtain ⟨rfl, rfl⟩ := zp25
    refine f_iret C hr ?_ dX7_count_28 ⟨?_, ?_⟩
    · rfl
    · first | with_reducible rfl | exact gl (by first | with_reducible rfl | (refine iF ?_; simp []; done) | (refine iT ?_; simp []; done) | (refine iB ?_; simp []; done) | (simp []; done) | (simp []; omega) | omega | rfl)
    · first | with_reducible rfl | exact wSet2 | rfl
  · exact absurd (h_12.symm.trans zf0) (by decide)

set_option maxRecDepth 20000 in
set_option maxHeartbeats 4000000 in
theorem K_X7_setting {w : Wd} {A : St} (hR : RR w A) (hA : AOK A) {j : Nat} (hj : j < 4)  : CF yX7_setting cX7_setting 2 (some .int) 1 22 [.ref 204, .int (nI j)] w (FA w (.int (nI (sN A j))) 0) := by
  have zq_n := hA.n12
  have zf0 : decide (nI 0 ≤ (nI j) ∧ (nI j) ≤ nI 3) = true := win_eq (by decide) ((inR_nI (by omega)).trans (decide_eq_true (by omega)))
  refine CF.of ok_X7_setting (Nat.le_of_ble_eq_true rfl) (fun ex us G9 p9 l9 e9 s9 m9 ar9 be9 me9 co9 C hr => ?_)
  refine a_aload_n C dX7_setting_0 rfl rfl ?_
  refine a_iconst (v := nI 0) C dX7_setting_1 (by decide) ?_
  refine f_putf C fX7_53 dX7_setting_2 (by first | decide | omega) rfl rfl rfl (Nat.le_of_ble_eq_true rfl) rfl ?_
  have hR : RR (wSet w 204 0 (nI 0)) A := hR
  refine a_iload_n C dX7_setting_5 rfl rfl ?_
  refine a_iconst (v := nI 0) C dX7_setting_6 (by decide) ?_
  refine a_iconst (v := nI 3) C dX7_setting_7 (by decide) ?_
  refine p_callS C ((K_X7_within _ _ _)).cp sX7_57 rfl dX7_setting_8 (Nat.le_of_ble_eq_true rfl) ⟨by decide, by decide⟩ ?_
  refine b_if_eq (tgt := 26) C dX7_setting_11 (by decide) (fun h_11 => ?_) (fun h_11 => ?_)
  · exact absurd (h_11.symm.trans zf0) (by decide)
  · refine a_aload_n C dX7_setting_14 rfl rfl ?_
    refine a_getfF C fX7_7 dX7_setting_15 (show _ < 219 from (by first | decide | omega)) (by first | decide | omega) rfl rfl ?_
    refine a_bipush (v := nI 8) C dX7_setting_18 (by decide) ?_
    refine a_iload_n C dX7_setting_20 rfl rfl ?_
    first | refine n_iadd C dX7_setting_21 ?_ | refine a_iadd C dX7_setting_21 ?_
    refine n_iald C dX7_setting_22 (show _ < 219 from (by first | decide | omega)) (by first | decide | omega) rfl rfl (by first | decide | omega) (by decide) (RR_s hR hA (by omega)) ?_
    refine a_goto (tgt := 31) C dX7_setting_23 (by decide) ?_
    refine f_iret C hr ?_ dX7_setting_31 ⟨?_, ?_⟩
    · rfl
    · first | with_reducible rfl | exact gl (by first | with_reducible rfl | (refine iF ?_; simp []; done) | (refine iT ?_; simp []; done) | (refine iB ?_; simp []; done) | (simp []; done) | (simp []; omega) | omega | rfl)
    · first | with_reducible rfl | exact wSet2 | rfl

set_option maxRecDepth 20000 in
set_option maxHeartbeats 4000000 in
theorem K_X7_setting_0 {w : Wd} {A : St} (hR : RR w A) (hA : AOK A) (j : Int32) (hf : inR j 4 = false)  : CF yX7_setting cX7_setting 2 (some .int) 1 22 [.ref 204, .int j] w (FA w (.int (nI 0)) 1) := by
  have zq_n := hA.n12
  have zf0 : decide (nI 0 ≤ j ∧ j ≤ nI 3) = false := win_eq (by decide) hf
  refine CF.of ok_X7_setting (Nat.le_of_ble_eq_true rfl) (fun ex us G9 p9 l9 e9 s9 m9 ar9 be9 me9 co9 C hr => ?_)
  refine a_aload_n C dX7_setting_0 rfl rfl ?_
  refine a_iconst (v := nI 0) C dX7_setting_1 (by decide) ?_
  refine f_putf C fX7_53 dX7_setting_2 (by first | decide | omega) rfl rfl rfl (Nat.le_of_ble_eq_true rfl) rfl ?_
  have hR : RR (wSet w 204 0 (nI 0)) A := hR
  refine a_iload_n C dX7_setting_5 rfl rfl ?_
  refine a_iconst (v := nI 0) C dX7_setting_6 (by decide) ?_
  refine a_iconst (v := nI 3) C dX7_setting_7 (by decide) ?_
  refine p_callS C ((K_X7_within _ _ _)).cp sX7_57 rfl dX7_setting_8 (Nat.le_of_ble_eq_true rfl) ⟨by decide, by decide⟩ ?_
  refine b_if_eq (tgt := 26) C dX7_setting_11 (by decide) (fun h_11 => ?_) (fun h_11 => ?_)
  · refine a_aload_n C dX7_setting_26 rfl rfl ?_
    refine a_iconst (v := nI 1) C dX7_setting_27 (by decide) ?_
    refine f_callV C _ _ (K_X7_fails _) vX7_68 (by first | decide | omega) rfl rfl dX7_setting_28 rfl (Nat.le_of_ble_eq_true rfl) ⟨by decide, by decide⟩ (fun zr28 zw28 zp28 => ?_)
    obtain ⟨rfl, rfl⟩ := zp28
    refine f_iret C hr ?_ dX7_setting_31 ⟨?_, ?_⟩
    · rfl
    · first | with_reducible rfl | exact gl (by first | with_reducible rfl | (refine iF ?_; simp []; done) | (refine iT ?_; simp []; done) | (refine iB ?_; simp []; done) | (simp []; done) | (simp []; omega) | omega | rfl)
    · first | with_reducible rfl | exact wSet2 | rfl
  · exact absurd (h_11.symm.trans zf0) (by decide)

set_option maxRecDepth 20000 in
set_option maxHeartbeats 4000000 in
theorem K_X7_why {w : Wd} {A : St} (hR : RR w A) (hA : AOK A) {k : Nat} (hk : k < (kN A)) {j : Nat} (hj : j < 4)  : CF yX7_why cX7_why 3 (some .int) 5 115 [.ref 204, .int (nI k), .int (nI j)] w (FA w (.int (nI (wndA A k j))) 0) := by
  have zq_n := hA.n12
  have zf0 : inR (nI k) (kN A) = true := ((inR_nI (by omega)).trans (decide_eq_true (by omega)))
  have zf1 : inR (nI j) 4 = true := ((inR_nI (by omega)).trans (decide_eq_true (by omega)))
  refine CF.of ok_X7_why (Nat.le_of_ble_eq_true rfl) (fun ex us G9 p9 l9 e9 s9 m9 ar9 be9 me9 co9 C hr => ?_)
  refine a_aload_n C dX7_why_0 rfl rfl ?_
  refine a_iconst (v := nI 0) C dX7_why_1 (by decide) ?_
  refine f_putf C fX7_53 dX7_why_2 (by first | decide | omega) rfl rfl rfl (Nat.le_of_ble_eq_true rfl) rfl ?_
  have hR : RR (wSet w 204 0 (nI 0)) A := hR
  refine a_aload_n C dX7_why_5 rfl rfl ?_
  refine a_iload_n C dX7_why_6 rfl rfl ?_
  refine p_callV C (K_X7_isKey hR hA _) vX7_131 rfl (by first | decide | omega) rfl rfl dX7_why_7 (Nat.le_of_ble_eq_true rfl) ⟨by decide, by decide⟩ ?_
  refine b_if_eq (tgt := 29) C dX7_why_10 (by decide) (fun h_10 => ?_) (fun h_10 => ?_)
  · exact absurd (h_10.symm.trans zf0) (by decide)
  · refine a_iload_n C dX7_why_13 rfl rfl ?_
    refine p_callS C ((K_X7_isNotch _)).cp sX7_134 rfl dX7_why_14 (Nat.le_of_ble_eq_true rfl) ⟨by decide, by decide⟩ ?_
    refine b_if_eq (tgt := 29) C dX7_why_17 (by decide) (fun h_17 => ?_) (fun h_17 => ?_)
    · exact absurd (h_17.symm.trans zf1) (by decide)
    · refine a_aload_n C dX7_why_20 rfl rfl ?_
      refine a_iload_n C dX7_why_21 rfl rfl ?_
      refine a_iload_n C dX7_why_22 rfl rfl ?_
      refine p_callV C (K_X7_whyNotDeeper hR hA (by first | assumption | decide | omega) (by first | assumption | decide | omega)) vX7_137 rfl (by first | decide | omega) rfl rfl dX7_why_23 (Nat.le_of_ble_eq_true rfl) ⟨by decide, by decide⟩ ?_
      refine a_goto (tgt := 34) C dX7_why_26 (by decide) ?_
      refine f_iret C hr ?_ dX7_why_34 ⟨?_, ?_⟩
      · rfl
      · first | with_reducible rfl | exact gl (by first | with_reducible rfl | (refine iF ?_; simp []; done) | (refine iT ?_; simp []; done) | (refine iB ?_; simp []; done) | (simp []; done) | (simp []; omega) | omega | rfl)
      · first | with_reducible rfl | exact wSet2 | rfl

set_option maxRecDepth 20000 in
set_option maxHeartbeats 4000000 in
theorem K_X7_why_0 {w : Wd} {A : St} (hR : RR w A) (hA : AOK A) (k : Int32) (hf : inR k (kN A) = false) (j : Int32)  : CF yX7_why cX7_why 3 (some .int) 5 115 [.ref 204, .int k, .int j] w (FA w (.int (nI 0)) 1) := by
  have zq_n := hA.n12
  have zf0 : inR k (kN A) = false := hf
  refine CF.of ok_X7_why (Nat.le_of_ble_eq_true rfl) (fun ex us G9 p9 l9 e9 s9 m9 ar9 be9 me9 co9 C hr => ?_)
  refine a_aload_n C dX7_why_0 rfl rfl ?_
  refine a_iconst (v := nI 0) C dX7_why_1 (by decide) ?_
  refine f_putf C fX7_53 dX7_why_2 (by first | decide | omega) rfl rfl rfl (Nat.le_of_ble_eq_true rfl) rfl ?_
  have hR : RR (wSet w 204 0 (nI 0)) A := hR
  refine a_aload_n C dX7_why_5 rfl rfl ?_
  refine a_iload_n C dX7_why_6 rfl rfl ?_
  refine p_callV C (K_X7_isKey hR hA _) vX7_131 rfl (by first | decide | omega) rfl rfl dX7_why_7 (Nat.le_of_ble_eq_true rfl) ⟨by decide, by decide⟩ ?_
  refine b_if_eq (tgt := 29) C dX7_why_10 (by decide) (fun h_10 => ?_) (fun h_10 => ?_)
  · refine a_aload_n C dX7_why_29 rfl rfl ?_
    refine a_iconst (v := nI 1) C dX7_why_30 (by decide) ?_
    refine f_callV C _ _ (K_X7_fails _) vX7_68 (by first | decide | omega) rfl rfl dX7_why_31 rfl (Nat.le_of_ble_eq_true rfl) ⟨by decide, by decide⟩ (fun zr31 zw31 zp31 => ?_)
    obtain ⟨rfl, rfl⟩ := zp31
    refine f_iret C hr ?_ dX7_why_34 ⟨?_, ?_⟩
    · rfl
    · first | with_reducible rfl | exact gl (by first | with_reducible rfl | (refine iF ?_; simp []; done) | (refine iT ?_; simp []; done) | (refine iB ?_; simp []; done) | (simp []; done) | (simp []; omega) | omega | rfl)
    · first | with_reducible rfl | exact wSet2 | rfl
  · exact absurd (h_10.symm.trans zf0) (by decide)

set_option maxRecDepth 20000 in
set_option maxHeartbeats 4000000 in
theorem K_X7_why_1 {w : Wd} {A : St} (hR : RR w A) (hA : AOK A) {k : Nat} (hk : k < (kN A)) (j : Int32) (hf : inR j 4 = false)  : CF yX7_why cX7_why 3 (some .int) 5 115 [.ref 204, .int (nI k), .int j] w (FA w (.int (nI 0)) 1) := by
  have zq_n := hA.n12
  have zf0 : inR (nI k) (kN A) = true := ((inR_nI (by omega)).trans (decide_eq_true (by omega)))
  have zf1 : inR j 4 = false := hf
  refine CF.of ok_X7_why (Nat.le_of_ble_eq_true rfl) (fun ex us G9 p9 l9 e9 s9 m9 ar9 be9 me9 co9 C hr => ?_)
  refine a_aload_n C dX7_why_0 rfl rfl ?_
  refine a_iconst (v := nI 0) C dX7_why_1 (by decide) ?_
  refine f_putf C fX7_53 dX7_why_2 (by first | decide | omega) rfl rfl rfl (Nat.le_of_ble_eq_true rfl) rfl ?_
  have hR : RR (wSet w 204 0 (nI 0)) A := hR
  refine a_aload_n C dX7_why_5 rfl rfl ?_
  refine a_iload_n C dX7_why_6 rfl rfl ?_
  refine p_callV C (K_X7_isKey hR hA _) vX7_131 rfl (by first | decide | omega) rfl rfl dX7_why_7 (Nat.le_of_ble_eq_true rfl) ⟨by decide, by decide⟩ ?_
  refine b_if_eq (tgt := 29) C dX7_why_10 (by decide) (fun h_10 => ?_) (fun h_10 => ?_)
  · exact absurd (h_10.symm.trans zf0) (by decide)
  · refine a_iload_n C dX7_why_13 rfl rfl ?_
    refine p_callS C ((K_X7_isNotch _)).cp sX7_134 rfl dX7_why_14 (Nat.le_of_ble_eq_true rfl) ⟨by decide, by decide⟩ ?_
    refine b_if_eq (tgt := 29) C dX7_why_17 (by decide) (fun h_17 => ?_) (fun h_17 => ?_)
    · refine a_aload_n C dX7_why_29 rfl rfl ?_
      refine a_iconst (v := nI 1) C dX7_why_30 (by decide) ?_
      refine f_callV C _ _ (K_X7_fails _) vX7_68 (by first | decide | omega) rfl rfl dX7_why_31 rfl (Nat.le_of_ble_eq_true rfl) ⟨by decide, by decide⟩ (fun zr31 zw31 zp31 => ?_)
      obtain ⟨rfl, rfl⟩ := zp31
      refine f_iret C hr ?_ dX7_why_34 ⟨?_, ?_⟩
      · rfl
      · first | with_reducible rfl | exact gl (by first | with_reducible rfl | (refine iF ?_; simp []; done) | (refine iT ?_; simp []; done) | (refine iB ?_; simp []; done) | (simp []; done) | (simp []; omega) | omega | rfl)
      · first | with_reducible rfl | exact wSet2 | rfl
    · exact absurd (h_17.symm.trans zf1) (by decide)

set_option maxRecDepth 20000 in
set_option maxHeartbeats 4000000 in
theorem K_X7_stopped {w : Wd} {A : St} (hR : RR w A) (hA : AOK A) {j : Nat} (hj : j < 2)  : CF yX7_stopped cX7_stopped 2 (some .int) 1 22 [.ref 204, .int (nI j)] w (FA w (.int (A (6 + j))) 0) := by
  have zq_n := hA.n12
  have zf0 : decide (nI 0 ≤ (nI j) ∧ (nI j) ≤ nI 1) = true := win_eq (by decide) ((inR_nI (by omega)).trans (decide_eq_true (by omega)))
  refine CF.of ok_X7_stopped (Nat.le_of_ble_eq_true rfl) (fun ex us G9 p9 l9 e9 s9 m9 ar9 be9 me9 co9 C hr => ?_)
  refine a_aload_n C dX7_stopped_0 rfl rfl ?_
  refine a_iconst (v := nI 0) C dX7_stopped_1 (by decide) ?_
  refine f_putf C fX7_53 dX7_stopped_2 (by first | decide | omega) rfl rfl rfl (Nat.le_of_ble_eq_true rfl) rfl ?_
  have hR : RR (wSet w 204 0 (nI 0)) A := hR
  refine a_iload_n C dX7_stopped_5 rfl rfl ?_
  refine a_iconst (v := nI 0) C dX7_stopped_6 (by decide) ?_
  refine a_iconst (v := nI 1) C dX7_stopped_7 (by decide) ?_
  refine p_callS C ((K_X7_within _ _ _)).cp sX7_57 rfl dX7_stopped_8 (Nat.le_of_ble_eq_true rfl) ⟨by decide, by decide⟩ ?_
  refine b_if_eq (tgt := 26) C dX7_stopped_11 (by decide) (fun h_11 => ?_) (fun h_11 => ?_)
  · exact absurd (h_11.symm.trans zf0) (by decide)
  · refine a_aload_n C dX7_stopped_14 rfl rfl ?_
    refine a_getfF C fX7_7 dX7_stopped_15 (show _ < 219 from (by first | decide | omega)) (by first | decide | omega) rfl rfl ?_
    refine a_bipush (v := nI 6) C dX7_stopped_18 (by decide) ?_
    refine a_iload_n C dX7_stopped_20 rfl rfl ?_
    first | refine n_iadd C dX7_stopped_21 ?_ | refine a_iadd C dX7_stopped_21 ?_
    refine n_iald C dX7_stopped_22 (show _ < 219 from (by first | decide | omega)) (by first | decide | omega) rfl rfl (by first | decide | omega) (by decide) hR.at ?_
    refine a_goto (tgt := 31) C dX7_stopped_23 (by decide) ?_
    refine f_iret C hr ?_ dX7_stopped_31 ⟨?_, ?_⟩
    · rfl
    · first | with_reducible rfl | exact gl (by first | with_reducible rfl | (refine iF ?_; simp []; done) | (refine iT ?_; simp []; done) | (refine iB ?_; simp []; done) | (simp []; done) | (simp []; omega) | omega | rfl)
    · first | with_reducible rfl | exact wSet2 | rfl

set_option maxRecDepth 20000 in
set_option maxHeartbeats 4000000 in
theorem K_X7_stopped_0 {w : Wd} {A : St} (hR : RR w A) (hA : AOK A) (j : Int32) (hf : inR j 2 = false)  : CF yX7_stopped cX7_stopped 2 (some .int) 1 22 [.ref 204, .int j] w (FA w (.int (nI 0)) 1) := by
  have zq_n := hA.n12
  have zf0 : decide (nI 0 ≤ j ∧ j ≤ nI 1) = false := win_eq (by decide) hf
  refine CF.of ok_X7_stopped (Nat.le_of_ble_eq_true rfl) (fun ex us G9 p9 l9 e9 s9 m9 ar9 be9 me9 co9 C hr => ?_)
  refine a_aload_n C dX7_stopped_0 rfl rfl ?_
  refine a_iconst (v := nI 0) C dX7_stopped_1 (by decide) ?_
  refine f_putf C fX7_53 dX7_stopped_2 (by first | decide | omega) rfl rfl rfl (Nat.le_of_ble_eq_true rfl) rfl ?_
  have hR : RR (wSet w 204 0 (nI 0)) A := hR
  refine a_iload_n C dX7_stopped_5 rfl rfl ?_
  refine a_iconst (v := nI 0) C dX7_stopped_6 (by decide) ?_
  refine a_iconst (v := nI 1) C dX7_stopped_7 (by decide) ?_
  refine p_callS C ((K_X7_within _ _ _)).cp sX7_57 rfl dX7_stopped_8 (Nat.le_of_ble_eq_true rfl) ⟨by decide, by decide⟩ ?_
  refine b_if_eq (tgt := 26) C dX7_stopped_11 (by decide) (fun h_11 => ?_) (fun h_11 => ?_)
  · refine a_aload_n C dX7_stopped_26 rfl rfl ?_
    refine a_iconst (v := nI 1) C dX7_stopped_27 (by decide) ?_
    refine f_callV C _ _ (K_X7_fails _) vX7_68 (by first | decide | omega) rfl rfl dX7_stopped_28 rfl (Nat.le_of_ble_eq_true rfl) ⟨by decide, by decide⟩ (fun zr28 zw28 zp28 => ?_)
    obtain ⟨rfl, rfl⟩ := zp28
    refine f_iret C hr ?_ dX7_stopped_31 ⟨?_, ?_⟩
    · rfl
    · first | with_reducible rfl | exact gl (by first | with_reducible rfl | (refine iF ?_; simp []; done) | (refine iT ?_; simp []; done) | (refine iB ?_; simp []; done) | (simp []; done) | (simp []; omega) | omega | rfl)
    · first | with_reducible rfl | exact wSet2 | rfl
  · exact absurd (h_11.symm.trans zf0) (by decide)

set_option maxRecDepth 20000 in
set_option maxHeartbeats 4000000 in
theorem K_X7_worn {w : Wd} {A : St} (hR : RR w A) (hA : AOK A) {k : Nat} (hk : k < (kN A)) {u : Nat} (hu : u < 100)  : CF yX7_worn cX7_worn 3 (some .int) 4 87 [.ref 204, .int (nI k), .int (nI u)] w (FA w (.int (nI (bhA A k u))) 0) := by
  have zq_n := hA.n12
  have zf0 : inR (nI k) (kN A) = true := ((inR_nI (by omega)).trans (decide_eq_true (by omega)))
  have zf1 : decide (nI 0 ≤ (nI u) ∧ (nI u) ≤ nI 99) = true := win_eq (by decide) ((inR_nI (by omega)).trans (decide_eq_true (by omega)))
  refine CF.of ok_X7_worn (Nat.le_of_ble_eq_true rfl) (fun ex us G9 p9 l9 e9 s9 m9 ar9 be9 me9 co9 C hr => ?_)
  refine a_aload_n C dX7_worn_0 rfl rfl ?_
  refine a_iconst (v := nI 0) C dX7_worn_1 (by decide) ?_
  refine f_putf C fX7_53 dX7_worn_2 (by first | decide | omega) rfl rfl rfl (Nat.le_of_ble_eq_true rfl) rfl ?_
  have hR : RR (wSet w 204 0 (nI 0)) A := hR
  refine a_aload_n C dX7_worn_5 rfl rfl ?_
  refine a_iload_n C dX7_worn_6 rfl rfl ?_
  refine p_callV C (K_X7_isKey hR hA _) vX7_131 rfl (by first | decide | omega) rfl rfl dX7_worn_7 (Nat.le_of_ble_eq_true rfl) ⟨by decide, by decide⟩ ?_
  refine b_if_ne (tgt := 19) C dX7_worn_10 (by decide) (fun h_10 => ?_) (fun h_10 => ?_)
  · refine a_iload_n C dX7_worn_19 rfl rfl ?_
    refine a_iconst (v := nI 0) C dX7_worn_20 (by decide) ?_
    refine a_bipush (v := nI 99) C dX7_worn_21 (by decide) ?_
    refine p_callS C ((K_X7_within _ _ _)).cp sX7_57 rfl dX7_worn_23 (Nat.le_of_ble_eq_true rfl) ⟨by decide, by decide⟩ ?_
    refine b_if_eq (tgt := 38) C dX7_worn_26 (by decide) (fun h_26 => ?_) (fun h_26 => ?_)
    · exact absurd (h_26.symm.trans zf1) (by decide)
    · refine a_aload_n C dX7_worn_29 rfl rfl ?_
      refine a_iload_n C dX7_worn_30 rfl rfl ?_
      refine a_iload_n C dX7_worn_31 rfl rfl ?_
      refine p_callV C (K_X7_behind hR hA (by first | assumption | decide | omega) (by first | assumption | decide | omega)) vX7_280 rfl (by first | decide | omega) rfl rfl dX7_worn_32 (Nat.le_of_ble_eq_true rfl) ⟨by decide, by decide⟩ ?_
      refine a_goto (tgt := 43) C dX7_worn_35 (by decide) ?_
      refine f_iret C hr ?_ dX7_worn_43 ⟨?_, ?_⟩
      · rfl
      · first | with_reducible rfl | exact gl (by first | with_reducible rfl | (refine iF ?_; simp []; done) | (refine iT ?_; simp []; done) | (refine iB ?_; simp []; done) | (simp []; done) | (simp []; omega) | omega | rfl)
      · first | with_reducible rfl | exact wSet2 | rfl
  · exact absurd (h_10.symm.trans zf0) (by decide)

set_option maxRecDepth 20000 in
set_option maxHeartbeats 4000000 in
theorem K_X7_worn_0 {w : Wd} {A : St} (hR : RR w A) (hA : AOK A) (k : Int32) (hf : inR k (kN A) = false) (u : Int32)  : CF yX7_worn cX7_worn 3 (some .int) 4 87 [.ref 204, .int k, .int u] w (FA w (.int (nI 0)) 1) := by
  have zq_n := hA.n12
  have zf0 : inR k (kN A) = false := hf
  refine CF.of ok_X7_worn (Nat.le_of_ble_eq_true rfl) (fun ex us G9 p9 l9 e9 s9 m9 ar9 be9 me9 co9 C hr => ?_)
  refine a_aload_n C dX7_worn_0 rfl rfl ?_
  refine a_iconst (v := nI 0) C dX7_worn_1 (by decide) ?_
  refine f_putf C fX7_53 dX7_worn_2 (by first | decide | omega) rfl rfl rfl (Nat.le_of_ble_eq_true rfl) rfl ?_
  have hR : RR (wSet w 204 0 (nI 0)) A := hR
  refine a_aload_n C dX7_worn_5 rfl rfl ?_
  refine a_iload_n C dX7_worn_6 rfl rfl ?_
  refine p_callV C (K_X7_isKey hR hA _) vX7_131 rfl (by first | decide | omega) rfl rfl dX7_worn_7 (Nat.le_of_ble_eq_true rfl) ⟨by decide, by decide⟩ ?_
  refine b_if_ne (tgt := 19) C dX7_worn_10 (by decide) (fun h_10 => ?_) (fun h_10 => ?_)
  · exact absurd (h_10.symm.trans zf0) (by decide)
  · refine a_aload_n C dX7_worn_13 rfl rfl ?_
    refine a_iconst (v := nI 1) C dX7_worn_14 (by decide) ?_
    refine f_callV C _ _ (K_X7_fails _) vX7_68 (by first | decide | omega) rfl rfl dX7_worn_15 rfl (Nat.le_of_ble_eq_true rfl) ⟨by decide, by decide⟩ (fun zr15 zw15 zp15 => ?_)
    obtain ⟨rfl, rfl⟩ := zp15
    refine f_iret C hr ?_ dX7_worn_18 ⟨?_, ?_⟩
    · rfl
    · first | with_reducible rfl | exact gl (by first | with_reducible rfl | (refine iF ?_; simp []; done) | (refine iT ?_; simp []; done) | (refine iB ?_; simp []; done) | (simp []; done) | (simp []; omega) | omega | rfl)
    · first | with_reducible rfl | exact wSet2 | rfl

set_option maxRecDepth 20000 in
set_option maxHeartbeats 4000000 in
theorem K_X7_worn_1 {w : Wd} {A : St} (hR : RR w A) (hA : AOK A) {k : Nat} (hk : k < (kN A)) (u : Int32) (hf : inR u 100 = false)  : CF yX7_worn cX7_worn 3 (some .int) 4 87 [.ref 204, .int (nI k), .int u] w (FA w (.int (nI 0)) 2) := by
  have zq_n := hA.n12
  have zf0 : inR (nI k) (kN A) = true := ((inR_nI (by omega)).trans (decide_eq_true (by omega)))
  have zf1 : decide (nI 0 ≤ u ∧ u ≤ nI 99) = false := win_eq (by decide) hf
  refine CF.of ok_X7_worn (Nat.le_of_ble_eq_true rfl) (fun ex us G9 p9 l9 e9 s9 m9 ar9 be9 me9 co9 C hr => ?_)
  refine a_aload_n C dX7_worn_0 rfl rfl ?_
  refine a_iconst (v := nI 0) C dX7_worn_1 (by decide) ?_
  refine f_putf C fX7_53 dX7_worn_2 (by first | decide | omega) rfl rfl rfl (Nat.le_of_ble_eq_true rfl) rfl ?_
  have hR : RR (wSet w 204 0 (nI 0)) A := hR
  refine a_aload_n C dX7_worn_5 rfl rfl ?_
  refine a_iload_n C dX7_worn_6 rfl rfl ?_
  refine p_callV C (K_X7_isKey hR hA _) vX7_131 rfl (by first | decide | omega) rfl rfl dX7_worn_7 (Nat.le_of_ble_eq_true rfl) ⟨by decide, by decide⟩ ?_
  refine b_if_ne (tgt := 19) C dX7_worn_10 (by decide) (fun h_10 => ?_) (fun h_10 => ?_)
  · refine a_iload_n C dX7_worn_19 rfl rfl ?_
    refine a_iconst (v := nI 0) C dX7_worn_20 (by decide) ?_
    refine a_bipush (v := nI 99) C dX7_worn_21 (by decide) ?_
    refine p_callS C ((K_X7_within _ _ _)).cp sX7_57 rfl dX7_worn_23 (Nat.le_of_ble_eq_true rfl) ⟨by decide, by decide⟩ ?_
    refine b_if_eq (tgt := 38) C dX7_worn_26 (by decide) (fun h_26 => ?_) (fun h_26 => ?_)
    · refine a_aload_n C dX7_worn_38 rfl rfl ?_
      refine a_iconst (v := nI 2) C dX7_worn_39 (by decide) ?_
      refine f_callV C _ _ (K_X7_fails _) vX7_68 (by first | decide | omega) rfl rfl dX7_worn_40 rfl (Nat.le_of_ble_eq_true rfl) ⟨by decide, by decide⟩ (fun zr40 zw40 zp40 => ?_)
      obtain ⟨rfl, rfl⟩ := zp40
      refine f_iret C hr ?_ dX7_worn_43 ⟨?_, ?_⟩
      · rfl
      · first | with_reducible rfl | exact gl (by first | with_reducible rfl | (refine iF ?_; simp []; done) | (refine iT ?_; simp []; done) | (refine iB ?_; simp []; done) | (simp []; done) | (simp []; omega) | omega | rfl)
      · first | with_reducible rfl | exact wSet2 | rfl
    · exact absurd (h_26.symm.trans zf1) (by decide)
  · exact absurd (h_10.symm.trans zf0) (by decide)

set_option maxRecDepth 20000 in
set_option maxHeartbeats 4000000 in
theorem K_X7_crossedIn {w : Wd} {A : St} (hR : RR w A) (hA : AOK A) {k : Nat} (hk : k < (kN A))  : CF yX7_crossedIn cX7_crossedIn 2 (some .int) 6 131 [.ref 204, .int (nI k)] w (FA w (.int (fcA A k)) 0) := by
  have zq_n := hA.n12
  have zf0 : inR (nI k) (kN A) = true := ((inR_nI (by omega)).trans (decide_eq_true (by omega)))
  refine CF.of ok_X7_crossedIn (Nat.le_of_ble_eq_true rfl) (fun ex us G9 p9 l9 e9 s9 m9 ar9 be9 me9 co9 C hr => ?_)
  refine a_aload_n C dX7_crossedIn_0 rfl rfl ?_
  refine a_iconst (v := nI 0) C dX7_crossedIn_1 (by decide) ?_
  refine f_putf C fX7_53 dX7_crossedIn_2 (by first | decide | omega) rfl rfl rfl (Nat.le_of_ble_eq_true rfl) rfl ?_
  have hR : RR (wSet w 204 0 (nI 0)) A := hR
  refine a_aload_n C dX7_crossedIn_5 rfl rfl ?_
  refine a_iload_n C dX7_crossedIn_6 rfl rfl ?_
  refine p_callV C (K_X7_isKey hR hA _) vX7_131 rfl (by first | decide | omega) rfl rfl dX7_crossedIn_7 (Nat.le_of_ble_eq_true rfl) ⟨by decide, by decide⟩ ?_
  refine b_if_eq (tgt := 21) C dX7_crossedIn_10 (by decide) (fun h_10 => ?_) (fun h_10 => ?_)
  · exact absurd (h_10.symm.trans zf0) (by decide)
  · refine a_aload_n C dX7_crossedIn_13 rfl rfl ?_
    refine a_iload_n C dX7_crossedIn_14 rfl rfl ?_
    refine p_callV C (K_X7_firstCrossed hR hA (by first | assumption | decide | omega)) vX7_286 rfl (by first | decide | omega) rfl rfl dX7_crossedIn_15 (Nat.le_of_ble_eq_true rfl) ⟨by decide, by decide⟩ ?_
    refine a_goto (tgt := 26) C dX7_crossedIn_18 (by decide) ?_
    refine f_iret C hr ?_ dX7_crossedIn_26 ⟨?_, ?_⟩
    · rfl
    · first | with_reducible rfl | exact gl (by first | with_reducible rfl | (refine iF ?_; simp []; done) | (refine iT ?_; simp []; done) | (refine iB ?_; simp []; done) | (simp []; done) | (simp []; omega) | omega | rfl)
    · first | with_reducible rfl | exact wSet2 | rfl

set_option maxRecDepth 20000 in
set_option maxHeartbeats 4000000 in
theorem K_X7_crossedIn_0 {w : Wd} {A : St} (hR : RR w A) (hA : AOK A) (k : Int32) (hf : inR k (kN A) = false)  : CF yX7_crossedIn cX7_crossedIn 2 (some .int) 6 131 [.ref 204, .int k] w (FA w (.int (nI 0)) 1) := by
  have zq_n := hA.n12
  have zf0 : inR k (kN A) = false := hf
  refine CF.of ok_X7_crossedIn (Nat.le_of_ble_eq_true rfl) (fun ex us G9 p9 l9 e9 s9 m9 ar9 be9 me9 co9 C hr => ?_)
  refine a_aload_n C dX7_crossedIn_0 rfl rfl ?_
  refine a_iconst (v := nI 0) C dX7_crossedIn_1 (by decide) ?_
  refine f_putf C fX7_53 dX7_crossedIn_2 (by first | decide | omega) rfl rfl rfl (Nat.le_of_ble_eq_true rfl) rfl ?_
  have hR : RR (wSet w 204 0 (nI 0)) A := hR
  refine a_aload_n C dX7_crossedIn_5 rfl rfl ?_
  refine a_iload_n C dX7_crossedIn_6 rfl rfl ?_
  refine p_callV C (K_X7_isKey hR hA _) vX7_131 rfl (by first | decide | omega) rfl rfl dX7_crossedIn_7 (Nat.le_of_ble_eq_true rfl) ⟨by decide, by decide⟩ ?_
  refine b_if_eq (tgt := 21) C dX7_crossedIn_10 (by decide) (fun h_10 => ?_) (fun h_10 => ?_)
  · refine a_aload_n C dX7_crossedIn_21 rfl rfl ?_
    refine a_iconst (v := nI 1) C dX7_crossedIn_22 (by decide) ?_
    refine f_callV C _ _ (K_X7_fails _) vX7_68 (by first | decide | omega) rfl rfl dX7_crossedIn_23 rfl (Nat.le_of_ble_eq_true rfl) ⟨by decide, by decide⟩ (fun zr23 zw23 zp23 => ?_)
    obtain ⟨rfl, rfl⟩ := zp23
    refine f_iret C hr ?_ dX7_crossedIn_26 ⟨?_, ?_⟩
    · rfl
    · first | with_reducible rfl | exact gl (by first | with_reducible rfl | (refine iF ?_; simp []; done) | (refine iT ?_; simp []; done) | (refine iB ?_; simp []; done) | (simp []; done) | (simp []; omega) | omega | rfl)
    · first | with_reducible rfl | exact wSet2 | rfl
  · exact absurd (h_10.symm.trans zf0) (by decide)

set_option maxRecDepth 20000 in
set_option maxHeartbeats 4000000 in
theorem K_X7_opener_0 {w : Wd} {A : St} (hR : RR w A) (hA : AOK A) (x : Int32) (zf0 : arlA A x = false) : CF yX7_opener cX7_opener 5 (some .int) 6 131 [.ref 204, .int x] w (FA w (.int (nI 0)) 1) := by
  refine CF.of ok_X7_opener (Nat.le_of_ble_eq_true rfl) (fun ex us G9 p9 l9 e9 s9 m9 ar9 be9 me9 co9 C hr => ?_)
  refine a_pad 3 ?_
  refine a_eq (L' := [some (.ref 204), some (.int x), none, none, none]) rfl rfl rfl ?_
  refine a_aload_n C dX7_opener_0 rfl rfl ?_
  refine a_iconst (v := nI 0) C dX7_opener_1 (by decide) ?_
  refine f_putf C fX7_53 dX7_opener_2 (by first | decide | omega) rfl rfl rfl (Nat.le_of_ble_eq_true rfl) rfl ?_
  have hR : RR (wSet w 204 0 (nI 0)) A := hR
  refine a_aload_n C dX7_opener_5 rfl rfl ?_
  refine a_iload_n C dX7_opener_6 rfl rfl ?_
  refine p_callV C (K_X7_areLocks hR hA _) vX7_277 rfl (by first | decide | omega) rfl rfl dX7_opener_7 (Nat.le_of_ble_eq_true rfl) ⟨by decide, by decide⟩ ?_
  refine b_if_ne (tgt := 19) C dX7_opener_10 (by decide) (fun h_10 => ?_) (fun h_10 => ?_)
  · exact absurd (h_10.symm.trans zf0) (by decide)
  · refine a_aload_n C dX7_opener_13 rfl rfl ?_
    refine a_iconst (v := nI 1) C dX7_opener_14 (by decide) ?_
    refine f_callV C _ _ (K_X7_fails _) vX7_68 (by first | decide | omega) rfl rfl dX7_opener_15 rfl (Nat.le_of_ble_eq_true rfl) ⟨by decide, by decide⟩ (fun zr15 zw15 zp15 => ?_)
    obtain ⟨rfl, rfl⟩ := zp15
    refine f_iret C hr ?_ dX7_opener_18 ⟨?_, ?_⟩
    · rfl
    · first | with_reducible rfl | exact gl (by first | with_reducible rfl | (refine iF ?_; simp []; done) | (refine iT ?_; simp []; done) | (refine iB ?_; simp []; done) | (simp []; done) | (simp []; omega) | omega | rfl)
    · first | with_reducible rfl | exact wSet2 | rfl

theorem opD {A : St} {x c : Nat} : opC A x c = ((sndA A c && (lksA A c &&& x == x)) && (oprA A x c == -1 || decide (lvN c < lvN (iN (oprA A x c))))) := opr_cond.symm
theorem opr_nx (A : St) (x c : Nat) : oprA A x (c + 1) = if (sndA A c && (lksA A c &&& x == x)) && (oprA A x c == -1 || decide (lvN c < lvN (iN (oprA A x c)))) then nI c else oprA A x c := rfl
set_option maxRecDepth 20000 in
set_option maxHeartbeats 4000000 in
theorem K_X7_opener {w : Wd} {A : St} (hR : RR w A) (hA : AOK A) {x : Nat} (hx : 1 ≤ x ∧ x ≤ 63) (zf0 : arlA A (nI x) = true) : CF yX7_opener cX7_opener 5 (some .int) 6 131 [.ref 204, .int (nI x)] w (FA w (.int (oprA A x 81)) 0) := by
  refine CF.of ok_X7_opener (Nat.le_of_ble_eq_true rfl) (fun ex us G9 p9 l9 e9 s9 m9 ar9 be9 me9 co9 C hr => ?_)
  have ZL23 : ∀ (zd23 : Nat) (c : Nat), 81 + 1 ≤ c + zd23 → c ≤ 81 → WA G9 p9 l9 e9 (RM 6 131) s9 m9 ar9 be9 me9 co9 (QF G9 be9 ar9 s9 w ex us (FA w (.int (oprA A x 81)) 0)) 5 (219 + ex) us 23 [some (.ref 204), some (.int (nI x)), some (.int (oprA A x c)), some (.int (nI c)), none] [] (fzM (wSet w 204 0 (nI 0)) ex us) := by
    intro zd23
    induction zd23 with
    | zero => intro c zm23 zh23_0; exfalso; omega
    | succ zd23 zih23 =>
      intro c zm23 zh23_0
      have hR : RR (wSet w 204 0 (nI 0)) A := hR
      have zq_l := lvN_le c
      have zq_k : lksA A c < 2 ^ 31 := Nat.lt_trans (mskN_lt _ 6) (by decide)
      refine a_iload_n C dX7_opener_23 rfl rfl ?_
      refine a_bipush (v := nI 81) C dX7_opener_24 (by decide) ?_
      first | refine n_icmp_ge (tgt := 88) C dX7_opener_26 (by decide) (by first | decide | omega) (by first | decide | omega) (fun h_26 => ?_) (fun h_26 => ?_) | refine a_icmp_ge (tgt := 88) C dX7_opener_26 (by decide) (fun h_26 => ?_) (fun h_26 => ?_)
      · obtain rfl : c = 81 := by omega
        refine a_iload_n C dX7_opener_88 rfl rfl ?_
        refine f_iret C hr ?_ dX7_opener_89 ⟨?_, ?_⟩
        · rfl
        · rfl
        · first | with_reducible rfl | exact wSet2 | rfl
      · refine a_via 53 (bI (sndA A c && (lksA A c &&& x == x))) ?_ (fun zJ53 => ?_)
        · refine a_istore C dX7_opener_53 (by decide) ?_
          refine a_via 81 (oprA A x (c + 1)) ?_ (fun zJ81 => ?_)
          · refine a_istore_n C dX7_opener_81 rfl (by decide) ?_
            refine n_iinc C dX7_opener_82 rfl (by decide) ?_
            refine a_goto (tgt := 23) C dX7_opener_85 (by decide) ?_
            refine a_join (aLe_s ?_ (aLe_s ?_ (aLe_s ?_ (aLe_s ?_ (aLe_n aLe_nil))))) rfl rfl (zih23 (c + 1) (by omega) (by omega))
            · first | with_reducible rfl | exact gl (by first | with_reducible rfl | (refine iF ?_; simp [h_26]; done) | (refine iT ?_; simp [h_26]; done) | (refine iB ?_; simp [h_26]; done) | (simp [h_26]; done) | (simp [h_26]; omega) | omega)
            · first | with_reducible rfl | exact gl (by first | with_reducible rfl | (refine iF ?_; simp [h_26]; done) | (refine iT ?_; simp [h_26]; done) | (refine iB ?_; simp [h_26]; done) | (simp [h_26]; done) | (simp [h_26]; omega) | omega)
            · first | with_reducible rfl | exact gl (by first | with_reducible rfl | (refine iF ?_; simp [h_26]; done) | (refine iT ?_; simp [h_26]; done) | (refine iB ?_; simp [h_26]; done) | (simp [h_26]; done) | (simp [h_26]; omega) | omega)
            · first | with_reducible rfl | exact gl (by first | with_reducible rfl | (refine iF ?_; simp [h_26]; done) | (refine iT ?_; simp [h_26]; done) | (refine iB ?_; simp [h_26]; done) | (simp [h_26]; done) | (simp [h_26]; omega) | omega)
          · refine a_iload C dX7_opener_55 rfl ?_
            first | refine b_if_eq (tgt := 80) C dX7_opener_57 (by decide) (fun h_57 => ?_) (fun h_57 => ?_) | refine n_if_eq (tgt := 80) C dX7_opener_57 (by decide) (by first | decide | omega) (fun h_57 => ?_) (fun h_57 => ?_) | refine a_if_eq (tgt := 80) C dX7_opener_57 (by decide) (fun h_57 => ?_) (fun h_57 => ?_)
            · refine a_iload_n C dX7_opener_80 rfl rfl ?_
              refine a_eq rfl (gl1 ?_) rfl zJ81
              · first | with_reducible rfl | (refine iF ?_; simp [opr_nx, h_26, h_57]; done) | (refine iT ?_; simp [opr_nx, h_26, h_57]; done) | (refine iB ?_; simp [opr_nx, h_26, h_57]; done) | (simp [opr_nx, h_26, h_57]; done) | (simp [opr_nx, h_26, h_57]; omega) | omega
            · refine a_iload_n C dX7_opener_60 rfl rfl ?_
              refine a_iconst (v := (-1)) C dX7_opener_61 (by decide) ?_
              refine a_icmp_eq (tgt := 76) C dX7_opener_62 (by decide) (fun h_62 => ?_) (fun h_62 => ?_)
              · refine a_iload_n C dX7_opener_76 rfl rfl ?_
                refine a_goto (tgt := 81) C dX7_opener_77 (by decide) ?_
                refine a_eq rfl (gl1 ?_) rfl zJ81
                · first | with_reducible rfl | (refine iF ?_; simp [opr_nx, h_26, h_57, (eq_true h_62), (beq_iff_eq.mpr h_62), (bne_eq_false_iff_eq.mpr h_62)]; done) | (refine iT ?_; simp [opr_nx, h_26, h_57, (eq_true h_62), (beq_iff_eq.mpr h_62), (bne_eq_false_iff_eq.mpr h_62)]; done) | (refine iB ?_; simp [opr_nx, h_26, h_57, (eq_true h_62), (beq_iff_eq.mpr h_62), (bne_eq_false_iff_eq.mpr h_62)]; done) | (simp [opr_nx, h_26, h_57, (eq_true h_62), (beq_iff_eq.mpr h_62), (bne_eq_false_iff_eq.mpr h_62)]; done) | (simp [opr_nx, h_26, h_57, (eq_true h_62), (beq_iff_eq.mpr h_62), (bne_eq_false_iff_eq.mpr h_62)]; omega) | omega
              · obtain ⟨zq_d, zq_d1, zq_d2⟩ := (opr_or A x c (by omega)).resolve_left h_62
                have zq_i : iN (oprA A x c) = zq_d := by rw [zq_d2]; exact iN_nI (by omega)
                refine a_iload_n C dX7_opener_65 rfl rfl ?_
                refine p_callS C ((K_X7_levelOf (by first | assumption | decide | omega))).cp sX7_104 rfl dX7_opener_66 (Nat.le_of_ble_eq_true rfl) ⟨by decide, by decide⟩ ?_
                refine a_iload_n C dX7_opener_69 rfl rfl ?_
                refine a_eq (st' := [.int (nI zq_d), .int (nI (lvN c))]) rfl (by rw [zq_d2]) rfl ?_
                have zq_l2 := lvN_le zq_d
                refine p_callS C ((K_X7_levelOf (by first | assumption | decide | omega))).cp sX7_104 rfl dX7_opener_70 (Nat.le_of_ble_eq_true rfl) ⟨by decide, by decide⟩ ?_
                refine n_icmp_ge (tgt := 80) C dX7_opener_73 (by decide) (by first | decide | omega) (by first | decide | omega) (fun h_73 => ?_) (fun h_73 => ?_)
                · refine a_iload_n C dX7_opener_80 rfl rfl ?_
                  refine a_eq rfl (gl1 ?_) rfl zJ81
                  · first | with_reducible rfl | (refine iF ?_; simp [opr_nx, h_26, h_57, h_62, (beq_eq_false_iff_ne.mpr h_62), (bne_iff_ne.mpr h_62), zq_i, h_73]; done) | (refine iT ?_; simp [opr_nx, h_26, h_57, h_62, (beq_eq_false_iff_ne.mpr h_62), (bne_iff_ne.mpr h_62), zq_i, h_73]; done) | (refine iB ?_; simp [opr_nx, h_26, h_57, h_62, (beq_eq_false_iff_ne.mpr h_62), (bne_iff_ne.mpr h_62), zq_i, h_73]; done) | (simp [opr_nx, h_26, h_57, h_62, (beq_eq_false_iff_ne.mpr h_62), (bne_iff_ne.mpr h_62), zq_i, h_73]; done) | (simp [opr_nx, h_26, h_57, h_62, (beq_eq_false_iff_ne.mpr h_62), (bne_iff_ne.mpr h_62), zq_i, h_73]; omega) | omega
                · refine a_iload_n C dX7_opener_76 rfl rfl ?_
                  refine a_goto (tgt := 81) C dX7_opener_77 (by decide) ?_
                  refine a_eq rfl (gl1 ?_) rfl zJ81
                  · first | with_reducible rfl | (refine iF ?_; simp [opr_nx, h_26, h_57, h_62, (beq_eq_false_iff_ne.mpr h_62), (bne_iff_ne.mpr h_62), zq_i, h_73]; done) | (refine iT ?_; simp [opr_nx, h_26, h_57, h_62, (beq_eq_false_iff_ne.mpr h_62), (bne_iff_ne.mpr h_62), zq_i, h_73]; done) | (refine iB ?_; simp [opr_nx, h_26, h_57, h_62, (beq_eq_false_iff_ne.mpr h_62), (bne_iff_ne.mpr h_62), zq_i, h_73]; done) | (simp [opr_nx, h_26, h_57, h_62, (beq_eq_false_iff_ne.mpr h_62), (bne_iff_ne.mpr h_62), zq_i, h_73]; done) | (simp [opr_nx, h_26, h_57, h_62, (beq_eq_false_iff_ne.mpr h_62), (bne_iff_ne.mpr h_62), zq_i, h_73]; omega) | omega
        · refine a_aload_n C dX7_opener_29 rfl rfl ?_
          refine a_iload_n C dX7_opener_30 rfl rfl ?_
          refine p_callV C (K_X7_isSound hR hA (by first | assumption | decide | omega)) vX7_88 rfl (by first | decide | omega) rfl rfl dX7_opener_31 (Nat.le_of_ble_eq_true rfl) ⟨by decide, by decide⟩ ?_
          first | refine b_if_eq (tgt := 52) C dX7_opener_34 (by decide) (fun h_34 => ?_) (fun h_34 => ?_) | refine n_if_eq (tgt := 52) C dX7_opener_34 (by decide) (by first | decide | omega) (fun h_34 => ?_) (fun h_34 => ?_) | refine a_if_eq (tgt := 52) C dX7_opener_34 (by decide) (fun h_34 => ?_) (fun h_34 => ?_)
          · refine a_iconst (v := nI 0) C dX7_opener_52 (by decide) ?_
            refine a_eq rfl (gl1 ?_) rfl zJ53
            · first | with_reducible rfl | (refine iF ?_; simp [h_26, h_34]; done) | (refine iT ?_; simp [h_26, h_34]; done) | (refine iB ?_; simp [h_26, h_34]; done) | (simp [h_26, h_34]; done) | (simp [h_26, h_34]; omega) | omega
          · refine a_aload_n C dX7_opener_37 rfl rfl ?_
            refine a_iload_n C dX7_opener_38 rfl rfl ?_
            refine p_callV C (K_X7_locksOf hR hA (by first | assumption | decide | omega)) vX7_113 rfl (by first | decide | omega) rfl rfl dX7_opener_39 (Nat.le_of_ble_eq_true rfl) ⟨by decide, by decide⟩ ?_
            refine a_iload_n C dX7_opener_42 rfl rfl ?_
            first | refine n_iand C dX7_opener_43 ?_ | refine a_iand C dX7_opener_43 ?_
            refine a_iload_n C dX7_opener_44 rfl rfl ?_
            refine n_icmp_ne (tgt := 52) C dX7_opener_45 (by decide) (Nat.lt_of_le_of_lt Nat.and_le_left zq_k) (by first | decide | omega) (fun h_45 => ?_) (fun h_45 => ?_)
            · refine a_iconst (v := nI 0) C dX7_opener_52 (by decide) ?_
              refine a_eq rfl (gl1 ?_) rfl zJ53
              · first | with_reducible rfl | (refine iF ?_; simp [h_26, h_34, h_45, (beq_eq_false_iff_ne.mpr h_45), (bne_iff_ne.mpr h_45)]; done) | (refine iT ?_; simp [h_26, h_34, h_45, (beq_eq_false_iff_ne.mpr h_45), (bne_iff_ne.mpr h_45)]; done) | (refine iB ?_; simp [h_26, h_34, h_45, (beq_eq_false_iff_ne.mpr h_45), (bne_iff_ne.mpr h_45)]; done) | (simp [h_26, h_34, h_45, (beq_eq_false_iff_ne.mpr h_45), (bne_iff_ne.mpr h_45)]; done) | (simp [h_26, h_34, h_45, (beq_eq_false_iff_ne.mpr h_45), (bne_iff_ne.mpr h_45)]; omega) | omega
            · refine a_iconst (v := nI 1) C dX7_opener_48 (by decide) ?_
              refine a_goto (tgt := 53) C dX7_opener_49 (by decide) ?_
              refine a_eq rfl (gl1 ?_) rfl zJ53
              · first | with_reducible rfl | (refine iF ?_; simp [h_26, h_34, (eq_true h_45), (beq_iff_eq.mpr h_45), (bne_eq_false_iff_eq.mpr h_45)]; done) | (refine iT ?_; simp [h_26, h_34, (eq_true h_45), (beq_iff_eq.mpr h_45), (bne_eq_false_iff_eq.mpr h_45)]; done) | (refine iB ?_; simp [h_26, h_34, (eq_true h_45), (beq_iff_eq.mpr h_45), (bne_eq_false_iff_eq.mpr h_45)]; done) | (simp [h_26, h_34, (eq_true h_45), (beq_iff_eq.mpr h_45), (bne_eq_false_iff_eq.mpr h_45)]; done) | (simp [h_26, h_34, (eq_true h_45), (beq_iff_eq.mpr h_45), (bne_eq_false_iff_eq.mpr h_45)]; omega) | omega
  refine a_pad 3 ?_
  refine a_eq (L' := [some (.ref 204), some (.int (nI x)), none, none, none]) rfl rfl rfl ?_
  refine a_aload_n C dX7_opener_0 rfl rfl ?_
  refine a_iconst (v := nI 0) C dX7_opener_1 (by decide) ?_
  refine f_putf C fX7_53 dX7_opener_2 (by first | decide | omega) rfl rfl rfl (Nat.le_of_ble_eq_true rfl) rfl ?_
  have hR : RR (wSet w 204 0 (nI 0)) A := hR
  refine a_aload_n C dX7_opener_5 rfl rfl ?_
  refine a_iload_n C dX7_opener_6 rfl rfl ?_
  refine p_callV C (K_X7_areLocks hR hA _) vX7_277 rfl (by first | decide | omega) rfl rfl dX7_opener_7 (Nat.le_of_ble_eq_true rfl) ⟨by decide, by decide⟩ ?_
  refine b_if_ne (tgt := 19) C dX7_opener_10 (by decide) (fun h_10 => ?_) (fun h_10 => ?_)
  · refine a_iconst (v := (-1)) C dX7_opener_19 (by decide) ?_
    refine a_istore_n C dX7_opener_20 rfl (by decide) ?_
    refine a_iconst (v := nI 0) C dX7_opener_21 (by decide) ?_
    refine a_istore_n C dX7_opener_22 rfl (by decide) ?_
    refine a_join (aLe_s ?_ (aLe_s ?_ (aLe_s ?_ (aLe_s ?_ (aLe_n aLe_nil))))) rfl rfl (ZL23 (81 + 1) 0 (by omega) (by omega))
    · first | with_reducible rfl | exact gl (by first | with_reducible rfl | (refine iF ?_; simp []; done) | (refine iT ?_; simp []; done) | (refine iB ?_; simp []; done) | (simp []; done) | (simp []; omega) | omega | rfl)
    · first | with_reducible rfl | exact gl (by first | with_reducible rfl | (refine iF ?_; simp []; done) | (refine iT ?_; simp []; done) | (refine iB ?_; simp []; done) | (simp []; done) | (simp []; omega) | omega | rfl)
    · first | with_reducible rfl | exact gl (by first | with_reducible rfl | (refine iF ?_; simp []; done) | (refine iT ?_; simp []; done) | (refine iB ?_; simp []; done) | (simp []; done) | (simp []; omega) | omega | rfl)
    · first | with_reducible rfl | exact gl (by first | with_reducible rfl | (refine iF ?_; simp []; done) | (refine iT ?_; simp []; done) | (refine iB ?_; simp []; done) | (simp []; done) | (simp []; omega) | omega | rfl)
  · exact absurd (h_10.symm.trans zf0) (by decide)

set_option maxRecDepth 20000 in
set_option maxHeartbeats 4000000 in
theorem K_X7_freeShare {w : Wd} {A : St} (hR : RR w A) (hA : AOK A) : CF yX7_freeShare cX7_freeShare 1 (some .double) 7 155 [.ref 204] w (FA w (.double (FP.ddiv (FP.i2d (nI (cdsA A true))) (FP.i2d (nI (cdsA A false))))) 0) := by
  refine CF.of ok_X7_freeShare (Nat.le_of_ble_eq_true rfl) (fun ex us G9 p9 l9 e9 s9 m9 ar9 be9 me9 co9 C hr => ?_)
  refine a_aload_n C dX7_freeShare_0 rfl rfl ?_
  refine a_iconst (v := nI 0) C dX7_freeShare_1 (by decide) ?_
  refine f_putf C fX7_53 dX7_freeShare_2 (by first | decide | omega) rfl rfl rfl (Nat.le_of_ble_eq_true rfl) rfl ?_
  have hR : RR (wSet w 204 0 (nI 0)) A := hR
  refine a_aload_n C dX7_freeShare_5 rfl rfl ?_
  refine p_callV C (K_X7_shareOfFree hR hA) vX7_289 rfl (by first | decide | omega) rfl rfl dX7_freeShare_6 (Nat.le_of_ble_eq_true rfl) ⟨by decide, by decide⟩ ?_
  refine f_dret C hr dX7_freeShare_9 ⟨?_, ?_⟩
  · first | with_reducible rfl | exact gl (by first | with_reducible rfl | (refine iF ?_; simp []; done) | (refine iT ?_; simp []; done) | (refine iB ?_; simp []; done) | (simp []; done) | (simp []; omega) | omega | rfl)
  · first | with_reducible rfl | exact wSet2 | rfl

set_option maxRecDepth 20000 in
set_option maxHeartbeats 4000000 in
theorem K_X7_meanLevel {w : Wd} {A : St} (hR : RR w A) (hA : AOK A) : CF yX7_meanLevel cX7_meanLevel 1 (some .float) 2 44 [.ref 204] w (FA w (.float (mnA A)) 0) := by
  refine CF.of ok_X7_meanLevel (Nat.le_of_ble_eq_true rfl) (fun ex us G9 p9 l9 e9 s9 m9 ar9 be9 me9 co9 C hr => ?_)
  refine a_aload_n C dX7_meanLevel_0 rfl rfl ?_
  refine a_iconst (v := nI 0) C dX7_meanLevel_1 (by decide) ?_
  refine f_putf C fX7_53 dX7_meanLevel_2 (by first | decide | omega) rfl rfl rfl (Nat.le_of_ble_eq_true rfl) rfl ?_
  have hR : RR (wSet w 204 0 (nI 0)) A := hR
  refine a_aload_n C dX7_meanLevel_5 rfl rfl ?_
  refine p_callV C (K_X7_mean hR hA) vX7_293 rfl (by first | decide | omega) rfl rfl dX7_meanLevel_6 (Nat.le_of_ble_eq_true rfl) ⟨by decide, by decide⟩ ?_
  refine f_fret C hr dX7_meanLevel_9 ⟨?_, ?_⟩
  · first | with_reducible rfl | exact gl (by first | with_reducible rfl | (refine iF ?_; simp []; done) | (refine iT ?_; simp []; done) | (refine iB ?_; simp []; done) | (simp []; done) | (simp []; omega) | omega | rfl)
  · first | with_reducible rfl | exact wSet2 | rfl

end A16

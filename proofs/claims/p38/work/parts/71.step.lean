section A71
/-! ### what each change leaves is a state -/
theorem cutA_ok {A : St} (hA : AOK A) {c q : Nat} (hn : kN A < 12) (hc : c < 81) (hq : q < 4) : AOK (cutA A c q) := by
  unfold cutA
  refine AOK.upd (AOK.upd (AOK.upd (AOK.upd (AOK.upd (AOK.upd (AOK.upd (AOK.upd hA ?_ ?_) ?_ ?_) ?_ ?_) ?_ ?_) ?_ ?_) ?_ ?_) ?_ ?_) ?_ ?_
  · rw [okB_k0]; exact inR_is hc (by decide)
  · omega
  · rw [okB_k1]; exact inR_is hq (by decide)
  · omega
  · rw [okB_k2]; exact inR_is (by decide) (by decide)
  · omega
  · exact okB_k3 (by decide) _
  · omega
  · exact okB_k3 (by decide) _
  · omega
  · exact okB_k3 (by decide) _
  · omega
  · rw [okB_0]; exact inR_is (by omega) (by decide)
  · omega
  · exact okB_i (by omega) _
  · omega
theorem deeA_ok {A : St} (hA : AOK A) {k j : Nat} (h : cN A k + wtN j < 81) : AOK (deeA A k j) := by
  unfold deeA
  refine AOK.upd (AOK.upd hA ?_ ?_) ?_ ?_
  · rw [okB_k0]; exact inR_is h (by decide)
  · omega
  · exact okB_i (by omega) _
  · omega
theorem failA_ok {A : St} (hA : AOK A) {p : Nat} (hp : p < 6) : AOK (failA A p) := by
  unfold failA
  refine AOK.upd (AOK.upd hA ?_ ?_) ?_ ?_
  · exact okB_l2 hp (by decide) _
  · omega
  · exact okB_i (by omega) _
  · omega
theorem turA_ok {A : St} (hA : AOK A) {k p : Nat} (hk : k < 12) (hp : p < 6) : AOK (turA A k p) := by
  unfold turA tu7A
  split
  · split
    · exact tu4_ok hA hk hp
    · refine AOK.upd (AOK.upd (AOK.upd (tu4_ok hA hk hp) ?_ ?_) ?_ ?_) ?_ ?_
      · rw [okB_k0]; exact inR_is (beh_lt hA hk) (by decide)
      · omega
      · exact okB_k3 (by decide) _
      · omega
      · exact okB_i (by omega) _
      · omega
  · exact failA_ok hA hp
theorem givA_ok {A : St} (hA : AOK A) {k q : Nat} (hq : q < 4) : AOK (givA A k q) := by
  unfold givA
  exact AOK.upd hA (by rw [okB_k1]; exact inR_is hq (by decide)) (by omega)
theorem setA_ok {A : St} (hA : AOK A) {j : Nat} (hj : j < 4) {y : Int32} (hy : sbI j y = true) : AOK (setA A j y) := by
  unfold setA
  refine AOK.upd hA ?_ (by omega)
  have z := of_decide_eq_true hy
  have z1 := Int32.le_iff_toInt_le.mp z.1
  have z2 := Int32.le_iff_toInt_le.mp z.2
  have hlo : loN j < 2 ^ 31 := by unfold loN; split <;> decide
  have hhi : hiN j < 10 := by unfold hiN; split <;> (try split) <;> decide
  rw [nI_toInt hlo] at z1
  rw [nI_toInt (by omega)] at z2
  have nz : loN j = 1 → ¬ y = nI 0 := fun e e2 => by
    rw [e2, e, nI_toInt (by decide)] at z1
    omega
  rw [okB_s hj]
  match j, hj with
  | 0, _ =>
    simp only [if_true, Bool.and_eq_true, bne_iff_ne]
    exact ⟨decide_eq_true ⟨by have : (loN 0 : Int) = 1 := rfl; omega, by have : (hiN 0 : Int) = 2 := rfl; omega⟩, nz rfl⟩
  | 1, _ =>
    simp only [Nat.one_ne_zero, if_false, if_true, Bool.and_eq_true, bne_iff_ne]
    exact ⟨decide_eq_true ⟨by have : (loN 1 : Int) = 1 := rfl; omega, by have : (hiN 1 : Int) = 9 := rfl; omega⟩, nz rfl⟩
  | 2, _ => exact decide_eq_true ⟨by have : (loN 2 : Int) = 0 := rfl; omega, by have : (hiN 2 : Int) = 9 := rfl; omega⟩
  | 3, _ => exact decide_eq_true ⟨by have : (loN 3 : Int) = 0 := rfl; omega, by have : (hiN 3 : Int) = 1 := rfl; omega⟩
theorem okB_w {p j : Nat} {x : Int32} (hp : p < 6) (hj : j < 2) (hx : x = -1 ∨ inR x 81 = true) : okB (16 + 4 * p + j) x = true := by
  rw [okB_l hp hj]
  rcases hx with rfl | h
  · decide
  · rw [h, Bool.or_true]
theorem AOK.w1 {A B : St} (hA : AOK A) {p : Nat} {x y : Int32} (hp : p < 6) (hx : x = -1 ∨ inR x 81 = true) (hy : y = -1 ∨ inR y 81 = true) (hg : x = -1 → y = -1) (h0 : B (16 + 4 * p + 0) = x) (h1 : B (16 + 4 * p + 1) = y) (hB : ∀ i, ¬ i = 16 + 4 * p + 0 → ¬ i = 16 + 4 * p + 1 → okB i (B i) = okB i (A i)) (hC : ∀ q, q < 6 → ¬ q = p → ∀ j, j < 2 → B (16 + 4 * q + j) = A (16 + 4 * q + j)) : AOK B := by
  refine AOK_of (fun j hj => ?_) (fun q hq h => ?_)
  · by_cases e : j = 16 + 4 * p + 0
    · subst e; rw [h0]; exact okB_w hp (by decide) hx
    · by_cases e2 : j = 16 + 4 * p + 1
      · subst e2; rw [h1]; exact okB_w hp (by decide) hy
      · rw [hB j e e2]; exact hA.ok j hj
  · by_cases e : q = p
    · subst e
      rw [h0] at h
      rw [h1]; exact hg h
    · rw [hC q hq e 0 (by decide)] at h
      rw [hC q hq e 1 (by decide)]
      exact hA.okg q hq h
theorem war_x {A : St} (hA : AOK A) {p : Nat} (hp : p < 6) : A (16 + 4 * p + 1) = -1 ∨ inR (A (16 + 4 * p + 1)) 81 = true := by
  have z := hA.ok (16 + 4 * p + 1) (by omega)
  rw [okB_l hp (by decide)] at z
  rcases Bool.or_eq_true_iff.mp z with h | h
  · exact Or.inl (beq_iff_eq.mp h)
  · exact Or.inr h
theorem war_w {A : St} (hA : AOK A) {p : Nat} (hp : p < 6) : A (16 + 4 * p + 0) = -1 ∨ inR (A (16 + 4 * p + 0)) 81 = true := by
  have z := hA.ok (16 + 4 * p + 0) (by omega)
  rw [okB_l hp (by decide)] at z
  rcases Bool.or_eq_true_iff.mp z with h | h
  · exact Or.inl (beq_iff_eq.mp h)
  · exact Or.inr h
theorem warA_ok {A : St} (hA : AOK A) {p c : Nat} (hp : p < 6) (hc : c < 81) : AOK (warA A p (nI c)) := by
  unfold warA
  exact hA.w1 hp (Or.inr (inR_is hc (by decide))) (war_x hA hp) (fun h => absurd h (nI_m1 (by omega))) upd_at (upd_ne (by omega)) (fun i h1 _ => by rw [upd_ne h1]) (fun q hq e j hj => upd_ne (by omega))
theorem gueA_ok {A : St} (hA : AOK A) {p : Nat} {x : Int32} (hp : p < 6) (hx : x = -1 ∨ inR x 81 = true) (hw : wdA A p = true) : AOK (gueA A p x) := by
  unfold gueA
  refine hA.w1 hp (war_w hA hp) hx (fun h => ?_) (upd_ne (by omega)) upd_at (fun i _ h2 => by rw [upd_ne h2]) (fun q hq e j hj => upd_ne (by omega))
  rw [wdA_n h] at hw
  cases hw
theorem takA_ok {A : St} (hA : AOK A) {p : Nat} (hp : p < 6) : AOK (takA A p) := by
  unfold takA
  refine AOK.upd (AOK.upd ?_ (okB_l2 hp (by decide) _) (by omega)) (okB_l2 hp (by decide) _) (by omega)
  exact hA.w1 hp (Or.inl rfl) (Or.inl rfl) (fun _ => rfl) ((upd_ne (by omega)).trans upd_at) upd_at (fun i h1 h2 => by rw [upd_ne h2, upd_ne h1]) (fun q hq e j hj => (upd_ne (by omega)).trans (upd_ne (by omega)))
theorem retA_ok {A : St} (hA : AOK A) {k : Nat} (hk : k < kN A) : AOK (retA A k) := by
  have hn := hA.n12
  unfold retA
  refine AOK.upd ?_ (okB_i (by omega) _) (by omega)
  refine AOK_of (fun i hi => ?_) (fun p hp h => ?_)
  · by_cases h1 : i < 40 + 6 * k
    · rw [rtK_lo h1]
      by_cases h0 : i = 0
      · subst h0
        rw [upd_at, okB_0]
        exact inR_is (by omega) (by decide)
      · rw [upd_ne h0]
        exact hA.ok i hi
    · by_cases h2 : i < 40 + 6 * k + 6 * (kN A - 1 - k)
      · rw [rtK_in _ ⟨by omega, h2⟩]
        obtain ⟨m, j, hj, rfl⟩ : ∃ m j, j < 6 ∧ i = 40 + 6 * m + j := ⟨(i - 40) / 6, (i - 40) % 6, Nat.mod_lt _ (by decide), by omega⟩
        have z := hA.ok (40 + 6 * (m + 1) + j) (by omega)
        rw [show 40 + 6 * m + j + 6 = 40 + 6 * (m + 1) + j by omega]
        by_cases h3 : 3 ≤ j
        · exact okB_k3 ⟨h3, hj⟩ _
        · match j, (show j < 3 by omega) with
          | 0, _ => rw [okB_k0] at z ⊢; exact z
          | 1, _ => rw [okB_k1] at z ⊢; exact z
          | 2, _ => rw [okB_k2] at z ⊢; exact z
      · rw [rtK_hi _ (by omega)]
        exact hA.ok i hi
  · rw [rtK_lo (by omega), upd_ne (by omega)] at h ⊢
    exact hA.okg p hp h
/-! ### orders that are obeyed -/
theorem C_cut {w : Wd} {a b : Int32} {lo d u : Nat} {P : Option Value → Wd → Prop} (hK : CLW yL_cut cL_cut 4 [(0, 6, 7, 16), (0, 6, 11, 18)] 7 lo [.ref 0, .int a, .int b] w d u P) (hlo : 8 + (4 + 11) + lo ≤ 137) (hP : ∀ r w', P r w' → ∃ v, r = some (.int v)) :
    CL yL_call cL_call 4 (some .int) 8 137 [.ref 0, .int (nI 0), .int a, .int b] w d u P := by
  intro ex us
  refine CMf.of ok_L_call (Nat.le_of_ble_eq_true rfl) (fun G p l e s m args below meth c C hfl hr => ?_)
  refine a_iload_n C dL_call_0 rfl rfl ?_
  refine a_tableIn (x := nI 0) (tgt := 56) C dL_call_1 (by decide) (by decide) rfl (by decide) ?_
  refine a_aload_n C dL_call_56 rfl rfl ?_
  refine a_iload_n C dL_call_57 rfl rfl ?_
  refine a_iload_n C dL_call_58 rfl rfl ?_
  refine l_callSW C hfl _ hK sW_128 dL_call_59 rfl (Nat.le_of_ble_eq_true rfl) ⟨Nat.le_of_ble_eq_true rfl, hlo⟩ ⟨Nat.le_refl _, Nat.le_refl _⟩ (fun r9 w9 hp9 => ?_)
  obtain ⟨v9, rfl⟩ := hP _ _ hp9
  exact l_iret C hr rfl dL_call_62 hp9
theorem C_deepen {w : Wd} {a b : Int32} {lo d u : Nat} {P : Option Value → Wd → Prop} (hK : CLW yL_deepen cL_deepen 4 [(0, 6, 7, 23), (0, 6, 11, 18)] 7 lo [.ref 0, .int a, .int b] w d u P) (hlo : 8 + (4 + 11) + lo ≤ 137) (hP : ∀ r w', P r w' → ∃ v, r = some (.int v)) :
    CL yL_call cL_call 4 (some .int) 8 137 [.ref 0, .int (nI 1), .int a, .int b] w d u P := by
  intro ex us
  refine CMf.of ok_L_call (Nat.le_of_ble_eq_true rfl) (fun G p l e s m args below meth c C hfl hr => ?_)
  refine a_iload_n C dL_call_0 rfl rfl ?_
  refine a_tableIn (x := nI 1) (tgt := 63) C dL_call_1 (by decide) (by decide) rfl (by decide) ?_
  refine a_aload_n C dL_call_63 rfl rfl ?_
  refine a_iload_n C dL_call_64 rfl rfl ?_
  refine a_iload_n C dL_call_65 rfl rfl ?_
  refine l_callSW C hfl _ hK sW_130 dL_call_66 rfl (Nat.le_of_ble_eq_true rfl) ⟨Nat.le_of_ble_eq_true rfl, hlo⟩ ⟨Nat.le_refl _, Nat.le_refl _⟩ (fun r9 w9 hp9 => ?_)
  obtain ⟨v9, rfl⟩ := hP _ _ hp9
  exact l_iret C hr rfl dL_call_69 hp9
theorem C_retire {w : Wd} {a b : Int32} {lo d u : Nat} {P : Option Value → Wd → Prop} (hK : CLW yL_retire cL_retire 3 [(0, 5, 6, 23)] 7 lo [.ref 0, .int a] w d u P) (hlo : 8 + (3 + 11) + lo ≤ 137) (hP : ∀ r w', P r w' → ∃ v, r = some (.int v)) :
    CL yL_call cL_call 4 (some .int) 8 137 [.ref 0, .int (nI 2), .int a, .int b] w d u P := by
  intro ex us
  refine CMf.of ok_L_call (Nat.le_of_ble_eq_true rfl) (fun G p l e s m args below meth c C hfl hr => ?_)
  refine a_iload_n C dL_call_0 rfl rfl ?_
  refine a_tableIn (x := nI 2) (tgt := 70) C dL_call_1 (by decide) (by decide) rfl (by decide) ?_
  refine a_aload_n C dL_call_70 rfl rfl ?_
  refine a_iload_n C dL_call_71 rfl rfl ?_
  refine l_callSW C hfl _ hK sW_132 dL_call_72 rfl (Nat.le_of_ble_eq_true rfl) ⟨Nat.le_of_ble_eq_true rfl, hlo⟩ ⟨Nat.le_refl _, Nat.le_refl _⟩ (fun r9 w9 hp9 => ?_)
  obtain ⟨v9, rfl⟩ := hP _ _ hp9
  exact l_iret C hr rfl dL_call_75 hp9
theorem C_give {w : Wd} {a b : Int32} {lo d u : Nat} {P : Option Value → Wd → Prop} (hK : CLW yL_give cL_give 4 [(0, 6, 7, 23), (0, 6, 11, 16)] 7 lo [.ref 0, .int a, .int b] w d u P) (hlo : 8 + (4 + 11) + lo ≤ 137) (hP : ∀ r w', P r w' → ∃ v, r = some (.int v)) :
    CL yL_call cL_call 4 (some .int) 8 137 [.ref 0, .int (nI 3), .int a, .int b] w d u P := by
  intro ex us
  refine CMf.of ok_L_call (Nat.le_of_ble_eq_true rfl) (fun G p l e s m args below meth c C hfl hr => ?_)
  refine a_iload_n C dL_call_0 rfl rfl ?_
  refine a_tableIn (x := nI 3) (tgt := 76) C dL_call_1 (by decide) (by decide) rfl (by decide) ?_
  refine a_aload_n C dL_call_76 rfl rfl ?_
  refine a_iload_n C dL_call_77 rfl rfl ?_
  refine a_iload_n C dL_call_78 rfl rfl ?_
  refine l_callSW C hfl _ hK sW_134 dL_call_79 rfl (Nat.le_of_ble_eq_true rfl) ⟨Nat.le_of_ble_eq_true rfl, hlo⟩ ⟨Nat.le_refl _, Nat.le_refl _⟩ (fun r9 w9 hp9 => ?_)
  obtain ⟨v9, rfl⟩ := hP _ _ hp9
  exact l_iret C hr rfl dL_call_82 hp9
theorem C_lose {w : Wd} {a b : Int32} {lo d u : Nat} {P : Option Value → Wd → Prop} (hK : CLW yL_lose cL_lose 3 [(0, 5, 6, 23), (0, 5, 10, 18)] 7 lo [.ref 0, .int a] w d u P) (hlo : 8 + (3 + 11) + lo ≤ 137) (hP : ∀ r w', P r w' → ∃ v, r = some (.int v)) :
    CL yL_call cL_call 4 (some .int) 8 137 [.ref 0, .int (nI 4), .int a, .int b] w d u P := by
  intro ex us
  refine CMf.of ok_L_call (Nat.le_of_ble_eq_true rfl) (fun G p l e s m args below meth c C hfl hr => ?_)
  refine a_iload_n C dL_call_0 rfl rfl ?_
  refine a_tableIn (x := nI 4) (tgt := 83) C dL_call_1 (by decide) (by decide) rfl (by decide) ?_
  refine a_aload_n C dL_call_83 rfl rfl ?_
  refine a_iload_n C dL_call_84 rfl rfl ?_
  refine l_callSW C hfl _ hK sW_136 dL_call_85 rfl (Nat.le_of_ble_eq_true rfl) ⟨Nat.le_of_ble_eq_true rfl, hlo⟩ ⟨Nat.le_refl _, Nat.le_refl _⟩ (fun r9 w9 hp9 => ?_)
  obtain ⟨v9, rfl⟩ := hP _ _ hp9
  exact l_iret C hr rfl dL_call_88 hp9
theorem C_find {w : Wd} {a b : Int32} {lo d u : Nat} {P : Option Value → Wd → Prop} (hK : CLW yL_find cL_find 3 [(0, 5, 6, 23), (0, 5, 10, 18)] 7 lo [.ref 0, .int a] w d u P) (hlo : 8 + (3 + 11) + lo ≤ 137) (hP : ∀ r w', P r w' → ∃ v, r = some (.int v)) :
    CL yL_call cL_call 4 (some .int) 8 137 [.ref 0, .int (nI 5), .int a, .int b] w d u P := by
  intro ex us
  refine CMf.of ok_L_call (Nat.le_of_ble_eq_true rfl) (fun G p l e s m args below meth c C hfl hr => ?_)
  refine a_iload_n C dL_call_0 rfl rfl ?_
  refine a_tableIn (x := nI 5) (tgt := 89) C dL_call_1 (by decide) (by decide) rfl (by decide) ?_
  refine a_aload_n C dL_call_89 rfl rfl ?_
  refine a_iload_n C dL_call_90 rfl rfl ?_
  refine l_callSW C hfl _ hK sW_138 dL_call_91 rfl (Nat.le_of_ble_eq_true rfl) ⟨Nat.le_of_ble_eq_true rfl, hlo⟩ ⟨Nat.le_refl _, Nat.le_refl _⟩ (fun r9 w9 hp9 => ?_)
  obtain ⟨v9, rfl⟩ := hP _ _ hp9
  exact l_iret C hr rfl dL_call_94 hp9
theorem C_ward {w : Wd} {a b : Int32} {lo d u : Nat} {P : Option Value → Wd → Prop} (hK : CLW yL_ward cL_ward 4 [(0, 6, 7, 23), (0, 6, 11, 16)] 7 lo [.ref 0, .int a, .int b] w d u P) (hlo : 8 + (4 + 11) + lo ≤ 137) (hP : ∀ r w', P r w' → ∃ v, r = some (.int v)) :
    CL yL_call cL_call 4 (some .int) 8 137 [.ref 0, .int (nI 6), .int a, .int b] w d u P := by
  intro ex us
  refine CMf.of ok_L_call (Nat.le_of_ble_eq_true rfl) (fun G p l e s m args below meth c C hfl hr => ?_)
  refine a_iload_n C dL_call_0 rfl rfl ?_
  refine a_tableIn (x := nI 6) (tgt := 95) C dL_call_1 (by decide) (by decide) rfl (by decide) ?_
  refine a_aload_n C dL_call_95 rfl rfl ?_
  refine a_iload_n C dL_call_96 rfl rfl ?_
  refine a_iload_n C dL_call_97 rfl rfl ?_
  refine l_callSW C hfl _ hK sW_140 dL_call_98 rfl (Nat.le_of_ble_eq_true rfl) ⟨Nat.le_of_ble_eq_true rfl, hlo⟩ ⟨Nat.le_refl _, Nat.le_refl _⟩ (fun r9 w9 hp9 => ?_)
  obtain ⟨v9, rfl⟩ := hP _ _ hp9
  exact l_iret C hr rfl dL_call_101 hp9
theorem C_guest {w : Wd} {a b : Int32} {lo d u : Nat} {P : Option Value → Wd → Prop} (hK : CLW yL_guest cL_guest 4 [(0, 6, 7, 23), (0, 6, 11, 16), (0, 6, 15, 18)] 7 lo [.ref 0, .int a, .int b] w d u P) (hlo : 8 + (4 + 11) + lo ≤ 137) (hP : ∀ r w', P r w' → ∃ v, r = some (.int v)) :
    CL yL_call cL_call 4 (some .int) 8 137 [.ref 0, .int (nI 7), .int a, .int b] w d u P := by
  intro ex us
  refine CMf.of ok_L_call (Nat.le_of_ble_eq_true rfl) (fun G p l e s m args below meth c C hfl hr => ?_)
  refine a_iload_n C dL_call_0 rfl rfl ?_
  refine a_tableIn (x := nI 7) (tgt := 102) C dL_call_1 (by decide) (by decide) rfl (by decide) ?_
  refine a_aload_n C dL_call_102 rfl rfl ?_
  refine a_iload_n C dL_call_103 rfl rfl ?_
  refine a_iload_n C dL_call_104 rfl rfl ?_
  refine l_callSW C hfl _ hK sW_142 dL_call_105 rfl (Nat.le_of_ble_eq_true rfl) ⟨Nat.le_of_ble_eq_true rfl, hlo⟩ ⟨Nat.le_refl _, Nat.le_refl _⟩ (fun r9 w9 hp9 => ?_)
  obtain ⟨v9, rfl⟩ := hP _ _ hp9
  exact l_iret C hr rfl dL_call_108 hp9
theorem C_take {w : Wd} {a b : Int32} {lo d u : Nat} {P : Option Value → Wd → Prop} (hK : CLW yL_take cL_take 3 [(0, 5, 6, 23), (0, 5, 10, 18)] 7 lo [.ref 0, .int a] w d u P) (hlo : 8 + (3 + 11) + lo ≤ 137) (hP : ∀ r w', P r w' → ∃ v, r = some (.int v)) :
    CL yL_call cL_call 4 (some .int) 8 137 [.ref 0, .int (nI 8), .int a, .int b] w d u P := by
  intro ex us
  refine CMf.of ok_L_call (Nat.le_of_ble_eq_true rfl) (fun G p l e s m args below meth c C hfl hr => ?_)
  refine a_iload_n C dL_call_0 rfl rfl ?_
  refine a_tableIn (x := nI 8) (tgt := 109) C dL_call_1 (by decide) (by decide) rfl (by decide) ?_
  refine a_aload_n C dL_call_109 rfl rfl ?_
  refine a_iload_n C dL_call_110 rfl rfl ?_
  refine l_callSW C hfl _ hK sW_144 dL_call_111 rfl (Nat.le_of_ble_eq_true rfl) ⟨Nat.le_of_ble_eq_true rfl, hlo⟩ ⟨Nat.le_refl _, Nat.le_refl _⟩ (fun r9 w9 hp9 => ?_)
  obtain ⟨v9, rfl⟩ := hP _ _ hp9
  exact l_iret C hr rfl dL_call_114 hp9
theorem C_turn {w : Wd} {a b : Int32} {lo d u : Nat} {P : Option Value → Wd → Prop} (hK : CLW yL_turn cL_turn 4 [(0, 6, 7, 23), (0, 6, 11, 18)] 7 lo [.ref 0, .int a, .int b] w d u P) (hlo : 8 + (4 + 11) + lo ≤ 137) (hP : ∀ r w', P r w' → ∃ v, r = some (.int v)) :
    CL yL_call cL_call 4 (some .int) 8 137 [.ref 0, .int (nI 9), .int a, .int b] w d u P := by
  intro ex us
  refine CMf.of ok_L_call (Nat.le_of_ble_eq_true rfl) (fun G p l e s m args below meth c C hfl hr => ?_)
  refine a_iload_n C dL_call_0 rfl rfl ?_
  refine a_tableIn (x := nI 9) (tgt := 115) C dL_call_1 (by decide) (by decide) rfl (by decide) ?_
  refine a_aload_n C dL_call_115 rfl rfl ?_
  refine a_iload_n C dL_call_116 rfl rfl ?_
  refine a_iload_n C dL_call_117 rfl rfl ?_
  refine l_callSW C hfl _ hK sW_146 dL_call_118 rfl (Nat.le_of_ble_eq_true rfl) ⟨Nat.le_of_ble_eq_true rfl, hlo⟩ ⟨Nat.le_refl _, Nat.le_refl _⟩ (fun r9 w9 hp9 => ?_)
  obtain ⟨v9, rfl⟩ := hP _ _ hp9
  exact l_iret C hr rfl dL_call_121 hp9
theorem C_set {w : Wd} {a b : Int32} {lo d u : Nat} {P : Option Value → Wd → Prop} (hK : CLW yL_set cL_set 4 [(0, 6, 7, 23), (0, 6, 11, 16)] 7 lo [.ref 0, .int a, .int b] w d u P) (hlo : 8 + (4 + 11) + lo ≤ 137) (hP : ∀ r w', P r w' → ∃ v, r = some (.int v)) :
    CL yL_call cL_call 4 (some .int) 8 137 [.ref 0, .int (nI 10), .int a, .int b] w d u P := by
  intro ex us
  refine CMf.of ok_L_call (Nat.le_of_ble_eq_true rfl) (fun G p l e s m args below meth c C hfl hr => ?_)
  refine a_iload_n C dL_call_0 rfl rfl ?_
  refine a_tableOut (x := nI 10) (tgt := 122) C dL_call_1 (by decide) (by decide) ?_
  refine a_aload_n C dL_call_122 rfl rfl ?_
  refine a_iload_n C dL_call_123 rfl rfl ?_
  refine a_iload_n C dL_call_124 rfl rfl ?_
  refine l_callSW C hfl _ hK sW_148 dL_call_125 rfl (Nat.le_of_ble_eq_true rfl) ⟨Nat.le_of_ble_eq_true rfl, hlo⟩ ⟨Nat.le_refl _, Nat.le_refl _⟩ (fun r9 w9 hp9 => ?_)
  obtain ⟨v9, rfl⟩ := hP _ _ hp9
  exact l_iret C hr rfl dL_call_128 hp9
/-! ### one step: the class's call and what the law does of its own -/
abbrev CLc (t a : Nat) (b : Int32) (w : Wd) (d u : Nat) (P : Option Value → Wd → Prop) : Prop := CL yL_call cL_call 4 (some .int) 8 137 [.ref 0, .int (nI t), .int (nI a), .int b] w d u P
def CallF (A : St) (t a : Nat) (b e : Int32) : Prop := ∀ w, DR w 3 A → CLc t a b w 1 6 (PA w e)
def CallK (A : St) (t a : Nat) (b v : Int32) (A' : St) : Prop := ∀ (w : Wd) (S : Nat → St) (sv lt : Nat), DR w 3 A → SvC w S sv lt → CLc t a b w 0 0 (PW w A S sv lt A' (.int v))
abbrev kdue (t : Nat) : Bool := decide (t < 6) || t == 9
def Due (A : St) (t a : Nat) (b v : Int32) (A' : St) : Prop := ∀ w, LR w A → if kdue t = true then CF yL_keyDue cL_keyDue 8 (some .int) 4 98 [.int (nI t), .int (nI a), .int b, .ref 204, .ref 205, .ref 206] w (PD w A' v) else CF yL_lockDue cL_lockDue 9 (some .int) 3 71 [.int (nI t), .int (nI a), .int b, .ref 204, .ref 205, .ref 206] w (PD w A' v)
theorem CP.pd {y : MethodName} {cc : ByteArray} {n : Nat} {ret : Option FieldType} {fr lo : Nat} {av : List Value} {w : Wd} {A : St} {v : Int32} (hL : LR w A) (h : CP y cc n ret fr lo av w (.int v)) : CF y cc n ret fr lo av w (PD w A v) := by
  intro ex us G l p e ha hc hk s m args below hf happ hP hK
  obtain ⟨k, o, h1, h2, h3, ⟨⟨r', ho, M', ⟨w', q2, q1, q3⟩, h4⟩, h5⟩, h6⟩ := h ex us G l p e ha hc hk s m args below hf happ hP hK
  exact ⟨k, o, h1, h2, h3, ⟨⟨r', ho, M', ⟨w', q2, q1, by rw [q3]; exact hL, by rw [q3]; exact Frm.rf⟩, h4⟩, h5⟩, h6⟩
/-- what may be asked -/
def Vld (A : St) (t a : Nat) (b : Int32) : Prop := match t with
  | 0 => a < 81 ∧ inR b 4 = true ∧ kN A < 10
  | 1 => a ≤ kN A ∧ inR b 4 = true
  | 2 => a ≤ kN A
  | 3 => a ≤ kN A ∧ inR b 4 = true
  | 4 => a ≤ kN A
  | 5 => a ≤ kN A
  | 6 => a < 6 ∧ inR b 81 = true
  | 7 => a < 6 ∧ (b = -1 ∨ inR b 81 = true)
  | 8 => a < 6
  | 9 => a ≤ kN A ∧ inR b 6 = true
  | 10 => a < 4 ∧ sbI a b = true
  | _ => False
def Stq (A : St) (t a : Nat) (b : Int32) : Prop := (∃ e : Int32, e < -100 ∧ CallF A t a b e ∧ Due A t a b e A) ∨ ∃ (v : Int32) (A' : St), ¬ v < -100 ∧ AOK A' ∧ CallK A t a b v A' ∧ Due A t a b v A'
theorem nl_nI {n : Nat} (h : n < 2 ^ 31) : ¬ nI n < -100 := fun z => by
  have z1 := Int32.lt_iff_toInt_lt.mp z
  rw [nI_toInt h] at z1
  have z2 : (-100 : Int32).toInt = -100 := by decide
  omega
theorem nl_w {x : Int32} (h : x = -1 ∨ inR x 81 = true) : ¬ x < -100 := by
  rcases h with rfl | h
  · decide
  · obtain ⟨k, hk, rfl⟩ := inR_of h (by decide)
    exact nl_nI (by omega)
theorem PW_ok {w : Wd} {A A' : St} {S : Nat → St} {sv lt : Nat} {v : Int32} : ∀ r w', PW w A S sv lt A' (.int v) r w' → ∃ v, r = some (.int v) := fun r w' h => ⟨v, h.1⟩
theorem PA_ok2 {w : Wd} {v : Int32} : ∀ r w', PA w v r w' → ∃ v, r = some (.int v) := fun r w' h => ⟨v, h.1⟩
theorem onesN_lt {x : Nat} : onesN x < 2 ^ 31 := by
  have h : ∀ k, oneP x k ≤ 1 := fun k => by
    rcases and1 (x / 2 ^ k) with z | z <;> (show x / 2 ^ k &&& 1 ≤ 1; omega)
  have z := sumN_le h 12
  show sumN (oneP x) 12 < 2 ^ 31
  omega
theorem stp_0 {A : St} (hA : AOK A) {a : Nat} {b : Int32} (h : Vld A 0 a b) : Stq A 0 a b := by
  obtain ⟨h1, h2, h3⟩ := h
  obtain ⟨q, hq, rfl⟩ := inR_of h2 (by decide)
  by_cases hz : wncA A a = 0
  · exact Or.inr ⟨nI (kN A), cutA A a q, nl_nI (by omega), cutA_ok hA (by omega) h1 hq, fun w S sv lt hD hS => C_cut (H_cut (fr := 6) (lo := 90) (K_X6_cut hD hA hS h1 hq hz) PW_ok) (by decide) PW_ok, fun w hL => K_L_keyDue0 hL hA h1 hz h3⟩
  · exact Or.inl ⟨-103, by decide, fun w hD => C_cut (T_cut_1 (fr := 6) (lo := 90) (K_X6_cut_2 hD hA h1 hq hz)) (by decide) PA_ok2, fun w hL => CP.pd hL (K_L_keyDue0_f hL hA h1 hz)⟩
theorem stp_1 {A : St} (hA : AOK A) {a : Nat} {b : Int32} (h : Vld A 1 a b) : Stq A 1 a b := by
  have hn := hA.n12
  obtain ⟨h1, h2⟩ := h
  by_cases hk : a < kN A
  · have hc := hA.c81 (k := a) (by omega)
    have ho := hA.o4 (k := a) (by omega)
    obtain ⟨j, hj, rfl⟩ := inR_of h2 (by decide)
    by_cases hz : wndA A a j = 0
    · have hd : cN A a + wtN j < 81 := by
        refine wt81 hc hj ?_
        have := dep_lt (cN A a) j
        by_cases h2 : dep (cN A a) j = 2
        · unfold wndA at hz; rw [if_pos h2] at hz; cases hz
        · omega
      exact Or.inr ⟨nI (cN A a + wtN j), deeA A a j, nl_nI (by omega), deeA_ok hA hd, fun w S sv lt hD hS => C_deepen (H_deepen (fr := 6) (lo := 90) (K_X6_deepen hD hA hS hk hj hz) PW_ok) (by decide) PW_ok, fun w hL => K_L_keyDue1 hL hA hk hj hz⟩
    · exact Or.inl ⟨-103, by decide, fun w hD => C_deepen (T_deepen_1 (fr := 6) (lo := 90) (K_X6_deepen_2 hD hA hk hj hz)) (by decide) PA_ok2, fun w hL => CP.pd hL (K_L_keyDue1_f hL hA hk hj hz)⟩
  · exact Or.inl ⟨-101, by decide, fun w hD => C_deepen (T_deepen_0 (fr := 6) (lo := 90) (K_X6_deepen_0 hD hA (nI a) (by rw [inR_nI (by omega)]; exact decide_eq_false hk) b)) (by decide) PA_ok2, fun w hL => CP.pd hL (K_L_keyDue_n hL hA (by decide) (by omega) hk)⟩
theorem stp_2 {A : St} (hA : AOK A) {a : Nat} {b : Int32} (h : Vld A 2 a b) : Stq A 2 a b := by
  have hn := hA.n12
  have h1 : a ≤ kN A := h
  by_cases hk : a < kN A
  · have hc := hA.c81 (k := a) (by omega)
    have ho := hA.o4 (k := a) (by omega)
    exact Or.inr ⟨nI (kN A - 1), retA A a, nl_nI (by omega), retA_ok hA hk, fun w S sv lt hD hS => C_retire (H_retire (fr := 6) (lo := 90) (K_X6_retire hD hA hS hk) PW_ok) (by decide) PW_ok, fun w hL => K_L_keyDue2 hL hA hk⟩
  · exact Or.inl ⟨-101, by decide, fun w hD => C_retire (T_retire_0 (fr := 6) (lo := 90) (K_X6_retire_0 hD hA (nI a) (by rw [inR_nI (by omega)]; exact decide_eq_false hk))) (by decide) PA_ok2, fun w hL => CP.pd hL (K_L_keyDue_n hL hA (by decide) (by omega) hk)⟩
theorem stp_3 {A : St} (hA : AOK A) {a : Nat} {b : Int32} (h : Vld A 3 a b) : Stq A 3 a b := by
  have hn := hA.n12
  obtain ⟨h1, h2⟩ := h
  by_cases hk : a < kN A
  · have hc := hA.c81 (k := a) (by omega)
    have ho := hA.o4 (k := a) (by omega)
    obtain ⟨q, hq, rfl⟩ := inR_of h2 (by decide)
    exact Or.inr ⟨nI (oN A a), givA A a q, nl_nI (by omega), givA_ok hA hq, fun w S sv lt hD hS => C_give (H_give (fr := 6) (lo := 90) (K_X6_give hD hA hS hk hq) PW_ok) (by decide) PW_ok, fun w hL => K_L_keyDue3 hL hA hk⟩
  · exact Or.inl ⟨-101, by decide, fun w hD => C_give (T_give_0 (fr := 6) (lo := 90) (K_X6_give_0 hD hA (nI a) (by rw [inR_nI (by omega)]; exact decide_eq_false hk) b)) (by decide) PA_ok2, fun w hL => CP.pd hL (K_L_keyDue_n hL hA (by decide) (by omega) hk)⟩
theorem stp_4 {A : St} (hA : AOK A) {a : Nat} {b : Int32} (h : Vld A 4 a b) : Stq A 4 a b := by
  have hn := hA.n12
  have h1 : a ≤ kN A := h
  by_cases hk : a < kN A
  · have hc := hA.c81 (k := a) (by omega)
    have ho := hA.o4 (k := a) (by omega)
    cases hz : lsA A a with
    | true => exact Or.inl ⟨-103, by decide, fun w hD => C_lose (T_lose_1 (fr := 6) (lo := 90) (K_X6_lose_1 hD hA hk hz)) (by decide) PA_ok2, fun w hL => CP.pd hL (K_L_keyDue4_f hL hA hk hz)⟩
    | false => exact Or.inr ⟨nI (onesN (lksA A (cN A a))), losA A a true, nl_nI onesN_lt, losA_ok hA a true, fun w S sv lt hD hS => C_lose (H_lose (fr := 6) (lo := 90) (K_X6_lose hD hA hS hk hz) PW_ok) (by decide) PW_ok, fun w hL => K_L_keyDue4 hL hA hk hz⟩
  · exact Or.inl ⟨-101, by decide, fun w hD => C_lose (T_lose_0 (fr := 6) (lo := 90) (K_X6_lose_0 hD hA (nI a) (by rw [inR_nI (by omega)]; exact decide_eq_false hk))) (by decide) PA_ok2, fun w hL => CP.pd hL (K_L_keyDue_n hL hA (by decide) (by omega) hk)⟩
theorem stp_5 {A : St} (hA : AOK A) {a : Nat} {b : Int32} (h : Vld A 5 a b) : Stq A 5 a b := by
  have hn := hA.n12
  have h1 : a ≤ kN A := h
  by_cases hk : a < kN A
  · have hc := hA.c81 (k := a) (by omega)
    have ho := hA.o4 (k := a) (by omega)
    cases hz : lsA A a with
    | false => exact Or.inl ⟨-103, by decide, fun w hD => C_find (T_find_1 (fr := 6) (lo := 90) (K_X6_find_1 hD hA hk hz)) (by decide) PA_ok2, fun w hL => CP.pd hL (K_L_keyDue5_f hL hA hk hz)⟩
    | true => exact Or.inr ⟨nI (onesN (lksA A (cN A a))), losA A a false, nl_nI onesN_lt, losA_ok hA a false, fun w S sv lt hD hS => C_find (H_find (fr := 6) (lo := 90) (K_X6_find hD hA hS hk hz) PW_ok) (by decide) PW_ok, fun w hL => K_L_keyDue5 hL hA hk hz⟩
  · exact Or.inl ⟨-101, by decide, fun w hD => C_find (T_find_0 (fr := 6) (lo := 90) (K_X6_find_0 hD hA (nI a) (by rw [inR_nI (by omega)]; exact decide_eq_false hk))) (by decide) PA_ok2, fun w hL => CP.pd hL (K_L_keyDue_n hL hA (by decide) (by omega) hk)⟩
theorem stp_9 {A : St} (hA : AOK A) {a : Nat} {b : Int32} (h : Vld A 9 a b) : Stq A 9 a b := by
  have hn := hA.n12
  obtain ⟨h1, h2⟩ := h
  by_cases hk : a < kN A
  · have hc := hA.c81 (k := a) (by omega)
    have ho := hA.o4 (k := a) (by omega)
    obtain ⟨p, hp, rfl⟩ := inR_of h2 (by decide)
    cases hz : lsA A a with
    | true => exact Or.inl ⟨-103, by decide, fun w hD => C_turn (T_turn_1 (fr := 6) (lo := 90) (K_X6_turn_2 hD hA hk hp hz)) (by decide) PA_ok2, fun w hL => CP.pd hL (K_L_keyDue9_f hL hA hk hp (Or.inl hz))⟩
    | false =>
      cases hw : wdA A p with
      | false => exact Or.inl ⟨-103, by decide, fun w hD => C_turn (T_turn_1 (fr := 6) (lo := 90) (K_X6_turn_3 hD hA hk hp hz hw)) (by decide) PA_ok2, fun w hL => CP.pd hL (K_L_keyDue9_f hL hA hk hp (Or.inr hw))⟩
      | true => exact Or.inr ⟨bI (opnA A (cN A a) p), turA A a p, (by cases opnA A (cN A a) p <;> decide), turA_ok hA (by omega) hp, fun w S sv lt hD hS => C_turn (H_turn (fr := 6) (lo := 90) (K_X6_turn hD hA hS hk hp hz hw) PW_ok) (by decide) PW_ok, fun w hL => K_L_keyDue9 hL hA hk hp hz hw⟩
  · exact Or.inl ⟨-101, by decide, fun w hD => C_turn (T_turn_0 (fr := 6) (lo := 90) (K_X6_turn_0 hD hA (nI a) (by rw [inR_nI (by omega)]; exact decide_eq_false hk) b)) (by decide) PA_ok2, fun w hL => CP.pd hL (K_L_keyDue_n hL hA (by decide) (by omega) hk)⟩
theorem stp_6 {A : St} (hA : AOK A) {a : Nat} {b : Int32} (h : Vld A 6 a b) : Stq A 6 a b := by
  obtain ⟨h1, h2⟩ := h
  obtain ⟨c, hc, rfl⟩ := inR_of h2 (by decide)
  exact Or.inr ⟨A (16 + 4 * a + 0), warA A a (nI c), nl_w (war_w hA h1), warA_ok hA h1 hc, fun w S sv lt hD hS => C_ward (H_ward (fr := 6) (lo := 90) (K_X6_ward hD hA hS h1 hc) PW_ok) (by decide) PW_ok, fun w hL => K_L_lockDue6 hL hA (nI c) h1⟩
theorem stp_7 {A : St} (hA : AOK A) {a : Nat} {b : Int32} (h : Vld A 7 a b) : Stq A 7 a b := by
  obtain ⟨h1, h2⟩ := h
  cases hw : wdA A a with
  | false => exact Or.inl ⟨-103, by decide, fun w hD => C_guest (T_guest_2 (fr := 6) (lo := 90) (K_X6_guest_2 hD hA h1 b h2 hw)) (by decide) PA_ok2, fun w hL => CP.pd hL (K_L_lockDue_f hL hA (Or.inl rfl) h1 hw)⟩
  | true => exact Or.inr ⟨A (16 + 4 * a + 1), gueA A a b, nl_w (war_x hA h1), gueA_ok hA h1 h2 hw, fun w S sv lt hD hS => C_guest (H_guest (fr := 6) (lo := 90) (K_X6_guest hD hA hS h1 b h2 hw) PW_ok) (by decide) PW_ok, fun w hL => K_L_lockDue7 hL hA b h1 hw⟩
theorem stp_8 {A : St} (hA : AOK A) {a : Nat} {b : Int32} (h : Vld A 8 a b) : Stq A 8 a b := by
  have h1 : a < 6 := h
  cases hw : wdA A a with
  | false => exact Or.inl ⟨-103, by decide, fun w hD => C_take (T_take_1 (fr := 6) (lo := 90) (K_X6_take_1 hD hA h1 hw)) (by decide) PA_ok2, fun w hL => CP.pd hL (K_L_lockDue_f hL hA (Or.inr rfl) h1 hw)⟩
  | true => exact Or.inr ⟨nI (onesN (kysA A a)), takA A a, nl_nI onesN_lt, takA_ok hA h1, fun w S sv lt hD hS => C_take (H_take (fr := 6) (lo := 90) (K_X6_take hD hA hS h1 hw) PW_ok) (by decide) PW_ok, fun w hL => K_L_lockDue8 hL hA h1 hw⟩
theorem stp_10 {A : St} (hA : AOK A) {a : Nat} {b : Int32} (h : Vld A 10 a b) : Stq A 10 a b := by
  obtain ⟨h1, h2⟩ := h
  have hs := hA.s10 h1
  exact Or.inr ⟨nI (sN A a), setA A a b, nl_nI (by omega), setA_ok hA h1 h2, fun w S sv lt hD hS => C_set (H_set (fr := 6) (lo := 90) (K_X6_set hD hA hS h1 b h2) PW_ok) (by decide) PW_ok, fun w hL => K_L_lockDue10 hL hA b h1⟩
theorem stp_all {A : St} (hA : AOK A) {t a : Nat} {b : Int32} (h : Vld A t a b) : Stq A t a b := by
  match t, h with
  | 0, h => exact stp_0 hA h
  | 1, h => exact stp_1 hA h
  | 2, h => exact stp_2 hA h
  | 3, h => exact stp_3 hA h
  | 4, h => exact stp_4 hA h
  | 5, h => exact stp_5 hA h
  | 6, h => exact stp_6 hA h
  | 7, h => exact stp_7 hA h
  | 8, h => exact stp_8 hA h
  | 9, h => exact stp_9 hA h
  | 10, h => exact stp_10 hA h
  | t + 11, h => exact h.elim
end A71

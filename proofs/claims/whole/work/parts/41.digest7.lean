section A41
/-! ### the reference's digest -/
theorem wL_self {w : Wd} {a : Nat} {h : Int64} (e : w.2 a = h) : w = wLong w a h := by
  unfold wLong
  refine Prod.ext rfl (funext fun b => ?_)
  by_cases z : b = a
  · subst z; simp [e]
  · simp [z]
theorem wL_at {w : Wd} {a : Nat} {x : Int64} : (wLong w a x).2 a = x := by simp [wLong]
theorem wL_2 {w : Wd} {a : Nat} {x y : Int64} : wLong (wLong w a x) a y = wLong w a y := by
  unfold wLong
  refine Prod.ext rfl (funext fun b => ?_)
  by_cases z : b = a <;> simp [z]
theorem wLL {w : Wd} {x : Int64} {v : Int32} : wLong (wLong w 204 x) 204 (mx ((wLong w 204 x).2 204) v.toInt64) = wLong w 204 (mi x v) := by rw [wL_2, wL_at, mi_e]
theorem wLq {w : Wd} {x v y : Int64} (h : v = y) : wLong (wLong w 204 x) 204 (mx ((wLong w 204 x).2 204) v) = wLong w 204 (mx x y) := by rw [wL_2, wL_at, h]
theorem wLp {w : Wd} {x v : Int64} {y : Int32} (h : v = y.toInt64) : wLong (wLong w 204 x) 204 (mx ((wLong w 204 x).2 204) v) = wLong w 204 (mi x y) := by rw [wL_2, wL_at, h, mi_e]
theorem wLf {w : Wd} {x : Int64} (g : Int64 → Int64) : wLong (wLong w 204 x) 204 (g ((wLong w 204 x).2 204)) = wLong w 204 (g x) := by rw [wL_2, wL_at]
theorem wLe {w : Wd} {x y : Int64} (h : x = y) : wLong w 204 x = wLong w 204 y := by rw [h]
set_option maxRecDepth 20000 in
set_option maxHeartbeats 4000000 in
theorem K_X7_mix {w : Wd} (v : Int64) : CF yX7_mix cX7_mix 3 none 0 0 [.ref 204, .long v] w (fun r w' => r = none ∧ w' = wLong w 204 (mx (w.2 204) v)) := by
  refine CF.of ok_X7_mix (Nat.le_of_ble_eq_true rfl) (fun ex us G9 p9 l9 e9 s9 m9 ar9 be9 me9 co9 C hr => ?_)
  refine a_aload_n C dX7_mix_0 rfl rfl ?_
  refine a_ldcl C dX7_mix_1 wX7_297 ?_
  refine a_aload_n C dX7_mix_4 rfl rfl ?_
  refine a_getf C fX7_299 dX7_mix_5 (show _ < 219 from (by first | decide | omega)) (by first | decide | omega) rfl rfl ?_
  refine a_lmul C dX7_mix_8 ?_
  refine a_lload_n C dX7_mix_9 rfl rfl ?_
  refine a_ladd C dX7_mix_10 ?_
  refine f_putL C fX7_299 dX7_mix_11 (by first | decide | omega) rfl rfl rfl (Nat.le_of_ble_eq_true rfl) rfl ?_
  refine f_vret C hr dX7_mix_14 ?_
  exact ⟨rfl, rfl⟩

set_option maxRecDepth 20000 in
set_option maxHeartbeats 4000000 in
theorem K_X7_mixKeys {w : Wd} {A : St} (hR : RR w A) (hA : AOK A)  : CF yX7_mixKeys cX7_mixKeys 3 none 7 154 [.ref 204] w (fun r w' => r = none ∧ w' = wLong w 204 (dKy A (w.2 204))) := by
  have zq_n := hA.n12
  have hRz : ∀ h9, RR (wLong w 204 h9) A := fun _ => hR
  refine CF.of ok_X7_mixKeys (Nat.le_of_ble_eq_true rfl) (fun ex us G9 p9 l9 e9 s9 m9 ar9 be9 me9 co9 C hr => ?_)
  have ZL2 : ∀ (zd2 : Nat) (k : Nat), kN A + 1 ≤ k + zd2 → k ≤ kN A → WA G9 p9 l9 e9 (RM 7 154) s9 m9 ar9 be9 me9 co9 (QF G9 be9 ar9 s9 w ex us (fun r w' => r = none ∧ w' = wLong w 204 (dKy A (w.2 204)))) 3 (219 + ex) us 2 [some (.ref 204), some (.int (nI k)), none] [] (fzM (wLong w 204 (dK3 A (w.2 204) k)) ex us) := by
    intro zd2
    induction zd2 with
    | zero => intro k zm2 zh2_0; exfalso; omega
    | succ zd2 zih2 =>
      intro k zm2 zh2_0
      have ZL39 : ∀ (zd39 : Nat) (j : Nat), 4 + 1 ≤ j + zd39 → j ≤ 4 → k < kN A → WA G9 p9 l9 e9 (RM 7 154) s9 m9 ar9 be9 me9 co9 (QF G9 be9 ar9 s9 w ex us (fun r w' => r = none ∧ w' = wLong w 204 (dKy A (w.2 204)))) 3 (219 + ex) us 39 [some (.ref 204), some (.int (nI k)), some (.int (nI j))] [] (fzM (wLong w 204 (dK2 A k (dK1 A k (dK3 A (w.2 204) k) 10) j)) ex us) := by
        intro zd39
        induction zd39 with
        | zero => intro j zm39 zh39_0 zh39_1; exfalso; omega
        | succ zd39 zih39 =>
          intro j zm39 zh39_0 zh39_1
          refine a_iload_n C dX7_mixKeys_39 rfl rfl ?_
          refine a_iconst (v := nI 4) C dX7_mixKeys_40 (by decide) ?_
          first | refine n_icmp_ge (tgt := 61) C dX7_mixKeys_41 (by decide) (by first | decide | omega) (by first | decide | omega) (fun h_41 => ?_) (fun h_41 => ?_) | refine a_icmp_ge (tgt := 61) C dX7_mixKeys_41 (by decide) (fun h_41 => ?_) (fun h_41 => ?_)
          · obtain rfl : j = 4 := by omega
            refine a_aload_n C dX7_mixKeys_61 rfl rfl ?_
            refine a_aload_n C dX7_mixKeys_62 rfl rfl ?_
            refine a_iload_n C dX7_mixKeys_63 rfl rfl ?_
            refine p_callV C (K_X7_firstCrossed (hRz _) hA (by first | assumption | decide | omega)) vX7_286 rfl (by first | decide | omega) rfl rfl dX7_mixKeys_64 (Nat.le_of_ble_eq_true rfl) ⟨by decide, by decide⟩ ?_
            refine a_i2l C dX7_mixKeys_67 ?_
            refine f_callV C _ _ (K_X7_mix _) vX7_303 (by first | decide | omega) rfl rfl dX7_mixKeys_68 rfl (Nat.le_of_ble_eq_true rfl) ⟨by decide, by decide⟩ (fun zr68 zw68 zp68 => ?_)
            obtain ⟨rfl, rfl⟩ := zp68
            refine a_wd wLL ?_
            refine n_iinc C dX7_mixKeys_71 rfl (by decide) ?_
            refine a_goto (tgt := 2) C dX7_mixKeys_74 (by decide) ?_
            refine a_wd (wLe (dK3_s A _ k).symm) ?_
            refine a_join (aLe_s ?_ (aLe_s ?_ (aLe_n aLe_nil))) rfl rfl (zih2 (k + 1) (by omega) (by omega))
            · first | with_reducible rfl | exact gl (by first | with_reducible rfl | (refine iF ?_; simp [h_41]; done) | (refine iT ?_; simp [h_41]; done) | (refine iB ?_; simp [h_41]; done) | (simp [h_41]; done) | (simp [h_41]; omega) | omega)
            · first | with_reducible rfl | exact gl (by first | with_reducible rfl | (refine iF ?_; simp [h_41]; done) | (refine iT ?_; simp [h_41]; done) | (refine iB ?_; simp [h_41]; done) | (simp [h_41]; done) | (simp [h_41]; omega) | omega)
          · refine a_aload_n C dX7_mixKeys_44 rfl rfl ?_
            refine a_aload_n C dX7_mixKeys_45 rfl rfl ?_
            refine a_iload_n C dX7_mixKeys_46 rfl rfl ?_
            refine a_iload_n C dX7_mixKeys_47 rfl rfl ?_
            refine p_callV C (K_X7_whyNotDeeper (hRz _) hA (by first | assumption | decide | omega) (by first | assumption | decide | omega)) vX7_137 rfl (by first | decide | omega) rfl rfl dX7_mixKeys_48 (Nat.le_of_ble_eq_true rfl) ⟨by decide, by decide⟩ ?_
            refine a_i2l C dX7_mixKeys_51 ?_
            refine f_callV C _ _ (K_X7_mix _) vX7_303 (by first | decide | omega) rfl rfl dX7_mixKeys_52 rfl (Nat.le_of_ble_eq_true rfl) ⟨by decide, by decide⟩ (fun zr52 zw52 zp52 => ?_)
            obtain ⟨rfl, rfl⟩ := zp52
            refine a_wd wLL ?_
            refine n_iinc C dX7_mixKeys_55 rfl (by decide) ?_
            refine a_goto (tgt := 39) C dX7_mixKeys_58 (by decide) ?_
            refine a_wd (wLe (dK2_s A k _ j).symm) ?_
            refine a_join (aLe_s ?_ (aLe_s ?_ (aLe_s ?_ aLe_nil))) rfl rfl (zih39 (j + 1) (by omega) (by omega) (by omega))
            · first | with_reducible rfl | exact gl (by first | with_reducible rfl | (refine iF ?_; simp [h_41]; done) | (refine iT ?_; simp [h_41]; done) | (refine iB ?_; simp [h_41]; done) | (simp [h_41]; done) | (simp [h_41]; omega) | omega)
            · first | with_reducible rfl | exact gl (by first | with_reducible rfl | (refine iF ?_; simp [h_41]; done) | (refine iT ?_; simp [h_41]; done) | (refine iB ?_; simp [h_41]; done) | (simp [h_41]; done) | (simp [h_41]; omega) | omega)
            · first | with_reducible rfl | exact gl (by first | with_reducible rfl | (refine iF ?_; simp [h_41]; done) | (refine iT ?_; simp [h_41]; done) | (refine iB ?_; simp [h_41]; done) | (simp [h_41]; done) | (simp [h_41]; omega) | omega)
      have ZL14 : ∀ (zd14 : Nat) (j : Nat), 10 + 1 ≤ j + zd14 → j ≤ 10 → k < kN A → WA G9 p9 l9 e9 (RM 7 154) s9 m9 ar9 be9 me9 co9 (QF G9 be9 ar9 s9 w ex us (fun r w' => r = none ∧ w' = wLong w 204 (dKy A (w.2 204)))) 3 (219 + ex) us 14 [some (.ref 204), some (.int (nI k)), some (.int (nI j))] [] (fzM (wLong w 204 (dK1 A k (dK3 A (w.2 204) k) j)) ex us) := by
        intro zd14
        induction zd14 with
        | zero => intro j zm14 zh14_0 zh14_1; exfalso; omega
        | succ zd14 zih14 =>
          intro j zm14 zh14_0 zh14_1
          refine a_iload_n C dX7_mixKeys_14 rfl rfl ?_
          refine a_bipush (v := nI 10) C dX7_mixKeys_15 (by decide) ?_
          first | refine n_icmp_ge (tgt := 37) C dX7_mixKeys_17 (by decide) (by first | decide | omega) (by first | decide | omega) (fun h_17 => ?_) (fun h_17 => ?_) | refine a_icmp_ge (tgt := 37) C dX7_mixKeys_17 (by decide) (fun h_17 => ?_) (fun h_17 => ?_)
          · obtain rfl : j = 10 := by omega
            refine a_iconst (v := nI 0) C dX7_mixKeys_37 (by decide) ?_
            refine a_istore_n C dX7_mixKeys_38 rfl (by decide) ?_
            refine a_wd (wLe (dK2_0 A k _).symm) ?_
            refine a_join (aLe_s ?_ (aLe_s ?_ (aLe_s ?_ aLe_nil))) rfl rfl (ZL39 (4 + 1) 0 (by omega) (by omega) (by omega))
            · first | with_reducible rfl | exact gl (by first | with_reducible rfl | (refine iF ?_; simp [h_17]; done) | (refine iT ?_; simp [h_17]; done) | (refine iB ?_; simp [h_17]; done) | (simp [h_17]; done) | (simp [h_17]; omega) | omega | rfl)
            · first | with_reducible rfl | exact gl (by first | with_reducible rfl | (refine iF ?_; simp [h_17]; done) | (refine iT ?_; simp [h_17]; done) | (refine iB ?_; simp [h_17]; done) | (simp [h_17]; done) | (simp [h_17]; omega) | omega | rfl)
            · first | with_reducible rfl | exact gl (by first | with_reducible rfl | (refine iF ?_; simp [h_17]; done) | (refine iT ?_; simp [h_17]; done) | (refine iB ?_; simp [h_17]; done) | (simp [h_17]; done) | (simp [h_17]; omega) | omega | rfl)
          · refine a_aload_n C dX7_mixKeys_20 rfl rfl ?_
            refine a_aload_n C dX7_mixKeys_21 rfl rfl ?_
            refine a_iload_n C dX7_mixKeys_22 rfl rfl ?_
            refine a_iload_n C dX7_mixKeys_23 rfl rfl ?_
            refine p_callV C (K_X7_tellsKey (hRz _) hA (by first | assumption | decide | omega) (by first | assumption | decide | omega)) vX7_203 rfl (by first | decide | omega) rfl rfl dX7_mixKeys_24 (Nat.le_of_ble_eq_true rfl) ⟨by decide, by decide⟩ ?_
            refine a_i2l C dX7_mixKeys_27 ?_
            refine f_callV C _ _ (K_X7_mix _) vX7_303 (by first | decide | omega) rfl rfl dX7_mixKeys_28 rfl (Nat.le_of_ble_eq_true rfl) ⟨by decide, by decide⟩ (fun zr28 zw28 zp28 => ?_)
            obtain ⟨rfl, rfl⟩ := zp28
            refine a_wd wLL ?_
            refine n_iinc C dX7_mixKeys_31 rfl (by decide) ?_
            refine a_goto (tgt := 14) C dX7_mixKeys_34 (by decide) ?_
            refine a_wd (wLe (dK1_s A k _ j).symm) ?_
            refine a_join (aLe_s ?_ (aLe_s ?_ (aLe_s ?_ aLe_nil))) rfl rfl (zih14 (j + 1) (by omega) (by omega) (by omega))
            · first | with_reducible rfl | exact gl (by first | with_reducible rfl | (refine iF ?_; simp [h_17]; done) | (refine iT ?_; simp [h_17]; done) | (refine iB ?_; simp [h_17]; done) | (simp [h_17]; done) | (simp [h_17]; omega) | omega)
            · first | with_reducible rfl | exact gl (by first | with_reducible rfl | (refine iF ?_; simp [h_17]; done) | (refine iT ?_; simp [h_17]; done) | (refine iB ?_; simp [h_17]; done) | (simp [h_17]; done) | (simp [h_17]; omega) | omega)
            · first | with_reducible rfl | exact gl (by first | with_reducible rfl | (refine iF ?_; simp [h_17]; done) | (refine iT ?_; simp [h_17]; done) | (refine iB ?_; simp [h_17]; done) | (simp [h_17]; done) | (simp [h_17]; omega) | omega)
      refine a_iload_n C dX7_mixKeys_2 rfl rfl ?_
      refine a_aload_n C dX7_mixKeys_3 rfl rfl ?_
      refine a_getfF C fX7_7 dX7_mixKeys_4 (show _ < 219 from (by first | decide | omega)) (by first | decide | omega) rfl rfl ?_
      refine a_iconst (v := nI 0) C dX7_mixKeys_7 (by decide) ?_
      refine n_iald C dX7_mixKeys_8 (show _ < 219 from (by first | decide | omega)) (by first | decide | omega) rfl rfl (by first | decide | omega) (by decide) (RR_n hR hA) ?_
      first | refine n_icmp_ge (tgt := 77) C dX7_mixKeys_9 (by decide) (by first | decide | omega) (by first | decide | omega) (fun h_9 => ?_) (fun h_9 => ?_) | refine a_icmp_ge (tgt := 77) C dX7_mixKeys_9 (by decide) (fun h_9 => ?_) (fun h_9 => ?_)
      · obtain rfl : k = kN A := by omega
        refine f_vret C hr dX7_mixKeys_77 ?_
        exact ⟨rfl, wLe (dKy_e _ _).symm⟩
      · refine a_iconst (v := nI 0) C dX7_mixKeys_12 (by decide) ?_
        refine a_istore_n C dX7_mixKeys_13 rfl (by decide) ?_
        refine a_wd (wLe (dK1_0 A k _).symm) ?_
        refine a_join (aLe_s ?_ (aLe_s ?_ (aLe_s ?_ aLe_nil))) rfl rfl (ZL14 (10 + 1) 0 (by omega) (by omega) (by omega))
        · first | with_reducible rfl | exact gl (by first | with_reducible rfl | (refine iF ?_; simp [h_9]; done) | (refine iT ?_; simp [h_9]; done) | (refine iB ?_; simp [h_9]; done) | (simp [h_9]; done) | (simp [h_9]; omega) | omega | rfl)
        · first | with_reducible rfl | exact gl (by first | with_reducible rfl | (refine iF ?_; simp [h_9]; done) | (refine iT ?_; simp [h_9]; done) | (refine iB ?_; simp [h_9]; done) | (simp [h_9]; done) | (simp [h_9]; omega) | omega | rfl)
        · first | with_reducible rfl | exact gl (by first | with_reducible rfl | (refine iF ?_; simp [h_9]; done) | (refine iT ?_; simp [h_9]; done) | (refine iB ?_; simp [h_9]; done) | (simp [h_9]; done) | (simp [h_9]; omega) | omega | rfl)
  refine a_pad 2 ?_
  refine a_eq (L' := [some (.ref 204), none, none]) rfl rfl rfl ?_
  refine a_wd (wL_self (a := 204) rfl) ?_
  refine a_iconst (v := nI 0) C dX7_mixKeys_0 (by decide) ?_
  refine a_istore_n C dX7_mixKeys_1 rfl (by decide) ?_
  refine a_wd (wLe (dK3_0 A _).symm) ?_
  refine a_join (aLe_s ?_ (aLe_s ?_ (aLe_n aLe_nil))) rfl rfl (ZL2 (kN A + 1) 0 (by omega) (by omega))
  · first | with_reducible rfl | exact gl (by first | with_reducible rfl | (refine iF ?_; simp []; done) | (refine iT ?_; simp []; done) | (refine iB ?_; simp []; done) | (simp []; done) | (simp []; omega) | omega | rfl)
  · first | with_reducible rfl | exact gl (by first | with_reducible rfl | (refine iF ?_; simp []; done) | (refine iT ?_; simp []; done) | (refine iB ?_; simp []; done) | (simp []; done) | (simp []; omega) | omega | rfl)

set_option maxRecDepth 20000 in
set_option maxHeartbeats 4000000 in
theorem K_X7_mixPlaces {w : Wd} {A : St} (hR : RR w A) (hA : AOK A)  : CF yX7_mixPlaces cX7_mixPlaces 3 none 7 157 [.ref 204] w (fun r w' => r = none ∧ w' = wLong w 204 (dPl A (w.2 204))) := by
  have hRz : ∀ h9, RR (wLong w 204 h9) A := fun _ => hR
  refine CF.of ok_X7_mixPlaces (Nat.le_of_ble_eq_true rfl) (fun ex us G9 p9 l9 e9 s9 m9 ar9 be9 me9 co9 C hr => ?_)
  have ZL41 : ∀ (zd41 : Nat) (k : Nat), 4 + 1 ≤ k + zd41 → k ≤ 4 → WA G9 p9 l9 e9 (RM 7 157) s9 m9 ar9 be9 me9 co9 (QF G9 be9 ar9 s9 w ex us (fun r w' => r = none ∧ w' = wLong w 204 (dPl A (w.2 204)))) 3 (219 + ex) us 41 [some (.ref 204), some (.int (nI k)), none] [] (fzM (wLong w 204 (dP2 A (dL2 A (w.2 204) 6) k)) ex us) := by
    intro zd41
    induction zd41 with
    | zero => intro k zm41 zh41_0; exfalso; omega
    | succ zd41 zih41 =>
      intro k zm41 zh41_0
      have ZL48 : ∀ (zd48 : Nat) (j : Nat), 3 + 1 ≤ j + zd48 → j ≤ 3 → k < 4 → WA G9 p9 l9 e9 (RM 7 157) s9 m9 ar9 be9 me9 co9 (QF G9 be9 ar9 s9 w ex us (fun r w' => r = none ∧ w' = wLong w 204 (dPl A (w.2 204)))) 3 (219 + ex) us 48 [some (.ref 204), some (.int (nI k)), some (.int (nI j))] [] (fzM (wLong w 204 (dP1 A k (dP2 A (dL2 A (w.2 204) 6) k) j)) ex us) := by
        intro zd48
        induction zd48 with
        | zero => intro j zm48 zh48_0 zh48_1; exfalso; omega
        | succ zd48 zih48 =>
          intro j zm48 zh48_0 zh48_1
          refine a_iload_n C dX7_mixPlaces_48 rfl rfl ?_
          refine a_iconst (v := nI 3) C dX7_mixPlaces_49 (by decide) ?_
          first | refine n_icmp_ge (tgt := 70) C dX7_mixPlaces_50 (by decide) (by first | decide | omega) (by first | decide | omega) (fun h_50 => ?_) (fun h_50 => ?_) | refine a_icmp_ge (tgt := 70) C dX7_mixPlaces_50 (by decide) (fun h_50 => ?_) (fun h_50 => ?_)
          · obtain rfl : j = 3 := by omega
            refine n_iinc C dX7_mixPlaces_70 rfl (by decide) ?_
            refine a_goto (tgt := 41) C dX7_mixPlaces_73 (by decide) ?_
            refine a_wd (wLe (dP2_s A _ k).symm) ?_
            refine a_join (aLe_s ?_ (aLe_s ?_ (aLe_n aLe_nil))) rfl rfl (zih41 (k + 1) (by omega) (by omega))
            · first | with_reducible rfl | exact gl (by first | with_reducible rfl | (refine iF ?_; simp [h_50]; done) | (refine iT ?_; simp [h_50]; done) | (refine iB ?_; simp [h_50]; done) | (simp [h_50]; done) | (simp [h_50]; omega) | omega)
            · first | with_reducible rfl | exact gl (by first | with_reducible rfl | (refine iF ?_; simp [h_50]; done) | (refine iT ?_; simp [h_50]; done) | (refine iB ?_; simp [h_50]; done) | (simp [h_50]; done) | (simp [h_50]; omega) | omega)
          · refine a_aload_n C dX7_mixPlaces_53 rfl rfl ?_
            refine a_aload_n C dX7_mixPlaces_54 rfl rfl ?_
            refine a_iload_n C dX7_mixPlaces_55 rfl rfl ?_
            refine a_iload_n C dX7_mixPlaces_56 rfl rfl ?_
            refine p_callV C (K_X7_tellsPerson (hRz _) hA (by first | assumption | decide | omega) (by first | assumption | decide | omega)) vX7_212 rfl (by first | decide | omega) rfl rfl dX7_mixPlaces_57 (Nat.le_of_ble_eq_true rfl) ⟨by decide, by decide⟩ ?_
            refine a_i2l C dX7_mixPlaces_60 ?_
            refine f_callV C _ _ (K_X7_mix _) vX7_303 (by first | decide | omega) rfl rfl dX7_mixPlaces_61 rfl (Nat.le_of_ble_eq_true rfl) ⟨by decide, by decide⟩ (fun zr61 zw61 zp61 => ?_)
            obtain ⟨rfl, rfl⟩ := zp61
            refine a_wd wLL ?_
            refine n_iinc C dX7_mixPlaces_64 rfl (by decide) ?_
            refine a_goto (tgt := 48) C dX7_mixPlaces_67 (by decide) ?_
            refine a_wd (wLe (dP1_s A k _ j).symm) ?_
            refine a_join (aLe_s ?_ (aLe_s ?_ (aLe_s ?_ aLe_nil))) rfl rfl (zih48 (j + 1) (by omega) (by omega) (by omega))
            · first | with_reducible rfl | exact gl (by first | with_reducible rfl | (refine iF ?_; simp [h_50]; done) | (refine iT ?_; simp [h_50]; done) | (refine iB ?_; simp [h_50]; done) | (simp [h_50]; done) | (simp [h_50]; omega) | omega)
            · first | with_reducible rfl | exact gl (by first | with_reducible rfl | (refine iF ?_; simp [h_50]; done) | (refine iT ?_; simp [h_50]; done) | (refine iB ?_; simp [h_50]; done) | (simp [h_50]; done) | (simp [h_50]; omega) | omega)
            · first | with_reducible rfl | exact gl (by first | with_reducible rfl | (refine iF ?_; simp [h_50]; done) | (refine iT ?_; simp [h_50]; done) | (refine iB ?_; simp [h_50]; done) | (simp [h_50]; done) | (simp [h_50]; omega) | omega)
      refine a_iload_n C dX7_mixPlaces_41 rfl rfl ?_
      refine a_iconst (v := nI 4) C dX7_mixPlaces_42 (by decide) ?_
      first | refine n_icmp_ge (tgt := 76) C dX7_mixPlaces_43 (by decide) (by first | decide | omega) (by first | decide | omega) (fun h_43 => ?_) (fun h_43 => ?_) | refine a_icmp_ge (tgt := 76) C dX7_mixPlaces_43 (by decide) (fun h_43 => ?_) (fun h_43 => ?_)
      · obtain rfl : k = 4 := by omega
        refine f_vret C hr dX7_mixPlaces_76 ?_
        exact ⟨rfl, wLe (dPl_e _ _).symm⟩
      · refine a_iconst (v := nI 0) C dX7_mixPlaces_46 (by decide) ?_
        refine a_istore_n C dX7_mixPlaces_47 rfl (by decide) ?_
        refine a_wd (wLe (dP1_0 A k _).symm) ?_
        refine a_join (aLe_s ?_ (aLe_s ?_ (aLe_s ?_ aLe_nil))) rfl rfl (ZL48 (3 + 1) 0 (by omega) (by omega) (by omega))
        · first | with_reducible rfl | exact gl (by first | with_reducible rfl | (refine iF ?_; simp [h_43]; done) | (refine iT ?_; simp [h_43]; done) | (refine iB ?_; simp [h_43]; done) | (simp [h_43]; done) | (simp [h_43]; omega) | omega | rfl)
        · first | with_reducible rfl | exact gl (by first | with_reducible rfl | (refine iF ?_; simp [h_43]; done) | (refine iT ?_; simp [h_43]; done) | (refine iB ?_; simp [h_43]; done) | (simp [h_43]; done) | (simp [h_43]; omega) | omega | rfl)
        · first | with_reducible rfl | exact gl (by first | with_reducible rfl | (refine iF ?_; simp [h_43]; done) | (refine iT ?_; simp [h_43]; done) | (refine iB ?_; simp [h_43]; done) | (simp [h_43]; done) | (simp [h_43]; omega) | omega | rfl)
  have ZL2 : ∀ (zd2 : Nat) (k : Nat), 6 + 1 ≤ k + zd2 → k ≤ 6 → WA G9 p9 l9 e9 (RM 7 157) s9 m9 ar9 be9 me9 co9 (QF G9 be9 ar9 s9 w ex us (fun r w' => r = none ∧ w' = wLong w 204 (dPl A (w.2 204)))) 3 (219 + ex) us 2 [some (.ref 204), some (.int (nI k)), none] [] (fzM (wLong w 204 (dL2 A (w.2 204) k)) ex us) := by
    intro zd2
    induction zd2 with
    | zero => intro k zm2 zh2_0; exfalso; omega
    | succ zd2 zih2 =>
      intro k zm2 zh2_0
      have ZL10 : ∀ (zd10 : Nat) (j : Nat), 6 + 1 ≤ j + zd10 → j ≤ 6 → k < 6 → WA G9 p9 l9 e9 (RM 7 157) s9 m9 ar9 be9 me9 co9 (QF G9 be9 ar9 s9 w ex us (fun r w' => r = none ∧ w' = wLong w 204 (dPl A (w.2 204)))) 3 (219 + ex) us 10 [some (.ref 204), some (.int (nI k)), some (.int (nI j))] [] (fzM (wLong w 204 (dL1 A k (dL2 A (w.2 204) k) j)) ex us) := by
        intro zd10
        induction zd10 with
        | zero => intro j zm10 zh10_0 zh10_1; exfalso; omega
        | succ zd10 zih10 =>
          intro j zm10 zh10_0 zh10_1
          refine a_iload_n C dX7_mixPlaces_10 rfl rfl ?_
          refine a_bipush (v := nI 6) C dX7_mixPlaces_11 (by decide) ?_
          first | refine n_icmp_ge (tgt := 33) C dX7_mixPlaces_13 (by decide) (by first | decide | omega) (by first | decide | omega) (fun h_13 => ?_) (fun h_13 => ?_) | refine a_icmp_ge (tgt := 33) C dX7_mixPlaces_13 (by decide) (fun h_13 => ?_) (fun h_13 => ?_)
          · obtain rfl : j = 6 := by omega
            refine n_iinc C dX7_mixPlaces_33 rfl (by decide) ?_
            refine a_goto (tgt := 2) C dX7_mixPlaces_36 (by decide) ?_
            refine a_wd (wLe (dL2_s A _ k).symm) ?_
            refine a_join (aLe_s ?_ (aLe_s ?_ (aLe_n aLe_nil))) rfl rfl (zih2 (k + 1) (by omega) (by omega))
            · first | with_reducible rfl | exact gl (by first | with_reducible rfl | (refine iF ?_; simp [h_13]; done) | (refine iT ?_; simp [h_13]; done) | (refine iB ?_; simp [h_13]; done) | (simp [h_13]; done) | (simp [h_13]; omega) | omega)
            · first | with_reducible rfl | exact gl (by first | with_reducible rfl | (refine iF ?_; simp [h_13]; done) | (refine iT ?_; simp [h_13]; done) | (refine iB ?_; simp [h_13]; done) | (simp [h_13]; done) | (simp [h_13]; omega) | omega)
          · refine a_aload_n C dX7_mixPlaces_16 rfl rfl ?_
            refine a_aload_n C dX7_mixPlaces_17 rfl rfl ?_
            refine a_iload_n C dX7_mixPlaces_18 rfl rfl ?_
            refine a_iload_n C dX7_mixPlaces_19 rfl rfl ?_
            refine p_callV C (K_X7_tellsLock (hRz _) hA (by first | assumption | decide | omega) (by first | assumption | decide | omega)) vX7_209 rfl (by first | decide | omega) rfl rfl dX7_mixPlaces_20 (Nat.le_of_ble_eq_true rfl) ⟨by decide, by decide⟩ ?_
            refine a_i2l C dX7_mixPlaces_23 ?_
            refine f_callV C _ _ (K_X7_mix _) vX7_303 (by first | decide | omega) rfl rfl dX7_mixPlaces_24 rfl (Nat.le_of_ble_eq_true rfl) ⟨by decide, by decide⟩ (fun zr24 zw24 zp24 => ?_)
            obtain ⟨rfl, rfl⟩ := zp24
            refine a_wd wLL ?_
            refine n_iinc C dX7_mixPlaces_27 rfl (by decide) ?_
            refine a_goto (tgt := 10) C dX7_mixPlaces_30 (by decide) ?_
            refine a_wd (wLe (dL1_s A k _ j).symm) ?_
            refine a_join (aLe_s ?_ (aLe_s ?_ (aLe_s ?_ aLe_nil))) rfl rfl (zih10 (j + 1) (by omega) (by omega) (by omega))
            · first | with_reducible rfl | exact gl (by first | with_reducible rfl | (refine iF ?_; simp [h_13]; done) | (refine iT ?_; simp [h_13]; done) | (refine iB ?_; simp [h_13]; done) | (simp [h_13]; done) | (simp [h_13]; omega) | omega)
            · first | with_reducible rfl | exact gl (by first | with_reducible rfl | (refine iF ?_; simp [h_13]; done) | (refine iT ?_; simp [h_13]; done) | (refine iB ?_; simp [h_13]; done) | (simp [h_13]; done) | (simp [h_13]; omega) | omega)
            · first | with_reducible rfl | exact gl (by first | with_reducible rfl | (refine iF ?_; simp [h_13]; done) | (refine iT ?_; simp [h_13]; done) | (refine iB ?_; simp [h_13]; done) | (simp [h_13]; done) | (simp [h_13]; omega) | omega)
      refine a_iload_n C dX7_mixPlaces_2 rfl rfl ?_
      refine a_bipush (v := nI 6) C dX7_mixPlaces_3 (by decide) ?_
      first | refine n_icmp_ge (tgt := 39) C dX7_mixPlaces_5 (by decide) (by first | decide | omega) (by first | decide | omega) (fun h_5 => ?_) (fun h_5 => ?_) | refine a_icmp_ge (tgt := 39) C dX7_mixPlaces_5 (by decide) (fun h_5 => ?_) (fun h_5 => ?_)
      · obtain rfl : k = 6 := by omega
        refine a_iconst (v := nI 0) C dX7_mixPlaces_39 (by decide) ?_
        refine a_istore_n C dX7_mixPlaces_40 rfl (by decide) ?_
        refine a_wd (wLe (dP2_0 A _).symm) ?_
        refine a_join (aLe_s ?_ (aLe_s ?_ (aLe_n aLe_nil))) rfl rfl (ZL41 (4 + 1) 0 (by omega) (by omega))
        · first | with_reducible rfl | exact gl (by first | with_reducible rfl | (refine iF ?_; simp [h_5]; done) | (refine iT ?_; simp [h_5]; done) | (refine iB ?_; simp [h_5]; done) | (simp [h_5]; done) | (simp [h_5]; omega) | omega | rfl)
        · first | with_reducible rfl | exact gl (by first | with_reducible rfl | (refine iF ?_; simp [h_5]; done) | (refine iT ?_; simp [h_5]; done) | (refine iB ?_; simp [h_5]; done) | (simp [h_5]; done) | (simp [h_5]; omega) | omega | rfl)
      · refine a_iconst (v := nI 0) C dX7_mixPlaces_8 (by decide) ?_
        refine a_istore_n C dX7_mixPlaces_9 rfl (by decide) ?_
        refine a_wd (wLe (dL1_0 A k _).symm) ?_
        refine a_join (aLe_s ?_ (aLe_s ?_ (aLe_s ?_ aLe_nil))) rfl rfl (ZL10 (6 + 1) 0 (by omega) (by omega) (by omega))
        · first | with_reducible rfl | exact gl (by first | with_reducible rfl | (refine iF ?_; simp [h_5]; done) | (refine iT ?_; simp [h_5]; done) | (refine iB ?_; simp [h_5]; done) | (simp [h_5]; done) | (simp [h_5]; omega) | omega | rfl)
        · first | with_reducible rfl | exact gl (by first | with_reducible rfl | (refine iF ?_; simp [h_5]; done) | (refine iT ?_; simp [h_5]; done) | (refine iB ?_; simp [h_5]; done) | (simp [h_5]; done) | (simp [h_5]; omega) | omega | rfl)
        · first | with_reducible rfl | exact gl (by first | with_reducible rfl | (refine iF ?_; simp [h_5]; done) | (refine iT ?_; simp [h_5]; done) | (refine iB ?_; simp [h_5]; done) | (simp [h_5]; done) | (simp [h_5]; omega) | omega | rfl)
  refine a_pad 2 ?_
  refine a_eq (L' := [some (.ref 204), none, none]) rfl rfl rfl ?_
  refine a_wd (wL_self (a := 204) rfl) ?_
  refine a_iconst (v := nI 0) C dX7_mixPlaces_0 (by decide) ?_
  refine a_istore_n C dX7_mixPlaces_1 rfl (by decide) ?_
  refine a_wd (wLe (dL2_0 A _).symm) ?_
  refine a_join (aLe_s ?_ (aLe_s ?_ (aLe_n aLe_nil))) rfl rfl (ZL2 (6 + 1) 0 (by omega) (by omega))
  · first | with_reducible rfl | exact gl (by first | with_reducible rfl | (refine iF ?_; simp []; done) | (refine iT ?_; simp []; done) | (refine iB ?_; simp []; done) | (simp []; done) | (simp []; omega) | omega | rfl)
  · first | with_reducible rfl | exact gl (by first | with_reducible rfl | (refine iF ?_; simp []; done) | (refine iT ?_; simp []; done) | (refine iB ?_; simp []; done) | (simp []; done) | (simp []; omega) | omega | rfl)

set_option maxRecDepth 20000 in
set_option maxHeartbeats 4000000 in
theorem K_X7_mixCodes {w : Wd} {A : St} (hR : RR w A) (hA : AOK A)  : CF yX7_mixCodes cX7_mixCodes 3 none 6 141 [.ref 204] w (fun r w' => r = none ∧ w' = wLong w 204 (dCo A (w.2 204))) := by
  have hRz : ∀ h9, RR (wLong w 204 h9) A := fun _ => hR
  refine CF.of ok_X7_mixCodes (Nat.le_of_ble_eq_true rfl) (fun ex us G9 p9 l9 e9 s9 m9 ar9 be9 me9 co9 C hr => ?_)
  have ZL41 : ∀ (zd41 : Nat) (k : Nat) (h : Int64), 9 + 1 ≤ k + zd41 → k ≤ 9 → h = dO2 A (w.2 204) 81 → WA G9 p9 l9 e9 (RM 6 141) s9 m9 ar9 be9 me9 co9 (QF G9 be9 ar9 s9 w ex us (fun r w' => r = none ∧ w' = wLong w 204 (dCo A (w.2 204)))) 3 (219 + ex) us 41 [some (.ref 204), some (.int (nI k)), none] [] (fzM (wLong w 204 (dV2 A h k)) ex us) := by
    intro zd41
    induction zd41 with
    | zero => intro k h zm41 zh41_0 zh41_1; exfalso; omega
    | succ zd41 zih41 =>
      intro k h zm41 zh41_0 zh41_1
      have ZL49 : ∀ (zd49 : Nat) (j : Nat) (g : Int64), 4 + 1 ≤ j + zd49 → j ≤ 4 → k < 9 → g = dV2 A h k → WA G9 p9 l9 e9 (RM 6 141) s9 m9 ar9 be9 me9 co9 (QF G9 be9 ar9 s9 w ex us (fun r w' => r = none ∧ w' = wLong w 204 (dCo A (w.2 204)))) 3 (219 + ex) us 49 [some (.ref 204), some (.int (nI k)), some (.int (nI j))] [] (fzM (wLong w 204 (dV1 A k g j)) ex us) := by
        intro zd49
        induction zd49 with
        | zero => intro j g zm49 zh49_0 zh49_1 zh49_2; exfalso; omega
        | succ zd49 zih49 =>
          intro j g zm49 zh49_0 zh49_1 zh49_2
          refine a_iload_n C dX7_mixCodes_49 rfl rfl ?_
          refine a_iconst (v := nI 4) C dX7_mixCodes_50 (by decide) ?_
          first | refine n_icmp_ge (tgt := 71) C dX7_mixCodes_51 (by decide) (by first | decide | omega) (by first | decide | omega) (fun h_51 => ?_) (fun h_51 => ?_) | refine a_icmp_ge (tgt := 71) C dX7_mixCodes_51 (by decide) (fun h_51 => ?_) (fun h_51 => ?_)
          · obtain rfl : j = 4 := by omega
            subst zh49_2
            refine n_iinc C dX7_mixCodes_71 rfl (by decide) ?_
            refine a_goto (tgt := 41) C dX7_mixCodes_74 (by decide) ?_
            refine a_wd (wLe (dV2_s A h k).symm) ?_
            refine a_join (aLe_s ?_ (aLe_s ?_ (aLe_n aLe_nil))) rfl rfl (zih41 (k + 1) h (by omega) (by omega) zh41_1)
            · first | with_reducible rfl | exact gl (by first | with_reducible rfl | (refine iF ?_; simp [h_51]; done) | (refine iT ?_; simp [h_51]; done) | (refine iB ?_; simp [h_51]; done) | (simp [h_51]; done) | (simp [h_51]; omega) | omega)
            · first | with_reducible rfl | exact gl (by first | with_reducible rfl | (refine iF ?_; simp [h_51]; done) | (refine iT ?_; simp [h_51]; done) | (refine iB ?_; simp [h_51]; done) | (simp [h_51]; done) | (simp [h_51]; omega) | omega)
          · refine a_aload_n C dX7_mixCodes_54 rfl rfl ?_
            refine a_aload_n C dX7_mixCodes_55 rfl rfl ?_
            refine a_iload_n C dX7_mixCodes_56 rfl rfl ?_
            refine a_iload_n C dX7_mixCodes_57 rfl rfl ?_
            refine p_callV C (K_X7_tellsLevel (hRz _) hA (by first | assumption | decide | omega) (by first | assumption | decide | omega)) vX7_224 rfl (by first | decide | omega) rfl rfl dX7_mixCodes_58 (Nat.le_of_ble_eq_true rfl) ⟨by decide, by decide⟩ ?_
            refine a_i2l C dX7_mixCodes_61 ?_
            refine f_callV C _ _ (K_X7_mix _) vX7_303 (by first | decide | omega) rfl rfl dX7_mixCodes_62 rfl (Nat.le_of_ble_eq_true rfl) ⟨by decide, by decide⟩ (fun zr62 zw62 zp62 => ?_)
            obtain ⟨rfl, rfl⟩ := zp62
            refine a_wd wLL ?_
            refine n_iinc C dX7_mixCodes_65 rfl (by decide) ?_
            refine a_goto (tgt := 49) C dX7_mixCodes_68 (by decide) ?_
            refine a_wd (wLe (dV1_s A k g j).symm) ?_
            refine a_join (aLe_s ?_ (aLe_s ?_ (aLe_s ?_ aLe_nil))) rfl rfl (zih49 (j + 1) g (by omega) (by omega) (by omega) zh49_2)
            · first | with_reducible rfl | exact gl (by first | with_reducible rfl | (refine iF ?_; simp [h_51]; done) | (refine iT ?_; simp [h_51]; done) | (refine iB ?_; simp [h_51]; done) | (simp [h_51]; done) | (simp [h_51]; omega) | omega)
            · first | with_reducible rfl | exact gl (by first | with_reducible rfl | (refine iF ?_; simp [h_51]; done) | (refine iT ?_; simp [h_51]; done) | (refine iB ?_; simp [h_51]; done) | (simp [h_51]; done) | (simp [h_51]; omega) | omega)
            · first | with_reducible rfl | exact gl (by first | with_reducible rfl | (refine iF ?_; simp [h_51]; done) | (refine iT ?_; simp [h_51]; done) | (refine iB ?_; simp [h_51]; done) | (simp [h_51]; done) | (simp [h_51]; omega) | omega)
      refine a_iload_n C dX7_mixCodes_41 rfl rfl ?_
      refine a_bipush (v := nI 9) C dX7_mixCodes_42 (by decide) ?_
      first | refine n_icmp_ge (tgt := 77) C dX7_mixCodes_44 (by decide) (by first | decide | omega) (by first | decide | omega) (fun h_44 => ?_) (fun h_44 => ?_) | refine a_icmp_ge (tgt := 77) C dX7_mixCodes_44 (by decide) (fun h_44 => ?_) (fun h_44 => ?_)
      · obtain rfl : k = 9 := by omega
        refine f_vret C hr dX7_mixCodes_77 ?_
        exact ⟨rfl, wLe (by rw [zh41_1, dCo_e])⟩
      · refine a_iconst (v := nI 0) C dX7_mixCodes_47 (by decide) ?_
        refine a_istore_n C dX7_mixCodes_48 rfl (by decide) ?_
        refine a_wd (wLe (dV1_0 A k (dV2 A h k)).symm) ?_
        refine a_join (aLe_s ?_ (aLe_s ?_ (aLe_s ?_ aLe_nil))) rfl rfl (ZL49 (4 + 1) 0 (dV2 A h k) (by omega) (by omega) (by omega) rfl)
        · first | with_reducible rfl | exact gl (by first | with_reducible rfl | (refine iF ?_; simp [h_44]; done) | (refine iT ?_; simp [h_44]; done) | (refine iB ?_; simp [h_44]; done) | (simp [h_44]; done) | (simp [h_44]; omega) | omega | rfl)
        · first | with_reducible rfl | exact gl (by first | with_reducible rfl | (refine iF ?_; simp [h_44]; done) | (refine iT ?_; simp [h_44]; done) | (refine iB ?_; simp [h_44]; done) | (simp [h_44]; done) | (simp [h_44]; omega) | omega | rfl)
        · first | with_reducible rfl | exact gl (by first | with_reducible rfl | (refine iF ?_; simp [h_44]; done) | (refine iT ?_; simp [h_44]; done) | (refine iB ?_; simp [h_44]; done) | (simp [h_44]; done) | (simp [h_44]; omega) | omega | rfl)
  have ZL2 : ∀ (zd2 : Nat) (k : Nat), 81 + 1 ≤ k + zd2 → k ≤ 81 → WA G9 p9 l9 e9 (RM 6 141) s9 m9 ar9 be9 me9 co9 (QF G9 be9 ar9 s9 w ex us (fun r w' => r = none ∧ w' = wLong w 204 (dCo A (w.2 204)))) 3 (219 + ex) us 2 [some (.ref 204), some (.int (nI k)), none] [] (fzM (wLong w 204 (dO2 A (w.2 204) k)) ex us) := by
    intro zd2
    induction zd2 with
    | zero => intro k zm2 zh2_0; exfalso; omega
    | succ zd2 zih2 =>
      intro k zm2 zh2_0
      have ZL10 : ∀ (zd10 : Nat) (j : Nat), 4 + 1 ≤ j + zd10 → j ≤ 4 → k < 81 → WA G9 p9 l9 e9 (RM 6 141) s9 m9 ar9 be9 me9 co9 (QF G9 be9 ar9 s9 w ex us (fun r w' => r = none ∧ w' = wLong w 204 (dCo A (w.2 204)))) 3 (219 + ex) us 10 [some (.ref 204), some (.int (nI k)), some (.int (nI (j + 2)))] [] (fzM (wLong w 204 (dO1 A k (dO2 A (w.2 204) k) j)) ex us) := by
        intro zd10
        induction zd10 with
        | zero => intro j zm10 zh10_0 zh10_1; exfalso; omega
        | succ zd10 zih10 =>
          intro j zm10 zh10_0 zh10_1
          refine a_iload_n C dX7_mixCodes_10 rfl rfl ?_
          refine a_bipush (v := nI 6) C dX7_mixCodes_11 (by decide) ?_
          first | refine n_icmp_ge (tgt := 33) C dX7_mixCodes_13 (by decide) (by first | decide | omega) (by first | decide | omega) (fun h_13 => ?_) (fun h_13 => ?_) | refine a_icmp_ge (tgt := 33) C dX7_mixCodes_13 (by decide) (fun h_13 => ?_) (fun h_13 => ?_)
          · obtain rfl : j = 4 := by omega
            refine n_iinc C dX7_mixCodes_33 rfl (by decide) ?_
            refine a_goto (tgt := 2) C dX7_mixCodes_36 (by decide) ?_
            refine a_wd (wLe (dO2_s A _ k).symm) ?_
            refine a_join (aLe_s ?_ (aLe_s ?_ (aLe_n aLe_nil))) rfl rfl (zih2 (k + 1) (by omega) (by omega))
            · first | with_reducible rfl | exact gl (by first | with_reducible rfl | (refine iF ?_; simp [h_13]; done) | (refine iT ?_; simp [h_13]; done) | (refine iB ?_; simp [h_13]; done) | (simp [h_13]; done) | (simp [h_13]; omega) | omega)
            · first | with_reducible rfl | exact gl (by first | with_reducible rfl | (refine iF ?_; simp [h_13]; done) | (refine iT ?_; simp [h_13]; done) | (refine iB ?_; simp [h_13]; done) | (simp [h_13]; done) | (simp [h_13]; omega) | omega)
          · refine a_aload_n C dX7_mixCodes_16 rfl rfl ?_
            refine a_aload_n C dX7_mixCodes_17 rfl rfl ?_
            refine a_iload_n C dX7_mixCodes_18 rfl rfl ?_
            refine a_iload_n C dX7_mixCodes_19 rfl rfl ?_
            refine p_callV C (K_X7_tellsCode (hRz _) hA (by first | assumption | decide | omega) (by first | assumption | decide | omega)) vX7_221 rfl (by first | decide | omega) rfl rfl dX7_mixCodes_20 (Nat.le_of_ble_eq_true rfl) ⟨by decide, by decide⟩ ?_
            refine a_i2l C dX7_mixCodes_23 ?_
            refine f_callV C _ _ (K_X7_mix _) vX7_303 (by first | decide | omega) rfl rfl dX7_mixCodes_24 rfl (Nat.le_of_ble_eq_true rfl) ⟨by decide, by decide⟩ (fun zr24 zw24 zp24 => ?_)
            obtain ⟨rfl, rfl⟩ := zp24
            refine a_wd wLL ?_
            refine n_iinc C dX7_mixCodes_27 rfl (by decide) ?_
            refine a_goto (tgt := 10) C dX7_mixCodes_30 (by decide) ?_
            refine a_wd (wLe (dO1_s A k _ j).symm) ?_
            refine a_join (aLe_s ?_ (aLe_s ?_ (aLe_s ?_ aLe_nil))) rfl rfl (zih10 (j + 1) (by omega) (by omega) (by omega))
            · first | with_reducible rfl | exact gl (by first | with_reducible rfl | (refine iF ?_; simp [h_13]; done) | (refine iT ?_; simp [h_13]; done) | (refine iB ?_; simp [h_13]; done) | (simp [h_13]; done) | (simp [h_13]; omega) | omega)
            · first | with_reducible rfl | exact gl (by first | with_reducible rfl | (refine iF ?_; simp [h_13]; done) | (refine iT ?_; simp [h_13]; done) | (refine iB ?_; simp [h_13]; done) | (simp [h_13]; done) | (simp [h_13]; omega) | omega)
            · first | with_reducible rfl | exact gl (by first | with_reducible rfl | (refine iF ?_; simp [h_13]; done) | (refine iT ?_; simp [h_13]; done) | (refine iB ?_; simp [h_13]; done) | (simp [h_13]; done) | (simp [h_13]; omega) | omega)
      refine a_iload_n C dX7_mixCodes_2 rfl rfl ?_
      refine a_bipush (v := nI 81) C dX7_mixCodes_3 (by decide) ?_
      first | refine n_icmp_ge (tgt := 39) C dX7_mixCodes_5 (by decide) (by first | decide | omega) (by first | decide | omega) (fun h_5 => ?_) (fun h_5 => ?_) | refine a_icmp_ge (tgt := 39) C dX7_mixCodes_5 (by decide) (fun h_5 => ?_) (fun h_5 => ?_)
      · obtain rfl : k = 81 := by omega
        refine a_iconst (v := nI 0) C dX7_mixCodes_39 (by decide) ?_
        refine a_istore_n C dX7_mixCodes_40 rfl (by decide) ?_
        refine a_wd (wLe (dV2_0 A (dO2 A (w.2 204) 81)).symm) ?_
        refine a_join (aLe_s ?_ (aLe_s ?_ (aLe_n aLe_nil))) rfl rfl (ZL41 (9 + 1) 0 (dO2 A (w.2 204) 81) (by omega) (by omega) rfl)
        · first | with_reducible rfl | exact gl (by first | with_reducible rfl | (refine iF ?_; simp [h_5]; done) | (refine iT ?_; simp [h_5]; done) | (refine iB ?_; simp [h_5]; done) | (simp [h_5]; done) | (simp [h_5]; omega) | omega | rfl)
        · first | with_reducible rfl | exact gl (by first | with_reducible rfl | (refine iF ?_; simp [h_5]; done) | (refine iT ?_; simp [h_5]; done) | (refine iB ?_; simp [h_5]; done) | (simp [h_5]; done) | (simp [h_5]; omega) | omega | rfl)
      · refine a_iconst (v := nI 2) C dX7_mixCodes_8 (by decide) ?_
        refine a_istore_n C dX7_mixCodes_9 rfl (by decide) ?_
        refine a_wd (wLe (dO1_0 A k _).symm) ?_
        refine a_join (aLe_s ?_ (aLe_s ?_ (aLe_s ?_ aLe_nil))) rfl rfl (ZL10 (4 + 1) 0 (by omega) (by omega) (by omega))
        · first | with_reducible rfl | exact gl (by first | with_reducible rfl | (refine iF ?_; simp [h_5]; done) | (refine iT ?_; simp [h_5]; done) | (refine iB ?_; simp [h_5]; done) | (simp [h_5]; done) | (simp [h_5]; omega) | omega | rfl)
        · first | with_reducible rfl | exact gl (by first | with_reducible rfl | (refine iF ?_; simp [h_5]; done) | (refine iT ?_; simp [h_5]; done) | (refine iB ?_; simp [h_5]; done) | (simp [h_5]; done) | (simp [h_5]; omega) | omega | rfl)
        · first | with_reducible rfl | exact gl (by first | with_reducible rfl | (refine iF ?_; simp [h_5]; done) | (refine iT ?_; simp [h_5]; done) | (refine iB ?_; simp [h_5]; done) | (simp [h_5]; done) | (simp [h_5]; omega) | omega | rfl)
  refine a_pad 2 ?_
  refine a_eq (L' := [some (.ref 204), none, none]) rfl rfl rfl ?_
  refine a_wd (wL_self (a := 204) rfl) ?_
  refine a_iconst (v := nI 0) C dX7_mixCodes_0 (by decide) ?_
  refine a_istore_n C dX7_mixCodes_1 rfl (by decide) ?_
  refine a_wd (wLe (dO2_0 A _).symm) ?_
  refine a_join (aLe_s ?_ (aLe_s ?_ (aLe_n aLe_nil))) rfl rfl (ZL2 (81 + 1) 0 (by omega) (by omega))
  · first | with_reducible rfl | exact gl (by first | with_reducible rfl | (refine iF ?_; simp []; done) | (refine iT ?_; simp []; done) | (refine iB ?_; simp []; done) | (simp []; done) | (simp []; omega) | omega | rfl)
  · first | with_reducible rfl | exact gl (by first | with_reducible rfl | (refine iF ?_; simp []; done) | (refine iT ?_; simp []; done) | (refine iB ?_; simp []; done) | (simp []; done) | (simp []; omega) | omega | rfl)

theorem KS_X7_shareOfFree {w : Wd} {A : St} (hR : RR w A) (hA : AOK A) : CP yX7_shareOfFree cX7_shareOfFree 1 (some .double) 6 135 [.ref 204] w (.double (shrA A)) := by
  unfold shrA
  exact K_X7_shareOfFree hR hA
theorem pck_ge {A : St} {k : Nat} (hk : k < 2 ^ 31) (h : (chs (fS A) 81).length ≤ k) : (-1 : Int64) = (pckA A (nI k)).toInt64 := by
  have z := chs81 A
  unfold pckA
  rw [if_neg (fun y => by have := lt_nI (show (chs (fS A) 81).length < 2 ^ 31 by omega) y; rw [nI_toInt hk] at this; omega)]
  rfl
theorem pck_lt {A : St} {k : Nat} (h : k < (chs (fS A) 81).length) : (nI ((chs (fS A) 81).getD k 0)).toInt64 = (pckA A (nI k)).toInt64 := by
  have z := chs81 A
  unfold pckA
  rw [if_pos (Int32.lt_iff_toInt_lt.mpr (by rw [nI_toInt (by omega), nI_toInt (by omega)]; omega)), iN_nI (by omega)]
/-- what a digest changes of the reference's world -/
def Fdg (w w' : Wd) : Prop := (∀ j, ¬ j = 0 → ¬ j = 21 → w'.1 204 j = w.1 204 j) ∧ (∀ a, ¬ a ∈ [204, 211, 212, 213, 214, 215, 216, 217] → w'.1 a = w.1 a) ∧ ∀ a, ¬ a = 204 → w'.2 a = w.2 a
theorem dg_hd9 {A : St} {sv : Int32} {hs : Bool} {t : Nat → Nat} {ln : Nat} {h : Int64} (e : h = mi (mi (dSt A (dCo A (dPl A (dKy A (dCn A sv 3613))))) (nI (mstA A 0))) (nI (mstA A 1))) : mi (mx (mi (mx (dPk A h 3) (shrA A).toInt64) (mnA A).toInt32) (hsL hs)) (nI ln) = dBf t (dHd A sv hs ln) 0 := by
  rw [dBf_0]
  unfold dHd dFp dMo
  rw [e]
theorem wL_ne {w : Wd} {a b : Nat} {x : Int64} (h : ¬ b = a) : (wLong w a x).2 b = w.2 b := by simp [wLong, h]
set_option maxRecDepth 20000 in
set_option maxHeartbeats 4000000 in
theorem K_X7_digest {w : Wd} {A : St} (hR : RR w A) (hA : AOK A) {sv : Int32} (hv : w.1 204 3 = sv) {hs : Bool} (hh : w.1 204 5 = bI hs) {t : Nat → Nat} {ln : Nat} (hT : Tm w t ln) : CF yX7_digest cX7_digest 2 (some .long) 9 198 [.ref 204] w (fun r w' => r = some (.long (dgA A sv hs t ln)) ∧ w'.1 204 0 = nI 0 ∧ Fdg w w') := by
  have zq_l := hT.2.1
  have hRu : RR (wSet w 204 0 (nI 0)) A := hR
  have hvu : (wSet w 204 0 (nI 0)).1 204 3 = sv := (wSet_ne (by decide)).trans hv
  refine CF.of ok_X7_digest (Nat.le_of_ble_eq_true rfl) (fun ex us G9 p9 l9 e9 s9 m9 ar9 be9 me9 co9 C hr => ?_)
  have ZL210 : ∀ (zd210 : Nat) (k : Nat) (z : Wd), ln + 1 ≤ k + zd210 → k ≤ ln → Tm z t ln → z.1 204 0 = nI 0 → Fdg w z → WA G9 p9 l9 e9 (RM 9 198) s9 m9 ar9 be9 me9 co9 (QF G9 be9 ar9 s9 w ex us (fun r w' => r = some (.long (dgA A sv hs t ln)) ∧ w'.1 204 0 = nI 0 ∧ Fdg w w')) 2 (219 + ex) us 210 [some (.ref 204), some (.int (nI k))] [] (fzM (wLong z 204 (dBf t (dHd A sv hs ln) k)) ex us) := by
    intro zd210
    induction zd210 with
    | zero => intro k z zm210 zh_k zh_T zh_0 zh_F; exfalso; omega
    | succ zd210 zih210 =>
      intro k z zm210 zh_k zh_T zh_0 zh_F
      refine a_iload_n C dX7_digest_210 rfl rfl ?_
      refine a_aload_n C dX7_digest_211 rfl rfl ?_
      refine a_getf C fX7_155 dX7_digest_212 (show _ < 219 from (by first | decide | omega)) (by first | decide | omega) rfl (gl zh_T.1) ?_
      refine n_icmp_ge (tgt := 235) C dX7_digest_215 (by decide) (by first | decide | omega) (by first | decide | omega) (fun h_215 => ?_) (fun h_215 => ?_)
      · refine a_aload_n C dX7_digest_235 rfl rfl ?_
        refine a_getf C fX7_299 dX7_digest_236 (show _ < 219 from (by first | decide | omega)) (by first | decide | omega) rfl rfl ?_
        refine f_lret C hr dX7_digest_239 ?_
        · obtain rfl : k = ln := by omega
          exact ⟨gl_l wL_at, zh_0, zh_F.1, zh_F.2.1, fun a ha => (wL_ne ha).trans (zh_F.2.2 a ha)⟩
      · refine a_aload_n C dX7_digest_218 rfl rfl ?_
        refine a_aload_n C dX7_digest_219 rfl rfl ?_
        refine a_getfF C fX7_19 dX7_digest_220 (show _ < 219 from (by first | decide | omega)) (by first | decide | omega) rfl rfl ?_
        refine a_iload_n C dX7_digest_223 rfl rfl ?_
        refine n_iald C dX7_digest_224 (show _ < 219 from (by first | decide | omega)) (by first | decide | omega) rfl rfl (by first | decide | omega) (by decide) (zh_T.2.2 k (by omega)).1 ?_
        refine a_i2l C dX7_digest_225 ?_
        refine f_callV C _ _ (K_X7_mix _) vX7_303 (by first | decide | omega) rfl rfl dX7_digest_226 rfl (Nat.le_of_ble_eq_true rfl) ⟨by decide, by decide⟩ (fun zr226 zw226 zp226 => ?_)
        obtain ⟨rfl, rfl⟩ := zp226
        refine a_wd wLL ?_
        refine n_iinc C dX7_digest_229 rfl (by decide) ?_
        refine a_goto (tgt := 210) C dX7_digest_232 (by decide) ?_
        refine a_wd (wLe (dBf_s t _ k).symm) ?_
        refine a_join (aLe_s ?_ (aLe_s ?_ aLe_nil)) rfl rfl (zih210 (k + 1) z (by omega) (by omega) zh_T zh_0 zh_F)
        · first | with_reducible rfl | exact gl (by first | with_reducible rfl | (refine iF ?_; simp [h_215]; done) | (refine iT ?_; simp [h_215]; done) | (refine iB ?_; simp [h_215]; done) | (simp [h_215]; done) | (simp [h_215]; omega) | omega)
        · first | with_reducible rfl | exact gl (by first | with_reducible rfl | (refine iF ?_; simp [h_215]; done) | (refine iT ?_; simp [h_215]; done) | (refine iB ?_; simp [h_215]; done) | (simp [h_215]; done) | (simp [h_215]; omega) | omega)
  have ZL124 : ∀ (zd124 : Nat) (k : Nat) (z : Wd) (h : Int64), 3 + 1 ≤ k + zd124 → k ≤ 3 → RR z A → Ch7 z A → z.1 204 0 = nI 0 → (∀ j, ¬ j = 0 → ¬ j = 21 → z.1 204 j = w.1 204 j) → (∀ a, ¬ a ∈ [204, 211, 212, 213, 214, 215, 216, 217] → z.1 a = w.1 a) → (∀ a, ¬ a = 204 → z.2 a = w.2 a) → h = mi (mi (dSt A (dCo A (dPl A (dKy A (dCn A sv 3613))))) (nI (mstA A 0))) (nI (mstA A 1)) → WA G9 p9 l9 e9 (RM 9 198) s9 m9 ar9 be9 me9 co9 (QF G9 be9 ar9 s9 w ex us (fun r w' => r = some (.long (dgA A sv hs t ln)) ∧ w'.1 204 0 = nI 0 ∧ Fdg w w')) 2 (219 + ex) us 124 [some (.ref 204), some (.int (nI k))] [] (fzM (wLong z 204 (dPk A h k)) ex us) := by
    intro zd124
    induction zd124 with
    | zero => intro k z h zm124 zh_k zh_R zh_C zh_0 zh_o zh_F zh_2 zh_h; exfalso; omega
    | succ zd124 zih124 =>
      intro k z h zm124 zh_k zh_R zh_C zh_0 zh_o zh_F zh_2 zh_h
      have zq_81 := chs81 A
      refine a_iload_n C dX7_digest_124 rfl rfl ?_
      refine a_iconst (v := nI 3) C dX7_digest_125 (by decide) ?_
      first | refine n_icmp_ge (tgt := 160) C dX7_digest_126 (by decide) (by first | decide | omega) (by first | decide | omega) (fun h_126 => ?_) (fun h_126 => ?_) | refine a_icmp_ge (tgt := 160) C dX7_digest_126 (by decide) (fun h_126 => ?_) (fun h_126 => ?_)
      · obtain rfl : k = 3 := by omega
        have zq_T : Tm z t ln := ⟨(zh_o 7 (by decide) (by decide)).trans hT.1, hT.2.1, fun j hj => ⟨by rw [zh_F 208 (by decide)]; exact (hT.2.2 j hj).1, (hT.2.2 j hj).2⟩⟩
        have zq_G : Fdg w z := ⟨zh_o, zh_F, zh_2⟩
        refine a_aload_n C dX7_digest_160 rfl rfl ?_
        refine a_aload_n C dX7_digest_161 rfl rfl ?_
        refine p_callV C (KS_X7_shareOfFree zh_R hA) vX7_289 rfl (by first | decide | omega) rfl rfl dX7_digest_162 (Nat.le_of_ble_eq_true rfl) ⟨by decide, by decide⟩ ?_
        refine p_callS C ((K_Jxe99ae_doubleToLongBits_ccdee (x := shrA A) (dOK_n (shr_ok hA)))).cp sX7_320 rfl dX7_digest_165 (Nat.le_of_ble_eq_true rfl) ⟨by decide, by decide⟩ ?_
        refine f_callV C _ _ (K_X7_mix _) vX7_303 (by first | decide | omega) rfl rfl dX7_digest_168 rfl (Nat.le_of_ble_eq_true rfl) ⟨by decide, by decide⟩ (fun zr168 zw168 zp168 => ?_)
        obtain ⟨rfl, rfl⟩ := zp168
        refine a_wd (wLq rfl) ?_
        refine a_aload_n C dX7_digest_171 rfl rfl ?_
        refine a_aload_n C dX7_digest_172 rfl rfl ?_
        refine p_callV C (K_X7_mean zh_R hA) vX7_293 rfl (by first | decide | omega) rfl rfl dX7_digest_173 (Nat.le_of_ble_eq_true rfl) ⟨by decide, by decide⟩ ?_
        refine p_callS C ((K_Jxf58ca_floatToIntBits_5c35a (x := mnA A) (fOK_n (mn_ok hA)))).cp sX7_326 rfl dX7_digest_176 (Nat.le_of_ble_eq_true rfl) ⟨by decide, by decide⟩ ?_
        refine a_i2l C dX7_digest_179 ?_
        refine f_callV C _ _ (K_X7_mix _) vX7_303 (by first | decide | omega) rfl rfl dX7_digest_180 rfl (Nat.le_of_ble_eq_true rfl) ⟨by decide, by decide⟩ (fun zr180 zw180 zp180 => ?_)
        obtain ⟨rfl, rfl⟩ := zp180
        refine a_wd wLL ?_
        refine a_aload_n C dX7_digest_183 rfl rfl ?_
        refine a_aload_n C dX7_digest_184 rfl rfl ?_
        refine a_getf C fX7_72 dX7_digest_185 (show _ < 219 from (by first | decide | omega)) (by first | decide | omega) rfl (gl ((zh_o 5 (by decide) (by decide)).trans hh)) ?_
        first | refine b_if_eq (tgt := 195) C dX7_digest_188 (by decide) (fun h_188 => ?_) (fun h_188 => ?_) | refine n_if_eq (tgt := 195) C dX7_digest_188 (by decide) (by first | decide | omega) (fun h_188 => ?_) (fun h_188 => ?_) | refine a_if_eq (tgt := 195) C dX7_digest_188 (by decide) (fun h_188 => ?_) (fun h_188 => ?_)
        · refine a_lconst (v := 0) C dX7_digest_195 (by decide) ?_
          refine f_callV C _ _ (K_X7_mix _) vX7_303 (by first | decide | omega) rfl rfl dX7_digest_196 rfl (Nat.le_of_ble_eq_true rfl) ⟨by decide, by decide⟩ (fun zr196 zw196 zp196 => ?_)
          obtain ⟨rfl, rfl⟩ := zp196
          refine a_wd (wLq (show _ = hsL hs from by rw [h_188]; rfl)) ?_
          refine a_aload_n C dX7_digest_199 rfl rfl ?_
          refine a_aload_n C dX7_digest_200 rfl rfl ?_
          refine a_getf C fX7_155 dX7_digest_201 (show _ < 219 from (by first | decide | omega)) (by first | decide | omega) rfl (gl zq_T.1) ?_
          refine a_i2l C dX7_digest_204 ?_
          refine f_callV C _ _ (K_X7_mix _) vX7_303 (by first | decide | omega) rfl rfl dX7_digest_205 rfl (Nat.le_of_ble_eq_true rfl) ⟨by decide, by decide⟩ (fun zr205 zw205 zp205 => ?_)
          obtain ⟨rfl, rfl⟩ := zp205
          refine a_wd wLL ?_
          refine a_iconst (v := nI 0) C dX7_digest_208 (by decide) ?_
          refine a_istore_n C dX7_digest_209 rfl (by decide) ?_
          refine a_wd (wLe (dg_hd9 (t := t) zh_h)) ?_
          refine a_join (aLe_s ?_ (aLe_s ?_ aLe_nil)) rfl rfl (ZL210 (ln + 1) 0 z (by omega) (by omega) zq_T zh_0 zq_G)
          · first | with_reducible rfl | exact gl (by first | with_reducible rfl | (refine iF ?_; simp [h_126, h_188]; done) | (refine iT ?_; simp [h_126, h_188]; done) | (refine iB ?_; simp [h_126, h_188]; done) | (simp [h_126, h_188]; done) | (simp [h_126, h_188]; omega) | omega | rfl)
          · first | with_reducible rfl | exact gl (by first | with_reducible rfl | (refine iF ?_; simp [h_126, h_188]; done) | (refine iT ?_; simp [h_126, h_188]; done) | (refine iB ?_; simp [h_126, h_188]; done) | (simp [h_126, h_188]; done) | (simp [h_126, h_188]; omega) | omega | rfl)
        · refine a_lconst (v := 1) C dX7_digest_191 (by decide) ?_
          refine a_goto (tgt := 196) C dX7_digest_192 (by decide) ?_
          refine f_callV C _ _ (K_X7_mix _) vX7_303 (by first | decide | omega) rfl rfl dX7_digest_196 rfl (Nat.le_of_ble_eq_true rfl) ⟨by decide, by decide⟩ (fun zr196 zw196 zp196 => ?_)
          obtain ⟨rfl, rfl⟩ := zp196
          refine a_wd (wLq (show _ = hsL hs from by rw [h_188]; rfl)) ?_
          refine a_aload_n C dX7_digest_199 rfl rfl ?_
          refine a_aload_n C dX7_digest_200 rfl rfl ?_
          refine a_getf C fX7_155 dX7_digest_201 (show _ < 219 from (by first | decide | omega)) (by first | decide | omega) rfl (gl zq_T.1) ?_
          refine a_i2l C dX7_digest_204 ?_
          refine f_callV C _ _ (K_X7_mix _) vX7_303 (by first | decide | omega) rfl rfl dX7_digest_205 rfl (Nat.le_of_ble_eq_true rfl) ⟨by decide, by decide⟩ (fun zr205 zw205 zp205 => ?_)
          obtain ⟨rfl, rfl⟩ := zp205
          refine a_wd wLL ?_
          refine a_iconst (v := nI 0) C dX7_digest_208 (by decide) ?_
          refine a_istore_n C dX7_digest_209 rfl (by decide) ?_
          refine a_wd (wLe (dg_hd9 (t := t) zh_h)) ?_
          refine a_join (aLe_s ?_ (aLe_s ?_ aLe_nil)) rfl rfl (ZL210 (ln + 1) 0 z (by omega) (by omega) zq_T zh_0 zq_G)
          · first | with_reducible rfl | exact gl (by first | with_reducible rfl | (refine iF ?_; simp [h_126, h_188]; done) | (refine iT ?_; simp [h_126, h_188]; done) | (refine iB ?_; simp [h_126, h_188]; done) | (simp [h_126, h_188]; done) | (simp [h_126, h_188]; omega) | omega | rfl)
          · first | with_reducible rfl | exact gl (by first | with_reducible rfl | (refine iF ?_; simp [h_126, h_188]; done) | (refine iT ?_; simp [h_126, h_188]; done) | (refine iB ?_; simp [h_126, h_188]; done) | (simp [h_126, h_188]; done) | (simp [h_126, h_188]; omega) | omega | rfl)
      · refine a_aload_n C dX7_digest_129 rfl rfl ?_
        refine a_iload_n C dX7_digest_130 rfl rfl ?_
        refine a_aload_n C dX7_digest_131 rfl rfl ?_
        refine a_getf C fX7_259 dX7_digest_132 (show _ < 219 from (by first | decide | omega)) (by first | decide | omega) rfl (gl zh_C.1) ?_
        refine n_icmp_ge (tgt := 148) C dX7_digest_135 (by decide) (by first | decide | omega) (by first | decide | omega) (fun h_135 => ?_) (fun h_135 => ?_)
        · refine a_ldcl C dX7_digest_148 wX7_318 ?_
          refine f_callV C _ _ (K_X7_mix _) vX7_303 (by first | decide | omega) rfl rfl dX7_digest_151 rfl (Nat.le_of_ble_eq_true rfl) ⟨by decide, by decide⟩ (fun zr151 zw151 zp151 => ?_)
          obtain ⟨rfl, rfl⟩ := zp151
          first | refine a_wd (wLp (pck_ge (by omega) h_135)) ?_ | refine a_wd (wLp (pck_lt h_135)) ?_
          refine n_iinc C dX7_digest_154 rfl (by decide) ?_
          refine a_goto (tgt := 124) C dX7_digest_157 (by decide) ?_
          refine a_wd (wLe (dPk_s A _ k).symm) ?_
          refine a_join (aLe_s ?_ (aLe_s ?_ aLe_nil)) rfl rfl (zih124 (k + 1) z h (by omega) (by omega) zh_R zh_C zh_0 zh_o zh_F zh_2 zh_h)
          · first | with_reducible rfl | exact gl (by first | with_reducible rfl | (refine iF ?_; simp [h_126, h_135]; done) | (refine iT ?_; simp [h_126, h_135]; done) | (refine iB ?_; simp [h_126, h_135]; done) | (simp [h_126, h_135]; done) | (simp [h_126, h_135]; omega) | omega)
          · first | with_reducible rfl | exact gl (by first | with_reducible rfl | (refine iF ?_; simp [h_126, h_135]; done) | (refine iT ?_; simp [h_126, h_135]; done) | (refine iB ?_; simp [h_126, h_135]; done) | (simp [h_126, h_135]; done) | (simp [h_126, h_135]; omega) | omega)
        · refine a_aload_n C dX7_digest_138 rfl rfl ?_
          refine a_getfF C fX7_46 dX7_digest_139 (show _ < 219 from (by first | decide | omega)) (by first | decide | omega) rfl rfl ?_
          refine a_iload_n C dX7_digest_142 rfl rfl ?_
          refine n_iald C dX7_digest_143 (show _ < 219 from (by first | decide | omega)) (by first | decide | omega) rfl rfl (by first | decide | omega) (by decide) (zh_C.2 k (by omega)) ?_
          refine a_i2l C dX7_digest_144 ?_
          refine a_goto (tgt := 151) C dX7_digest_145 (by decide) ?_
          refine f_callV C _ _ (K_X7_mix _) vX7_303 (by first | decide | omega) rfl rfl dX7_digest_151 rfl (Nat.le_of_ble_eq_true rfl) ⟨by decide, by decide⟩ (fun zr151 zw151 zp151 => ?_)
          obtain ⟨rfl, rfl⟩ := zp151
          first | refine a_wd (wLp (pck_ge (by omega) h_135)) ?_ | refine a_wd (wLp (pck_lt h_135)) ?_
          refine n_iinc C dX7_digest_154 rfl (by decide) ?_
          refine a_goto (tgt := 124) C dX7_digest_157 (by decide) ?_
          refine a_wd (wLe (dPk_s A _ k).symm) ?_
          refine a_join (aLe_s ?_ (aLe_s ?_ aLe_nil)) rfl rfl (zih124 (k + 1) z h (by omega) (by omega) zh_R zh_C zh_0 zh_o zh_F zh_2 zh_h)
          · first | with_reducible rfl | exact gl (by first | with_reducible rfl | (refine iF ?_; simp [h_126, h_135]; done) | (refine iT ?_; simp [h_126, h_135]; done) | (refine iB ?_; simp [h_126, h_135]; done) | (simp [h_126, h_135]; done) | (simp [h_126, h_135]; omega) | omega)
          · first | with_reducible rfl | exact gl (by first | with_reducible rfl | (refine iF ?_; simp [h_126, h_135]; done) | (refine iT ?_; simp [h_126, h_135]; done) | (refine iB ?_; simp [h_126, h_135]; done) | (simp [h_126, h_135]; done) | (simp [h_126, h_135]; omega) | omega)
  have ZL38 : ∀ (zd38 : Nat) (k : Nat), 4 + 1 ≤ k + zd38 → k ≤ 4 → WA G9 p9 l9 e9 (RM 9 198) s9 m9 ar9 be9 me9 co9 (QF G9 be9 ar9 s9 w ex us (fun r w' => r = some (.long (dgA A sv hs t ln)) ∧ w'.1 204 0 = nI 0 ∧ Fdg w w')) 2 (219 + ex) us 38 [some (.ref 204), some (.int (nI k))] [] (fzM (wLong (wSet w 204 0 (nI 0)) 204 (dC2 A (dC1 A sv 3613 12) k)) ex us) := by
    intro zd38
    induction zd38 with
    | zero => intro k zm38 zh38_0; exfalso; omega
    | succ zd38 zih38 =>
      intro k zm38 zh38_0
      refine a_iload_n C dX7_digest_38 rfl rfl ?_
      refine a_iconst (v := nI 4) C dX7_digest_39 (by decide) ?_
      first | refine n_icmp_ge (tgt := 63) C dX7_digest_40 (by decide) (by first | decide | omega) (by first | decide | omega) (fun h_40 => ?_) (fun h_40 => ?_) | refine a_icmp_ge (tgt := 63) C dX7_digest_40 (by decide) (fun h_40 => ?_) (fun h_40 => ?_)
      · obtain rfl : k = 4 := by omega
        refine a_wd (wLe (dCn_e A sv 3613).symm) ?_
        refine a_aload_n C dX7_digest_63 rfl rfl ?_
        refine f_callV C _ _ (K_X7_mixKeys (A := A) hRu hA) vX7_309 (by first | decide | omega) rfl rfl dX7_digest_64 rfl (Nat.le_of_ble_eq_true rfl) ⟨by decide, by decide⟩ (fun zr64 zw64 zp64 => ?_)
        obtain ⟨rfl, rfl⟩ := zp64
        refine a_wd (wLf (dKy A)) ?_
        refine a_aload_n C dX7_digest_67 rfl rfl ?_
        refine f_callV C _ _ (K_X7_mixPlaces (A := A) hRu hA) vX7_312 (by first | decide | omega) rfl rfl dX7_digest_68 rfl (Nat.le_of_ble_eq_true rfl) ⟨by decide, by decide⟩ (fun zr68 zw68 zp68 => ?_)
        obtain ⟨rfl, rfl⟩ := zp68
        refine a_wd (wLf (dPl A)) ?_
        refine a_aload_n C dX7_digest_71 rfl rfl ?_
        refine f_callV C _ _ (K_X7_mixCodes (A := A) hRu hA) vX7_315 (by first | decide | omega) rfl rfl dX7_digest_72 rfl (Nat.le_of_ble_eq_true rfl) ⟨by decide, by decide⟩ (fun zr72 zw72 zp72 => ?_)
        obtain ⟨rfl, rfl⟩ := zp72
        refine a_wd (wLf (dCo A)) ?_
        refine a_aload_n C dX7_digest_75 rfl rfl ?_
        refine a_aload_n C dX7_digest_76 rfl rfl ?_
        refine a_getfF C fX7_7 dX7_digest_77 (show _ < 219 from (by first | decide | omega)) (by first | decide | omega) rfl rfl ?_
        refine a_bipush (v := nI 6) C dX7_digest_80 (by decide) ?_
        refine n_iald C dX7_digest_82 (show _ < 219 from (by first | decide | omega)) (by first | decide | omega) rfl rfl (by first | decide | omega) (by decide) hR.at ?_
        refine a_i2l C dX7_digest_83 ?_
        refine f_callV C _ _ (K_X7_mix _) vX7_303 (by first | decide | omega) rfl rfl dX7_digest_84 rfl (Nat.le_of_ble_eq_true rfl) ⟨by decide, by decide⟩ (fun zr84 zw84 zp84 => ?_)
        obtain ⟨rfl, rfl⟩ := zp84
        refine a_wd wLL ?_
        refine a_aload_n C dX7_digest_87 rfl rfl ?_
        refine a_aload_n C dX7_digest_88 rfl rfl ?_
        refine a_getfF C fX7_7 dX7_digest_89 (show _ < 219 from (by first | decide | omega)) (by first | decide | omega) rfl rfl ?_
        refine a_bipush (v := nI 7) C dX7_digest_92 (by decide) ?_
        refine n_iald C dX7_digest_94 (show _ < 219 from (by first | decide | omega)) (by first | decide | omega) rfl rfl (by first | decide | omega) (by decide) hR.at ?_
        refine a_i2l C dX7_digest_95 ?_
        refine f_callV C _ _ (K_X7_mix _) vX7_303 (by first | decide | omega) rfl rfl dX7_digest_96 rfl (Nat.le_of_ble_eq_true rfl) ⟨by decide, by decide⟩ (fun zr96 zw96 zp96 => ?_)
        obtain ⟨rfl, rfl⟩ := zp96
        refine a_wd wLL ?_
        refine a_aload_n C dX7_digest_99 rfl rfl ?_
        refine a_aload_n C dX7_digest_100 rfl rfl ?_
        refine a_iconst (v := nI 0) C dX7_digest_101 (by decide) ?_
        refine f_callV C _ _ (K_X7_tellsMost (w := (wLong (wSet w 204 0 (nI 0)) 204 (dSt A (dCo A (dPl A (dKy A (dCn A sv 3613))))))) hRu hA (j := 0) (by decide)) vX7_271 (by first | decide | omega) rfl rfl dX7_digest_102 rfl (Nat.le_of_ble_eq_true rfl) ⟨by decide, by decide⟩ (fun zr102 zw102 zp102 => ?_)
        obtain ⟨rfl, zo_102, zy_102⟩ := zp102
        have zR102 : RR zw102 A := (zy_102.at 205 (by decide)).trans hRu
        have z0102 : zw102.1 204 0 = nI 0 := (zo_102 0 (by decide)).trans (show (wSet w 204 0 (nI 0)).1 204 0 = nI 0 from wSet_at)
        have zo102 : ∀ j, ¬ j = 0 → ¬ j = 21 → zw102.1 204 j = w.1 204 j := fun j j0 j2 => (zo_102 j j2).trans (show (wSet w 204 0 (nI 0)).1 204 j = w.1 204 j from wSet_ne (by omega))
        have zF102 : ∀ a, ¬ a ∈ [204, 211, 212, 213, 214, 215, 216, 217] → zw102.1 a = w.1 a := fun a ha => (zy_102.1 a ha).trans (show (wSet w 204 0 (nI 0)).1 a = w.1 a from wSet_th (fun z9 => ha (by rw [z9]; decide)))
        have z2102 : ∀ a, ¬ a = 204 → zw102.2 a = w.2 a := fun a ha => (congrFun zy_102.2 a).trans (wL_ne ha)
        refine a_wd (wL_self ((congrFun zy_102.2 204).trans wL_at)) ?_
        refine a_i2l C dX7_digest_105 ?_
        refine f_callV C _ _ (K_X7_mix _) vX7_303 (by first | decide | omega) rfl rfl dX7_digest_106 rfl (Nat.le_of_ble_eq_true rfl) ⟨by decide, by decide⟩ (fun zr106 zw106 zp106 => ?_)
        obtain ⟨rfl, rfl⟩ := zp106
        refine a_wd wLL ?_
        refine a_aload_n C dX7_digest_109 rfl rfl ?_
        refine f_callV C _ _ (K_X7_choose (w := wLong zw102 204 (mi (dSt A (dCo A (dPl A (dKy A (dCn A sv 3613))))) (nI (mstA A 0)))) zR102 hA) vX7_268 (by first | decide | omega) rfl rfl dX7_digest_110 rfl (Nat.le_of_ble_eq_true rfl) ⟨by decide, by decide⟩ (fun zr110 zw110 zp110 => ?_)
        obtain ⟨rfl, zC110, zo_110, zy_110⟩ := zp110
        have zR110 : RR zw110 A := (zy_110.at 205 (by decide)).trans zR102
        have z0110 : zw110.1 204 0 = nI 0 := (zo_110 0 (by decide)).trans z0102
        have zo110 : ∀ j, ¬ j = 0 → ¬ j = 21 → zw110.1 204 j = w.1 204 j := fun j j0 j2 => (zo_110 j j2).trans (zo102 j j0 j2)
        have zF110 : ∀ a, ¬ a ∈ [204, 211, 212, 213, 214, 215, 216, 217] → zw110.1 a = w.1 a := fun a ha => (zy_110.1 a ha).trans (zF102 a ha)
        have z2110 : ∀ a, ¬ a = 204 → zw110.2 a = w.2 a := fun a ha => ((congrFun zy_110.2 a).trans (wL_ne ha)).trans (z2102 a ha)
        refine a_wd (wL_self ((congrFun zy_110.2 204).trans wL_at)) ?_
        refine a_aload_n C dX7_digest_113 rfl rfl ?_
        refine a_aload_n C dX7_digest_114 rfl rfl ?_
        refine a_getf C fX7_259 dX7_digest_115 (show _ < 219 from (by first | decide | omega)) (by first | decide | omega) rfl (gl zC110.1) ?_
        refine a_i2l C dX7_digest_118 ?_
        refine f_callV C _ _ (K_X7_mix _) vX7_303 (by first | decide | omega) rfl rfl dX7_digest_119 rfl (Nat.le_of_ble_eq_true rfl) ⟨by decide, by decide⟩ (fun zr119 zw119 zp119 => ?_)
        obtain ⟨rfl, rfl⟩ := zp119
        refine a_wd (wLL (v := nI (mstA A 1))) ?_
        refine a_iconst (v := nI 0) C dX7_digest_122 (by decide) ?_
        refine a_istore_n C dX7_digest_123 rfl (by decide) ?_
        refine a_wd (wLe (dPk_0 A _).symm) ?_
        refine a_join (aLe_s ?_ (aLe_s ?_ aLe_nil)) rfl rfl (ZL124 (3 + 1) 0 zw110 _ (by omega) (by omega) zR110 zC110 z0110 zo110 zF110 z2110 rfl)
        · first | with_reducible rfl | exact gl (by first | with_reducible rfl | (refine iF ?_; simp [h_40]; done) | (refine iT ?_; simp [h_40]; done) | (refine iB ?_; simp [h_40]; done) | (simp [h_40]; done) | (simp [h_40]; omega) | omega | rfl)
        · first | with_reducible rfl | exact gl (by first | with_reducible rfl | (refine iF ?_; simp [h_40]; done) | (refine iT ?_; simp [h_40]; done) | (refine iB ?_; simp [h_40]; done) | (simp [h_40]; done) | (simp [h_40]; omega) | omega | rfl)
      · refine a_aload_n C dX7_digest_43 rfl rfl ?_
        refine a_aload_n C dX7_digest_44 rfl rfl ?_
        refine a_getfF C fX7_7 dX7_digest_45 (show _ < 219 from (by first | decide | omega)) (by first | decide | omega) rfl rfl ?_
        refine a_bipush (v := nI 8) C dX7_digest_48 (by decide) ?_
        refine a_iload_n C dX7_digest_50 rfl rfl ?_
        first | refine n_iadd C dX7_digest_51 ?_ | refine a_iadd C dX7_digest_51 ?_
        refine n_iald C dX7_digest_52 (show _ < 219 from (by first | decide | omega)) (by first | decide | omega) rfl rfl (by first | decide | omega) (by decide) (RR_s hRu hA (by omega)) ?_
        refine a_i2l C dX7_digest_53 ?_
        refine f_callV C _ _ (K_X7_mix _) vX7_303 (by first | decide | omega) rfl rfl dX7_digest_54 rfl (Nat.le_of_ble_eq_true rfl) ⟨by decide, by decide⟩ (fun zr54 zw54 zp54 => ?_)
        obtain ⟨rfl, rfl⟩ := zp54
        refine a_wd wLL ?_
        refine n_iinc C dX7_digest_57 rfl (by decide) ?_
        refine a_goto (tgt := 38) C dX7_digest_60 (by decide) ?_
        refine a_wd (wLe (dC2_s A _ k).symm) ?_
        refine a_join (aLe_s ?_ (aLe_s ?_ aLe_nil)) rfl rfl (zih38 (k + 1) (by omega) (by omega))
        · first | with_reducible rfl | exact gl (by first | with_reducible rfl | (refine iF ?_; simp [h_40]; done) | (refine iT ?_; simp [h_40]; done) | (refine iB ?_; simp [h_40]; done) | (simp [h_40]; done) | (simp [h_40]; omega) | omega)
        · first | with_reducible rfl | exact gl (by first | with_reducible rfl | (refine iF ?_; simp [h_40]; done) | (refine iT ?_; simp [h_40]; done) | (refine iB ?_; simp [h_40]; done) | (simp [h_40]; done) | (simp [h_40]; omega) | omega)
  have ZL14 : ∀ (zd14 : Nat) (k : Nat), 12 + 1 ≤ k + zd14 → k ≤ 12 → WA G9 p9 l9 e9 (RM 9 198) s9 m9 ar9 be9 me9 co9 (QF G9 be9 ar9 s9 w ex us (fun r w' => r = some (.long (dgA A sv hs t ln)) ∧ w'.1 204 0 = nI 0 ∧ Fdg w w')) 2 (219 + ex) us 14 [some (.ref 204), some (.int (nI k))] [] (fzM (wLong (wSet w 204 0 (nI 0)) 204 (dC1 A sv 3613 k)) ex us) := by
    intro zd14
    induction zd14 with
    | zero => intro k zm14 zh14_0; exfalso; omega
    | succ zd14 zih14 =>
      intro k zm14 zh14_0
      refine a_iload_n C dX7_digest_14 rfl rfl ?_
      refine a_bipush (v := nI 12) C dX7_digest_15 (by decide) ?_
      first | refine n_icmp_ge (tgt := 36) C dX7_digest_17 (by decide) (by first | decide | omega) (by first | decide | omega) (fun h_17 => ?_) (fun h_17 => ?_) | refine a_icmp_ge (tgt := 36) C dX7_digest_17 (by decide) (fun h_17 => ?_) (fun h_17 => ?_)
      · obtain rfl : k = 12 := by omega
        refine a_iconst (v := nI 0) C dX7_digest_36 (by decide) ?_
        refine a_istore_n C dX7_digest_37 rfl (by decide) ?_
        refine a_wd (wLe (dC2_0 A _).symm) ?_
        refine a_join (aLe_s ?_ (aLe_s ?_ aLe_nil)) rfl rfl (ZL38 (4 + 1) 0 (by omega) (by omega))
        · first | with_reducible rfl | exact gl (by first | with_reducible rfl | (refine iF ?_; simp [h_17]; done) | (refine iT ?_; simp [h_17]; done) | (refine iB ?_; simp [h_17]; done) | (simp [h_17]; done) | (simp [h_17]; omega) | omega | rfl)
        · first | with_reducible rfl | exact gl (by first | with_reducible rfl | (refine iF ?_; simp [h_17]; done) | (refine iT ?_; simp [h_17]; done) | (refine iB ?_; simp [h_17]; done) | (simp [h_17]; done) | (simp [h_17]; omega) | omega | rfl)
      · refine a_aload_n C dX7_digest_20 rfl rfl ?_
        refine a_aload_n C dX7_digest_21 rfl rfl ?_
        refine a_iload_n C dX7_digest_22 rfl rfl ?_
        refine p_callV C (K_X7_tellsCount (w := (wLong (wSet w 204 0 (nI 0)) 204 (dC1 A sv 3613 k))) hRu hA (show k < 12 by omega)) vX7_243 rfl (by first | decide | omega) rfl rfl dX7_digest_23 (Nat.le_of_ble_eq_true rfl) ⟨by decide, by decide⟩ ?_
        refine a_eq (st' := [.int (tnA A sv k), .ref 204]) rfl (congrArg (fun y => [Value.int (tnA A y k), .ref 204]) hvu) rfl ?_
        refine a_i2l C dX7_digest_26 ?_
        refine f_callV C _ _ (K_X7_mix _) vX7_303 (by first | decide | omega) rfl rfl dX7_digest_27 rfl (Nat.le_of_ble_eq_true rfl) ⟨by decide, by decide⟩ (fun zr27 zw27 zp27 => ?_)
        obtain ⟨rfl, rfl⟩ := zp27
        refine a_wd wLL ?_
        refine n_iinc C dX7_digest_30 rfl (by decide) ?_
        refine a_goto (tgt := 14) C dX7_digest_33 (by decide) ?_
        refine a_wd (wLe (dC1_s A sv _ k).symm) ?_
        refine a_join (aLe_s ?_ (aLe_s ?_ aLe_nil)) rfl rfl (zih14 (k + 1) (by omega) (by omega))
        · first | with_reducible rfl | exact gl (by first | with_reducible rfl | (refine iF ?_; simp [h_17]; done) | (refine iT ?_; simp [h_17]; done) | (refine iB ?_; simp [h_17]; done) | (simp [h_17]; done) | (simp [h_17]; omega) | omega)
        · first | with_reducible rfl | exact gl (by first | with_reducible rfl | (refine iF ?_; simp [h_17]; done) | (refine iT ?_; simp [h_17]; done) | (refine iB ?_; simp [h_17]; done) | (simp [h_17]; done) | (simp [h_17]; omega) | omega)
  refine a_pad 1 ?_
  refine a_eq (L' := [some (.ref 204), none]) rfl rfl rfl ?_
  refine a_aload_n C dX7_digest_0 rfl rfl ?_
  refine a_iconst (v := nI 0) C dX7_digest_1 (by decide) ?_
  refine f_putf C fX7_53 dX7_digest_2 (by first | decide | omega) rfl rfl rfl (Nat.le_of_ble_eq_true rfl) rfl ?_
  refine a_aload_n C dX7_digest_5 rfl rfl ?_
  refine a_ldcl C dX7_digest_6 wX7_307 ?_
  refine f_putL C fX7_299 dX7_digest_9 (by first | decide | omega) rfl rfl rfl (Nat.le_of_ble_eq_true rfl) rfl ?_
  refine a_iconst (v := nI 0) C dX7_digest_12 (by decide) ?_
  refine a_istore_n C dX7_digest_13 rfl (by decide) ?_
  refine a_wd (wLe (dC1_0 A sv _).symm) ?_
  refine a_join (aLe_s ?_ (aLe_s ?_ aLe_nil)) rfl rfl (ZL14 (12 + 1) 0 (by omega) (by omega))
  · first | with_reducible rfl | exact gl (by first | with_reducible rfl | (refine iF ?_; simp []; done) | (refine iT ?_; simp []; done) | (refine iB ?_; simp []; done) | (simp []; done) | (simp []; omega) | omega | rfl)
  · first | with_reducible rfl | exact gl (by first | with_reducible rfl | (refine iF ?_; simp []; done) | (refine iT ?_; simp []; done) | (refine iB ?_; simp []; done) | (simp []; done) | (simp []; omega) | omega | rfl)

end A41

section A57
/-! ### one step of the law, by method -/
set_option maxRecDepth 4000
theorem S_cut {w : Wd} {x0 x1 : Int32} (I : Inv w) : SH yL_cut cL_cut 5 [(0, 10, 13, 13), (0, 10, 17, 15)] [.ref 0, .int x0, .int x1, .ref 218] yX7_cut cX7_cut 3 [.ref 204, .int x0, .int x1] w := by
  obtain ⟨A, S, sv, lt, hs, B, t, ln, F, hC, hI⟩ := id I
  obtain ⟨hA, hD, hS, hH, hG, hT, hM⟩ := id hC
  obtain ⟨hR, hv, hW, hJ, hK, hU⟩ := id hI
  have hs6 := hS.1.2
  have hn := hA.n12
  refine (Bool.eq_false_or_eq_true (inR x0 81)).elim (fun hf => ?_) (fun hf => SH.thr I (o := 1) (k := 1) rfl (by decide) (T_cut_0 (K_X6_cut_0 hD hA x0 hf x1)) (K_X7_cut_0 hR hA hv hs6 x0 hf x1) ⟨by decide, by decide, by decide, by decide⟩)
  obtain ⟨c, hc, rfl⟩ := inR_of hf (by decide)
  refine (Bool.eq_false_or_eq_true (inR x1 4)).elim (fun hf => ?_) (fun hf => SH.thr I (o := 1) (k := 1) rfl (by decide) (T_cut_0 (K_X6_cut_1 hD hA hc x1 hf)) (K_X7_cut_1 hR hA hv hs6 hc x1 hf) ⟨by decide, by decide, by decide, by decide⟩)
  obtain ⟨q, hq, rfl⟩ := inR_of hf (by decide)
  by_cases hz : wncA A c = 0
  case neg => exact SH.thr I (o := 2) (k := 2) rfl (by decide) (T_cut_1 (K_X6_cut_2 hD hA hc hq hz)) (K_X7_cut_2 hR hA hv hs6 hc hq hz) ⟨by decide, by decide, by decide, by decide⟩
  exact SH.chg hC hI (A' := cutA A c q) (cutA_ok hA (wnc_n hA hz) hc hq) (H_cut (K_X6_cut hD hA hS hc hq hz) (fun r w9 h => ⟨_, h.1, rfl, h.2⟩)) (fun w1 r1 v1 => K_X7_cut r1 hA v1 hs6 hc hq hz) ⟨by decide, by decide, by decide, by decide⟩
theorem S_deepen {w : Wd} {x0 x1 : Int32} (I : Inv w) : SH yL_deepen cL_deepen 5 [(0, 10, 13, 20), (0, 10, 17, 15)] [.ref 0, .int x0, .int x1, .ref 218] yX7_deepen cX7_deepen 3 [.ref 204, .int x0, .int x1] w := by
  obtain ⟨A, S, sv, lt, hs, B, t, ln, F, hC, hI⟩ := id I
  obtain ⟨hA, hD, hS, hH, hG, hT, hM⟩ := id hC
  obtain ⟨hR, hv, hW, hJ, hK, hU⟩ := id hI
  have hs6 := hS.1.2
  have hn := hA.n12
  refine (Bool.eq_false_or_eq_true (inR x0 (kN A))).elim (fun hf => ?_) (fun hf => SH.thr I (o := 1) (k := 1) rfl (by decide) (T_deepen_0 (K_X6_deepen_0 hD hA x0 hf x1)) (K_X7_deepen_0 hR hA hv hs6 x0 hf x1) ⟨by decide, by decide, by decide, by decide⟩)
  obtain ⟨k, hk, rfl⟩ := inR_of hf (by omega)
  refine (Bool.eq_false_or_eq_true (inR x1 4)).elim (fun hf => ?_) (fun hf => SH.thr I (o := 1) (k := 1) rfl (by decide) (T_deepen_0 (K_X6_deepen_1 hD hA hk x1 hf)) (K_X7_deepen_1 hR hA hv hs6 hk x1 hf) ⟨by decide, by decide, by decide, by decide⟩)
  obtain ⟨j, hj, rfl⟩ := inR_of hf (by decide)
  by_cases hz : wndA A k j = 0
  case neg => exact SH.thr I (o := 2) (k := 2) rfl (by decide) (T_deepen_1 (K_X6_deepen_2 hD hA hk hj hz)) (K_X7_deepen_2 hR hA hv hs6 hk hj hz) ⟨by decide, by decide, by decide, by decide⟩
  have hz2 : rsnA A 100 k j = 0 := by
    unfold rsnA
    rw [if_neg (by decide), if_neg (fun y => y hk), if_pos rfl]
    exact hz
  have ok2 : AOK (deeA A k j) := dos_ok hA (l := 100) (f := k) (s := j) (Or.inr (Or.inl ⟨rfl, (Nat.lt_of_lt_of_le hk hn), hj⟩)) hz2
  exact SH.chg hC hI (A' := deeA A k j) ok2 (H_deepen (K_X6_deepen hD hA hS hk hj hz) (fun r w9 h => ⟨_, h.1, rfl, h.2⟩)) (fun w1 r1 v1 => K_X7_deepen r1 hA v1 hs6 hk hj hz) ⟨by decide, by decide, by decide, by decide⟩
theorem S_retire {w : Wd} {x0 : Int32} (I : Inv w) : SH yL_retire cL_retire 4 [(0, 9, 12, 20)] [.ref 0, .int x0, .ref 218] yX7_retire cX7_retire 3 [.ref 204, .int x0] w := by
  obtain ⟨A, S, sv, lt, hs, B, t, ln, F, hC, hI⟩ := id I
  obtain ⟨hA, hD, hS, hH, hG, hT, hM⟩ := id hC
  obtain ⟨hR, hv, hW, hJ, hK, hU⟩ := id hI
  have hs6 := hS.1.2
  have hn := hA.n12
  refine (Bool.eq_false_or_eq_true (inR x0 (kN A))).elim (fun hf => ?_) (fun hf => SH.thr I (o := 1) (k := 1) rfl (by decide) (T_retire_0 (K_X6_retire_0 hD hA x0 hf)) (K_X7_retire_0 hR hA hv hs6 x0 hf) ⟨by decide, by decide, by decide, by decide⟩)
  obtain ⟨k, hk, rfl⟩ := inR_of hf (by omega)
  exact SH.chg hC hI (A' := retA A k) (retA_ok hA hk) (H_retire (K_X6_retire hD hA hS hk) (fun r w9 h => ⟨_, h.1, rfl, h.2⟩)) (fun w1 r1 v1 => K_X7_retire r1 hA v1 hs6 hk) ⟨by decide, by decide, by decide, by decide⟩
theorem S_give {w : Wd} {x0 x1 : Int32} (I : Inv w) : SH yL_give cL_give 5 [(0, 10, 13, 20), (0, 10, 17, 13)] [.ref 0, .int x0, .int x1, .ref 218] yX7_give cX7_give 4 [.ref 204, .int x0, .int x1] w := by
  obtain ⟨A, S, sv, lt, hs, B, t, ln, F, hC, hI⟩ := id I
  obtain ⟨hA, hD, hS, hH, hG, hT, hM⟩ := id hC
  obtain ⟨hR, hv, hW, hJ, hK, hU⟩ := id hI
  have hs6 := hS.1.2
  have hn := hA.n12
  refine (Bool.eq_false_or_eq_true (inR x0 (kN A))).elim (fun hf => ?_) (fun hf => SH.thr I (o := 1) (k := 1) rfl (by decide) (T_give_0 (K_X6_give_0 hD hA x0 hf x1)) (K_X7_give_0 hR hA hv hs6 x0 hf x1) ⟨by decide, by decide, by decide, by decide⟩)
  obtain ⟨k, hk, rfl⟩ := inR_of hf (by omega)
  refine (Bool.eq_false_or_eq_true (inR x1 4)).elim (fun hf => ?_) (fun hf => SH.thr I (o := 2) (k := 2) rfl (by decide) (T_give_1 (K_X6_give_1 hD hA hk x1 hf)) (K_X7_give_1 hR hA hv hs6 hk x1 hf) ⟨by decide, by decide, by decide, by decide⟩)
  obtain ⟨q, hq, rfl⟩ := inR_of hf (by decide)
  exact SH.chg hC hI (A' := givA A k q) (givA_ok hA hq) (H_give (K_X6_give hD hA hS hk hq) (fun r w9 h => ⟨_, h.1, rfl, h.2⟩)) (fun w1 r1 v1 => K_X7_give r1 hA v1 hs6 hk hq) ⟨by decide, by decide, by decide, by decide⟩
theorem S_lose {w : Wd} {x0 : Int32} (I : Inv w) : SH yL_lose cL_lose 4 [(0, 9, 12, 20), (0, 9, 15, 15)] [.ref 0, .int x0, .ref 218] yX7_lose cX7_lose 2 [.ref 204, .int x0] w := by
  obtain ⟨A, S, sv, lt, hs, B, t, ln, F, hC, hI⟩ := id I
  obtain ⟨hA, hD, hS, hH, hG, hT, hM⟩ := id hC
  obtain ⟨hR, hv, hW, hJ, hK, hU⟩ := id hI
  have hs6 := hS.1.2
  have hn := hA.n12
  refine (Bool.eq_false_or_eq_true (inR x0 (kN A))).elim (fun hf => ?_) (fun hf => SH.thr I (o := 1) (k := 1) rfl (by decide) (T_lose_0 (K_X6_lose_0 hD hA x0 hf)) (K_X7_lose_0 hR hA hv hs6 x0 hf) ⟨by decide, by decide, by decide, by decide⟩)
  obtain ⟨k, hk, rfl⟩ := inR_of hf (by omega)
  refine (Bool.eq_false_or_eq_true (lsA A k)).elim (fun zf => SH.thr I (o := 2) (k := 2) rfl (by decide) (T_lose_1 (K_X6_lose_1 hD hA hk zf)) (K_X7_lose_1 hR hA hv hs6 hk zf) ⟨by decide, by decide, by decide, by decide⟩) (fun zf => ?_)
  exact SH.chg hC hI (A' := losA A k true) (losA_ok hA k true) (H_lose (K_X6_lose hD hA hS hk zf) (fun r w9 h => ⟨_, h.1, rfl, h.2⟩)) (fun w1 r1 v1 => K_X7_lose r1 hA v1 hs6 hk zf) ⟨by decide, by decide, by decide, by decide⟩
theorem S_find {w : Wd} {x0 : Int32} (I : Inv w) : SH yL_find cL_find 4 [(0, 9, 12, 20), (0, 9, 15, 15)] [.ref 0, .int x0, .ref 218] yX7_find cX7_find 2 [.ref 204, .int x0] w := by
  obtain ⟨A, S, sv, lt, hs, B, t, ln, F, hC, hI⟩ := id I
  obtain ⟨hA, hD, hS, hH, hG, hT, hM⟩ := id hC
  obtain ⟨hR, hv, hW, hJ, hK, hU⟩ := id hI
  have hs6 := hS.1.2
  have hn := hA.n12
  refine (Bool.eq_false_or_eq_true (inR x0 (kN A))).elim (fun hf => ?_) (fun hf => SH.thr I (o := 1) (k := 1) rfl (by decide) (T_find_0 (K_X6_find_0 hD hA x0 hf)) (K_X7_find_0 hR hA hv hs6 x0 hf) ⟨by decide, by decide, by decide, by decide⟩)
  obtain ⟨k, hk, rfl⟩ := inR_of hf (by omega)
  refine (Bool.eq_false_or_eq_true (lsA A k)).elim (fun zf => ?_) (fun zf => SH.thr I (o := 2) (k := 2) rfl (by decide) (T_find_1 (K_X6_find_1 hD hA hk zf)) (K_X7_find_1 hR hA hv hs6 hk zf) ⟨by decide, by decide, by decide, by decide⟩)
  exact SH.chg hC hI (A' := losA A k false) (losA_ok hA k false) (H_find (K_X6_find hD hA hS hk zf) (fun r w9 h => ⟨_, h.1, rfl, h.2⟩)) (fun w1 r1 v1 => K_X7_find r1 hA v1 hs6 hk zf) ⟨by decide, by decide, by decide, by decide⟩
theorem S_ward {w : Wd} {x0 x1 : Int32} (I : Inv w) : SH yL_ward cL_ward 5 [(0, 10, 13, 20), (0, 10, 17, 13)] [.ref 0, .int x0, .int x1, .ref 218] yX7_ward cX7_ward 4 [.ref 204, .int x0, .int x1] w := by
  obtain ⟨A, S, sv, lt, hs, B, t, ln, F, hC, hI⟩ := id I
  obtain ⟨hA, hD, hS, hH, hG, hT, hM⟩ := id hC
  obtain ⟨hR, hv, hW, hJ, hK, hU⟩ := id hI
  have hs6 := hS.1.2
  have hn := hA.n12
  refine (Bool.eq_false_or_eq_true (inR x0 6)).elim (fun hf => ?_) (fun hf => SH.thr I (o := 1) (k := 1) rfl (by decide) (T_ward_0 (K_X6_ward_0 hD hA x0 hf x1)) (K_X7_ward_0 hR hA hv hs6 x0 hf x1) ⟨by decide, by decide, by decide, by decide⟩)
  obtain ⟨p, hp, rfl⟩ := inR_of hf (by decide)
  refine (Bool.eq_false_or_eq_true (inR x1 81)).elim (fun hf => ?_) (fun hf => SH.thr I (o := 2) (k := 2) rfl (by decide) (T_ward_1 (K_X6_ward_1 hD hA hp x1 hf)) (K_X7_ward_1 hR hA hv hs6 hp x1 hf) ⟨by decide, by decide, by decide, by decide⟩)
  obtain ⟨c, hc, rfl⟩ := inR_of hf (by decide)
  exact SH.chg hC hI (A' := warA A p (nI c)) (warA_ok hA hp hc) (H_ward (K_X6_ward hD hA hS hp hc) (fun r w9 h => ⟨_, h.1, rfl, h.2⟩)) (fun w1 r1 v1 => K_X7_ward r1 hA v1 hs6 hp hc) ⟨by decide, by decide, by decide, by decide⟩
theorem S_guest {w : Wd} {x0 x1 : Int32} (I : Inv w) : SH yL_guest cL_guest 5 [(0, 10, 13, 20), (0, 10, 17, 13), (0, 10, 21, 15)] [.ref 0, .int x0, .int x1, .ref 218] yX7_guest cX7_guest 4 [.ref 204, .int x0, .int x1] w := by
  obtain ⟨A, S, sv, lt, hs, B, t, ln, F, hC, hI⟩ := id I
  obtain ⟨hA, hD, hS, hH, hG, hT, hM⟩ := id hC
  obtain ⟨hR, hv, hW, hJ, hK, hU⟩ := id hI
  have hs6 := hS.1.2
  have hn := hA.n12
  refine (Bool.eq_false_or_eq_true (inR x0 6)).elim (fun hf => ?_) (fun hf => SH.thr I (o := 1) (k := 1) rfl (by decide) (T_guest_0 (K_X6_guest_0 hD hA x0 hf x1)) (K_X7_guest_0 hR hA hv hs6 x0 x1 hf) ⟨by decide, by decide, by decide, by decide⟩)
  obtain ⟨p, hp, rfl⟩ := inR_of hf (by decide)
  by_cases hx : x1 = -1 ∨ inR x1 81 = true
  case neg =>
    have hx1 : ¬ x1 = -1 := fun z => hx (Or.inl z)
    have zf1 : inR x1 81 = false := Bool.not_eq_true _ ▸ (fun z => hx (Or.inr z))
    exact SH.thr I (o := 2) (k := 2) rfl (by decide) (T_guest_1 (K_X6_guest_1 hD hA hp x1 hx1 zf1)) (K_X7_guest_1 hR hA hv hs6 hp x1 hx1 zf1) ⟨by decide, by decide, by decide, by decide⟩
  refine (Bool.eq_false_or_eq_true (wdA A p)).elim (fun zf => ?_) (fun zf => SH.thr I (o := 3) (k := 3) rfl (by decide) (T_guest_2 (K_X6_guest_2 hD hA hp x1 hx zf)) (K_X7_guest_2 hR hA hv hs6 hp x1 hx zf) ⟨by decide, by decide, by decide, by decide⟩)
  exact SH.chg hC hI (A' := gueA A p x1) (gueA_ok hA hp hx zf) (H_guest (K_X6_guest hD hA hS hp x1 hx zf) (fun r w9 h => ⟨_, h.1, rfl, h.2⟩)) (fun w1 r1 v1 => K_X7_guest r1 hA v1 hs6 hp x1 hx zf) ⟨by decide, by decide, by decide, by decide⟩
theorem S_take {w : Wd} {x0 : Int32} (I : Inv w) : SH yL_take cL_take 4 [(0, 9, 12, 20), (0, 9, 15, 15)] [.ref 0, .int x0, .ref 218] yX7_take cX7_take 3 [.ref 204, .int x0] w := by
  obtain ⟨A, S, sv, lt, hs, B, t, ln, F, hC, hI⟩ := id I
  obtain ⟨hA, hD, hS, hH, hG, hT, hM⟩ := id hC
  obtain ⟨hR, hv, hW, hJ, hK, hU⟩ := id hI
  have hs6 := hS.1.2
  have hn := hA.n12
  refine (Bool.eq_false_or_eq_true (inR x0 6)).elim (fun hf => ?_) (fun hf => SH.thr I (o := 1) (k := 1) rfl (by decide) (T_take_0 (K_X6_take_0 hD hA x0 hf)) (K_X7_take_0 hR hA hv hs6 x0 hf) ⟨by decide, by decide, by decide, by decide⟩)
  obtain ⟨p, hp, rfl⟩ := inR_of hf (by decide)
  refine (Bool.eq_false_or_eq_true (wdA A p)).elim (fun zf => ?_) (fun zf => SH.thr I (o := 2) (k := 2) rfl (by decide) (T_take_1 (K_X6_take_1 hD hA hp zf)) (K_X7_take_1 hR hA hv hs6 hp zf) ⟨by decide, by decide, by decide, by decide⟩)
  exact SH.chg hC hI (A' := takA A p) (takA_ok hA hp) (H_take (K_X6_take hD hA hS hp zf) (fun r w9 h => ⟨_, h.1, rfl, h.2⟩)) (fun w1 r1 v1 => K_X7_take r1 hA v1 hs6 hp zf) ⟨by decide, by decide, by decide, by decide⟩
theorem S_turn {w : Wd} {x0 x1 : Int32} (I : Inv w) : SH yL_turn cL_turn 5 [(0, 10, 13, 20), (0, 10, 17, 15)] [.ref 0, .int x0, .int x1, .ref 218] yX7_turn cX7_turn 3 [.ref 204, .int x0, .int x1] w := by
  obtain ⟨A, S, sv, lt, hs, B, t, ln, F, hC, hI⟩ := id I
  obtain ⟨hA, hD, hS, hH, hG, hT, hM⟩ := id hC
  obtain ⟨hR, hv, hW, hJ, hK, hU⟩ := id hI
  have hs6 := hS.1.2
  have hn := hA.n12
  refine (Bool.eq_false_or_eq_true (inR x0 (kN A))).elim (fun hf => ?_) (fun hf => SH.thr I (o := 1) (k := 1) rfl (by decide) (T_turn_0 (K_X6_turn_0 hD hA x0 hf x1)) (K_X7_turn_0 hR hA hv hs6 x0 hf x1) ⟨by decide, by decide, by decide, by decide⟩)
  obtain ⟨k, hk, rfl⟩ := inR_of hf (by omega)
  refine (Bool.eq_false_or_eq_true (inR x1 6)).elim (fun hf => ?_) (fun hf => SH.thr I (o := 1) (k := 1) rfl (by decide) (T_turn_0 (K_X6_turn_1 hD hA hk x1 hf)) (K_X7_turn_1 hR hA hv hs6 hk x1 hf) ⟨by decide, by decide, by decide, by decide⟩)
  obtain ⟨p, hp, rfl⟩ := inR_of hf (by decide)
  refine (Bool.eq_false_or_eq_true (lsA A k)).elim (fun zf => SH.thr I (o := 2) (k := 2) rfl (by decide) (T_turn_1 (K_X6_turn_2 hD hA hk hp zf)) (K_X7_turn_2 hR hA hv hs6 hk hp zf) ⟨by decide, by decide, by decide, by decide⟩) (fun zf => ?_)
  refine (Bool.eq_false_or_eq_true (wdA A p)).elim (fun zf2 => ?_) (fun zf2 => SH.thr I (o := 2) (k := 2) rfl (by decide) (T_turn_1 (K_X6_turn_3 hD hA hk hp zf zf2)) (K_X7_turn_3 hR hA hv hs6 hk hp zf zf2) ⟨by decide, by decide, by decide, by decide⟩)
  exact SH.chg hC hI (A' := turA A k p) (turA_ok hA (Nat.lt_of_lt_of_le hk hn) hp) (H_turn (K_X6_turn hD hA hS hk hp zf zf2) (fun r w9 h => ⟨_, h.1, rfl, h.2⟩)) (fun w1 r1 v1 => K_X7_turn r1 hA v1 hs6 hk hp zf zf2) ⟨by decide, by decide, by decide, by decide⟩
theorem S_set {w : Wd} {x0 x1 : Int32} (I : Inv w) : SH yL_set cL_set 5 [(0, 10, 13, 20), (0, 10, 17, 13)] [.ref 0, .int x0, .int x1, .ref 218] yX7_set cX7_set 6 [.ref 204, .int x0, .int x1] w := by
  obtain ⟨A, S, sv, lt, hs, B, t, ln, F, hC, hI⟩ := id I
  obtain ⟨hA, hD, hS, hH, hG, hT, hM⟩ := id hC
  obtain ⟨hR, hv, hW, hJ, hK, hU⟩ := id hI
  have hs6 := hS.1.2
  have hn := hA.n12
  refine (Bool.eq_false_or_eq_true (inR x0 4)).elim (fun hf => ?_) (fun hf => SH.thr I (o := 1) (k := 1) rfl (by decide) (T_set_0 (K_X6_set_0 hD hA x0 hf x1)) (K_X7_set_0 hR hA hv hs6 x0 hf x1) ⟨by decide, by decide, by decide, by decide⟩)
  obtain ⟨j, hj, rfl⟩ := inR_of hf (by decide)
  refine (Bool.eq_false_or_eq_true (sbI j x1)).elim (fun zf => ?_) (fun zf => SH.thr I (o := 2) (k := 2) rfl (by decide) (T_set_1 (K_X6_set_1 hD hA hj x1 zf)) (K_X7_set_1 hR hA hv hs6 hj x1 zf) ⟨by decide, by decide, by decide, by decide⟩)
  exact SH.chg hC hI (A' := setA A j x1) (setA_ok hA hj zf) (H_set (K_X6_set hD hA hS hj x1 zf) (fun r w9 h => ⟨_, h.1, rfl, h.2⟩)) (fun w1 r1 v1 => K_X7_set r1 hA v1 hs6 hj x1 zf) ⟨by decide, by decide, by decide, by decide⟩
theorem S_key {w : Wd} {x0 x1 : Int32} (I : Inv w) : SH yL_key cL_key 5 [(0, 10, 13, 20), (0, 10, 17, 13)] [.ref 0, .int x0, .int x1, .ref 218] yX7_key cX7_key 3 [.ref 204, .int x0, .int x1] w := by
  obtain ⟨A, S, sv, lt, hs, B, t, ln, F, hC, hI⟩ := id I
  obtain ⟨hA, hD, hS, hH, hG, hT, hM⟩ := id hC
  obtain ⟨hR, hv, hW, hJ, hK, hU⟩ := id hI
  have hs6 := hS.1.2
  have hn := hA.n12
  refine (Bool.eq_false_or_eq_true (inR x0 (kN A))).elim (fun hf => ?_) (fun hf => SH.thr I (o := 1) (k := 1) rfl (by decide) (T_key_0 (K_X6_key_0 hD hA x0 hf x1)) (K_X7_key_0 hR hA x0 hf x1) ⟨by decide, by decide, by decide, by decide⟩)
  obtain ⟨k, hk, rfl⟩ := inR_of hf (by omega)
  refine (Bool.eq_false_or_eq_true (inR x1 10)).elim (fun hf => ?_) (fun hf => SH.thr I (o := 2) (k := 2) rfl (by decide) (T_key_1 (K_X6_key_1 hD hA hk x1 hf)) (K_X7_key_1 hR hA hk x1 hf) ⟨by decide, by decide, by decide, by decide⟩)
  obtain ⟨j, hj2, rfl⟩ := inR_of hf (by decide)
  exact SH.ans I (H_key (K_X6_key hD hA hk hj2) (fun r w9 h => ⟨_, h.1, rfl, h.2⟩)) (K_X7_key (w := wLong w 218 _) hR hA hk hj2) ⟨by decide, by decide, by decide, by decide⟩
theorem S_lock {w : Wd} {x0 x1 : Int32} (I : Inv w) : SH yL_lock cL_lock 5 [(0, 10, 13, 20), (0, 10, 17, 13)] [.ref 0, .int x0, .int x1, .ref 218] yX7_lock cX7_lock 3 [.ref 204, .int x0, .int x1] w := by
  obtain ⟨A, S, sv, lt, hs, B, t, ln, F, hC, hI⟩ := id I
  obtain ⟨hA, hD, hS, hH, hG, hT, hM⟩ := id hC
  obtain ⟨hR, hv, hW, hJ, hK, hU⟩ := id hI
  have hs6 := hS.1.2
  have hn := hA.n12
  refine (Bool.eq_false_or_eq_true (inR x0 6)).elim (fun hf => ?_) (fun hf => SH.thr I (o := 1) (k := 1) rfl (by decide) (T_lock_0 (K_X6_lock_0 hD hA x0 hf x1)) (K_X7_lock_0 hR hA x0 hf x1) ⟨by decide, by decide, by decide, by decide⟩)
  obtain ⟨p, hp, rfl⟩ := inR_of hf (by decide)
  refine (Bool.eq_false_or_eq_true (inR x1 6)).elim (fun hf => ?_) (fun hf => SH.thr I (o := 2) (k := 2) rfl (by decide) (T_lock_1 (K_X6_lock_1 hD hA hp x1 hf)) (K_X7_lock_1 hR hA hp x1 hf) ⟨by decide, by decide, by decide, by decide⟩)
  obtain ⟨j, hj2, rfl⟩ := inR_of hf (by decide)
  exact SH.ans I (H_lock (K_X6_lock hD hA hp hj2) (fun r w9 h => ⟨_, h.1, rfl, h.2⟩)) (K_X7_lock (w := wLong w 218 _) hR hA hp hj2) ⟨by decide, by decide, by decide, by decide⟩
theorem S_person {w : Wd} {x0 x1 : Int32} (I : Inv w) : SH yL_person cL_person 5 [(0, 10, 13, 20), (0, 10, 17, 13)] [.ref 0, .int x0, .int x1, .ref 218] yX7_person cX7_person 3 [.ref 204, .int x0, .int x1] w := by
  obtain ⟨A, S, sv, lt, hs, B, t, ln, F, hC, hI⟩ := id I
  obtain ⟨hA, hD, hS, hH, hG, hT, hM⟩ := id hC
  obtain ⟨hR, hv, hW, hJ, hK, hU⟩ := id hI
  have hs6 := hS.1.2
  have hn := hA.n12
  refine (Bool.eq_false_or_eq_true (inR x0 4)).elim (fun hf => ?_) (fun hf => SH.thr I (o := 1) (k := 1) rfl (by decide) (T_person_0 (K_X6_person_0 hD hA x0 hf x1)) (K_X7_person_0 hR hA x0 hf x1) ⟨by decide, by decide, by decide, by decide⟩)
  obtain ⟨q, hq, rfl⟩ := inR_of hf (by decide)
  refine (Bool.eq_false_or_eq_true (inR x1 3)).elim (fun hf => ?_) (fun hf => SH.thr I (o := 2) (k := 2) rfl (by decide) (T_person_1 (K_X6_person_1 hD hA hq x1 hf)) (K_X7_person_1 hR hA hq x1 hf) ⟨by decide, by decide, by decide, by decide⟩)
  obtain ⟨j, hj2, rfl⟩ := inR_of hf (by decide)
  exact SH.ans I (H_person (K_X6_person hD hA hq hj2) (fun r w9 h => ⟨_, h.1, rfl, h.2⟩)) (K_X7_person (w := wLong w 218 _) hR hA hq hj2) ⟨by decide, by decide, by decide, by decide⟩
theorem S_code {w : Wd} {x0 x1 : Int32} (I : Inv w) : SH yL_code cL_code 5 [(0, 10, 13, 13)] [.ref 0, .int x0, .int x1, .ref 218] yX7_code cX7_code 3 [.ref 204, .int x0, .int x1] w := by
  obtain ⟨A, S, sv, lt, hs, B, t, ln, F, hC, hI⟩ := id I
  obtain ⟨hA, hD, hS, hH, hG, hT, hM⟩ := id hC
  obtain ⟨hR, hv, hW, hJ, hK, hU⟩ := id hI
  have hs6 := hS.1.2
  have hn := hA.n12
  refine (Bool.eq_false_or_eq_true (inR x0 81)).elim (fun hf => ?_) (fun hf => SH.thr I (o := 1) (k := 1) rfl (by decide) (T_code_0 (K_X6_code_0 hD hA x0 hf x1)) (K_X7_code_0 hR hA x0 hf x1) ⟨by decide, by decide, by decide, by decide⟩)
  obtain ⟨c, hc, rfl⟩ := inR_of hf (by decide)
  refine (Bool.eq_false_or_eq_true (inR x1 6)).elim (fun hf => ?_) (fun hf => SH.thr I (o := 1) (k := 1) rfl (by decide) (T_code_0 (K_X6_code_1 hD hA hc x1 hf)) (K_X7_code_1 hR hA hc x1 hf) ⟨by decide, by decide, by decide, by decide⟩)
  obtain ⟨j, hj2, rfl⟩ := inR_of hf (by decide)
  exact SH.ans I (H_code (K_X6_code hD hA hc hj2) (fun r w9 h => ⟨_, h.1, rfl, h.2⟩)) (K_X7_code (w := wLong w 218 _) hR hA hc hj2) ⟨by decide, by decide, by decide, by decide⟩
theorem S_level {w : Wd} {x0 x1 : Int32} (I : Inv w) : SH yL_level cL_level 5 [(0, 10, 13, 20), (0, 10, 17, 13)] [.ref 0, .int x0, .int x1, .ref 218] yX7_level cX7_level 3 [.ref 204, .int x0, .int x1] w := by
  obtain ⟨A, S, sv, lt, hs, B, t, ln, F, hC, hI⟩ := id I
  obtain ⟨hA, hD, hS, hH, hG, hT, hM⟩ := id hC
  obtain ⟨hR, hv, hW, hJ, hK, hU⟩ := id hI
  have hs6 := hS.1.2
  have hn := hA.n12
  refine (Bool.eq_false_or_eq_true (inR x0 9)).elim (fun hf => ?_) (fun hf => SH.thr I (o := 1) (k := 1) rfl (by decide) (T_level_0 (K_X6_level_0 hD hA x0 x1 hf)) (K_X7_level_0 hR hA x0 hf x1) ⟨by decide, by decide, by decide, by decide⟩)
  obtain ⟨v, hv, rfl⟩ := inR_of hf (by decide)
  refine (Bool.eq_false_or_eq_true (inR x1 4)).elim (fun hf => ?_) (fun hf => SH.thr I (o := 2) (k := 2) rfl (by decide) (T_level_1 (K_X6_level_1 hD hA hv x1 hf)) (K_X7_level_1 hR hA hv x1 hf) ⟨by decide, by decide, by decide, by decide⟩)
  obtain ⟨j, hj2, rfl⟩ := inR_of hf (by decide)
  exact SH.ans I (H_level (K_X6_level hD hA hv hj2) (fun r w9 h => ⟨_, h.1, rfl, h.2⟩)) (K_X7_level (w := wLong w 218 _) hR hA hv hj2) ⟨by decide, by decide, by decide, by decide⟩
theorem S_why {w : Wd} {x0 x1 : Int32} (I : Inv w) : SH yL_why cL_why 5 [(0, 10, 13, 20)] [.ref 0, .int x0, .int x1, .ref 218] yX7_why cX7_why 3 [.ref 204, .int x0, .int x1] w := by
  obtain ⟨A, S, sv, lt, hs, B, t, ln, F, hC, hI⟩ := id I
  obtain ⟨hA, hD, hS, hH, hG, hT, hM⟩ := id hC
  obtain ⟨hR, hv, hW, hJ, hK, hU⟩ := id hI
  have hs6 := hS.1.2
  have hn := hA.n12
  refine (Bool.eq_false_or_eq_true (inR x0 (kN A))).elim (fun hf => ?_) (fun hf => SH.thr I (o := 1) (k := 1) rfl (by decide) (T_why_0 (K_X6_why_0 hD hA x0 hf x1)) (K_X7_why_0 hR hA x0 hf x1) ⟨by decide, by decide, by decide, by decide⟩)
  obtain ⟨k, hk, rfl⟩ := inR_of hf (by omega)
  refine (Bool.eq_false_or_eq_true (inR x1 4)).elim (fun hf => ?_) (fun hf => SH.thr I (o := 1) (k := 1) rfl (by decide) (T_why_0 (K_X6_why_1 hD hA hk x1 hf)) (K_X7_why_1 hR hA hk x1 hf) ⟨by decide, by decide, by decide, by decide⟩)
  obtain ⟨j, hj2, rfl⟩ := inR_of hf (by decide)
  exact SH.ans I (H_why (K_X6_why hD hA hk hj2) (fun r w9 h => ⟨_, h.1, rfl, h.2⟩)) (K_X7_why (w := wLong w 218 _) hR hA hk hj2) ⟨by decide, by decide, by decide, by decide⟩
theorem S_worn {w : Wd} {x0 x1 : Int32} (I : Inv w) : SH yL_worn cL_worn 5 [(0, 10, 13, 20), (0, 10, 17, 13)] [.ref 0, .int x0, .int x1, .ref 218] yX7_worn cX7_worn 3 [.ref 204, .int x0, .int x1] w := by
  obtain ⟨A, S, sv, lt, hs, B, t, ln, F, hC, hI⟩ := id I
  obtain ⟨hA, hD, hS, hH, hG, hT, hM⟩ := id hC
  obtain ⟨hR, hv, hW, hJ, hK, hU⟩ := id hI
  have hs6 := hS.1.2
  have hn := hA.n12
  refine (Bool.eq_false_or_eq_true (inR x0 (kN A))).elim (fun hf => ?_) (fun hf => SH.thr I (o := 1) (k := 1) rfl (by decide) (T_worn_0 (K_X6_worn_0 hD hA x0 hf x1)) (K_X7_worn_0 hR hA x0 hf x1) ⟨by decide, by decide, by decide, by decide⟩)
  obtain ⟨k, hk, rfl⟩ := inR_of hf (by omega)
  refine (Bool.eq_false_or_eq_true (inR x1 100)).elim (fun hf => ?_) (fun hf => SH.thr I (o := 2) (k := 2) rfl (by decide) (T_worn_1 (K_X6_worn_1 hD hA hk x1 hf)) (K_X7_worn_1 hR hA hk x1 hf) ⟨by decide, by decide, by decide, by decide⟩)
  obtain ⟨u, hu2, rfl⟩ := inR_of hf (by decide)
  exact SH.ans I (H_worn (K_X6_worn hD hA hk hu2) (fun r w9 h => ⟨_, h.1, rfl, h.2⟩)) (K_X7_worn (w := wLong w 218 _) hR hA hk hu2) ⟨by decide, by decide, by decide, by decide⟩
theorem S_setting {w : Wd} {x0 : Int32} (I : Inv w) : SH yL_setting cL_setting 4 [(0, 9, 12, 20)] [.ref 0, .int x0, .ref 218] yX7_setting cX7_setting 2 [.ref 204, .int x0] w := by
  obtain ⟨A, S, sv, lt, hs, B, t, ln, F, hC, hI⟩ := id I
  obtain ⟨hA, hD, hS, hH, hG, hT, hM⟩ := id hC
  obtain ⟨hR, hv, hW, hJ, hK, hU⟩ := id hI
  have hs6 := hS.1.2
  have hn := hA.n12
  refine (Bool.eq_false_or_eq_true (inR x0 4)).elim (fun hf => ?_) (fun hf => SH.thr I (o := 1) (k := 1) rfl (by decide) (T_setting_0 (K_X6_setting_0 hD hA x0 hf)) (K_X7_setting_0 hR hA x0 hf) ⟨by decide, by decide, by decide, by decide⟩)
  obtain ⟨j, hj2, rfl⟩ := inR_of hf (by decide)
  exact SH.ans I (H_setting (K_X6_setting hD hA hj2) (fun r w9 h => ⟨_, h.1, rfl, h.2⟩)) (K_X7_setting (w := wLong w 218 _) hR hA hj2) ⟨by decide, by decide, by decide, by decide⟩
theorem S_stopped {w : Wd} {x0 : Int32} (I : Inv w) : SH yL_stopped cL_stopped 4 [(0, 9, 12, 13)] [.ref 0, .int x0, .ref 218] yX7_stopped cX7_stopped 2 [.ref 204, .int x0] w := by
  obtain ⟨A, S, sv, lt, hs, B, t, ln, F, hC, hI⟩ := id I
  obtain ⟨hA, hD, hS, hH, hG, hT, hM⟩ := id hC
  obtain ⟨hR, hv, hW, hJ, hK, hU⟩ := id hI
  have hs6 := hS.1.2
  have hn := hA.n12
  refine (Bool.eq_false_or_eq_true (inR x0 2)).elim (fun hf => ?_) (fun hf => SH.thr I (o := 1) (k := 1) rfl (by decide) (T_stopped_0 (K_X6_stopped_0 hD hA x0 hf)) (K_X7_stopped_0 hR hA x0 hf) ⟨by decide, by decide, by decide, by decide⟩)
  obtain ⟨j, hj2, rfl⟩ := inR_of hf (by decide)
  exact SH.ans I (H_stopped (K_X6_stopped hD hA hj2) (fun r w9 h => ⟨_, h.1, rfl, h.2⟩)) (K_X7_stopped (w := wLong w 218 _) hR hA hj2) ⟨by decide, by decide, by decide, by decide⟩
theorem S_crossedIn {w : Wd} {x0 : Int32} (I : Inv w) : SH yL_crossedIn cL_crossedIn 4 [(0, 9, 12, 20)] [.ref 0, .int x0, .ref 218] yX7_crossedIn cX7_crossedIn 2 [.ref 204, .int x0] w := by
  obtain ⟨A, S, sv, lt, hs, B, t, ln, F, hC, hI⟩ := id I
  obtain ⟨hA, hD, hS, hH, hG, hT, hM⟩ := id hC
  obtain ⟨hR, hv, hW, hJ, hK, hU⟩ := id hI
  have hs6 := hS.1.2
  have hn := hA.n12
  refine (Bool.eq_false_or_eq_true (inR x0 (kN A))).elim (fun hf => ?_) (fun hf => SH.thr I (o := 1) (k := 1) rfl (by decide) (T_crossedIn_0 (K_X6_crossedIn_0 hD hA x0 hf)) (K_X7_crossedIn_0 hR hA x0 hf) ⟨by decide, by decide, by decide, by decide⟩)
  obtain ⟨k, hk2, rfl⟩ := inR_of hf (by omega)
  exact SH.ans I (H_crossedIn (K_X6_crossedIn hD hA hk2) (fun r w9 h => ⟨_, h.1, rfl, h.2⟩)) (K_X7_crossedIn (w := wLong w 218 _) hR hA hk2) ⟨by decide, by decide, by decide, by decide⟩
theorem S_count {w : Wd} {x0 : Int32} (I : Inv w) : SH yL_count cL_count 4 [(0, 9, 12, 13)] [.ref 0, .int x0, .ref 218] yX7_count cX7_count 2 [.ref 204, .int x0] w := by
  obtain ⟨A, S, sv, lt, hs, B, t, ln, F, hC, hI⟩ := id I
  obtain ⟨hA, hD, hS, hH, hG, hT, hM⟩ := id hC
  obtain ⟨hR, hv, hW, hJ, hK, hU⟩ := id hI
  have hs6 := hS.1.2
  have hn := hA.n12
  refine (Bool.eq_false_or_eq_true (inR x0 12)).elim (fun hf => ?_) (fun hf => SH.thr I (o := 1) (k := 1) rfl (by decide) (T_count_0 (K_X6_count_0 hD hA x0 hf)) (K_X7_count_0 hR hA x0 hf) ⟨by decide, by decide, by decide, by decide⟩)
  obtain ⟨j, hj, rfl⟩ := inR_of hf (by decide)
  have e1 : w.1 204 3 = w.1 0 8 := hv.trans hS.1.1.symm
  exact SH.ans I (H_count (K_X6_count hD hA hj) (fun r w9 h => ⟨_, h.1, rfl, h.2⟩)) (by
    have k7 := K_X7_count (w := wLong w 218 (tnA A (w.1 0 8) j).toInt64) hR hA hj
    rw [show (wLong w 218 (tnA A (w.1 0 8) j).toInt64).1 204 3 = w.1 0 8 from e1] at k7
    exact k7) ⟨by decide, by decide, by decide, by decide⟩
theorem S_opener {w : Wd} {x0 : Int32} (I : Inv w) : SH yL_opener cL_opener 4 [(0, 9, 12, 13)] [.ref 0, .int x0, .ref 218] yX7_opener cX7_opener 5 [.ref 204, .int x0] w := by
  obtain ⟨A, S, sv, lt, hs, B, t, ln, F, hC, hI⟩ := id I
  obtain ⟨hA, hD, hS, hH, hG, hT, hM⟩ := id hC
  obtain ⟨hR, hv, hW, hJ, hK, hU⟩ := id hI
  have hs6 := hS.1.2
  have hn := hA.n12
  refine (Bool.eq_false_or_eq_true (arlA A x0)).elim (fun zf => ?_) (fun zf => SH.thr I (o := 1) (k := 1) rfl (by decide) (T_opener_0 (K_X6_opener_0 hD hA x0 zf)) (K_X7_opener_0 hR hA x0 zf) ⟨by decide, by decide, by decide, by decide⟩)
  have zz := zf
  unfold arlA at zz
  have z1 : 1 ≤ x0.toInt ∧ x0.toInt ≤ 63 := of_decide_eq_true (Bool.and_eq_true_iff.mp zz).1
  have z2 := (Bool.and_eq_true_iff.mp zz).2
  obtain ⟨x, hx, rfl⟩ := inR_of (x := x0) (N := 64) (decide_eq_true ⟨by omega, by omega⟩) (by decide)
  rw [nI_toInt (by omega)] at z1
  rw [iN_nI (by omega)] at z2
  have hx2 : 1 ≤ x ∧ x ≤ 63 := ⟨by omega, by omega⟩
  exact SH.ans I (H_opener (K_X6_opener hD hA hx2 z2) (fun r w9 h => ⟨_, h.1, rfl, h.2⟩)) (K_X7_opener (w := wLong w 218 _) hR hA hx2 zf) ⟨by decide, by decide, by decide, by decide⟩
end A57

section A58
/-! ### one step of the law: the methods of the text, of the saved states, of the chains, and the digest -/
variable {w v : Wd} {A B : St} {S : Nat → St} {sv lt ln : Nat} {hs : Bool} {t : Nat → Nat} {F G : Nat → Bool}
theorem IC.ot (h : IC w A S sv lt hs B t ln F) (o : OT w v) : IC v A S sv lt hs B t ln F := by
  obtain ⟨c1, c2, c3, c4, c5, c6, c7⟩ := h
  exact ⟨c1, c2.same c1 (fun a h1 _ => o.1 a (by omega)), c3.fr ⟨by rw [o.1 0 (by decide)], by rw [o.1 0 (by decide)]⟩ (fun a h1 _ => o.1 a (by omega)), by rw [o.1 0 (by decide)]; exact c4, fun z => ⟨(c5 z).1, (c5 z).2.same (c5 z).1 (fun a h1 _ => o.1 a (by omega))⟩, c6.ot o, c7.same (fun a h1 _ => o.1 a (by omega))⟩
theorem IC.mo (h : IC w A S sv lt hs B t ln F) (hM : Mo v G) (f : Frm [55, 56, 57, 58, 59, 60, 61, 62, 63, 64, 65] w v) : IC v A S sv lt hs B t ln G := by
  have q : ∀ a, (a < 55 ∨ 65 < a) → v.1 a = w.1 a := fun a ha => f.1 a (fun z => by simp only [List.mem_cons, List.not_mem_nil, or_false] at z; omega)
  obtain ⟨c1, c2, c3, c4, c5, c6, c7⟩ := h
  exact ⟨c1, c2.same c1 (fun a _ h2 => q a (by omega)), c3.fr ⟨by rw [q 0 (by decide)], by rw [q 0 (by decide)]⟩ (fun a h1 _ => q a (by omega)), by rw [q 0 (by decide)]; exact c4, fun z => ⟨(c5 z).1, (c5 z).2.same (c5 z).1 (fun a _ h2 => q a (by omega))⟩, c6.same (q 1 (by decide)) (q 2 (by decide)), hM⟩
theorem IC.tx {t2 : Nat → Nat} {ln2 : Nat} (h : IC w A S sv lt hs B t ln F) (hT : Tx v t2 ln2) (q : ∀ a, ¬ a = 1 → ¬ a = 2 → v.1 a = w.1 a) : IC v A S sv lt hs B t2 ln2 F := by
  obtain ⟨c1, c2, c3, c4, c5, c6, c7⟩ := h
  exact ⟨c1, c2.same c1 (fun a _ _ => q a (by omega) (by omega)), c3.fr ⟨by rw [q 0 (by decide) (by decide)], by rw [q 0 (by decide) (by decide)]⟩ (fun a h1 _ => q a (by omega) (by omega)), by rw [q 0 (by decide) (by decide)]; exact c4, fun z => ⟨(c5 z).1, (c5 z).2.same (c5 z).1 (fun a _ h2 => q a (by omega) (by omega))⟩, hT, c7.same (fun a _ h2 => q a (by omega) (by omega))⟩
theorem IR.mo (h : IR w A S sv hs B t ln) (h4 : ∀ j, ¬ j = 0 → ¬ j = 21 → v.1 204 j = w.1 204 j) (f : ∀ a, ¬ a ∈ [204, 211, 212, 213, 214, 215, 216, 217] → v.1 a = w.1 a) : IR v A S sv hs B t ln :=
  h.same (fun a h1 h2 => f a (fun z => by simp only [List.mem_cons, List.not_mem_nil, or_false] at z; omega)) (h4 3 (by decide) (by decide)) (h4 5 (by decide) (by decide)) (h4 7 (by decide) (by decide))
theorem not_r7 {a : Nat} (h : a < 204) : ¬ a ∈ [204, 211, 212, 213, 214, 215, 216, 217] := fun z => by simp only [List.mem_cons, List.not_mem_nil, or_false] at z; omega
theorem not_r6 {a : Nat} (h : 204 ≤ a) : ¬ a ∈ [55, 56, 57, 58, 59, 60, 61, 62, 63, 64, 65] := fun z => by simp only [List.mem_cons, List.not_mem_nil, or_false] at z; omega
theorem IR.tm {t2 : Nat → Nat} {ln2 : Nat} (h : IR w A S sv hs B t ln) (hT : Tm v t2 ln2) (q : ∀ a, 205 ≤ a → a ≤ 207 → v.1 a = w.1 a) (h3 : v.1 204 3 = w.1 204 3) (h5 : v.1 204 5 = w.1 204 5) : IR v A S sv hs B t2 ln2 := by
  obtain ⟨c1, c2, c3, c4, c5, c6⟩ := h
  exact ⟨(q 205 (by decide) (by decide)).trans c1, h3.trans c2, fun x hx j hj => by rw [q 206 (by decide) (by decide)]; exact c3 x hx j hj, h5.trans c4, fun z j hj => by rw [q 207 (by decide) (by decide)]; exact c5 z j hj, hT⟩
theorem tx_app (hT : Tx w t ln) {k : Nat} (hk : k < 128) (hl : ln < 60) : Tx (wSet (wSet w 2 ln (nI k)) 1 1 (nI (ln + 1))) (fun j => if j = ln then k else t j) (ln + 1) := by
  refine ⟨wSet_at, by omega, fun j hj => ?_⟩
  show _ = nI (if j = ln then k else t j) ∧ (if j = ln then k else t j) < 128
  rw [wSet_th (by decide)]
  by_cases e : j = ln
  · subst e
    rw [wSet_at, if_pos rfl]
    exact ⟨rfl, hk⟩
  · rw [wSet_ne (by omega), if_neg e]
    exact hT.2.2 j (by omega)
theorem tm_app (hT : Tm w t ln) {k : Nat} {y : Int32} (hk : k < 128) (hl : ln < 60) : Tm (wSet (wSet (wSet w 204 0 y) 208 ln (nI k)) 204 7 (nI (ln + 1))) (fun j => if j = ln then k else t j) (ln + 1) := by
  refine ⟨wSet_at, by omega, fun j hj => ?_⟩
  show _ = nI (if j = ln then k else t j) ∧ (if j = ln then k else t j) < 128
  rw [wSet_th (by decide)]
  by_cases e : j = ln
  · subst e
    rw [wSet_at, if_pos rfl]
    exact ⟨rfl, hk⟩
  · rw [wSet_ne (by omega), wSet_th (by decide), if_neg e]
    exact hT.2.2 j (by omega)
theorem S_append {w : Wd} {x0 : Int32} (I : Inv w) : SH yL_append cL_append 4 [(0, 9, 12, 13), (0, 9, 15, 15)] [.ref 0, .int x0, .ref 218] yX7_append cX7_append 2 [.ref 204, .int x0] w := by
  obtain ⟨A, S, sv, lt, hs, B, t, ln, F, hC, hI⟩ := id I
  obtain ⟨hA, hD, hS, hH, hG, hT, hM⟩ := id hC
  obtain ⟨hR, hv, hW, hJ, hK, hU⟩ := id hI
  refine (Bool.eq_false_or_eq_true (decide (nI 33 ≤ x0 ∧ x0 ≤ nI 126))).elim (fun hf => ?_) (fun hf => SH.thr I (o := 1) (k := 1) rfl (by decide) (T_append_0 (K_X6_append_0 hT.1 hT.2.1 x0 hf)) (K_X7_append_0 hR hA hU.1 hU.2.1 x0 hf) ⟨by decide, by decide, by decide, by decide⟩)
  by_cases hz : ln = 60
  · exact SH.thr I (o := 2) (k := 2) rfl (by decide) (T_append_1 (K_X6_append_1 hT.1 hT.2.1 x0 hf hz)) (K_X7_append_1 hR hA hU.1 hU.2.1 x0 hf hz) ⟨by decide, by decide, by decide, by decide⟩
  have hl : ln < 60 := by
    have := hT.2.1
    omega
  have z := of_decide_eq_true hf
  have z1 := Int32.le_iff_toInt_le.mp z.1
  have z2 := Int32.le_iff_toInt_le.mp z.2
  rw [nI_toInt (by decide)] at z1 z2
  obtain ⟨k, hk, rfl⟩ := inR_of (x := x0) (N := 127) (decide_eq_true ⟨by omega, by omega⟩) (by decide)
  rw [nI_toInt (by omega)] at z1 z2
  refine ⟨0, 0, _, 6 + 1, 21 + 90, 1, 22, Nat.zero_le 1, ⟨by decide, by decide, by decide, by decide⟩, H_append (P2 := fun u w9 => u = nI (ln + 1) ∧ w9 = wSet (wSet w 2 ln (nI k)) 1 1 (nI (ln + 1))) (K_X6_append hT ⟨by omega, by omega⟩ hl) (fun r w9 h => ⟨_, h.1, rfl, h.2⟩), fun x w1 h => ?_⟩
  obtain ⟨rfl, u, w9, ⟨rfl, rfl⟩, rfl⟩ := h
  have i1 : IR (wLong (wSet (wSet w 2 ln (nI k)) 1 1 (nI (ln + 1))) 218 (nI (ln + 1)).toInt64) A S sv hs B t ln := IR.fr hI (fun a ha => (wSet_th (by omega)).trans (wSet_th (by omega)))
  refine ⟨rfl, CF.mono (K_X7_append i1.1 hA i1.2.2.2.2.2.1 hU.2.1 (nI k) hf hl) (fun r w2 h2 => ?_)⟩
  obtain ⟨rfl, rfl⟩ := h2
  refine ⟨_, rfl, rfl, fun _ => rfl, A, S, sv, lt, hs, B, _, ln + 1, F, IC.same (hC.tx (tx_app hT (by omega) hl) (fun a h1 h2 => (wSet_th h1).trans (wSet_th h2))) (fun a ha => ?_), i1.tm (tm_app i1.2.2.2.2.2 (by omega) hl) (fun a h1 h2 => ?_) rfl rfl⟩
  · exact (wSet_th (by omega)).trans ((wSet_th (by omega)).trans (wSet_th (by omega)))
  · exact (wSet_th (by omega)).trans ((wSet_th (by omega)).trans (wSet_th (by omega)))
theorem S_clearBuffer {w : Wd} (I : Inv w) : ∃ x : Int32, SV .int yX6_clearBuffer cX6_clearBuffer 2 yX7_clearBuffer cX7_clearBuffer 2 w (.int x) := by
  obtain ⟨A, S, sv, lt, hs, B, t, ln, F, hC, hI⟩ := id I
  obtain ⟨hA, hD, hS, hH, hG, hT, hM⟩ := id hC
  refine ⟨nI ln, 0, 0, 0, 0, ⟨by decide, by decide, by decide, by decide⟩, CF.mono (K_X6_clearBuffer hT) (fun r w1 h => ?_)⟩
  obtain ⟨rfl, rfl⟩ := h
  have i1 : IR (wSet w 1 1 (nI 0)) A S sv hs B t ln := IR.fr hI (fun a ha => wSet_th (by omega))
  refine ⟨rfl, CF.mono (K_X7_clearBuffer i1.2.2.2.2.2.1 hT.2.1) (fun r w2 h2 => ?_)⟩
  obtain ⟨rfl, rfl⟩ := h2
  refine ⟨rfl, A, S, sv, lt, hs, B, t, 0, F, IC.same (hC.tx (v := wSet w 1 1 (nI 0)) ⟨wSet_at, by decide, fun j hj => absurd hj (Nat.not_lt_zero j)⟩ (fun a h1 h2 => wSet_th h1)) (fun a ha => ?_), i1.tm ⟨wSet_at, by decide, fun j hj => absurd hj (Nat.not_lt_zero j)⟩ (fun a h1 h2 => ?_) rfl rfl⟩
  · exact (wSet_th (by omega)).trans (wSet_th (by omega))
  · exact (wSet_th (by omega)).trans (wSet_th (by omega))
theorem S_firstError {w : Wd} (I : Inv w) : ∃ x : Int32, SV .int yX6_firstError cX6_firstError 1 yX7_firstError cX7_firstError 2 w (.int x) := by
  obtain ⟨A, S, sv, lt, hs, B, t, ln, F, hC, hI⟩ := id I
  obtain ⟨hA, hD, hS, hH, hG, hT, hM⟩ := id hC
  refine ⟨nI (rdA t ln 60 0).2, 5, 106, 5, 106, ⟨by decide, by decide, by decide, by decide⟩, CF.mono (K_X6_firstError hT) (fun r w1 h => ?_)⟩
  obtain ⟨rfl, ho⟩ := h
  have i1 : IR w1 A S sv hs B t ln := IR.fr hI (fun a ha => ho.1 a (by omega))
  refine ⟨rfl, CF.mono (K_X7_firstError i1.2.2.2.2.2) (fun r w2 h2 => ?_)⟩
  obtain ⟨rfl, h0, h2⟩ := h2
  exact ⟨rfl, A, S, sv, lt, hs, B, t, ln, F, IC.same (hC.ot ho) (fun a ha => h2.1 a (by omega)), i1.same (fun a h1 _ => h2.1 a (by omega)) (h2.2.1 3 (by decide) (by decide)) (h2.2.1 5 (by decide) (by decide)) (h2.2.1 7 (by decide) (by decide))⟩
theorem S_obey {w : Wd} (I : Inv w) : SH yL_obey cL_obey 3 [(0, 8, 11, 13)] [.ref 0, .ref 218] yX7_obey cX7_obey 4 [.ref 204] w := by
  obtain ⟨A, S, sv, lt, hs, B, t, ln, F, hC, hI⟩ := id I
  obtain ⟨hA, hD, hS, hH, hG, hT, hM⟩ := id hC
  have hs6 := hS.1.2
  refine (Bool.eq_false_or_eq_true (rdA t ln 60 0).1).elim (fun hf => ?_) (fun hf => ?_)
  · refine ⟨0, 0, _, 6 + 1, 21 + 139, 8, 173, Nat.zero_le 1, ⟨by decide, by decide, by decide, by decide⟩, H_obey (P2 := fun u w9 => u = nI (oby t ln A).1 ∧ DR w9 3 (oby t ln A).2 ∧ SvC w9 (psh A S) (svN sv) (nxL lt) ∧ w9.1 1 1 = nI 0 ∧ FrY w w9) (K_X6_obey hD hA hS hT hf) (fun r w9 h => ⟨_, h.1, rfl, h.2⟩), fun x w1 h => ?_⟩
    obtain ⟨rfl, u, w9, ⟨rfl, q1, q2, q3, q4⟩, rfl⟩ := h
    have i1 : IR (wLong w9 218 (nI (oby t ln A).1).toInt64) A S sv hs B t ln := IR.fr hI (fun a ha => q4.1 a (by omega) (by omega) (by omega))
    refine ⟨rfl, CF.mono (K_X7_obey i1.1 hA i1.2.1 hs6 i1.2.2.2.2.2 hf) (fun r w2 h2 => ?_)⟩
    obtain ⟨rfl, g1, g2, g3, g4, g5, g6, g7, g8⟩ := h2
    have ok2 : AOK (oby t ln A).2 := run_ok 60 0 0 (a0A A) (a0_ok hA) (Nat.zero_le ln) hf
    have c9 : IC w9 (oby t ln A).2 (psh A S) (svN sv) (nxL lt) hs B t 0 F := by
      obtain ⟨c1, c2, c3, c4, c5, c6, c7⟩ := hC
      exact ⟨ok2, q1, q2, (q4.2.1 5 (by decide) (by decide)).trans c4, fun z => ⟨(c5 z).1, (c5 z).2.same (c5 z).1 (fun a h1 h2 => q4.1 a (by omega) (by omega) (by omega))⟩, ⟨q3, by decide, fun j hj => absurd hj (Nat.not_lt_zero j)⟩, c7.same (fun a h1 h2 => q4.1 a (by omega) (by omega) (by omega))⟩
    obtain ⟨r1, r2, r3, r4, r5, r6⟩ := i1
    refine ⟨_, rfl, g2, fun _ => by rw [g8]; rfl, (oby t ln A).2, psh A S, svN sv, nxL lt, hs, B, t, 0, F, c9.same (fun a ha => g6 a (by omega) (by omega) (by omega)), g1, g3, ?_, ?_, ?_, ⟨g5, by decide, fun j hj => absurd hj (Nat.not_lt_zero j)⟩⟩
    · rw [g4]
      exact svR_at hs6 r3
    · exact (g7 5 (by decide) (by decide) (by decide) (by decide)).trans r4
    · intro z j hj
      rw [g6 207 (by decide) (by decide) (by decide)]
      exact r5 z j hj
  · refine ⟨1, 1, _, 6 + 1, 21 + 139, 8, 173, Nat.le_refl 1, ⟨by decide, by decide, by decide, by decide⟩, To_obey_0 (K_X6_obey_0 hT hf), fun x w1 h => ?_⟩
    obtain ⟨rfl, ho⟩ := h
    have i1 : IR w1 A S sv hs B t ln := IR.fr hI (fun a ha => ho.1 a (by omega))
    refine ⟨rfl, CF.mono (K_X7_obey_0 i1.1 hA i1.2.1 hs6 i1.2.2.2.2.2 hf) (fun r w2 h2 => ?_)⟩
    obtain ⟨rfl, g1, g2, g3, g4⟩ := h2
    exact ⟨_, rfl, g1, fun z => absurd z (by decide), A, S, sv, lt, hs, B, t, ln, F, IC.same (hC.ot ho) (fun a ha => g2 a (by omega)), i1.same (fun a h1 _ => g2 a (by omega)) (g3 3 (by decide) (by decide)) (g3 5 (by decide) (by decide)) (g3 7 (by decide) (by decide))⟩
theorem S_keep {w : Wd} (I : Inv w) : ∃ x : Int32, SV .int yX6_keep cX6_keep 1 yX7_keep cX7_keep 2 w (.int x) := by
  obtain ⟨A, S, sv, lt, hs, B, t, ln, F, hC, hI⟩ := id I
  obtain ⟨hA, hD, hS, hH, hG, hT, hM⟩ := id hC
  refine ⟨nI (kN A), 2, 62, 0, 0, ⟨by decide, by decide, by decide, by decide⟩, CF.mono (K_X6_keep hD hA) (fun r w1 h => ?_)⟩
  obtain ⟨rfl, q1, q2, q3, q4, q5⟩ := h
  have i1 : IR w1 A S sv hs B t ln := IR.fr hI (fun a ha => q3 a (by omega) (by omega))
  have c1 : IC w1 A S sv lt true A t ln F := ⟨hA, hD.same hA (fun a h1 h2 => q3 a (by omega) (by omega)), hS.fr ⟨q4 8 (by decide), q4 7 (by decide)⟩ (fun a h1 _ => q3 a (by omega) (by omega)), q2, fun _ => ⟨hA, q1⟩, hT.same (q3 1 (by decide) (by decide)) (q3 2 (by decide) (by decide)), hM.same (fun a h1 _ => q3 a (by omega) (by omega))⟩
  refine ⟨rfl, CF.mono (K_X7_keep i1.1 hA) (fun r w2 h2 => ?_)⟩
  obtain ⟨rfl, rfl⟩ := h2
  obtain ⟨r1, r2, r3, r4, r5, r6⟩ := i1
  refine ⟨rfl, A, S, sv, lt, true, A, t, ln, F, c1.same (fun a ha => ?_), r1, r2, r3, rfl, fun _ j hj => ?_, r6.same rfl rfl⟩
  · rw [wSet_th (by omega), wRow_ne (by omega), wSet_th (by omega)]
  · rw [wSet_th (by decide), wRow_at]
    exact cyK_lo 112 hj
theorem S_goBack {w : Wd} (I : Inv w) : SH yL_goBack cL_goBack 3 [(0, 8, 11, 15)] [.ref 0, .ref 218] yX7_goBack cX7_goBack 2 [.ref 204] w := by
  obtain ⟨A, S, sv, lt, hs, B, t, ln, F, hC, hI⟩ := id I
  obtain ⟨hA, hD, hS, hH, hG, hT, hM⟩ := id hC
  obtain ⟨hR, hv, hW, hJ, hK, hU⟩ := id hI
  have hs6 := hS.1.2
  cases hs with
  | false => exact SH.thr I (o := 1) (k := 1) rfl (by decide) (T_goBack_0 (K_X6_goBack_0 hH)) (K_X7_goBack_0 hR hA hv hs6 hJ) ⟨by decide, by decide, by decide, by decide⟩
  | true =>
    obtain ⟨hB, hE⟩ := hG rfl
    refine ⟨0, 0, _, 6 + 1, 20 + 90, 1, 21, Nat.zero_le 1, ⟨by decide, by decide, by decide, by decide⟩, H_goBack (P2 := fun u w9 => u = nI (kN B) ∧ DR w9 3 B ∧ SvC w9 (psh A S) (svN sv) (nxL lt) ∧ FrS w w9) (K_X6_goBack hD hA hS hB hH hE) (fun r w9 h => ⟨_, h.1, rfl, h.2⟩), fun x w1 h => ?_⟩
    obtain ⟨rfl, u, w9, ⟨rfl, q1, q2, q3⟩, rfl⟩ := h
    have i1 : IR (wLong w9 218 (nI (kN B)).toInt64) A S sv true B t ln := IR.fr hI (fun a ha => q3.1 a (by omega) (by omega))
    refine ⟨rfl, CF.mono (K_X7_goBack i1.1 hA i1.2.1 hs6 i1.2.2.2.1) (fun r w2 h2 => ?_)⟩
    obtain ⟨rfl, rfl⟩ := h2
    have e9 : ∀ i, i < 112 → cyK A ((wLong w9 218 (nI (kN B)).toInt64).1 207) 112 i = B i := fun i hi => (cyK_lo 112 hi).trans (i1.2.2.2.2.1 rfl i hi)
    have e0 : (wLong w9 218 (nI (kN B)).toInt64).1 207 0 = nI (kN B) := (i1.2.2.2.2.1 rfl 0 (by decide)).trans hB.n
    refine ⟨_, rfl, rfl, fun _ => ?_, Inv.chg hC hI (hB.ext e9) (q1.ext hB e9) q2 q3⟩
    rw [e0]
    rfl
theorem S_undo {w : Wd} (I : Inv w) : SH yL_undo cL_undo 3 [(0, 8, 11, 15)] [.ref 0, .ref 218] yX7_undo cX7_undo 2 [.ref 204] w := by
  obtain ⟨A, S, sv, lt, hs, B, t, ln, F, hC, hI⟩ := id I
  obtain ⟨hA, hD, hS, hH, hG, hT, hM⟩ := id hC
  obtain ⟨hR, hv, hW, hJ, hK, hU⟩ := id hI
  have hs6 := hS.1.2
  by_cases hz : sv = 0
  · exact SH.thr I (o := 1) (k := 1) rfl (by decide) (T_undo_0 (K_X6_undo_0 hS.1.1 hs6 hz)) (K_X7_undo_0 hR hA hv hs6 hz) ⟨by decide, by decide, by decide, by decide⟩
  have hp : 0 < sv := Nat.pos_of_ne_zero hz
  refine ⟨0, 0, _, 6 + 1, 20 + 90, 1, 21, Nat.zero_le 1, ⟨by decide, by decide, by decide, by decide⟩, H_undo (P2 := fun u w9 => u = nI (sv - 1) ∧ DR w9 3 (S 0) ∧ SvC w9 (fun q => S (q + 1)) (sv - 1) (prL lt) ∧ FrS w w9) (K_X6_undo hD hA hS hp) (fun r w9 h => ⟨_, h.1, rfl, h.2⟩), fun x w1 h => ?_⟩
  obtain ⟨rfl, u, w9, ⟨rfl, q1, q2, q3⟩, rfl⟩ := h
  have i1 : IR (wLong w9 218 (nI (sv - 1)).toInt64) A S sv hs B t ln := IR.fr hI (fun a ha => q3.1 a (by omega) (by omega))
  refine ⟨rfl, CF.mono (K_X7_undo i1.1 hA i1.2.1 hs6 hz) (fun r w2 h2 => ?_)⟩
  obtain ⟨rfl, rfl⟩ := h2
  obtain ⟨r1, r2, r3, r4, r5, r6⟩ := i1
  have hB : AOK (S 0) := (hS.2.2 0 hp).1
  have e9 : ∀ i, i < 112 → cyK A (fun j => (wLong w9 218 (nI (sv - 1)).toInt64).1 206 ((sv - 1) * 112 + j)) 112 i = S 0 i := fun i hi => (cyK_lo 112 hi).trans (r3 0 hp i hi)
  have c9 : IC w9 (cyK A (fun j => (wLong w9 218 (nI (sv - 1)).toInt64).1 206 ((sv - 1) * 112 + j)) 112) (fun q => S (q + 1)) (sv - 1) (prL lt) hs B t ln F := by
    obtain ⟨c1, c2, c3, c4, c5, c6, c7⟩ := hC
    exact ⟨hB.ext e9, q1.ext hB e9, q2, (q3.2.1 5 (by decide) (by decide)).trans c4, fun z => ⟨(c5 z).1, (c5 z).2.same (c5 z).1 (fun a h1 h2 => q3.1 a (by omega) (by omega))⟩, c6.same (q3.1 1 (by decide) (by decide)) (q3.1 2 (by decide) (by decide)), c7.same (fun a h1 h2 => q3.1 a (by omega) (by omega))⟩
  refine ⟨_, rfl, rfl, fun _ => rfl, _, fun q => S (q + 1), sv - 1, prL lt, hs, B, t, ln, F, c9.same (fun a ha => ?_), wRow_at, rfl, fun q hq j hj => ?_, r4, r5, r6.same rfl rfl⟩
  · rw [wRow_ne (by omega), wSet_th (by omega), wSet_th (by omega)]
    rfl
  · rw [wRow_ne (by decide), wSet_th (by decide), wSet_th (by decide), show sv - 1 - 1 - q = sv - 1 - (q + 1) by omega]
    exact r3 (q + 1) (by omega) j hj
theorem S_most {w : Wd} {x0 : Int32} (I : Inv w) : SH yL_most cL_most 4 [(0, 9, 12, 13)] [.ref 0, .int x0, .ref 218] yX7_most cX7_most 2 [.ref 204, .int x0] w := by
  obtain ⟨A, S, sv, lt, hs, B, t, ln, F, hC, hI⟩ := id I
  obtain ⟨hA, hD, hS, hH, hG, hT, hM⟩ := id hC
  obtain ⟨hR, hv, hW, hJ, hK, hU⟩ := id hI
  refine (Bool.eq_false_or_eq_true (inR x0 2)).elim (fun hf => ?_) (fun hf => SH.thr I (o := 1) (k := 1) rfl (by decide) (T_most_0 (K_X6_most_0 x0 hf)) (K_X7_most_0 hR hA x0 hf) ⟨by decide, by decide, by decide, by decide⟩)
  obtain ⟨j, hj, rfl⟩ := inR_of hf (by decide)
  refine ⟨0, 0, _, 6 + 1, 21 + 117, 9, 198, Nat.zero_le 1, ⟨by decide, by decide, by decide, by decide⟩, H_most (P2 := fun u w9 => u = nI (mstA A j) ∧ Mo w9 (fS A) ∧ Frm [55, 56, 57, 58, 59, 60, 61, 62, 63, 64, 65] w w9) (K_X6_most hD hA hM hj) (fun r w9 h => ⟨_, h.1, rfl, h.2⟩), fun x w1 h => ?_⟩
  obtain ⟨rfl, u, w9, ⟨rfl, q1, q2⟩, rfl⟩ := h
  have i1 : IR (wLong w9 218 (nI (mstA A j)).toInt64) A S sv hs B t ln := IR.fr hI (fun a ha => q2.1 a (not_r6 ha))
  refine ⟨rfl, CF.mono (K_X7_most i1.1 hA hj) (fun r w2 h2 => ?_)⟩
  obtain ⟨rfl, g1, g2, g3⟩ := h2
  exact ⟨_, rfl, g1, fun _ => by rw [g3.2]; rfl, A, S, sv, lt, hs, B, t, ln, fS A, IC.same (hC.mo q1 q2) (fun a ha => g3.1 a (not_r7 ha)), i1.mo g2 g3.1⟩
theorem S_pick {w : Wd} {x0 : Int32} (I : Inv w) : SH yL_pick cL_pick 4 [(0, 9, 12, 20)] [.ref 0, .int x0, .ref 218] yX7_pick cX7_pick 2 [.ref 204, .int x0] w := by
  obtain ⟨A, S, sv, lt, hs, B, t, ln, F, hC, hI⟩ := id I
  obtain ⟨hA, hD, hS, hH, hG, hT, hM⟩ := id hC
  obtain ⟨hR, hv, hW, hJ, hK, hU⟩ := id hI
  by_cases h0 : x0 < 0
  · have hf : ¬ 0 ≤ x0 := fun z => by
      have y1 := Int32.lt_iff_toInt_lt.mp h0
      have y2 := Int32.le_iff_toInt_le.mp z
      omega
    exact SH.thr I (o := 1) (k := 1) rfl (by decide) (T_pick_0 (K_X6_pick_0 x0 hf)) (K_X7_pick_0 hR hA x0 h0) ⟨by decide, by decide, by decide, by decide⟩
  refine ⟨0, 0, _, 6 + 1, 21 + 117, 9, 198, Nat.zero_le 1, ⟨by decide, by decide, by decide, by decide⟩, H_pick (P2 := fun u w9 => u = pckA A x0 ∧ Mo w9 (fS A) ∧ Frm [55, 56, 57, 58, 59, 60, 61, 62, 63, 64, 65] w w9) (K_X6_pick hD hA hM x0 h0) (fun r w9 h => ⟨_, h.1, rfl, h.2⟩), fun x w1 h => ?_⟩
  obtain ⟨rfl, u, w9, ⟨rfl, q1, q2⟩, rfl⟩ := h
  have i1 : IR (wLong w9 218 (pckA A x0).toInt64) A S sv hs B t ln := IR.fr hI (fun a ha => q2.1 a (not_r6 ha))
  refine ⟨rfl, CF.mono (K_X7_pick i1.1 hA x0 h0) (fun r w2 h2 => ?_)⟩
  obtain ⟨rfl, g1, g2, g3⟩ := h2
  exact ⟨_, rfl, g1, fun _ => by rw [g3.2]; rfl, A, S, sv, lt, hs, B, t, ln, fS A, IC.same (hC.mo q1 q2) (fun a ha => g3.1 a (not_r7 ha)), i1.mo g2 g3.1⟩
theorem S_freeShare {w : Wd} (I : Inv w) : ∃ x : UInt64, SV .double yX6_freeShare cX6_freeShare 2 yX7_freeShare cX7_freeShare 1 w (.double x) := by
  obtain ⟨A, S, sv, lt, hs, B, t, ln, F, hC, hI⟩ := id I
  obtain ⟨hA, hD, hS, hH, hG, hT, hM⟩ := id hC
  refine ⟨FP.ddiv (FP.i2d (nI (cdsA A true))) (FP.i2d (nI (cdsA A false))), 4, 93, 7, 155, ⟨by decide, by decide, by decide, by decide⟩, CF.mono (K_X6_freeShare hD hA) (fun r w1 h => ?_)⟩
  obtain ⟨rfl, rfl⟩ := h
  refine ⟨rfl, CF.mono (K_X7_freeShare hI.1 hA) (fun r w2 h2 => ?_)⟩
  obtain ⟨rfl, rfl⟩ := h2
  exact ⟨rfl, I.note⟩
set_option maxRecDepth 100000 in
theorem f2d_all : (List.range 97).all (fun a => (List.range 12).all fun b => n64 (FP.f2d (FP.fdiv (FP.i2f (nI a)) (FP.i2f (nI (b + 1)))))) = true := by decide +kernel
theorem f2d_mn (hA : AOK A) : vf_n64 (FP.f2d (mnA A)) := by
  unfold mnA
  by_cases h : kN A = 0
  · rw [if_pos h]
    exact n64_of (by decide +kernel)
  · rw [if_neg h]
    have zq_0 := hA.n12
    have zq_1 : lvsA A ≤ 8 * kN A := sumN_le (fun k => lvN_le _) _
    have zq_4 := List.all_eq_true.mp f2d_all (lvsA A) (List.mem_range.mpr (by omega))
    have zq_5 := List.all_eq_true.mp zq_4 (kN A - 1) (List.mem_range.mpr (by omega))
    rw [show kN A - 1 + 1 = kN A by omega] at zq_5
    exact n64_of zq_5
theorem S_meanLevel {w : Wd} (I : Inv w) : ∃ x : UInt32, vf_n64 (FP.f2d x) ∧ SV .float yX6_meanLevel cX6_meanLevel 3 yX7_meanLevel cX7_meanLevel 1 w (.float x) := by
  obtain ⟨A, S, sv, lt, hs, B, t, ln, F, hC, hI⟩ := id I
  obtain ⟨hA, hD, hS, hH, hG, hT, hM⟩ := id hC
  refine ⟨mnA A, f2d_mn hA, 0, 0, 2, 44, ⟨by decide, by decide, by decide, by decide⟩, CF.mono (K_X6_meanLevel hD hA) (fun r w1 h => ?_)⟩
  obtain ⟨rfl, rfl⟩ := h
  refine ⟨rfl, CF.mono (K_X7_meanLevel hI.1 hA) (fun r w2 h2 => ?_)⟩
  obtain ⟨rfl, rfl⟩ := h2
  exact ⟨rfl, I.note⟩
theorem S_digest {w : Wd} (I : Inv w) : ∃ x : Int64, SV .long yX6_digest cX6_digest 4 yX7_digest cX7_digest 2 w (.long x) := by
  obtain ⟨A, S, sv, lt, hs, B, t, ln, F, hC, hI⟩ := id I
  obtain ⟨hA, hD, hS, hH, hG, hT, hM⟩ := id hC
  refine ⟨dgA A (w.1 0 8) hs t ln, 8, 142, 9, 198, ⟨by decide, by decide, by decide, by decide⟩, CF.mono (K_X6_digest hD hA hM hH hT) (fun r w1 h => ?_)⟩
  obtain ⟨rfl, q1, q2⟩ := h
  have i1 : IR w1 A S sv hs B t ln := IR.fr hI (fun a ha => q2.1 a (not_r6 ha))
  refine ⟨rfl, CF.mono (K_X7_digest i1.1 hA i1.2.1 i1.2.2.2.1 i1.2.2.2.2.2) (fun r w2 h2 => ?_)⟩
  obtain ⟨rfl, g1, g2⟩ := h2
  refine ⟨by rw [hS.1.1], A, S, sv, lt, hs, B, t, ln, fS A, IC.same (hC.mo q1 q2) (fun a ha => g2.2.1 a (not_r7 ha)), i1.mo g2.1 g2.2.1⟩
end A58

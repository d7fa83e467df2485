section A26
def FrS (w w' : Wd) : Prop := (∀ a, ¬ a = 0 → (a < 3 ∨ (26 ≤ a ∧ a < 66) ∨ 204 ≤ a) → w'.1 a = w.1 a) ∧ (∀ j, ¬ j = 7 → ¬ j = 8 → w'.1 0 j = w.1 0 j) ∧ w'.2 = w.2
theorem SvC.fr {w w' : Wd} {S : Nat → St} {sv lt : Nat} (h : SvC w S sv lt) (h0 : w'.1 0 8 = w.1 0 8 ∧ w'.1 0 7 = w.1 0 7) (hw : ∀ a, 66 ≤ a → a < 204 → w'.1 a = w.1 a) : SvC w' S sv lt := by
  refine ⟨⟨h0.1.trans h.1.1, h.1.2⟩, ⟨h0.2.trans h.2.1.1, h.2.1.2⟩, fun q hq => ?_⟩
  obtain ⟨z1, z2⟩ := h.2.2 q hq
  exact ⟨z1, z2.same z1 (fun a h1 h2 => hw a (by omega) (by omega))⟩
theorem FrV.D {w w' : Wd} {A : St} (h : FrV w w') (hD : DR w 3 A) (hA : AOK A) : DR w' 3 A := hD.same hA (fun a h1 h2 => h.1 a (by omega) (by omega))
/-- a change made, behind a save -/
def PW (w : Wd) (A : St) (S : Nat → St) (sv lt : Nat) (A' : St) (v : Value) : Option Value → Wd → Prop := fun r w' => r = some v ∧ DR w' 3 A' ∧ SvC w' (psh A S) (svN sv) (nxL lt) ∧ FrS w w'
theorem PW.of {w z w' : Wd} {A A' : St} {S : Nat → St} {sv lt : Nat} {v : Value} (hS : SvC z (psh A S) (svN sv) (nxL lt)) (hV : FrV w z) (hD : DR w' 3 A') (hF : Fr z w') : PW w A S sv lt A' v (some v) w' :=
  ⟨rfl, hD, hS.fr ⟨by rw [hF.1 0 (by omega)], by rw [hF.1 0 (by omega)]⟩ (fun a h1 _ => hF.1 a (by omega)), fun a a0 ha => (hF.1 a (by omega)).trans (hV.1 a a0 (by omega)), fun j j7 j8 => by rw [hF.1 0 (by omega)]; exact hV.2.1 j j7 j8, hF.2.trans hV.2.2⟩
theorem cN_k {A : St} {i : Nat} {x : Int32} {k : Nat} (h : ¬ i = 40 + 6 * k + 0) : cN (upd A i x) k = cN A k := by
  unfold cN
  rw [upd_ne (fun z => h z.symm)]
set_option maxRecDepth 20000 in
set_option maxHeartbeats 4000000 in
theorem K_X6_cut {w : Wd} {A : St} {S : Nat → St} {sv lt : Nat} (hD : DR w 3 A) (hA : AOK A) (hS : SvC w S sv lt) {c q : Nat} (hc : c < 81) (hq : q < 4) (hz : wncA A c = 0) : CF yX6_cut cX6_cut 3 (some .int) 6 90 [.ref 0, .int (nI c), .int (nI q)] w (PW w A S sv lt (cutA A c q) (.int (nI (kN A)))) := by
  have zq_n := hA.n12
  have zf0 : inR (nI c) 81 = true := ((inR_nI (by omega)).trans (decide_eq_true (by omega)))
  have zf1 : inR (nI q) 4 = true := ((inR_nI (by omega)).trans (decide_eq_true (by omega)))
  have hn := wnc_n hA hz
  refine CF.of ok_X6_cut (Nat.le_of_ble_eq_true rfl) (fun ex us G9 p9 l9 e9 s9 m9 ar9 be9 me9 co9 C hr => ?_)
  refine a_iload_n C dX6_cut_0 rfl rfl ?_
  refine p_callS C ((K_X6_isCode _)).cp sX6_50 rfl dX6_cut_1 (Nat.le_of_ble_eq_true rfl) ⟨by decide, by decide⟩ ?_
  refine b_if_eq (tgt := 14) C dX6_cut_4 (by decide) (fun h_4 => ?_) (fun h_4 => ?_)
  · exact absurd (h_4.symm.trans zf0) (by decide)
  · refine a_iload_n C dX6_cut_7 rfl rfl ?_
    refine p_callS C ((K_X6_isPerson _)).cp sX6_54 rfl dX6_cut_8 (Nat.le_of_ble_eq_true rfl) ⟨by decide, by decide⟩ ?_
    refine b_if_ne (tgt := 24) C dX6_cut_11 (by decide) (fun h_11 => ?_) (fun h_11 => ?_)
    · refine a_aload_n C dX6_cut_24 rfl rfl ?_
      refine a_iload_n C dX6_cut_25 rfl rfl ?_
      refine p_callV C (K_X6_reasonAgainstCut hD hA (by first | assumption | decide | omega)) vX6_64 rfl (by first | decide | omega) rfl rfl dX6_cut_26 (Nat.le_of_ble_eq_true rfl) ⟨by decide, by decide⟩ ?_
      refine n_if_eq (tgt := 42) C dX6_cut_29 (by decide) (wnc_lt A c)  (fun h_29 => ?_) (fun h_29 => ?_)
      · refine a_aload_n C dX6_cut_42 rfl rfl ?_
        refine f_callV C _ _ (K_X6_save hD hA hS) vX6_73 (by first | decide | omega) rfl rfl dX6_cut_43 rfl (Nat.le_of_ble_eq_true rfl) ⟨by decide, by decide⟩ (fun zr43 zw43 zp43 => ?_)
        obtain ⟨rfl, zq_S, zq_V⟩ := zp43
        have hD := zq_V.D hD hA
        have hN := hD.dn
        refine a_aload_n C dX6_cut_46 rfl rfl ?_
        refine a_iload_n C dX6_cut_47 rfl rfl ?_
        refine a_iload_n C dX6_cut_48 rfl rfl ?_
        refine f_callV C _ _ (K_X6_addKey hD hA hn hc hq) vX6_76 (by first | decide | omega) rfl rfl dX6_cut_49 rfl (Nat.le_of_ble_eq_true rfl) ⟨by decide, by decide⟩ (fun zr49 zw49 zp49 => ?_)
        obtain ⟨rfl, zq_D, zq_F⟩ := zp49
        refine a_aload_n C dX6_cut_52 rfl rfl ?_
        refine a_getfF C fX6_19 dX6_cut_53 (tw (by first | decide | omega)) (by first | decide | omega) rfl rfl ?_
        refine a_getf C fX6_80 dX6_cut_56 (tw (by first | decide | omega)) (by first | decide | omega) rfl (gl (zq_D.1.trans (show cutA A c q 0 = nI (kN A + 1) from by unfold cutA; rw [upd_ne (by omega), upd_at]))) ?_
        refine a_iconst (v := nI 1) C dX6_cut_59 (by decide) ?_
        refine n_isub C dX6_cut_60 (by omega) ?_
        refine f_iret C hr ?_ dX6_cut_61 ?_
        · rfl
        · exact PW.of zq_S zq_V zq_D zq_F
      · exact absurd hz h_29
    · exact absurd (h_11.symm.trans zf1) (by decide)

set_option maxRecDepth 20000 in
set_option maxHeartbeats 4000000 in
theorem K_X6_deepen {w : Wd} {A : St} {S : Nat → St} {sv lt : Nat} (hD : DR w 3 A) (hA : AOK A) (hS : SvC w S sv lt) {k j : Nat} (hk : k < kN A) (hj : j < 4) (hz : wndA A k j = 0) : CF yX6_deepen cX6_deepen 3 (some .int) 6 90 [.ref 0, .int (nI k), .int (nI j)] w (PW w A S sv lt (deeA A k j) (.int (nI (cN A k + wtN j)))) := by
  have zq_n := hA.n12
  have zf0 : inR (nI k) (kN A) = true := ((inR_nI (by omega)).trans (decide_eq_true (by omega)))
  have zf1 : inR (nI j) 4 = true := ((inR_nI (by omega)).trans (decide_eq_true (by omega)))
  refine CF.of ok_X6_deepen (Nat.le_of_ble_eq_true rfl) (fun ex us G9 p9 l9 e9 s9 m9 ar9 be9 me9 co9 C hr => ?_)
  refine a_aload_n C dX6_deepen_0 rfl rfl ?_
  refine a_iload_n C dX6_deepen_1 rfl rfl ?_
  refine p_callV C (K_X6_isKey hD hA _) vX6_83 rfl (by first | decide | omega) rfl rfl dX6_deepen_2 (Nat.le_of_ble_eq_true rfl) ⟨by decide, by decide⟩ ?_
  refine b_if_eq (tgt := 15) C dX6_deepen_5 (by decide) (fun h_5 => ?_) (fun h_5 => ?_)
  · exact absurd (h_5.symm.trans zf0) (by decide)
  · refine a_iload_n C dX6_deepen_8 rfl rfl ?_
    refine p_callS C ((K_X6_isNotch _)).cp sX6_86 rfl dX6_deepen_9 (Nat.le_of_ble_eq_true rfl) ⟨by decide, by decide⟩ ?_
    refine b_if_ne (tgt := 25) C dX6_deepen_12 (by decide) (fun h_12 => ?_) (fun h_12 => ?_)
    · refine a_aload_n C dX6_deepen_25 rfl rfl ?_
      refine a_iload_n C dX6_deepen_26 rfl rfl ?_
      refine a_iload_n C dX6_deepen_27 rfl rfl ?_
      refine p_callV C (K_X6_reasonAgainstDeeper hD hA (by first | assumption | decide | omega) (by first | assumption | decide | omega)) vX6_94 rfl (by first | decide | omega) rfl rfl dX6_deepen_28 (Nat.le_of_ble_eq_true rfl) ⟨by decide, by decide⟩ ?_
      refine n_if_eq (tgt := 44) C dX6_deepen_31 (by decide) (wnd_lt A k j)  (fun h_31 => ?_) (fun h_31 => ?_)
      · refine a_aload_n C dX6_deepen_44 rfl rfl ?_
        refine f_callV C _ _ (K_X6_save hD hA hS) vX6_73 (by first | decide | omega) rfl rfl dX6_deepen_45 rfl (Nat.le_of_ble_eq_true rfl) ⟨by decide, by decide⟩ (fun zr45 zw45 zp45 => ?_)
        obtain ⟨rfl, zq_S, zq_V⟩ := zp45
        have hD := zq_V.D hD hA
        have hN := hD.dn
        refine a_aload_n C dX6_deepen_48 rfl rfl ?_
        refine a_iload_n C dX6_deepen_49 rfl rfl ?_
        refine a_iload_n C dX6_deepen_50 rfl rfl ?_
        refine f_callV C _ _ (K_X6_cutDeeper hD hA hk hj) vX6_100 (by first | decide | omega) rfl rfl dX6_deepen_51 rfl (Nat.le_of_ble_eq_true rfl) ⟨by decide, by decide⟩ (fun zr51 zw51 zp51 => ?_)
        obtain ⟨rfl, zq_D, zq_F⟩ := zp51
        refine a_aload_n C dX6_deepen_54 rfl rfl ?_
        refine a_getfF C fX6_19 dX6_deepen_55 (tw (by first | decide | omega)) (by first | decide | omega) rfl rfl ?_
        refine a_getfF C fX6_103 dX6_deepen_58 (tw (by first | decide | omega)) (by first | decide | omega) rfl rfl ?_
        refine a_iload_n C dX6_deepen_61 rfl rfl ?_
        refine a_aaldK C dX6_deepen_62 (tw (by first | decide | omega)) (by first | decide | omega) rfl rfl (by first | decide | omega) (by decide) rfl ?_
        refine a_getf C fX6_107 dX6_deepen_63 (tw (by first | decide | omega)) (by first | decide | omega) (fz_key (j := 0) (by decide) (by omega)) (gl ((zq_D.2.1 k (by rw [dee_kN]; exact hk)).1.trans (show deeA A k j (40 + 6 * k + 0) = nI (cN A k + wtN j) from by unfold deeA; rw [upd_ne (by omega), upd_at]))) ?_
        refine f_iret C hr ?_ dX6_deepen_66 ?_
        · rfl
        · exact PW.of zq_S zq_V zq_D zq_F
      · exact absurd hz h_31
    · exact absurd (h_12.symm.trans zf1) (by decide)

set_option maxRecDepth 20000 in
set_option maxHeartbeats 4000000 in
theorem K_X6_give {w : Wd} {A : St} {S : Nat → St} {sv lt : Nat} (hD : DR w 3 A) (hA : AOK A) (hS : SvC w S sv lt) {k q : Nat} (hk : k < kN A) (hq : q < 4) : CF yX6_give cX6_give 5 (some .int) 6 90 [.ref 0, .int (nI k), .int (nI q)] w (PW w A S sv lt (givA A k q) (.int (nI (oN A k)))) := by
  have zq_n := hA.n12
  have zf0 : inR (nI k) (kN A) = true := ((inR_nI (by omega)).trans (decide_eq_true (by omega)))
  have zf1 : inR (nI q) 4 = true := ((inR_nI (by omega)).trans (decide_eq_true (by omega)))
  refine CF.of ok_X6_give (Nat.le_of_ble_eq_true rfl) (fun ex us G9 p9 l9 e9 s9 m9 ar9 be9 me9 co9 C hr => ?_)
  refine a_pad 2 ?_
  refine a_eq (L' := [some (.ref 0), some (.int (nI k)), some (.int (nI q)), none, none]) rfl rfl rfl ?_
  refine a_aload_n C dX6_give_0 rfl rfl ?_
  refine a_iload_n C dX6_give_1 rfl rfl ?_
  refine p_callV C (K_X6_isKey hD hA _) vX6_83 rfl (by first | decide | omega) rfl rfl dX6_give_2 (Nat.le_of_ble_eq_true rfl) ⟨by decide, by decide⟩ ?_
  refine b_if_ne (tgt := 18) C dX6_give_5 (by decide) (fun h_5 => ?_) (fun h_5 => ?_)
  · refine a_iload_n C dX6_give_18 rfl rfl ?_
    refine p_callS C ((K_X6_isPerson _)).cp sX6_54 rfl dX6_give_19 (Nat.le_of_ble_eq_true rfl) ⟨by decide, by decide⟩ ?_
    refine b_if_ne (tgt := 35) C dX6_give_22 (by decide) (fun h_22 => ?_) (fun h_22 => ?_)
    · refine a_aload_n C dX6_give_35 rfl rfl ?_
      refine f_callV C _ _ (K_X6_save hD hA hS) vX6_73 (by first | decide | omega) rfl rfl dX6_give_36 rfl (Nat.le_of_ble_eq_true rfl) ⟨by decide, by decide⟩ (fun zr36 zw36 zp36 => ?_)
      obtain ⟨rfl, zq_S, zq_V⟩ := zp36
      have hD := zq_V.D hD hA
      have hN := hD.dn
      refine a_aload_n C dX6_give_39 rfl rfl ?_
      refine a_getfF C fX6_19 dX6_give_40 (tw (by first | decide | omega)) (by first | decide | omega) rfl rfl ?_
      refine a_getfF C fX6_103 dX6_give_43 (tw (by first | decide | omega)) (by first | decide | omega) rfl rfl ?_
      refine a_iload_n C dX6_give_46 rfl rfl ?_
      refine a_aaldK C dX6_give_47 (tw (by first | decide | omega)) (by first | decide | omega) rfl rfl (by first | decide | omega) (by decide) rfl ?_
      refine a_astore_n C dX6_give_48 rfl (by decide) ?_
      refine a_aload_n C dX6_give_49 rfl rfl ?_
      refine a_getf C fX6_123 dX6_give_50 (tw (by first | decide | omega)) (by first | decide | omega) (fz_key (j := 0) (by decide) (by omega)) (gl (DR_ko hD hA (by omega))) ?_
      refine a_istore C dX6_give_53 (by decide) ?_
      refine a_aload_n C dX6_give_55 rfl rfl ?_
      refine a_iload_n C dX6_give_56 rfl rfl ?_
      refine f_putf C fX6_123 dX6_give_57 (by first | decide | omega) (fz_key (j := 0) (by decide) (by omega)) rfl rfl (Nat.le_of_ble_eq_true rfl) (fzc_key (j := 0) (by decide) (by omega) _ _) ?_
      refine a_dnK (k := k) (j := 1) hN zq_n (by omega) (by decide) (fun hN => ?_)
      refine a_iload C dX6_give_60 rfl ?_
      refine f_iret C hr ?_ dX6_give_62 ?_
      · rfl
      · exact PW.of zq_S zq_V (hN.dr (kN_upd (by omega))) (by repeat' (first | exact Fr_refl | (refine Fr_set (by omega) ?_) | (refine Fr_row (by omega) ?_)))
    · exact absurd (h_22.symm.trans zf1) (by decide)
  · exact absurd (h_5.symm.trans zf0) (by decide)

set_option maxRecDepth 20000 in
set_option maxHeartbeats 4000000 in
theorem K_X6_lose {w : Wd} {A : St} {S : Nat → St} {sv lt : Nat} (hD : DR w 3 A) (hA : AOK A) (hS : SvC w S sv lt) {k : Nat} (hk : k < kN A) (zf1 : lsA A k = false) : CF yX6_lose cX6_lose 2 (some .int) 6 90 [.ref 0, .int (nI k)] w (PW w A S sv lt (losA A k true) (.int (nI (onesN (lksA A (cN A k)))))) := by
  have zq_n := hA.n12
  have zf0 : inR (nI k) (kN A) = true := ((inR_nI (by omega)).trans (decide_eq_true (by omega)))
  refine CF.of ok_X6_lose (Nat.le_of_ble_eq_true rfl) (fun ex us G9 p9 l9 e9 s9 m9 ar9 be9 me9 co9 C hr => ?_)
  refine a_aload_n C dX6_lose_0 rfl rfl ?_
  refine a_iload_n C dX6_lose_1 rfl rfl ?_
  refine p_callV C (K_X6_isKey hD hA _) vX6_83 rfl (by first | decide | omega) rfl rfl dX6_lose_2 (Nat.le_of_ble_eq_true rfl) ⟨by decide, by decide⟩ ?_
  refine b_if_ne (tgt := 18) C dX6_lose_5 (by decide) (fun h_5 => ?_) (fun h_5 => ?_)
  · refine a_aload_n C dX6_lose_18 rfl rfl ?_
    refine a_getfF C fX6_19 dX6_lose_19 (tw (by first | decide | omega)) (by first | decide | omega) rfl rfl ?_
    refine a_getfF C fX6_103 dX6_lose_22 (tw (by first | decide | omega)) (by first | decide | omega) rfl rfl ?_
    refine a_iload_n C dX6_lose_25 rfl rfl ?_
    refine a_aaldK C dX6_lose_26 (tw (by first | decide | omega)) (by first | decide | omega) rfl rfl (by first | decide | omega) (by decide) rfl ?_
    refine a_getf C fX6_126 dX6_lose_27 (tw (by first | decide | omega)) (by first | decide | omega) (fz_key (j := 0) (by decide) (by omega)) (gl (DR_kl hD hA (by omega))) ?_
    refine b_if_eq (tgt := 43) C dX6_lose_30 (by decide) (fun h_30 => ?_) (fun h_30 => ?_)
    · refine a_aload_n C dX6_lose_43 rfl rfl ?_
      refine f_callV C _ _ (K_X6_save hD hA hS) vX6_73 (by first | decide | omega) rfl rfl dX6_lose_44 rfl (Nat.le_of_ble_eq_true rfl) ⟨by decide, by decide⟩ (fun zr44 zw44 zp44 => ?_)
      obtain ⟨rfl, zq_S, zq_V⟩ := zp44
      have hD := zq_V.D hD hA
      have hN := hD.dn
      refine a_aload_n C dX6_lose_47 rfl rfl ?_
      refine a_getfF C fX6_19 dX6_lose_48 (tw (by first | decide | omega)) (by first | decide | omega) rfl rfl ?_
      refine a_getfF C fX6_103 dX6_lose_51 (tw (by first | decide | omega)) (by first | decide | omega) rfl rfl ?_
      refine a_iload_n C dX6_lose_54 rfl rfl ?_
      refine a_aaldK C dX6_lose_55 (tw (by first | decide | omega)) (by first | decide | omega) rfl rfl (by first | decide | omega) (by decide) rfl ?_
      refine a_iconst (v := nI 1) C dX6_lose_56 (by decide) ?_
      refine f_putf C fX6_126 dX6_lose_57 (by first | decide | omega) (fz_key (j := 0) (by decide) (by omega)) rfl rfl (Nat.le_of_ble_eq_true rfl) (fzc_key (j := 0) (by decide) (by omega) _ _) ?_
      refine a_dnK (k := k) (j := 2) hN zq_n (by omega) (by decide) (fun hN => ?_)
      have hD2 : DR _ 3 (losA A k true) := hN.dr (kN_upd (by omega))
      refine a_aload_n C dX6_lose_60 rfl rfl ?_
      refine a_iload_n C dX6_lose_61 rfl rfl ?_
      refine p_callV C (K_X6_locksOpenedBy hD2 (losA_ok hA k true) (show k < kN (losA A k true) from by rw [losA, kN_upd (by omega)]; exact hk)) vX6_132 rfl (by first | decide | omega) rfl rfl dX6_lose_62 (Nat.le_of_ble_eq_true rfl) ⟨by decide, by decide⟩ ?_
      refine a_eq (st' := [.int (nI (lksA A (cN A k)))]) rfl (by rw [losA, lks_k (by omega), cN_k (by omega)]; rfl) rfl ?_
      refine p_callS C ((K_bitCount (Nat.lt_trans (lks_lt A (cN A k)) (by decide)))).cp sX6_135 rfl dX6_lose_65 (Nat.le_of_ble_eq_true rfl) ⟨by decide, by decide⟩ ?_
      refine f_iret C hr ?_ dX6_lose_68 ?_
      · rfl
      · exact PW.of zq_S zq_V hD2 (by repeat' (first | exact Fr_refl | (refine Fr_set (by omega) ?_) | (refine Fr_row (by omega) ?_)))
    · exact absurd (h_30.symm.trans zf1) (by decide)
  · exact absurd (h_5.symm.trans zf0) (by decide)

set_option maxRecDepth 20000 in
set_option maxHeartbeats 4000000 in
theorem K_X6_find {w : Wd} {A : St} {S : Nat → St} {sv lt : Nat} (hD : DR w 3 A) (hA : AOK A) (hS : SvC w S sv lt) {k : Nat} (hk : k < kN A) (zf1 : lsA A k = true) : CF yX6_find cX6_find 2 (some .int) 6 90 [.ref 0, .int (nI k)] w (PW w A S sv lt (losA A k false) (.int (nI (onesN (lksA A (cN A k)))))) := by
  have zq_n := hA.n12
  have zf0 : inR (nI k) (kN A) = true := ((inR_nI (by omega)).trans (decide_eq_true (by omega)))
  refine CF.of ok_X6_find (Nat.le_of_ble_eq_true rfl) (fun ex us G9 p9 l9 e9 s9 m9 ar9 be9 me9 co9 C hr => ?_)
  refine a_aload_n C dX6_find_0 rfl rfl ?_
  refine a_iload_n C dX6_find_1 rfl rfl ?_
  refine p_callV C (K_X6_isKey hD hA _) vX6_83 rfl (by first | decide | omega) rfl rfl dX6_find_2 (Nat.le_of_ble_eq_true rfl) ⟨by decide, by decide⟩ ?_
  refine b_if_ne (tgt := 18) C dX6_find_5 (by decide) (fun h_5 => ?_) (fun h_5 => ?_)
  · refine a_aload_n C dX6_find_18 rfl rfl ?_
    refine a_getfF C fX6_19 dX6_find_19 (tw (by first | decide | omega)) (by first | decide | omega) rfl rfl ?_
    refine a_getfF C fX6_103 dX6_find_22 (tw (by first | decide | omega)) (by first | decide | omega) rfl rfl ?_
    refine a_iload_n C dX6_find_25 rfl rfl ?_
    refine a_aaldK C dX6_find_26 (tw (by first | decide | omega)) (by first | decide | omega) rfl rfl (by first | decide | omega) (by decide) rfl ?_
    refine a_getf C fX6_126 dX6_find_27 (tw (by first | decide | omega)) (by first | decide | omega) (fz_key (j := 0) (by decide) (by omega)) (gl (DR_kl hD hA (by omega))) ?_
    refine b_if_ne (tgt := 43) C dX6_find_30 (by decide) (fun h_30 => ?_) (fun h_30 => ?_)
    · refine a_aload_n C dX6_find_43 rfl rfl ?_
      refine f_callV C _ _ (K_X6_save hD hA hS) vX6_73 (by first | decide | omega) rfl rfl dX6_find_44 rfl (Nat.le_of_ble_eq_true rfl) ⟨by decide, by decide⟩ (fun zr44 zw44 zp44 => ?_)
      obtain ⟨rfl, zq_S, zq_V⟩ := zp44
      have hD := zq_V.D hD hA
      have hN := hD.dn
      refine a_aload_n C dX6_find_47 rfl rfl ?_
      refine a_getfF C fX6_19 dX6_find_48 (tw (by first | decide | omega)) (by first | decide | omega) rfl rfl ?_
      refine a_getfF C fX6_103 dX6_find_51 (tw (by first | decide | omega)) (by first | decide | omega) rfl rfl ?_
      refine a_iload_n C dX6_find_54 rfl rfl ?_
      refine a_aaldK C dX6_find_55 (tw (by first | decide | omega)) (by first | decide | omega) rfl rfl (by first | decide | omega) (by decide) rfl ?_
      refine a_iconst (v := nI 0) C dX6_find_56 (by decide) ?_
      refine f_putf C fX6_126 dX6_find_57 (by first | decide | omega) (fz_key (j := 0) (by decide) (by omega)) rfl rfl (Nat.le_of_ble_eq_true rfl) (fzc_key (j := 0) (by decide) (by omega) _ _) ?_
      refine a_dnK (k := k) (j := 2) hN zq_n (by omega) (by decide) (fun hN => ?_)
      have hD2 : DR _ 3 (losA A k false) := hN.dr (kN_upd (by omega))
      refine a_aload_n C dX6_find_60 rfl rfl ?_
      refine a_iload_n C dX6_find_61 rfl rfl ?_
      refine p_callV C (K_X6_locksOpenedBy hD2 (losA_ok hA k false) (show k < kN (losA A k false) from by rw [losA, kN_upd (by omega)]; exact hk)) vX6_132 rfl (by first | decide | omega) rfl rfl dX6_find_62 (Nat.le_of_ble_eq_true rfl) ⟨by decide, by decide⟩ ?_
      refine a_eq (st' := [.int (nI (lksA A (cN A k)))]) rfl (by rw [losA, lks_k (by omega), cN_k (by omega)]; rfl) rfl ?_
      refine p_callS C ((K_bitCount (Nat.lt_trans (lks_lt A (cN A k)) (by decide)))).cp sX6_135 rfl dX6_find_65 (Nat.le_of_ble_eq_true rfl) ⟨by decide, by decide⟩ ?_
      refine f_iret C hr ?_ dX6_find_68 ?_
      · rfl
      · exact PW.of zq_S zq_V hD2 (by repeat' (first | exact Fr_refl | (refine Fr_set (by omega) ?_) | (refine Fr_row (by omega) ?_)))
    · exact absurd (h_30.symm.trans zf1) (by decide)
  · exact absurd (h_5.symm.trans zf0) (by decide)

set_option maxRecDepth 20000 in
set_option maxHeartbeats 4000000 in
theorem K_X6_ward {w : Wd} {A : St} {S : Nat → St} {sv lt : Nat} (hD : DR w 3 A) (hA : AOK A) (hS : SvC w S sv lt) {p c : Nat} (hp : p < 6) (hc : c < 81) : CF yX6_ward cX6_ward 4 (some .int) 6 90 [.ref 0, .int (nI p), .int (nI c)] w (PW w A S sv lt (warA A p (nI c)) (.int (A (16 + 4 * p + 0)))) := by
  have zq_n := hA.n12
  have zf0 : inR (nI p) 6 = true := ((inR_nI (by omega)).trans (decide_eq_true (by omega)))
  have zf1 : inR (nI c) 81 = true := ((inR_nI (by omega)).trans (decide_eq_true (by omega)))
  refine CF.of ok_X6_ward (Nat.le_of_ble_eq_true rfl) (fun ex us G9 p9 l9 e9 s9 m9 ar9 be9 me9 co9 C hr => ?_)
  refine a_pad 1 ?_
  refine a_eq (L' := [some (.ref 0), some (.int (nI p)), some (.int (nI c)), none]) rfl rfl rfl ?_
  refine a_iload_n C dX6_ward_0 rfl rfl ?_
  refine p_callS C ((K_X6_isPlace _)).cp sX6_142 rfl dX6_ward_1 (Nat.le_of_ble_eq_true rfl) ⟨by decide, by decide⟩ ?_
  refine b_if_ne (tgt := 17) C dX6_ward_4 (by decide) (fun h_4 => ?_) (fun h_4 => ?_)
  · refine a_iload_n C dX6_ward_17 rfl rfl ?_
    refine p_callS C ((K_X6_isCode _)).cp sX6_50 rfl dX6_ward_18 (Nat.le_of_ble_eq_true rfl) ⟨by decide, by decide⟩ ?_
    refine b_if_ne (tgt := 34) C dX6_ward_21 (by decide) (fun h_21 => ?_) (fun h_21 => ?_)
    · refine a_aload_n C dX6_ward_34 rfl rfl ?_
      refine f_callV C _ _ (K_X6_save hD hA hS) vX6_73 (by first | decide | omega) rfl rfl dX6_ward_35 rfl (Nat.le_of_ble_eq_true rfl) ⟨by decide, by decide⟩ (fun zr35 zw35 zp35 => ?_)
      obtain ⟨rfl, zq_S, zq_V⟩ := zp35
      have hD := zq_V.D hD hA
      have hN := hD.dn
      refine a_aload_n C dX6_ward_38 rfl rfl ?_
      refine a_getfF C fX6_19 dX6_ward_39 (tw (by first | decide | omega)) (by first | decide | omega) rfl rfl ?_
      refine a_getfF C fX6_149 dX6_ward_42 (tw (by first | decide | omega)) (by first | decide | omega) rfl rfl ?_
      refine a_iload_n C dX6_ward_45 rfl rfl ?_
      refine a_aaldL C dX6_ward_46 (tw (by first | decide | omega)) (by first | decide | omega) rfl rfl (by first | decide | omega) (by decide) rfl ?_
      refine a_getf C fX6_153 dX6_ward_47 (tw (by first | decide | omega)) (by first | decide | omega) (fz_lock (j := 0) (by decide) (by omega)) (gl (DR_lw hD (by omega))) ?_
      refine a_istore_n C dX6_ward_50 rfl (by decide) ?_
      refine a_aload_n C dX6_ward_51 rfl rfl ?_
      refine a_getfF C fX6_19 dX6_ward_52 (tw (by first | decide | omega)) (by first | decide | omega) rfl rfl ?_
      refine a_getfF C fX6_149 dX6_ward_55 (tw (by first | decide | omega)) (by first | decide | omega) rfl rfl ?_
      refine a_iload_n C dX6_ward_58 rfl rfl ?_
      refine a_aaldL C dX6_ward_59 (tw (by first | decide | omega)) (by first | decide | omega) rfl rfl (by first | decide | omega) (by decide) rfl ?_
      refine a_iload_n C dX6_ward_60 rfl rfl ?_
      refine f_putf C fX6_153 dX6_ward_61 (by first | decide | omega) (fz_lock (j := 0) (by decide) (by omega)) rfl rfl (Nat.le_of_ble_eq_true rfl) (fzc_lock (j := 0) (by decide) (by omega) _ _) ?_
      refine a_dnL (q := p) (j := 0) hN zq_n (by omega) (by decide) (fun hN => ?_)
      refine a_iload_n C dX6_ward_64 rfl rfl ?_
      refine f_iret C hr ?_ dX6_ward_65 ?_
      · rfl
      · exact PW.of zq_S zq_V (hN.dr (kN_upd (by omega))) (by repeat' (first | exact Fr_refl | (refine Fr_set (by omega) ?_) | (refine Fr_row (by omega) ?_)))
    · exact absurd (h_21.symm.trans zf1) (by decide)
  · exact absurd (h_4.symm.trans zf0) (by decide)

set_option maxRecDepth 20000 in
set_option maxHeartbeats 4000000 in
theorem K_X6_guest {w : Wd} {A : St} {S : Nat → St} {sv lt : Nat} (hD : DR w 3 A) (hA : AOK A) (hS : SvC w S sv lt) {p : Nat} (hp : p < 6) (x : Int32) (hx : x = -1 ∨ inR x 81 = true) (zf2 : wdA A p = true) : CF yX6_guest cX6_guest 4 (some .int) 6 90 [.ref 0, .int (nI p), .int x] w (PW w A S sv lt (gueA A p x) (.int (A (16 + 4 * p + 1)))) := by
  have zq_n := hA.n12
  have zf0 : inR (nI p) 6 = true := ((inR_nI (by omega)).trans (decide_eq_true (by omega)))
  refine CF.of ok_X6_guest (Nat.le_of_ble_eq_true rfl) (fun ex us G9 p9 l9 e9 s9 m9 ar9 be9 me9 co9 C hr => ?_)
  refine a_pad 1 ?_
  refine a_eq (L' := [some (.ref 0), some (.int (nI p)), some (.int x), none]) rfl rfl rfl ?_
  refine a_iload_n C dX6_guest_0 rfl rfl ?_
  refine p_callS C ((K_X6_isPlace _)).cp sX6_142 rfl dX6_guest_1 (Nat.le_of_ble_eq_true rfl) ⟨by decide, by decide⟩ ?_
  refine b_if_ne (tgt := 17) C dX6_guest_4 (by decide) (fun h_4 => ?_) (fun h_4 => ?_)
  · refine a_iload_n C dX6_guest_17 rfl rfl ?_
    refine a_iconst (v := (-1)) C dX6_guest_18 (by decide) ?_
    refine a_icmp_eq (tgt := 39) C dX6_guest_19 (by decide) (fun h_19 => ?_) (fun h_19 => ?_)
    · refine a_aload_n C dX6_guest_39 rfl rfl ?_
      refine a_iload_n C dX6_guest_40 rfl rfl ?_
      refine p_callV C (K_X6_isLock hD hA (by first | assumption | decide | omega)) vX6_158 rfl (by first | decide | omega) rfl rfl dX6_guest_41 (Nat.le_of_ble_eq_true rfl) ⟨by decide, by decide⟩ ?_
      refine b_if_ne (tgt := 57) C dX6_guest_44 (by decide) (fun h_44 => ?_) (fun h_44 => ?_)
      · refine a_aload_n C dX6_guest_57 rfl rfl ?_
        refine f_callV C _ _ (K_X6_save hD hA hS) vX6_73 (by first | decide | omega) rfl rfl dX6_guest_58 rfl (Nat.le_of_ble_eq_true rfl) ⟨by decide, by decide⟩ (fun zr58 zw58 zp58 => ?_)
        obtain ⟨rfl, zq_S, zq_V⟩ := zp58
        have hD := zq_V.D hD hA
        have hN := hD.dn
        refine a_aload_n C dX6_guest_61 rfl rfl ?_
        refine a_getfF C fX6_19 dX6_guest_62 (tw (by first | decide | omega)) (by first | decide | omega) rfl rfl ?_
        refine a_getfF C fX6_149 dX6_guest_65 (tw (by first | decide | omega)) (by first | decide | omega) rfl rfl ?_
        refine a_iload_n C dX6_guest_68 rfl rfl ?_
        refine a_aaldL C dX6_guest_69 (tw (by first | decide | omega)) (by first | decide | omega) rfl rfl (by first | decide | omega) (by decide) rfl ?_
        refine a_getf C fX6_163 dX6_guest_70 (tw (by first | decide | omega)) (by first | decide | omega) (fz_lock (j := 0) (by decide) (by omega)) (gl (DR_lg hD (by omega))) ?_
        refine a_istore_n C dX6_guest_73 rfl (by decide) ?_
        refine a_aload_n C dX6_guest_74 rfl rfl ?_
        refine a_getfF C fX6_19 dX6_guest_75 (tw (by first | decide | omega)) (by first | decide | omega) rfl rfl ?_
        refine a_getfF C fX6_149 dX6_guest_78 (tw (by first | decide | omega)) (by first | decide | omega) rfl rfl ?_
        refine a_iload_n C dX6_guest_81 rfl rfl ?_
        refine a_aaldL C dX6_guest_82 (tw (by first | decide | omega)) (by first | decide | omega) rfl rfl (by first | decide | omega) (by decide) rfl ?_
        refine a_iload_n C dX6_guest_83 rfl rfl ?_
        refine f_putf C fX6_163 dX6_guest_84 (by first | decide | omega) (fz_lock (j := 0) (by decide) (by omega)) rfl rfl (Nat.le_of_ble_eq_true rfl) (fzc_lock (j := 0) (by decide) (by omega) _ _) ?_
        refine a_dnL (q := p) (j := 1) hN zq_n (by omega) (by decide) (fun hN => ?_)
        refine a_iload_n C dX6_guest_87 rfl rfl ?_
        refine f_iret C hr ?_ dX6_guest_88 ?_
        · rfl
        · exact PW.of zq_S zq_V (hN.dr (kN_upd (by omega))) (by repeat' (first | exact Fr_refl | (refine Fr_set (by omega) ?_) | (refine Fr_row (by omega) ?_)))
      · exact absurd (h_44.symm.trans zf2) (by decide)
    · refine a_iload_n C dX6_guest_22 rfl rfl ?_
      refine p_callS C ((K_X6_isCode _)).cp sX6_50 rfl dX6_guest_23 (Nat.le_of_ble_eq_true rfl) ⟨by decide, by decide⟩ ?_
      refine b_if_ne (tgt := 39) C dX6_guest_26 (by decide) (fun h_26 => ?_) (fun h_26 => ?_)
      · refine a_aload_n C dX6_guest_39 rfl rfl ?_
        refine a_iload_n C dX6_guest_40 rfl rfl ?_
        refine p_callV C (K_X6_isLock hD hA (by first | assumption | decide | omega)) vX6_158 rfl (by first | decide | omega) rfl rfl dX6_guest_41 (Nat.le_of_ble_eq_true rfl) ⟨by decide, by decide⟩ ?_
        refine b_if_ne (tgt := 57) C dX6_guest_44 (by decide) (fun h_44 => ?_) (fun h_44 => ?_)
        · refine a_aload_n C dX6_guest_57 rfl rfl ?_
          refine f_callV C _ _ (K_X6_save hD hA hS) vX6_73 (by first | decide | omega) rfl rfl dX6_guest_58 rfl (Nat.le_of_ble_eq_true rfl) ⟨by decide, by decide⟩ (fun zr58 zw58 zp58 => ?_)
          obtain ⟨rfl, zq_S, zq_V⟩ := zp58
          have hD := zq_V.D hD hA
          have hN := hD.dn
          refine a_aload_n C dX6_guest_61 rfl rfl ?_
          refine a_getfF C fX6_19 dX6_guest_62 (tw (by first | decide | omega)) (by first | decide | omega) rfl rfl ?_
          refine a_getfF C fX6_149 dX6_guest_65 (tw (by first | decide | omega)) (by first | decide | omega) rfl rfl ?_
          refine a_iload_n C dX6_guest_68 rfl rfl ?_
          refine a_aaldL C dX6_guest_69 (tw (by first | decide | omega)) (by first | decide | omega) rfl rfl (by first | decide | omega) (by decide) rfl ?_
          refine a_getf C fX6_163 dX6_guest_70 (tw (by first | decide | omega)) (by first | decide | omega) (fz_lock (j := 0) (by decide) (by omega)) (gl (DR_lg hD (by omega))) ?_
          refine a_istore_n C dX6_guest_73 rfl (by decide) ?_
          refine a_aload_n C dX6_guest_74 rfl rfl ?_
          refine a_getfF C fX6_19 dX6_guest_75 (tw (by first | decide | omega)) (by first | decide | omega) rfl rfl ?_
          refine a_getfF C fX6_149 dX6_guest_78 (tw (by first | decide | omega)) (by first | decide | omega) rfl rfl ?_
          refine a_iload_n C dX6_guest_81 rfl rfl ?_
          refine a_aaldL C dX6_guest_82 (tw (by first | decide | omega)) (by first | decide | omega) rfl rfl (by first | decide | omega) (by decide) rfl ?_
          refine a_iload_n C dX6_guest_83 rfl rfl ?_
          refine f_putf C fX6_163 dX6_guest_84 (by first | decide | omega) (fz_lock (j := 0) (by decide) (by omega)) rfl rfl (Nat.le_of_ble_eq_true rfl) (fzc_lock (j := 0) (by decide) (by omega) _ _) ?_
          refine a_dnL (q := p) (j := 1) hN zq_n (by omega) (by decide) (fun hN => ?_)
          refine a_iload_n C dX6_guest_87 rfl rfl ?_
          refine f_iret C hr ?_ dX6_guest_88 ?_
          · rfl
          · exact PW.of zq_S zq_V (hN.dr (kN_upd (by omega))) (by repeat' (first | exact Fr_refl | (refine Fr_set (by omega) ?_) | (refine Fr_row (by omega) ?_)))
        · exact absurd (h_44.symm.trans zf2) (by decide)
      · exact absurd (h_26.symm.trans (hx.resolve_left h_19)) (by decide)
  · exact absurd (h_4.symm.trans zf0) (by decide)

theorem DN.sL {w : Wd} {b N : Nat} {A : St} {q j : Nat} {x : Int32} (h : DN w b A N) (hN : N ≤ 12) (hq : q < 6) (hj : j < 4) : DN (wSet w (b + 17 + q) j x) b (upd A (16 + 4 * q + j) x) N := by
  have h1 := h.set (i := 16 + 4 * q + j) (x := x) hN (by omega)
  rwa [tl hq hj, fl hq hj, ← Nat.add_assoc] at h1
theorem tak_kN {A : St} {p : Nat} : kN (takA A p) = kN A := by
  unfold takA
  rw [kN_upd (by omega), kN_upd (by omega), kN_upd (by omega), kN_upd (by omega)]
theorem tak_dr {w : Wd} {A : St} {p : Nat} (hD : DR w 3 A) (hA : AOK A) (hp : p < 6) : DR (wSet (wSet (wSet (wSet w (3 + 17 + p) 0 (-1)) (3 + 17 + p) 1 (-1)) (3 + 17 + p) 2 (nI 0)) (3 + 17 + p) 3 (nI 0)) 3 (takA A p) :=
  ((((hD.dn.sL (j := 0) hA.n12 hp (by decide)).sL (j := 1) hA.n12 hp (by decide)).sL (j := 2) hA.n12 hp (by decide)).sL (j := 3) hA.n12 hp (by decide)).dr tak_kN
set_option maxRecDepth 20000 in
set_option maxHeartbeats 4000000 in
theorem K_X6_take {w : Wd} {A : St} {S : Nat → St} {sv lt : Nat} (hD : DR w 3 A) (hA : AOK A) (hS : SvC w S sv lt) {p : Nat} (hp : p < 6) (zf1 : wdA A p = true) : CF yX6_take cX6_take 3 (some .int) 6 90 [.ref 0, .int (nI p)] w (PW w A S sv lt (takA A p) (.int (nI (onesN (kysA A p))))) := by
  have zq_n := hA.n12
  have zf0 : inR (nI p) 6 = true := ((inR_nI (by omega)).trans (decide_eq_true (by omega)))
  refine CF.of ok_X6_take (Nat.le_of_ble_eq_true rfl) (fun ex us G9 p9 l9 e9 s9 m9 ar9 be9 me9 co9 C hr => ?_)
  refine a_pad 1 ?_
  refine a_eq (L' := [some (.ref 0), some (.int (nI p)), none]) rfl rfl rfl ?_
  refine a_iload_n C dX6_take_0 rfl rfl ?_
  refine p_callS C ((K_X6_isPlace _)).cp sX6_142 rfl dX6_take_1 (Nat.le_of_ble_eq_true rfl) ⟨by decide, by decide⟩ ?_
  refine b_if_ne (tgt := 17) C dX6_take_4 (by decide) (fun h_4 => ?_) (fun h_4 => ?_)
  · refine a_aload_n C dX6_take_17 rfl rfl ?_
    refine a_iload_n C dX6_take_18 rfl rfl ?_
    refine p_callV C (K_X6_isLock hD hA (by first | assumption | decide | omega)) vX6_158 rfl (by first | decide | omega) rfl rfl dX6_take_19 (Nat.le_of_ble_eq_true rfl) ⟨by decide, by decide⟩ ?_
    refine b_if_ne (tgt := 35) C dX6_take_22 (by decide) (fun h_22 => ?_) (fun h_22 => ?_)
    · refine a_aload_n C dX6_take_35 rfl rfl ?_
      refine f_callV C _ _ (K_X6_save hD hA hS) vX6_73 (by first | decide | omega) rfl rfl dX6_take_36 rfl (Nat.le_of_ble_eq_true rfl) ⟨by decide, by decide⟩ (fun zr36 zw36 zp36 => ?_)
      obtain ⟨rfl, zq_S, zq_V⟩ := zp36
      have hD := zq_V.D hD hA
      have hN := hD.dn
      refine a_aload_n C dX6_take_39 rfl rfl ?_
      refine a_iload_n C dX6_take_40 rfl rfl ?_
      refine p_callV C (K_X6_keysOpening hD hA (by first | assumption | decide | omega)) vX6_166 rfl (by first | decide | omega) rfl rfl dX6_take_41 (Nat.le_of_ble_eq_true rfl) ⟨by decide, by decide⟩ ?_
      refine p_callS C ((K_bitCount (kys_lt hA p))).cp sX6_135 rfl dX6_take_44 (Nat.le_of_ble_eq_true rfl) ⟨by decide, by decide⟩ ?_
      refine a_istore_n C dX6_take_47 rfl (by decide) ?_
      refine a_aload_n C dX6_take_48 rfl rfl ?_
      refine a_getfF C fX6_19 dX6_take_49 (tw (by first | decide | omega)) (by first | decide | omega) rfl rfl ?_
      refine a_getfF C fX6_149 dX6_take_52 (tw (by first | decide | omega)) (by first | decide | omega) rfl rfl ?_
      refine a_iload_n C dX6_take_55 rfl rfl ?_
      refine a_aaldL C dX6_take_56 (tw (by first | decide | omega)) (by first | decide | omega) rfl rfl (by first | decide | omega) (by decide) rfl ?_
      refine f_callV C _ _ (K_X3_clear (j := 0) (k := p) (by decide) hp) vX6_169 (show 3 + 17 + p < 207 by omega) (fz_lock (j := 0) (by decide) hp) rfl dX6_take_57 rfl (Nat.le_of_ble_eq_true rfl) ⟨by decide, by decide⟩ (fun zr57 zw57 zp57 => ?_)
      obtain ⟨rfl, rfl⟩ := zp57
      refine a_wd (show _ = wSet (wSet (wSet (wSet zw36 (3 + 17 + p) 0 (-1)) (3 + 17 + p) 1 (-1)) (3 + 17 + p) 2 (nI 0)) (3 + 17 + p) 3 (nI 0) from rfl) ?_
      refine a_iload_n C dX6_take_60 rfl rfl ?_
      refine f_iret C hr ?_ dX6_take_61 ?_
      · rfl
      · exact PW.of zq_S zq_V (tak_dr hD hA hp) (by repeat' (first | exact Fr_refl | (refine Fr_set (by omega) ?_) | (refine Fr_row (by omega) ?_)))
    · exact absurd (h_22.symm.trans zf1) (by decide)
  · exact absurd (h_4.symm.trans zf0) (by decide)

set_option maxRecDepth 20000 in
set_option maxHeartbeats 4000000 in
theorem K_X6_turn {w : Wd} {A : St} {S : Nat → St} {sv lt : Nat} (hD : DR w 3 A) (hA : AOK A) (hS : SvC w S sv lt) {k p : Nat} (hk : k < kN A) (hp : p < 6) (zf2 : lsA A k = false) (zf3 : wdA A p = true) : CF yX6_turn cX6_turn 3 (some .int) 6 90 [.ref 0, .int (nI k), .int (nI p)] w (PW w A S sv lt (turA A k p) (.int (bI (opnA A (cN A k) p)))) := by
  have zq_n := hA.n12
  have zf0 : inR (nI k) (kN A) = true := ((inR_nI (by omega)).trans (decide_eq_true (by omega)))
  have zf1 : inR (nI p) 6 = true := ((inR_nI (by omega)).trans (decide_eq_true (by omega)))
  refine CF.of ok_X6_turn (Nat.le_of_ble_eq_true rfl) (fun ex us G9 p9 l9 e9 s9 m9 ar9 be9 me9 co9 C hr => ?_)
  refine a_aload_n C dX6_turn_0 rfl rfl ?_
  refine a_iload_n C dX6_turn_1 rfl rfl ?_
  refine p_callV C (K_X6_isKey hD hA _) vX6_83 rfl (by first | decide | omega) rfl rfl dX6_turn_2 (Nat.le_of_ble_eq_true rfl) ⟨by decide, by decide⟩ ?_
  refine b_if_eq (tgt := 15) C dX6_turn_5 (by decide) (fun h_5 => ?_) (fun h_5 => ?_)
  · exact absurd (h_5.symm.trans zf0) (by decide)
  · refine a_iload_n C dX6_turn_8 rfl rfl ?_
    refine p_callS C ((K_X6_isPlace _)).cp sX6_142 rfl dX6_turn_9 (Nat.le_of_ble_eq_true rfl) ⟨by decide, by decide⟩ ?_
    refine b_if_ne (tgt := 25) C dX6_turn_12 (by decide) (fun h_12 => ?_) (fun h_12 => ?_)
    · refine a_aload_n C dX6_turn_25 rfl rfl ?_
      refine a_getfF C fX6_19 dX6_turn_26 (tw (by first | decide | omega)) (by first | decide | omega) rfl rfl ?_
      refine a_getfF C fX6_103 dX6_turn_29 (tw (by first | decide | omega)) (by first | decide | omega) rfl rfl ?_
      refine a_iload_n C dX6_turn_32 rfl rfl ?_
      refine a_aaldK C dX6_turn_33 (tw (by first | decide | omega)) (by first | decide | omega) rfl rfl (by first | decide | omega) (by decide) rfl ?_
      refine a_getf C fX6_126 dX6_turn_34 (tw (by first | decide | omega)) (by first | decide | omega) (fz_key (j := 0) (by decide) (by omega)) (gl (DR_kl hD hA (by omega))) ?_
      refine b_if_ne (tgt := 48) C dX6_turn_37 (by decide) (fun h_37 => ?_) (fun h_37 => ?_)
      · exact absurd (h_37.symm.trans zf2) (by decide)
      · refine a_aload_n C dX6_turn_40 rfl rfl ?_
        refine a_iload_n C dX6_turn_41 rfl rfl ?_
        refine p_callV C (K_X6_isLock hD hA (by first | assumption | decide | omega)) vX6_158 rfl (by first | decide | omega) rfl rfl dX6_turn_42 (Nat.le_of_ble_eq_true rfl) ⟨by decide, by decide⟩ ?_
        refine b_if_ne (tgt := 58) C dX6_turn_45 (by decide) (fun h_45 => ?_) (fun h_45 => ?_)
        · refine a_aload_n C dX6_turn_58 rfl rfl ?_
          refine f_callV C _ _ (K_X6_save hD hA hS) vX6_73 (by first | decide | omega) rfl rfl dX6_turn_59 rfl (Nat.le_of_ble_eq_true rfl) ⟨by decide, by decide⟩ (fun zr59 zw59 zp59 => ?_)
          obtain ⟨rfl, zq_S, zq_V⟩ := zp59
          have hD := zq_V.D hD hA
          have hN := hD.dn
          refine a_aload_n C dX6_turn_62 rfl rfl ?_
          refine a_iload_n C dX6_turn_63 rfl rfl ?_
          refine a_iload_n C dX6_turn_64 rfl rfl ?_
          refine f_callV C _ _ (K_X6_tryKey hD hA hk hp) vX6_176 (by first | decide | omega) rfl rfl dX6_turn_65 rfl (Nat.le_of_ble_eq_true rfl) ⟨by decide, by decide⟩ (fun zr65 zw65 zp65 => ?_)
          obtain ⟨rfl, zq_D, zq_F⟩ := zp65
          first | refine b_if_eq (tgt := 75) C dX6_turn_68 (by decide) (fun h_68 => ?_) (fun h_68 => ?_) | refine n_if_eq (tgt := 75) C dX6_turn_68 (by decide) (by first | decide | omega) (fun h_68 => ?_) (fun h_68 => ?_) | refine a_if_eq (tgt := 75) C dX6_turn_68 (by decide) (fun h_68 => ?_) (fun h_68 => ?_)
          · refine a_iconst (v := nI 0) C dX6_turn_75 (by decide) ?_
            refine f_iret C hr ?_ dX6_turn_76 ?_
            · rfl
            · first | exact (bI_fal h_68 ▸ PW.of zq_S zq_V zq_D zq_F) | exact (bI_tru h_68 ▸ PW.of zq_S zq_V zq_D zq_F)
          · refine a_iconst (v := nI 1) C dX6_turn_71 (by decide) ?_
            refine a_goto (tgt := 76) C dX6_turn_72 (by decide) ?_
            refine f_iret C hr ?_ dX6_turn_76 ?_
            · rfl
            · first | exact (bI_fal h_68 ▸ PW.of zq_S zq_V zq_D zq_F) | exact (bI_tru h_68 ▸ PW.of zq_S zq_V zq_D zq_F)
        · exact absurd (h_45.symm.trans zf3) (by decide)
    · exact absurd (h_12.symm.trans zf1) (by decide)

set_option maxRecDepth 20000 in
set_option maxHeartbeats 4000000 in
theorem K_X6_set {w : Wd} {A : St} {S : Nat → St} {sv lt : Nat} (hD : DR w 3 A) (hA : AOK A) (hS : SvC w S sv lt) {j : Nat} (hj : j < 4) (y : Int32) (hf : sbI j y = true) : CF yX6_set cX6_set 4 (some .int) 6 90 [.ref 0, .int (nI j), .int y] w (PW w A S sv lt (setA A j y) (.int (nI (sN A j)))) := by
  have zq_n := hA.n12
  have zf0 : inR (nI j) 4 = true := ((inR_nI (by omega)).trans (decide_eq_true (by omega)))
  have zq_o := of_decide_eq_true hf
  refine CF.of ok_X6_set (Nat.le_of_ble_eq_true rfl) (fun ex us G9 p9 l9 e9 s9 m9 ar9 be9 me9 co9 C hr => ?_)
  refine a_pad 1 ?_
  refine a_eq (L' := [some (.ref 0), some (.int (nI j)), some (.int y), none]) rfl rfl rfl ?_
  refine a_iload_n C dX6_set_0 rfl rfl ?_
  refine p_callS C ((K_X6_isSetting _)).cp sX6_180 rfl dX6_set_1 (Nat.le_of_ble_eq_true rfl) ⟨by decide, by decide⟩ ?_
  refine b_if_ne (tgt := 17) C dX6_set_4 (by decide) (fun h_4 => ?_) (fun h_4 => ?_)
  · refine a_iload_n C dX6_set_17 rfl rfl ?_
    refine a_gets1 C gX6_185 dX6_set_18 ?_
    refine a_iload_n C dX6_set_21 rfl rfl ?_
    refine a_sald1 C dX6_set_22 rfl (by first | decide | omega) (sbI_ge hj) ?_
    refine a_icmp_lt (tgt := 35) C dX6_set_23 (by decide) (fun h_23 => ?_) (fun h_23 => ?_)
    · exact absurd h_23 (Int32.not_lt.mpr zq_o.1)
    · refine a_iload_n C dX6_set_26 rfl rfl ?_
      refine a_gets2 C gX6_189 dX6_set_27 ?_
      refine a_iload_n C dX6_set_30 rfl rfl ?_
      refine a_sald2 C dX6_set_31 rfl (by first | decide | omega) (sbI_le hj) ?_
      refine a_icmp_le (tgt := 45) C dX6_set_32 (by decide) (fun h_32 => ?_) (fun h_32 => ?_)
      · refine a_aload_n C dX6_set_45 rfl rfl ?_
        refine f_callV C _ _ (K_X6_save hD hA hS) vX6_73 (by first | decide | omega) rfl rfl dX6_set_46 rfl (Nat.le_of_ble_eq_true rfl) ⟨by decide, by decide⟩ (fun zr46 zw46 zp46 => ?_)
        obtain ⟨rfl, zq_S, zq_V⟩ := zp46
        have hD := zq_V.D hD hA
        have hN := hD.dn
        refine a_aload_n C dX6_set_49 rfl rfl ?_
        refine a_getfF C fX6_19 dX6_set_50 (tw (by first | decide | omega)) (by first | decide | omega) rfl rfl ?_
        refine a_getfF C fX6_194 dX6_set_53 (tw (by first | decide | omega)) (by first | decide | omega) rfl rfl ?_
        refine a_iload_n C dX6_set_56 rfl rfl ?_
        refine n_iald C dX6_set_57 (tw (by first | decide | omega)) (by first | decide | omega) rfl rfl (by first | decide | omega) (by decide) (DR_s hD hA (by omega)) ?_
        refine a_istore_n C dX6_set_58 rfl (by decide) ?_
        refine a_aload_n C dX6_set_59 rfl rfl ?_
        refine a_getfF C fX6_19 dX6_set_60 (tw (by first | decide | omega)) (by first | decide | omega) rfl rfl ?_
        refine a_getfF C fX6_194 dX6_set_63 (tw (by first | decide | omega)) (by first | decide | omega) rfl rfl ?_
        refine a_iload_n C dX6_set_66 rfl rfl ?_
        refine a_iload_n C dX6_set_67 rfl rfl ?_
        refine f_iast C dX6_set_68 (by first | decide | omega) rfl rfl (by first | decide | omega) (by decide)  rfl ?_
        refine a_dnS (q := j) hN zq_n hj (fun hN => ?_)
        refine a_iload_n C dX6_set_69 rfl rfl ?_
        refine f_iret C hr ?_ dX6_set_70 ?_
        · rfl
        · exact PW.of zq_S zq_V (hN.dr (kN_upd (by omega))) (by repeat' (first | exact Fr_refl | (refine Fr_set (by omega) ?_) | (refine Fr_row (by omega) ?_)))
      · exact absurd zq_o.2 h_32
  · exact absurd (h_4.symm.trans zf0) (by decide)

def rsh (A : St) (k m : Nat) : St := fun i => if 40 + 6 * k ≤ i ∧ i < 40 + 6 * m then A (i + 6) else A i
theorem rsh_0 {A : St} {k : Nat} : rsh A k k = A := by
  funext i
  unfold rsh
  rw [if_neg (by omega)]
theorem rsh_s {v : Wd} {A : St} {k m N : Nat} (h : DN v 3 (rsh A k m) N) (hk : k ≤ m) (hm : m + 1 < N) (hN : N ≤ 12) :
    DN (wRow v (3 + 5 + m) (k6 (v.1 (3 + 5 + m)) (v.1 (3 + 5 + (m + 1)) 0) (v.1 (3 + 5 + (m + 1)) 1) (v.1 (3 + 5 + (m + 1)) 2) (v.1 (3 + 5 + (m + 1)) 3) (v.1 (3 + 5 + (m + 1)) 4) (v.1 (3 + 5 + (m + 1)) 5))) 3 (rsh A k (m + 1)) N := by
  have e : ∀ j, j < 6 → rsh A k m (40 + 6 * (m + 1) + j) = A (40 + 6 * (m + 1) + j) := fun j hj => by unfold rsh; rw [if_neg (by omega)]
  have f : ∀ j, j < 6 → rsh A k (m + 1) (40 + 6 * m + j) = A (40 + 6 * (m + 1) + j) := fun j hj => by
    unfold rsh
    rw [if_pos (by omega)]
    congr 1
    omega
  intro i hi
  by_cases h1 : 40 + 6 * m ≤ i ∧ i < 40 + 6 * m + 6
  · have hj : i - (40 + 6 * m) < 6 := by omega
    rw [show i = 40 + 6 * m + (i - (40 + 6 * m)) by omega, tk hj, fk hj, f _ hj, show 3 + (5 + m) = 3 + 5 + m by omega, wRow_at, ← e _ hj]
    generalize i - (40 + 6 * m) = j at hj
    match j, hj with
    | 0, _ => exact h.k (j := 0) hm (by decide)
    | 1, _ => exact h.k (j := 1) hm (by decide)
    | 2, _ => exact h.k (j := 2) hm (by decide)
    | 3, _ => exact h.k (j := 3) hm (by decide)
    | 4, _ => exact h.k (j := 4) hm (by decide)
    | 5, _ => exact h.k (j := 5) hm (by decide)
  · have ht : ¬ 3 + toI i = 3 + 5 + m := by
      unfold toI
      repeat' split
      all_goals omega
    rw [wRow_ne ht, h i hi]
    unfold rsh
    by_cases h2 : 40 + 6 * k ≤ i ∧ i < 40 + 6 * m
    · rw [if_pos h2, if_pos (by omega)]
    · rw [if_neg h2, if_neg (by omega)]
theorem ret_dr {v : Wd} {A : St} {k : Nat} (hA : AOK A) (hk : k < kN A) (h : DN v 3 (rsh A k (kN A - 1)) (kN A)) : DR (wSet (wSet v 3 1 (nI (kN A - 1))) 3 9 (A 5 + nI 1)) 3 (retA A k) := by
  have hn := hA.n12
  have h1 := (((h.less (M := kN A - 1) (by omega)).set (i := 0) (x := nI (kN A - 1)) (by omega) (by decide)).set (i := 5) (x := A 5 + nI 1) (by omega) (by decide))
  have h2 : DN (wSet (wSet v 3 1 (nI (kN A - 1))) 3 9 (A 5 + nI 1)) 3 (retA A k) (kN A - 1) := by
    refine DN.congr (A := upd (upd (rsh A k (kN A - 1)) 0 (nI (kN A - 1))) 5 (A 5 + nI 1)) h1 (fun i hi => ?_)
    unfold retA
    by_cases i5 : i = 5
    · subst i5
      rw [upd_at, upd_at]
    · rw [upd_ne i5, upd_ne i5]
      by_cases hi2 : i < 40 + 6 * k
      · rw [rtK_lo hi2]
        by_cases i0 : i = 0
        · subst i0
          rw [upd_at, upd_at]
        · rw [upd_ne i0, upd_ne i0]
          unfold rsh
          rw [if_neg (by omega)]
      · rw [rtK_in _ (by omega), upd_ne (by omega)]
        unfold rsh
        rw [if_pos (by omega)]
  refine h2.dr ?_
  show iN (retA A k 0) = kN A - 1
  unfold retA
  rw [upd_ne (by omega), rtK_lo (by omega), upd_at, iN_nI (by omega)]
set_option maxRecDepth 20000 in
set_option maxHeartbeats 4000000 in
theorem K_X6_retire {w : Wd} {A : St} {S : Nat → St} {sv lt : Nat} (hD : DR w 3 A) (hA : AOK A) (hS : SvC w S sv lt) {k : Nat} (hk : k < kN A) : CF yX6_retire cX6_retire 3 (some .int) 6 90 [.ref 0, .int (nI k)] w (PW w A S sv lt (retA A k) (.int (nI (kN A - 1)))) := by
  have zq_n := hA.n12
  have zf0 : inR (nI k) (kN A) = true := ((inR_nI (by omega)).trans (decide_eq_true (by omega)))
  refine CF.of ok_X6_retire (Nat.le_of_ble_eq_true rfl) (fun ex us G9 p9 l9 e9 s9 m9 ar9 be9 me9 co9 C hr => ?_)
  have ZL24 : ∀ (zd24 : Nat) (m : Nat) (z v : Wd), kN A + 1 ≤ m + zd24 → k ≤ m → m ≤ kN A - 1 → SvC z (psh A S) (svN sv) (nxL lt) → FrV w z → Fr z v → DN v 3 (rsh A k m) (kN A) → WA G9 p9 l9 e9 (RM 6 90) s9 m9 ar9 be9 me9 co9 (QF G9 be9 ar9 s9 w ex us (PW w A S sv lt (retA A k) (.int (nI (kN A - 1))))) 3 (207 + ex.1 + ex.2) us 24 [some (.ref 0), some (.int (nI k)), some (.int (nI m))] [] (fzM v ex us) := by
    intro zd24
    induction zd24 with
    | zero => intro m z v zm24 zh_k zh_m zh_S zh_V zh_F zh_N; exfalso; omega
    | succ zd24 zih24 =>
      intro m z v zm24 zh_k zh_m zh_S zh_V zh_F zh_N
      refine a_iload_n C dX6_retire_24 rfl rfl ?_
      refine a_iconst (v := nI 1) C dX6_retire_25 (by decide) ?_
      first | refine n_iadd C dX6_retire_26 ?_ | refine a_iadd C dX6_retire_26 ?_
      refine a_aload_n C dX6_retire_27 rfl rfl ?_
      refine a_getfF C fX6_19 dX6_retire_28 (tw (by first | decide | omega)) (by first | decide | omega) rfl rfl ?_
      refine a_getf C fX6_80 dX6_retire_31 (tw (by first | decide | omega)) (by first | decide | omega) rfl (gl (zh_N.n.trans (show rsh A k m 0 = nI (kN A) from by unfold rsh; rw [if_neg (by omega)]; exact hA.n))) ?_
      first | refine n_icmp_ge (tgt := 74) C dX6_retire_34 (by decide) (by first | decide | omega) (by first | decide | omega) (fun h_34 => ?_) (fun h_34 => ?_) | refine a_icmp_ge (tgt := 74) C dX6_retire_34 (by decide) (fun h_34 => ?_) (fun h_34 => ?_)
      · obtain rfl : m = kN A - 1 := by omega
        refine a_aload_n C dX6_retire_74 rfl rfl ?_
        refine a_getfF C fX6_19 dX6_retire_75 (tw (by first | decide | omega)) (by first | decide | omega) rfl rfl ?_
        refine a_dup C dX6_retire_78 rfl ?_
        refine a_getf C fX6_80 dX6_retire_79 (tw (by first | decide | omega)) (by first | decide | omega) rfl (gl (zh_N.n.trans (show rsh A k (kN A - 1) 0 = nI (kN A) from by unfold rsh; rw [if_neg (by omega)]; exact hA.n))) ?_
        refine a_iconst (v := nI 1) C dX6_retire_82 (by decide) ?_
        refine n_isub C dX6_retire_83 (by omega) ?_
        refine f_putf C fX6_80 dX6_retire_84 (by first | decide | omega) rfl rfl rfl (Nat.le_of_ble_eq_true rfl) rfl ?_
        refine a_aload_n C dX6_retire_87 rfl rfl ?_
        refine a_getfF C fX6_19 dX6_retire_88 (tw (by first | decide | omega)) (by first | decide | omega) rfl rfl ?_
        refine a_dup C dX6_retire_91 rfl ?_
        refine a_getf C fX6_118 dX6_retire_92 (tw (by first | decide | omega)) (by first | decide | omega) rfl (gl (show _ = A 5 from by rw [wSet_ne (by decide)]; exact (zh_N.c (i := 5) (by decide)).trans (show rsh A k (kN A - 1) 5 = A 5 from by unfold rsh; rw [if_neg (by omega)]))) ?_
        refine a_iconst (v := nI 1) C dX6_retire_95 (by decide) ?_
        first | refine n_iadd C dX6_retire_96 ?_ | refine a_iadd C dX6_retire_96 ?_
        refine f_putf C fX6_118 dX6_retire_97 (by first | decide | omega) rfl rfl rfl (Nat.le_of_ble_eq_true rfl) rfl ?_
        refine a_aload_n C dX6_retire_100 rfl rfl ?_
        refine a_getfF C fX6_19 dX6_retire_101 (tw (by first | decide | omega)) (by first | decide | omega) rfl rfl ?_
        refine a_getf C fX6_80 dX6_retire_104 (tw (by first | decide | omega)) (by first | decide | omega) rfl (gl (show _ = nI (kN A - 1) from by rw [wSet_ne (by decide), wSet_at])) ?_
        refine f_iret C hr ?_ dX6_retire_107 ?_
        · rfl
        · exact PW.of zh_S zh_V (ret_dr hA hk zh_N) (Fr_set (by decide) (Fr_set (by decide) zh_F))
      · refine a_iload_n C dX6_retire_37 rfl rfl ?_
        refine a_iconst (v := nI 1) C dX6_retire_38 (by decide) ?_
        first | refine n_iadd C dX6_retire_39 ?_ | refine a_iadd C dX6_retire_39 ?_
        refine a_bipush (v := nI 12) C dX6_retire_40 (by decide) ?_
        first | refine n_icmp_ge (tgt := 74) C dX6_retire_42 (by decide) (by first | decide | omega) (by first | decide | omega) (fun h_42 => ?_) (fun h_42 => ?_) | refine a_icmp_ge (tgt := 74) C dX6_retire_42 (by decide) (fun h_42 => ?_) (fun h_42 => ?_)
        · exfalso; omega
        · refine a_aload_n C dX6_retire_45 rfl rfl ?_
          refine a_getfF C fX6_19 dX6_retire_46 (tw (by first | decide | omega)) (by first | decide | omega) rfl rfl ?_
          refine a_getfF C fX6_103 dX6_retire_49 (tw (by first | decide | omega)) (by first | decide | omega) rfl rfl ?_
          refine a_iload_n C dX6_retire_52 rfl rfl ?_
          refine a_aaldK C dX6_retire_53 (tw (by first | decide | omega)) (by first | decide | omega) rfl rfl (by first | decide | omega) (by decide) rfl ?_
          refine a_aload_n C dX6_retire_54 rfl rfl ?_
          refine a_getfF C fX6_19 dX6_retire_55 (tw (by first | decide | omega)) (by first | decide | omega) rfl rfl ?_
          refine a_getfF C fX6_103 dX6_retire_58 (tw (by first | decide | omega)) (by first | decide | omega) rfl rfl ?_
          refine a_iload_n C dX6_retire_61 rfl rfl ?_
          refine a_iconst (v := nI 1) C dX6_retire_62 (by decide) ?_
          first | refine n_iadd C dX6_retire_63 ?_ | refine a_iadd C dX6_retire_63 ?_
          refine a_aaldK C dX6_retire_64 (tw (by first | decide | omega)) (by first | decide | omega) rfl rfl (by first | decide | omega) (by decide) rfl ?_
          refine f_callV C _ _ (K_X2_copyFrom (w := v) (j := 0) (i := 0) (k := m) (k' := m + 1) (by decide) (by decide) (by omega) (by omega) (show ¬ 3 + 5 + (m + 1) = 3 + 5 + m by omega) ⟨lsA A (m + 1), show v.1 (3 + 5 + (m + 1)) 5 = bI (lsA A (m + 1)) from (zh_N.k (k := m + 1) (j := 2) (by omega) (by decide)).trans (show rsh A k m (40 + 6 * (m + 1) + 2) = _ from by unfold rsh; rw [if_neg (by omega)]; exact hA.ls (by omega))⟩) vX6_114 (show 3 + 5 + m < 207 by omega) (fz_key (j := 0) (by decide) (by omega)) rfl dX6_retire_65 rfl (Nat.le_of_ble_eq_true rfl) ⟨by decide, by decide⟩ (fun zr65 zw65 zp65 => ?_)
          obtain ⟨rfl, rfl⟩ := zp65
          refine n_iinc C dX6_retire_68 rfl (by decide) ?_
          refine a_goto (tgt := 24) C dX6_retire_71 (by decide) ?_
          refine a_join (aLe_s ?_ (aLe_s ?_ (aLe_s ?_ aLe_nil))) rfl rfl (zih24 (m + 1) z _ (by omega) (by omega) (by omega) zh_S zh_V (Fr_row (a := 3 + 5 + m) (by omega) zh_F) (rsh_s zh_N zh_k (by omega) zq_n))
          · first | with_reducible rfl | exact gl (by first | with_reducible rfl | (refine iF ?_; simp [h_34, h_42]; done) | (refine iT ?_; simp [h_34, h_42]; done) | (refine iB ?_; simp [h_34, h_42]; done) | (simp [h_34, h_42]; done) | (simp [h_34, h_42]; omega) | omega)
          · first | with_reducible rfl | exact gl (by first | with_reducible rfl | (refine iF ?_; simp [h_34, h_42]; done) | (refine iT ?_; simp [h_34, h_42]; done) | (refine iB ?_; simp [h_34, h_42]; done) | (simp [h_34, h_42]; done) | (simp [h_34, h_42]; omega) | omega)
          · first | with_reducible rfl | exact gl (by first | with_reducible rfl | (refine iF ?_; simp [h_34, h_42]; done) | (refine iT ?_; simp [h_34, h_42]; done) | (refine iB ?_; simp [h_34, h_42]; done) | (simp [h_34, h_42]; done) | (simp [h_34, h_42]; omega) | omega)
  refine a_pad 1 ?_
  refine a_eq (L' := [some (.ref 0), some (.int (nI k)), none]) rfl rfl rfl ?_
  refine a_aload_n C dX6_retire_0 rfl rfl ?_
  refine a_iload_n C dX6_retire_1 rfl rfl ?_
  refine p_callV C (K_X6_isKey hD hA _) vX6_83 rfl (by first | decide | omega) rfl rfl dX6_retire_2 (Nat.le_of_ble_eq_true rfl) ⟨by decide, by decide⟩ ?_
  refine b_if_ne (tgt := 18) C dX6_retire_5 (by decide) (fun h_5 => ?_) (fun h_5 => ?_)
  · refine a_aload_n C dX6_retire_18 rfl rfl ?_
    refine f_callV C _ _ (K_X6_save hD hA hS) vX6_73 (by first | decide | omega) rfl rfl dX6_retire_19 rfl (Nat.le_of_ble_eq_true rfl) ⟨by decide, by decide⟩ (fun zr19 zw19 zp19 => ?_)
    obtain ⟨rfl, zq_S, zq_V⟩ := zp19
    have hD := zq_V.D hD hA
    have hN := hD.dn
    refine a_iload_n C dX6_retire_22 rfl rfl ?_
    refine a_istore_n C dX6_retire_23 rfl (by decide) ?_
    refine a_join (aLe_s ?_ (aLe_s ?_ (aLe_s ?_ aLe_nil))) rfl rfl (ZL24 (kN A + 1) k zw19 zw19 (by omega) (Nat.le_refl _) (by omega) zq_S zq_V Fr_refl (by rw [rsh_0]; exact hN))
    · first | with_reducible rfl | exact gl (by first | with_reducible rfl | (refine iF ?_; simp []; done) | (refine iT ?_; simp []; done) | (refine iB ?_; simp []; done) | (simp []; done) | (simp []; omega) | omega | rfl)
    · first | with_reducible rfl | exact gl (by first | with_reducible rfl | (refine iF ?_; simp []; done) | (refine iT ?_; simp []; done) | (refine iB ?_; simp []; done) | (simp []; done) | (simp []; omega) | omega | rfl)
    · first | with_reducible rfl | exact gl (by first | with_reducible rfl | (refine iF ?_; simp []; done) | (refine iT ?_; simp []; done) | (refine iB ?_; simp []; done) | (simp []; done) | (simp []; omega) | omega | rfl)
  · exact absurd (h_5.symm.trans zf0) (by decide)

end A26

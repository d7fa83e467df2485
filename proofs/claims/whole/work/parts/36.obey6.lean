section A36
set_option maxRecDepth 20000 in
set_option maxHeartbeats 4000000 in
theorem K_X6_doCut {w : Wd} {A : St} (hD : DR w 3 A) (hA : AOK A) {c q : Nat} (hc : c < 81) (hq : q < 4) : CF yX6_doCut cX6_doCut 4 (some .int) 3 71 [.ref 0, .int (nI c), .int (nI q)] w (fun r w' => r = some (.int (nI (wncA A c))) ∧ DR w' 3 (if (wncA A c) = 0 then cutA A c q else A) ∧ Fr w w') := by
  have zq_n := hA.n12
  have hN := hD.dn
  refine CF.of ok_X6_doCut (Nat.le_of_ble_eq_true rfl) (fun ex us G9 p9 l9 e9 s9 m9 ar9 be9 me9 co9 C hr => ?_)
  refine a_pad 1 ?_
  refine a_eq (L' := [some (.ref 0), some (.int (nI c)), some (.int (nI q)), none]) rfl rfl rfl ?_
  refine a_aload_n C dX6_doCut_0 rfl rfl ?_
  refine a_iload_n C dX6_doCut_1 rfl rfl ?_
  refine p_callV C (K_X6_reasonAgainstCut hD hA (by first | assumption | decide | omega)) vX6_64 rfl (by first | decide | omega) rfl rfl dX6_doCut_2 (Nat.le_of_ble_eq_true rfl) ⟨by decide, by decide⟩ ?_
  refine a_istore_n C dX6_doCut_5 rfl (by decide) ?_
  refine a_iload_n C dX6_doCut_6 rfl rfl ?_
  refine n_if_ne (tgt := 16) C dX6_doCut_7 (by decide) (wnc_lt A c)  (fun h_7 => ?_) (fun h_7 => ?_)
  · refine a_iload_n C dX6_doCut_16 rfl rfl ?_
    refine f_iret C hr ?_ dX6_doCut_17 ?_
    · rfl
    · first | exact ⟨rfl, by rw [if_neg h_7]; exact hD, Fr_refl⟩ | exact ⟨rfl, by rw [if_pos h_7]; exact zq_D, zq_F⟩
  · refine a_aload_n C dX6_doCut_10 rfl rfl ?_
    refine a_iload_n C dX6_doCut_11 rfl rfl ?_
    refine a_iload_n C dX6_doCut_12 rfl rfl ?_
    refine f_callV C _ _ (K_X6_addKey hD hA (wnc_n hA h_7) hc hq) vX6_76 (by first | decide | omega) rfl rfl dX6_doCut_13 rfl (Nat.le_of_ble_eq_true rfl) ⟨by decide, by decide⟩ (fun zr13 zw13 zp13 => ?_)
    obtain ⟨rfl, zq_D, zq_F⟩ := zp13
    refine a_iload_n C dX6_doCut_16 rfl rfl ?_
    refine f_iret C hr ?_ dX6_doCut_17 ?_
    · rfl
    · first | exact ⟨rfl, by rw [if_neg h_7]; exact hD, Fr_refl⟩ | exact ⟨rfl, by rw [if_pos h_7]; exact zq_D, zq_F⟩

set_option maxRecDepth 20000 in
set_option maxHeartbeats 4000000 in
theorem K_X6_doDeepen {w : Wd} {A : St} (hD : DR w 3 A) (hA : AOK A) {k j : Nat} (hk : k < kN A) (hj : j < 4) : CF yX6_doDeepen cX6_doDeepen 4 (some .int) 3 74 [.ref 0, .int (nI k), .int (nI j)] w (fun r w' => r = some (.int (nI (wndA A k j))) ∧ DR w' 3 (if (wndA A k j) = 0 then deeA A k j else A) ∧ Fr w w') := by
  have zq_n := hA.n12
  have hN := hD.dn
  refine CF.of ok_X6_doDeepen (Nat.le_of_ble_eq_true rfl) (fun ex us G9 p9 l9 e9 s9 m9 ar9 be9 me9 co9 C hr => ?_)
  refine a_pad 1 ?_
  refine a_eq (L' := [some (.ref 0), some (.int (nI k)), some (.int (nI j)), none]) rfl rfl rfl ?_
  refine a_aload_n C dX6_doDeepen_0 rfl rfl ?_
  refine a_iload_n C dX6_doDeepen_1 rfl rfl ?_
  refine a_iload_n C dX6_doDeepen_2 rfl rfl ?_
  refine p_callV C (K_X6_reasonAgainstDeeper hD hA (by first | assumption | decide | omega) (by first | assumption | decide | omega)) vX6_94 rfl (by first | decide | omega) rfl rfl dX6_doDeepen_3 (Nat.le_of_ble_eq_true rfl) ⟨by decide, by decide⟩ ?_
  refine a_istore_n C dX6_doDeepen_6 rfl (by decide) ?_
  refine a_iload_n C dX6_doDeepen_7 rfl rfl ?_
  refine n_if_ne (tgt := 17) C dX6_doDeepen_8 (by decide) (wnd_lt A k j)  (fun h_8 => ?_) (fun h_8 => ?_)
  · refine a_iload_n C dX6_doDeepen_17 rfl rfl ?_
    refine f_iret C hr ?_ dX6_doDeepen_18 ?_
    · rfl
    · first | exact ⟨rfl, by rw [if_neg h_8]; exact hD, Fr_refl⟩ | exact ⟨rfl, by rw [if_pos h_8]; exact zq_D, zq_F⟩
  · refine a_aload_n C dX6_doDeepen_11 rfl rfl ?_
    refine a_iload_n C dX6_doDeepen_12 rfl rfl ?_
    refine a_iload_n C dX6_doDeepen_13 rfl rfl ?_
    refine f_callV C _ _ (K_X6_cutDeeper hD hA hk hj) vX6_100 (by first | decide | omega) rfl rfl dX6_doDeepen_14 rfl (Nat.le_of_ble_eq_true rfl) ⟨by decide, by decide⟩ (fun zr14 zw14 zp14 => ?_)
    obtain ⟨rfl, zq_D, zq_F⟩ := zp14
    refine a_iload_n C dX6_doDeepen_17 rfl rfl ?_
    refine f_iret C hr ?_ dX6_doDeepen_18 ?_
    · rfl
    · first | exact ⟨rfl, by rw [if_neg h_8]; exact hD, Fr_refl⟩ | exact ⟨rfl, by rw [if_pos h_8]; exact zq_D, zq_F⟩

set_option maxRecDepth 20000 in
set_option maxHeartbeats 4000000 in
theorem K_X6_doTry {w : Wd} {A : St} (hD : DR w 3 A) (hA : AOK A) {k p : Nat} (hk : k < kN A) (hp : p < 6) : CF yX6_doTry cX6_doTry 3 (some .int) 3 70 [.ref 0, .int (nI k), .int (nI p)] w (fun r w' => r = some (.int (nI (if wdA A p = true then (if lsA A k = true then 9 else 0) else 8))) ∧ DR w' 3 (if (if wdA A p = true then (if lsA A k = true then 9 else 0) else 8) = 0 then turA A k p else A) ∧ Fr w w') := by
  have zq_n := hA.n12
  have hN := hD.dn
  refine CF.of ok_X6_doTry (Nat.le_of_ble_eq_true rfl) (fun ex us G9 p9 l9 e9 s9 m9 ar9 be9 me9 co9 C hr => ?_)
  refine a_aload_n C dX6_doTry_0 rfl rfl ?_
  refine a_iload_n C dX6_doTry_1 rfl rfl ?_
  refine p_callV C (K_X6_isLock hD hA (by first | assumption | decide | omega)) vX6_158 rfl (by first | decide | omega) rfl rfl dX6_doTry_2 (Nat.le_of_ble_eq_true rfl) ⟨by decide, by decide⟩ ?_
  first | refine b_if_ne (tgt := 11) C dX6_doTry_5 (by decide) (fun h_5 => ?_) (fun h_5 => ?_) | refine n_if_ne (tgt := 11) C dX6_doTry_5 (by decide) (by first | decide | omega) (fun h_5 => ?_) (fun h_5 => ?_) | refine a_if_ne (tgt := 11) C dX6_doTry_5 (by decide) (fun h_5 => ?_) (fun h_5 => ?_)
  · refine a_aload_n C dX6_doTry_11 rfl rfl ?_
    refine a_getfF C fX6_19 dX6_doTry_12 (show _ < 219 from (by first | decide | omega)) (by first | decide | omega) rfl rfl ?_
    refine a_getfF C fX6_103 dX6_doTry_15 (show _ < 219 from (by first | decide | omega)) (by first | decide | omega) rfl rfl ?_
    refine a_iload_n C dX6_doTry_18 rfl rfl ?_
    refine a_aaldK C dX6_doTry_19 (show _ < 219 from (by first | decide | omega)) (by first | decide | omega) rfl rfl (by first | decide | omega) (by decide) rfl ?_
    refine a_getf C fX6_126 dX6_doTry_20 (show _ < 219 from (by first | decide | omega)) (by first | decide | omega) (fz_key (j := 0) (by decide) (by omega)) (gl (DR_kl hD hA (by omega))) ?_
    first | refine b_if_eq (tgt := 29) C dX6_doTry_23 (by decide) (fun h_23 => ?_) (fun h_23 => ?_) | refine n_if_eq (tgt := 29) C dX6_doTry_23 (by decide) (by first | decide | omega) (fun h_23 => ?_) (fun h_23 => ?_) | refine a_if_eq (tgt := 29) C dX6_doTry_23 (by decide) (fun h_23 => ?_) (fun h_23 => ?_)
    · refine a_aload_n C dX6_doTry_29 rfl rfl ?_
      refine a_iload_n C dX6_doTry_30 rfl rfl ?_
      refine a_iload_n C dX6_doTry_31 rfl rfl ?_
      refine f_callV C _ _ (K_X6_tryKey hD hA hk hp) vX6_176 (by first | decide | omega) rfl rfl dX6_doTry_32 rfl (Nat.le_of_ble_eq_true rfl) ⟨by decide, by decide⟩ (fun zr32 zw32 zp32 => ?_)
      obtain ⟨rfl, zq_D, zq_F⟩ := zp32
      refine a_pop C dX6_doTry_35 rfl ?_
      refine a_iconst (v := nI 0) C dX6_doTry_36 (by decide) ?_
      refine f_iret C hr ?_ dX6_doTry_37 ?_
      · rfl
      · rw [h_5, h_23]
        exact ⟨rfl, zq_D, zq_F⟩
    · refine a_bipush (v := nI 9) C dX6_doTry_26 (by decide) ?_
      refine f_iret C hr ?_ dX6_doTry_28 ?_
      · rfl
      · rw [h_5, h_23]
        exact ⟨rfl, hD, Fr_refl⟩
  · refine a_bipush (v := nI 8) C dX6_doTry_8 (by decide) ?_
    refine f_iret C hr ?_ dX6_doTry_10 ?_
    · rfl
    · rw [h_5]
      exact ⟨rfl, hD, Fr_refl⟩

set_option maxRecDepth 20000 in
set_option maxHeartbeats 4000000 in
theorem K_X6_doMark {w : Wd} {A : St} (hD : DR w 3 A) (hA : AOK A) {k : Nat} (b : Bool) (hk : k < kN A) : CF yX6_doMark cX6_doMark 3 (some .int) 0 0 [.ref 0, .int (nI k), .int (bI b)] w (fun r w' => r = some (.int (nI (if lsA A k = b then 9 else 0))) ∧ DR w' 3 (if (if lsA A k = b then 9 else 0) = 0 then losA A k b else A) ∧ Fr w w') := by
  have zq_n := hA.n12
  have hN := hD.dn
  refine CF.of ok_X6_doMark (Nat.le_of_ble_eq_true rfl) (fun ex us G9 p9 l9 e9 s9 m9 ar9 be9 me9 co9 C hr => ?_)
  refine a_aload_n C dX6_doMark_0 rfl rfl ?_
  refine a_getfF C fX6_19 dX6_doMark_1 (show _ < 219 from (by first | decide | omega)) (by first | decide | omega) rfl rfl ?_
  refine a_getfF C fX6_103 dX6_doMark_4 (show _ < 219 from (by first | decide | omega)) (by first | decide | omega) rfl rfl ?_
  refine a_iload_n C dX6_doMark_7 rfl rfl ?_
  refine a_aaldK C dX6_doMark_8 (show _ < 219 from (by first | decide | omega)) (by first | decide | omega) rfl rfl (by first | decide | omega) (by decide) rfl ?_
  refine a_getf C fX6_126 dX6_doMark_9 (show _ < 219 from (by first | decide | omega)) (by first | decide | omega) (fz_key (j := 0) (by decide) (by omega)) (gl (DR_kl hD hA (by omega))) ?_
  refine a_iload_n C dX6_doMark_12 rfl rfl ?_
  refine a_icmp_ne (tgt := 19) C dX6_doMark_13 (by decide) (fun h_13 => ?_) (fun h_13 => ?_)
  · have zq_e : ¬ lsA A k = b := fun z => h_13 (by rw [z])
    refine a_aload_n C dX6_doMark_19 rfl rfl ?_
    refine a_getfF C fX6_19 dX6_doMark_20 (show _ < 219 from (by first | decide | omega)) (by first | decide | omega) rfl rfl ?_
    refine a_getfF C fX6_103 dX6_doMark_23 (show _ < 219 from (by first | decide | omega)) (by first | decide | omega) rfl rfl ?_
    refine a_iload_n C dX6_doMark_26 rfl rfl ?_
    refine a_aaldK C dX6_doMark_27 (show _ < 219 from (by first | decide | omega)) (by first | decide | omega) rfl rfl (by first | decide | omega) (by decide) rfl ?_
    refine a_iload_n C dX6_doMark_28 rfl rfl ?_
    refine f_putf C fX6_126 dX6_doMark_29 (by first | decide | omega) (fz_key (j := 0) (by decide) (by omega)) (bI_narrow _) (bI_fits _) (Nat.le_of_ble_eq_true rfl) (fzc_key (j := 0) (by decide) (by omega) _ _) ?_
    refine a_dnK (k := k) (j := 2) hN zq_n (by omega) (by decide) (fun hN => ?_)
    refine a_iconst (v := nI 0) C dX6_doMark_32 (by decide) ?_
    refine f_iret C hr ?_ dX6_doMark_33 ?_
    · rfl
    · rw [if_neg zq_e]
      exact ⟨rfl, hN.dr (kN_upd (by omega)), (by repeat' (first | exact Fr_refl | (refine Fr_set (by omega) ?_)))⟩
  · have zq_e := bI_inj h_13
    refine a_bipush (v := nI 9) C dX6_doMark_16 (by decide) ?_
    refine f_iret C hr ?_ dX6_doMark_18 ?_
    · rfl
    · rw [if_pos zq_e]
      exact ⟨rfl, hD, Fr_refl⟩

theorem okO_r {l f s : Nat} (h : okO l f s) : l < 128 ∧ f < 81 := by
  rcases h with ⟨rfl, h1, h2⟩ | ⟨rfl, h1, h2⟩ | ⟨rfl, h1, h2⟩ | ⟨rfl, h1⟩ | ⟨rfl, h1⟩ <;> exact ⟨by omega, by omega⟩
theorem rsn_c {A : St} {f s : Nat} : rsnA A 99 f s = wncA A f := rfl
theorem rsn_7 {A : St} {l f s : Nat} (h : ¬ l = 99) (hk : ¬ f < kN A) : rsnA A l f s = 7 := by
  unfold rsnA
  rw [if_neg h, if_pos hk]
theorem rsn_d {A : St} {f s : Nat} (hk : f < kN A) : rsnA A 100 f s = wndA A f s := by
  unfold rsnA
  rw [if_neg (by decide), if_neg (fun z => z hk), if_pos rfl]
theorem rsn_t {A : St} {f s : Nat} (hk : f < kN A) : rsnA A 116 f s = if wdA A s = true then (if lsA A f = true then 9 else 0) else 8 := by
  unfold rsnA
  rw [if_neg (by decide), if_neg (fun z => z hk), if_neg (by decide), if_pos rfl]
theorem rsn_m {A : St} {l f s : Nat} (h1 : ¬ l = 99) (h2 : ¬ l = 100) (h3 : ¬ l = 116) (hk : f < kN A) : rsnA A l f s = if lsA A f = (l == 108) then 9 else 0 := by
  unfold rsnA
  rw [if_neg h1, if_neg (fun z => z hk), if_neg h2, if_neg h3]
theorem dos_m {A : St} {l f s : Nat} (h1 : ¬ l = 99) (h2 : ¬ l = 100) (h3 : ¬ l = 116) : dosA A l f s = losA A f (l == 108) := by
  unfold dosA
  rw [if_neg h1, if_neg h2, if_neg h3]
set_option maxRecDepth 20000 in
set_option maxHeartbeats 4000000 in
theorem K_X6_doOrder {w : Wd} {A : St} (hD : DR w 3 A) (hA : AOK A) {l f s : Nat} (ho : okO l f s) (hk3 : w.1 1 3 = nI l) (hk4 : l = 99 → w.1 1 4 = nI f) (hk5 : ¬ l = 99 → w.1 1 5 = nI f) (hk6 : l = 99 ∨ l = 100 ∨ l = 116 → w.1 1 6 = nI s)  : CF yX6_doOrder cX6_doOrder 1 (some .int) 4 97 [.ref 0] w (fun r w' => r = some (.int (nI (rsnA A l f s))) ∧ DR w' 3 (if rsnA A l f s = 0 then dosA A l f s else A) ∧ Fr w w') := by
  have zq_n := hA.n12
  have zq_r := okO_r ho
  refine CF.of ok_X6_doOrder (Nat.le_of_ble_eq_true rfl) (fun ex us G9 p9 l9 e9 s9 m9 ar9 be9 me9 co9 C hr => ?_)
  refine a_aload_n C dX6_doOrder_0 rfl rfl ?_
  refine a_getfF C fX6_10 dX6_doOrder_1 (show _ < 219 from (by first | decide | omega)) (by first | decide | omega) rfl rfl ?_
  refine a_getf C fX6_431 dX6_doOrder_4 (show _ < 219 from (by first | decide | omega)) (by first | decide | omega) rfl (gl hk3) ?_
  refine a_bipush (v := nI 99) C dX6_doOrder_7 (by decide) ?_
  refine n_icmp_ne (tgt := 31) C dX6_doOrder_9 (by decide) (by first | decide | omega) (by first | decide | omega) (fun h_9 => ?_) (fun h_9 => ?_)
  · refine a_aload_n C dX6_doOrder_31 rfl rfl ?_
    refine a_aload_n C dX6_doOrder_32 rfl rfl ?_
    refine a_getfF C fX6_10 dX6_doOrder_33 (show _ < 219 from (by first | decide | omega)) (by first | decide | omega) rfl rfl ?_
    refine a_getf C fX6_442 dX6_doOrder_36 (show _ < 219 from (by first | decide | omega)) (by first | decide | omega) rfl (gl (hk5 h_9)) ?_
    refine p_callV C (K_X6_isKey hD hA _) vX6_83 rfl (by first | decide | omega) rfl rfl dX6_doOrder_39 (Nat.le_of_ble_eq_true rfl) ⟨by decide, by decide⟩ ?_
    first | refine b_if_ne (tgt := 48) C dX6_doOrder_42 (by decide) (fun h_42 => ?_) (fun h_42 => ?_) | refine n_if_ne (tgt := 48) C dX6_doOrder_42 (by decide) (by first | decide | omega) (fun h_42 => ?_) (fun h_42 => ?_) | refine a_if_ne (tgt := 48) C dX6_doOrder_42 (by decide) (fun h_42 => ?_) (fun h_42 => ?_)
    · have zq_k : f < kN A := by have z9 := h_42; rw [inR_nI (by omega)] at z9; exact of_decide_eq_true z9
      refine a_aload_n C dX6_doOrder_48 rfl rfl ?_
      refine a_getfF C fX6_10 dX6_doOrder_49 (show _ < 219 from (by first | decide | omega)) (by first | decide | omega) rfl rfl ?_
      refine a_getf C fX6_431 dX6_doOrder_52 (show _ < 219 from (by first | decide | omega)) (by first | decide | omega) rfl (gl hk3) ?_
      refine a_bipush (v := nI 100) C dX6_doOrder_55 (by decide) ?_
      refine n_icmp_ne (tgt := 79) C dX6_doOrder_57 (by decide) (by first | decide | omega) (by first | decide | omega) (fun h_57 => ?_) (fun h_57 => ?_)
      · refine a_aload_n C dX6_doOrder_79 rfl rfl ?_
        refine a_getfF C fX6_10 dX6_doOrder_80 (show _ < 219 from (by first | decide | omega)) (by first | decide | omega) rfl rfl ?_
        refine a_getf C fX6_431 dX6_doOrder_83 (show _ < 219 from (by first | decide | omega)) (by first | decide | omega) rfl (gl hk3) ?_
        refine a_bipush (v := nI 116) C dX6_doOrder_86 (by decide) ?_
        refine n_icmp_ne (tgt := 110) C dX6_doOrder_88 (by decide) (by first | decide | omega) (by first | decide | omega) (fun h_88 => ?_) (fun h_88 => ?_)
        · refine a_aload_n C dX6_doOrder_110 rfl rfl ?_
          refine a_aload_n C dX6_doOrder_111 rfl rfl ?_
          refine a_getfF C fX6_10 dX6_doOrder_112 (show _ < 219 from (by first | decide | omega)) (by first | decide | omega) rfl rfl ?_
          refine a_getf C fX6_442 dX6_doOrder_115 (show _ < 219 from (by first | decide | omega)) (by first | decide | omega) rfl (gl (hk5 h_9)) ?_
          refine a_via 135 (bI (l == 108)) ?_ (fun zJ135 => ?_)
          · refine f_callV C _ _ (K_X6_doMark hD hA (l == 108) zq_k) vX6_451 (by first | decide | omega) rfl rfl dX6_doOrder_135 rfl (Nat.le_of_ble_eq_true rfl) ⟨by decide, by decide⟩ (fun zr135 zw135 zp135 => ?_)
            obtain ⟨rfl, zq_D, zq_F⟩ := zp135
            refine f_iret C hr ?_ dX6_doOrder_138 ?_
            · rfl
            · rw [rsn_m h_9 h_57 h_88 zq_k, dos_m h_9 h_57 h_88]
              exact ⟨rfl, zq_D, zq_F⟩
          · refine a_aload_n C dX6_doOrder_118 rfl rfl ?_
            refine a_getfF C fX6_10 dX6_doOrder_119 (show _ < 219 from (by first | decide | omega)) (by first | decide | omega) rfl rfl ?_
            refine a_getf C fX6_431 dX6_doOrder_122 (show _ < 219 from (by first | decide | omega)) (by first | decide | omega) rfl (gl hk3) ?_
            refine a_bipush (v := nI 108) C dX6_doOrder_125 (by decide) ?_
            refine n_icmp_ne (tgt := 134) C dX6_doOrder_127 (by decide) (by first | decide | omega) (by first | decide | omega) (fun h_127 => ?_) (fun h_127 => ?_)
            · refine a_iconst (v := nI 0) C dX6_doOrder_134 (by decide) ?_
              refine a_eq rfl (gl1 ?_) rfl zJ135
              · first | exact iT (beq_iff_eq.mpr h_127) | exact iF (beq_eq_false_iff_ne.mpr h_127)
            · refine a_iconst (v := nI 1) C dX6_doOrder_130 (by decide) ?_
              refine a_goto (tgt := 135) C dX6_doOrder_131 (by decide) ?_
              refine a_eq rfl (gl1 ?_) rfl zJ135
              · first | exact iT (beq_iff_eq.mpr h_127) | exact iF (beq_eq_false_iff_ne.mpr h_127)
        · subst h_88
          have zq_o : s < 6 := by unfold okO at ho; omega
          refine a_aload_n C dX6_doOrder_91 rfl rfl ?_
          refine a_aload_n C dX6_doOrder_92 rfl rfl ?_
          refine a_getfF C fX6_10 dX6_doOrder_93 (show _ < 219 from (by first | decide | omega)) (by first | decide | omega) rfl rfl ?_
          refine a_getf C fX6_442 dX6_doOrder_96 (show _ < 219 from (by first | decide | omega)) (by first | decide | omega) rfl (gl (hk5 h_9)) ?_
          refine a_aload_n C dX6_doOrder_99 rfl rfl ?_
          refine a_getfF C fX6_10 dX6_doOrder_100 (show _ < 219 from (by first | decide | omega)) (by first | decide | omega) rfl rfl ?_
          refine a_getf C fX6_436 dX6_doOrder_103 (show _ < 219 from (by first | decide | omega)) (by first | decide | omega) rfl (gl (hk6 (Or.inr (Or.inr rfl)))) ?_
          refine f_callV C _ _ (K_X6_doTry hD hA zq_k zq_o) vX6_448 (by first | decide | omega) rfl rfl dX6_doOrder_106 rfl (Nat.le_of_ble_eq_true rfl) ⟨by decide, by decide⟩ (fun zr106 zw106 zp106 => ?_)
          obtain ⟨rfl, zq_D, zq_F⟩ := zp106
          refine f_iret C hr ?_ dX6_doOrder_109 ?_
          · rfl
          · rw [rsn_t zq_k]
            exact ⟨rfl, zq_D, zq_F⟩
      · subst h_57
        have zq_o : s < 4 := by unfold okO at ho; omega
        refine a_aload_n C dX6_doOrder_60 rfl rfl ?_
        refine a_aload_n C dX6_doOrder_61 rfl rfl ?_
        refine a_getfF C fX6_10 dX6_doOrder_62 (show _ < 219 from (by first | decide | omega)) (by first | decide | omega) rfl rfl ?_
        refine a_getf C fX6_442 dX6_doOrder_65 (show _ < 219 from (by first | decide | omega)) (by first | decide | omega) rfl (gl (hk5 h_9)) ?_
        refine a_aload_n C dX6_doOrder_68 rfl rfl ?_
        refine a_getfF C fX6_10 dX6_doOrder_69 (show _ < 219 from (by first | decide | omega)) (by first | decide | omega) rfl rfl ?_
        refine a_getf C fX6_436 dX6_doOrder_72 (show _ < 219 from (by first | decide | omega)) (by first | decide | omega) rfl (gl (hk6 (Or.inr (Or.inl rfl)))) ?_
        refine f_callV C _ _ (K_X6_doDeepen hD hA zq_k zq_o) vX6_445 (by first | decide | omega) rfl rfl dX6_doOrder_75 rfl (Nat.le_of_ble_eq_true rfl) ⟨by decide, by decide⟩ (fun zr75 zw75 zp75 => ?_)
        obtain ⟨rfl, zq_D, zq_F⟩ := zp75
        refine f_iret C hr ?_ dX6_doOrder_78 ?_
        · rfl
        · rw [rsn_d zq_k]
          exact ⟨rfl, zq_D, zq_F⟩
    · have zq_k : ¬ f < kN A := by have z9 := h_42; rw [inR_nI (by omega)] at z9; exact of_decide_eq_false z9
      refine a_bipush (v := nI 7) C dX6_doOrder_45 (by decide) ?_
      refine f_iret C hr ?_ dX6_doOrder_47 ?_
      · rfl
      · rw [rsn_7 h_9 zq_k]
        exact ⟨rfl, hD, Fr_refl⟩
  · subst h_9
    have zq_o : f < 81 ∧ s < 4 := by unfold okO at ho; omega
    refine a_aload_n C dX6_doOrder_12 rfl rfl ?_
    refine a_aload_n C dX6_doOrder_13 rfl rfl ?_
    refine a_getfF C fX6_10 dX6_doOrder_14 (show _ < 219 from (by first | decide | omega)) (by first | decide | omega) rfl rfl ?_
    refine a_getf C fX6_435 dX6_doOrder_17 (show _ < 219 from (by first | decide | omega)) (by first | decide | omega) rfl (gl (hk4 rfl)) ?_
    refine a_aload_n C dX6_doOrder_20 rfl rfl ?_
    refine a_getfF C fX6_10 dX6_doOrder_21 (show _ < 219 from (by first | decide | omega)) (by first | decide | omega) rfl rfl ?_
    refine a_getf C fX6_436 dX6_doOrder_24 (show _ < 219 from (by first | decide | omega)) (by first | decide | omega) rfl (gl (hk6 (Or.inl rfl))) ?_
    refine f_callV C _ _ (K_X6_doCut hD hA zq_o.1 zq_o.2) vX6_439 (by first | decide | omega) rfl rfl dX6_doOrder_27 rfl (Nat.le_of_ble_eq_true rfl) ⟨by decide, by decide⟩ (fun zr27 zw27 zp27 => ?_)
    obtain ⟨rfl, zq_D, zq_F⟩ := zp27
    refine f_iret C hr ?_ dX6_doOrder_30 ?_
    · rfl
    · exact ⟨rfl, zq_D, zq_F⟩

/-- what obeying changes: the state and the text's reader -/
def FrO (w w' : Wd) : Prop := (∀ a, ¬ a = 1 → (a < 3 ∨ 26 ≤ a) → w'.1 a = w.1 a) ∧ (∀ j, j < 2 → w'.1 1 j = w.1 1 j) ∧ w'.2 = w.2
theorem FrO.rf {w : Wd} : FrO w w := ⟨fun _ _ _ => rfl, fun _ _ => rfl, rfl⟩
theorem FrO.ot {w v u : Wd} (h : FrO w v) (h2 : OT v u) : FrO w u := ⟨fun a a1 ha => (h2.1 a a1).trans (h.1 a a1 ha), fun j hj => (h2.2.1 j hj).trans (h.2.1 j hj), h2.2.2.trans h.2.2⟩
theorem FrO.fr {w v u : Wd} (h : FrO w v) (h2 : Fr v u) : FrO w u := ⟨fun a a1 ha => (h2.1 a ha).trans (h.1 a a1 ha), fun j hj => by rw [h2.1 1 (by omega)]; exact h.2.1 j hj, h2.2.trans h.2.2⟩
theorem FrO.set {w v : Wd} {a j : Nat} {x : Int32} (h : FrO w v) (ha : 3 ≤ a ∧ a < 26 ∨ a = 1 ∧ 2 ≤ j) : FrO w (wSet v a j x) :=
  ⟨fun b b1 hb => by rw [wSet_th (by omega)]; exact h.1 b b1 hb, fun k hk => by rw [wSet_ne (by omega)]; exact h.2.1 k hk, h.2.2⟩
theorem FrO.tx {w v : Wd} {t : Nat → Nat} {ln : Nat} (h : FrO w v) (hT : Tx w t ln) : Tx v t ln := ⟨(h.2.1 1 (by decide)).trans hT.1, hT.2.1, fun j hj => ⟨by rw [h.1 2 (by decide) (by decide)]; exact (hT.2.2 j hj).1, (hT.2.2 j hj).2⟩⟩
theorem OT.dr {w v : Wd} {A : St} (h : OT w v) (hD : DR w 3 A) (hA : AOK A) : DR v 3 A := hD.same hA (fun a h1 h2 => h.1 a (by omega))
theorem rdO_end (t : Nat → Nat) (ln : Nat) : (rdO t ln ln).1 = false := by
  cases e : (rdO t ln ln).1 with
  | false => rfl
  | true => have := ((rdO_le (t := t) (Nat.le_refl ln)).2 e).2.1; omega
set_option maxRecDepth 20000 in
set_option maxHeartbeats 4000000 in
theorem K_X6_doOrders {w : Wd} {A : St} {t : Nat → Nat} {ln : Nat} (hD : DR w 3 A) (hA : AOK A) (hT : Tx w t ln) (hr0 : (rdA t ln 60 0).1 = true)  : CF yX6_doOrders cX6_doOrders 3 (some .int) 5 117 [.ref 0] w (fun r w' => r = some (.int (nI (runO t ln 60 0 0 A).1)) ∧ DR w' 3 (runO t ln 60 0 0 A).2 ∧ FrO w w') := by
  have zq_l := hT.2.1
  refine CF.of ok_X6_doOrders (Nat.le_of_ble_eq_true rfl) (fun ex us G9 p9 l9 e9 s9 m9 ar9 be9 me9 co9 C hr => ?_)
  have ZL10 : ∀ (zd10 : Nat) (d q : Nat) (B : St) (b : Bool) (z : Wd), 60 + 1 ≤ d + zd10 → 2 * d ≤ q → q ≤ ln → z.1 1 2 = nI q → DR z 3 B → AOK B → FrO w z → (b = true → ∃ n, (rdA t ln n q).1 = true ∧ runO t ln n q d B = (runO t ln 60 0 0 A)) → (b = false → q = ln ∧ (runO t ln 60 0 0 A) = (d, B)) → WA G9 p9 l9 e9 (RM 5 117) s9 m9 ar9 be9 me9 co9 (QF G9 be9 ar9 s9 w ex us (fun r w' => r = some (.int (nI (runO t ln 60 0 0 A).1)) ∧ DR w' 3 (runO t ln 60 0 0 A).2 ∧ FrO w w')) 3 (219 + ex) us 10 [some (.ref 0), some (.int (nI d)), none] [] (fzM z ex us) := by
    intro zd10
    induction zd10 with
    | zero => intro d q B b z zm10 zh_d zh_q zh_p zh_D zh_B zh_F zh_t zh_f; exfalso; omega
    | succ zd10 zih10 =>
      intro d q B b z zm10 zh_d zh_q zh_p zh_D zh_B zh_F zh_t zh_f
      have zh_T := zh_F.tx hT
      refine a_iload_n C dX6_doOrders_10 rfl rfl ?_
      refine a_bipush (v := nI 60) C dX6_doOrders_11 (by decide) ?_
      first | refine n_icmp_ge (tgt := 69) C dX6_doOrders_13 (by decide) (by first | decide | omega) (by first | decide | omega) (fun h_13 => ?_) (fun h_13 => ?_) | refine a_icmp_ge (tgt := 69) C dX6_doOrders_13 (by decide) (fun h_13 => ?_) (fun h_13 => ?_)
      · exfalso; omega
      · refine a_aload_n C dX6_doOrders_16 rfl rfl ?_
        refine a_getfF C fX6_10 dX6_doOrders_17 (show _ < 219 from (by first | decide | omega)) (by first | decide | omega) rfl rfl ?_
        refine f_callV C _ _ (K_X4_readOrder zh_T zh_p zh_q) vX6_421 (by first | decide | omega) rfl rfl dX6_doOrders_20 rfl (Nat.le_of_ble_eq_true rfl) ⟨by decide, by decide⟩ (fun zr20 zw20 zp20 => ?_)
        obtain ⟨rfl, zp_20, zn_20, zo_20⟩ := zp20
        have zq_F := zh_F.ot zo_20
        have zq_D := zo_20.dr zh_D zh_B
        first | refine b_if_eq (tgt := 69) C dX6_doOrders_23 (by decide) (fun h_23 => ?_) (fun h_23 => ?_) | refine n_if_eq (tgt := 69) C dX6_doOrders_23 (by decide) (by first | decide | omega) (fun h_23 => ?_) (fun h_23 => ?_) | refine a_if_eq (tgt := 69) C dX6_doOrders_23 (by decide) (fun h_23 => ?_) (fun h_23 => ?_)
        · have zq_b : b = false := by
            cases e9 : b with
            | false => rfl
            | true =>
              obtain ⟨n9, z1, -⟩ := zh_t e9
              obtain ⟨-, -, z2, -⟩ := rdA_in zh_q z1
              rw [h_23] at z2
              cases z2
          obtain ⟨-, zq_e⟩ := zh_f zq_b
          refine a_iload_n C dX6_doOrders_69 rfl rfl ?_
          refine f_iret C hr ?_ dX6_doOrders_70 ?_
          · rfl
          · rw [zq_e]
            exact ⟨rfl, zq_D, zq_F⟩
        · have zq_b : b = true := by
            cases e9 : b with
            | true => rfl
            | false => rw [(zh_f e9).1, rdO_end] at h_23; cases h_23
          obtain ⟨n9, zr_1, zr_2⟩ := zh_t zq_b
          obtain ⟨m9, rfl, -, zr_o, zr_3, zr_4, zr_5, zr_6⟩ := rdA_in zh_q zr_1
          obtain ⟨zn_3, zn_4, zn_5, zn_6⟩ := zn_20 h_23
          refine a_aload_n C dX6_doOrders_26 rfl rfl ?_
          refine f_callV C _ _ (K_X6_doOrder zq_D zh_B zr_o zn_3 zn_4 zn_5 zn_6) vX6_424 (by first | decide | omega) rfl rfl dX6_doOrders_27 rfl (Nat.le_of_ble_eq_true rfl) ⟨by decide, by decide⟩ (fun zr27 zw27 zp27 => ?_)
          obtain ⟨rfl, zq_E, zq_G⟩ := zp27
          refine a_istore_n C dX6_doOrders_30 rfl (by decide) ?_
          refine a_iload_n C dX6_doOrders_31 rfl rfl ?_
          refine n_if_eq (tgt := 53) C dX6_doOrders_32 (by decide) rsn_lt  (fun h_32 => ?_) (fun h_32 => ?_)
          · have zq_rs : rsO B (rdO t ln q) = 0 := h_32
            rw [if_pos h_32] at zq_E
            have zq_ok : AOK (dsO B (rdO t ln q)) := dos_ok zh_B zr_o zq_rs
            have zq_p : zw27.1 1 2 = nI (rdO t ln q).2.1 := by rw [zq_G.1 1 (by omega)]; exact zp_20
            refine n_iinc C dX6_doOrders_53 rfl (by decide) ?_
            refine a_aload_n C dX6_doOrders_56 rfl rfl ?_
            refine a_getfF C fX6_10 dX6_doOrders_57 (show _ < 219 from (by first | decide | omega)) (by first | decide | omega) rfl rfl ?_
            refine a_bipush (v := nI 59) C dX6_doOrders_60 (by decide) ?_
            refine f_callV C _ _ (K_X4_skip (a := 59) ((zq_F.fr zq_G).tx hT) zq_p zr_4 (by decide)) vX6_427 (by first | decide | omega) rfl rfl dX6_doOrders_62 rfl (Nat.le_of_ble_eq_true rfl) ⟨by decide, by decide⟩ (fun zr62 zw62 zp62 => ?_)
            obtain ⟨rfl, zp_62, zk_62, zo_62⟩ := zp62
            have zy_D : DR zw62 3 (dsO B (rdO t ln q)) := zo_62.dr zq_E zq_ok
            obtain ⟨q9, b9, zy_1, zy_q, zy_p, zy_t, zy_f⟩ : ∃ q9 b9, q + 2 ≤ q9 ∧ q9 ≤ ln ∧ zw62.1 1 2 = nI q9 ∧ (b9 = true → ∃ n, (rdA t ln n q9).1 = true ∧ runO t ln n q9 (d + 1) (dsO B (rdO t ln q)) = (runO t ln 60 0 0 A)) ∧ (b9 = false → q9 = ln ∧ (runO t ln 60 0 0 A) = (d + 1, dsO B (rdO t ln q))) := by
              rcases zr_6 with z6 | ⟨z6, z7, z8⟩
              · have z9 : chB t ln 59 (rdO t ln q).2.1 = false := decide_eq_false (fun y => by omega)
                rw [z9] at zp_62
                exact ⟨(rdO t ln q).2.1, false, zr_3, zr_4, zp_62, (fun h => nomatch h), fun _ => ⟨z6, by rw [← zr_2, run_e zq_rs z6]⟩⟩
              · rw [z7] at zp_62
                have y := isB_at z7
                exact ⟨(rdO t ln q).2.1 + 1, true, by omega, by omega, zp_62, fun _ => ⟨m9, z8, by rw [← zr_2, run_g zq_rs z6]⟩, (fun h => nomatch h)⟩
            refine a_pop C dX6_doOrders_65 rfl ?_
            refine a_goto (tgt := 10) C dX6_doOrders_66 (by decide) ?_
            refine a_join (aLe_s ?_ (aLe_s ?_ (aLe_n aLe_nil))) rfl rfl (zih10 (d + 1) q9 (dsO B (rdO t ln q)) b9 zw62 (by omega) (by omega) zy_q zy_p zy_D zq_ok ((zq_F.fr zq_G).ot zo_62) zy_t zy_f)
            · first | with_reducible rfl | exact gl (by first | with_reducible rfl | (refine iF ?_; simp [h_13, h_23, (eq_true h_32), (beq_iff_eq.mpr h_32), (bne_eq_false_iff_eq.mpr h_32)]; done) | (refine iT ?_; simp [h_13, h_23, (eq_true h_32), (beq_iff_eq.mpr h_32), (bne_eq_false_iff_eq.mpr h_32)]; done) | (refine iB ?_; simp [h_13, h_23, (eq_true h_32), (beq_iff_eq.mpr h_32), (bne_eq_false_iff_eq.mpr h_32)]; done) | (simp [h_13, h_23, (eq_true h_32), (beq_iff_eq.mpr h_32), (bne_eq_false_iff_eq.mpr h_32)]; done) | (simp [h_13, h_23, (eq_true h_32), (beq_iff_eq.mpr h_32), (bne_eq_false_iff_eq.mpr h_32)]; omega) | omega)
            · first | with_reducible rfl | exact gl (by first | with_reducible rfl | (refine iF ?_; simp [h_13, h_23, (eq_true h_32), (beq_iff_eq.mpr h_32), (bne_eq_false_iff_eq.mpr h_32)]; done) | (refine iT ?_; simp [h_13, h_23, (eq_true h_32), (beq_iff_eq.mpr h_32), (bne_eq_false_iff_eq.mpr h_32)]; done) | (refine iB ?_; simp [h_13, h_23, (eq_true h_32), (beq_iff_eq.mpr h_32), (bne_eq_false_iff_eq.mpr h_32)]; done) | (simp [h_13, h_23, (eq_true h_32), (beq_iff_eq.mpr h_32), (bne_eq_false_iff_eq.mpr h_32)]; done) | (simp [h_13, h_23, (eq_true h_32), (beq_iff_eq.mpr h_32), (bne_eq_false_iff_eq.mpr h_32)]; omega) | omega)
          · have zq_rs : ¬ rsO B (rdO t ln q) = 0 := h_32
            rw [if_neg h_32] at zq_E
            rw [run_s zq_rs] at zr_2
            have hN := zq_E.dn
            have zq_n := zh_B.n12
            refine a_aload_n C dX6_doOrders_35 rfl rfl ?_
            refine a_getfF C fX6_19 dX6_doOrders_36 (show _ < 219 from (by first | decide | omega)) (by first | decide | omega) rfl rfl ?_
            refine a_iload_n C dX6_doOrders_39 rfl rfl ?_
            refine f_putf C fX6_217 dX6_doOrders_40 (by first | decide | omega) rfl rfl rfl (Nat.le_of_ble_eq_true rfl) rfl ?_
            refine a_dnC 6 hN zq_n (by decide) (fun hN => ?_)
            refine a_aload_n C dX6_doOrders_43 rfl rfl ?_
            refine a_getfF C fX6_19 dX6_doOrders_44 (show _ < 219 from (by first | decide | omega)) (by first | decide | omega) rfl rfl ?_
            refine a_iload_n C dX6_doOrders_47 rfl rfl ?_
            refine f_putf C fX6_220 dX6_doOrders_48 (by first | decide | omega) rfl rfl rfl (Nat.le_of_ble_eq_true rfl) rfl ?_
            refine a_dnC 7 hN zq_n (by decide) (fun hN => ?_)
            refine a_iload_n C dX6_doOrders_51 rfl rfl ?_
            refine f_iret C hr ?_ dX6_doOrders_52 ?_
            · rfl
            · rw [← zr_2]
              exact ⟨rfl, hN.dr ((kN_upd (by omega)).trans (kN_upd (by omega))), ((zq_F.fr zq_G).set (by omega)).set (by omega)⟩
  refine a_pad 2 ?_
  refine a_eq (L' := [some (.ref 0), none, none]) rfl rfl rfl ?_
  refine a_aload_n C dX6_doOrders_0 rfl rfl ?_
  refine a_getfF C fX6_10 dX6_doOrders_1 (show _ < 219 from (by first | decide | omega)) (by first | decide | omega) rfl rfl ?_
  refine a_iconst (v := nI 0) C dX6_doOrders_4 (by decide) ?_
  refine f_putf C fX6_212 dX6_doOrders_5 (by first | decide | omega) rfl rfl rfl (Nat.le_of_ble_eq_true rfl) rfl ?_
  refine a_iconst (v := nI 0) C dX6_doOrders_8 (by decide) ?_
  refine a_istore_n C dX6_doOrders_9 rfl (by decide) ?_
  refine a_join (aLe_s ?_ (aLe_s ?_ (aLe_n aLe_nil))) rfl rfl (ZL10 (60 + 1) 0 0 A true (wSet w 1 2 (nI 0)) (by omega) (by omega) (by omega) wSet_at (hD.same hA (fun a h1 h2 => wSet_th (by omega))) hA (FrO.rf.set (by omega)) (fun _ => ⟨60, hr0, rfl⟩) (fun h => nomatch h))
  · first | with_reducible rfl | exact gl (by first | with_reducible rfl | (refine iF ?_; simp []; done) | (refine iT ?_; simp []; done) | (refine iB ?_; simp []; done) | (simp []; done) | (simp []; omega) | omega | rfl)
  · first | with_reducible rfl | exact gl (by first | with_reducible rfl | (refine iF ?_; simp []; done) | (refine iT ?_; simp []; done) | (refine iB ?_; simp []; done) | (simp []; done) | (simp []; omega) | omega | rfl)

end A36

section A38
theorem rsn_w {A : St} {l f s : Nat} (ho : okO l f s) (h1 : ¬ l = 99) (hk : f < kN A) (h2 : ¬ l = 100) (h3 : ¬ l = 116 ∨ wdA A s = true) : rsnA A l f s = if lsA A f = (l != 102) then 9 else 0 := by
  rcases ho with ⟨rfl, -⟩ | ⟨rfl, -⟩ | ⟨rfl, -⟩ | ⟨rfl, -⟩ | ⟨rfl, -⟩
  · exact absurd rfl h1
  · exact absurd rfl h2
  · rw [rsn_t hk, if_pos (h3.resolve_left (fun z => z rfl))]
    rfl
  · rw [rsn_m (by decide) (by decide) (by decide) hk]
    rfl
  · rw [rsn_m (by decide) (by decide) (by decide) hk]
    rfl
set_option maxRecDepth 20000 in
set_option maxHeartbeats 4000000 in
theorem K_X7_whyStopped {w : Wd} {A : St} (hR : RR w A) (hA : AOK A) {l f s : Nat} (ho : okO l f s) (hk9 : w.1 204 9 = nI l) (hk10 : w.1 204 10 = nI f) (hk11 : l = 99 ∨ l = 100 ∨ l = 116 → w.1 204 11 = nI s)  : CP yX7_whyStopped cX7_whyStopped 1 (some .int) 5 115 [.ref 204] w (.int (nI (rsnA A l f s))) := by
  have zq_n := hA.n12
  have zq_r := okO_r ho
  refine CF.of ok_X7_whyStopped (Nat.le_of_ble_eq_true rfl) (fun ex us G9 p9 l9 e9 s9 m9 ar9 be9 me9 co9 C hr => ?_)
  refine a_aload_n C dX7_whyStopped_0 rfl rfl ?_
  refine a_getf C fX7_174 dX7_whyStopped_1 (show _ < 219 from (by first | decide | omega)) (by first | decide | omega) rfl (gl hk9) ?_
  refine a_bipush (v := nI 99) C dX7_whyStopped_4 (by decide) ?_
  refine n_icmp_ne (tgt := 18) C dX7_whyStopped_6 (by decide) (by first | decide | omega) (by first | decide | omega) (fun h_6 => ?_) (fun h_6 => ?_)
  · refine a_aload_n C dX7_whyStopped_18 rfl rfl ?_
    refine a_aload_n C dX7_whyStopped_19 rfl rfl ?_
    refine a_getf C fX7_168 dX7_whyStopped_20 (show _ < 219 from (by first | decide | omega)) (by first | decide | omega) rfl (gl hk10) ?_
    refine p_callV C (K_X7_isKey hR hA _) vX7_131 rfl (by first | decide | omega) rfl rfl dX7_whyStopped_23 (Nat.le_of_ble_eq_true rfl) ⟨by decide, by decide⟩ ?_
    first | refine b_if_ne (tgt := 32) C dX7_whyStopped_26 (by decide) (fun h_26 => ?_) (fun h_26 => ?_) | refine n_if_ne (tgt := 32) C dX7_whyStopped_26 (by decide) (by first | decide | omega) (fun h_26 => ?_) (fun h_26 => ?_) | refine a_if_ne (tgt := 32) C dX7_whyStopped_26 (by decide) (fun h_26 => ?_) (fun h_26 => ?_)
    · have zq_k : f < kN A := by have z9 := h_26; rw [inR_nI (by omega)] at z9; exact of_decide_eq_true z9
      refine a_aload_n C dX7_whyStopped_32 rfl rfl ?_
      refine a_getf C fX7_174 dX7_whyStopped_33 (show _ < 219 from (by first | decide | omega)) (by first | decide | omega) rfl (gl hk9) ?_
      refine a_bipush (v := nI 100) C dX7_whyStopped_36 (by decide) ?_
      refine n_icmp_ne (tgt := 54) C dX7_whyStopped_38 (by decide) (by first | decide | omega) (by first | decide | omega) (fun h_38 => ?_) (fun h_38 => ?_)
      · refine a_aload_n C dX7_whyStopped_54 rfl rfl ?_
        refine a_getf C fX7_174 dX7_whyStopped_55 (show _ < 219 from (by first | decide | omega)) (by first | decide | omega) rfl (gl hk9) ?_
        refine a_bipush (v := nI 116) C dX7_whyStopped_58 (by decide) ?_
        refine n_icmp_ne (tgt := 77) C dX7_whyStopped_60 (by decide) (by first | decide | omega) (by first | decide | omega) (fun h_60 => ?_) (fun h_60 => ?_)
        · have zq_w : ¬ l = 116 ∨ wdA A s = true := Or.inl h_60
          refine a_aload_n C dX7_whyStopped_77 rfl rfl ?_
          refine a_aload_n C dX7_whyStopped_78 rfl rfl ?_
          refine a_getf C fX7_168 dX7_whyStopped_79 (show _ < 219 from (by first | decide | omega)) (by first | decide | omega) rfl (gl hk10) ?_
          refine a_iconst (v := nI 2) C dX7_whyStopped_82 (by decide) ?_
          refine p_callV C (KC_ofKey2 hR hA (by omega)) vX7_85 rfl (by first | decide | omega) rfl rfl dX7_whyStopped_83 (Nat.le_of_ble_eq_true rfl) ⟨by decide, by decide⟩ ?_
          refine a_via 100 (bI (l != 102)) ?_ (fun zJ100 => ?_)
          · refine a_icmp_ne (tgt := 108) C dX7_whyStopped_100 (by decide) (fun h_100 => ?_) (fun h_100 => ?_)
            · have zq_e := rsn_w ho h_6 zq_k h_38 zq_w
              rw [if_neg (fun z => h_100 (by rw [z]))] at zq_e
              refine a_iconst (v := nI 0) C dX7_whyStopped_108 (by decide) ?_
              refine f_iret C hr ?_ dX7_whyStopped_109 ⟨?_, rfl⟩
              · rfl
              · rw [zq_e]
            · have zq_e := rsn_w ho h_6 zq_k h_38 zq_w
              rw [if_pos (bI_inj h_100)] at zq_e
              refine a_bipush (v := nI 9) C dX7_whyStopped_103 (by decide) ?_
              refine a_goto (tgt := 109) C dX7_whyStopped_105 (by decide) ?_
              refine f_iret C hr ?_ dX7_whyStopped_109 ⟨?_, rfl⟩
              · rfl
              · rw [zq_e]
          · refine a_aload_n C dX7_whyStopped_86 rfl rfl ?_
            refine a_getf C fX7_174 dX7_whyStopped_87 (show _ < 219 from (by first | decide | omega)) (by first | decide | omega) rfl (gl hk9) ?_
            refine a_bipush (v := nI 102) C dX7_whyStopped_90 (by decide) ?_
            refine n_icmp_ne (tgt := 99) C dX7_whyStopped_92 (by decide) (by first | decide | omega) (by first | decide | omega) (fun h_92 => ?_) (fun h_92 => ?_)
            · refine a_iconst (v := nI 1) C dX7_whyStopped_99 (by decide) ?_
              refine a_eq rfl (gl1 ?_) rfl zJ100
              · first | exact iF (bne_eq_false_iff_eq.mpr h_92) | exact iT (bne_iff_ne.mpr h_92)
            · refine a_iconst (v := nI 0) C dX7_whyStopped_95 (by decide) ?_
              refine a_goto (tgt := 100) C dX7_whyStopped_96 (by decide) ?_
              refine a_eq rfl (gl1 ?_) rfl zJ100
              · first | exact iF (bne_eq_false_iff_eq.mpr h_92) | exact iT (bne_iff_ne.mpr h_92)
        · have zq_o : s < 6 := by unfold okO at ho; omega
          refine a_aload_n C dX7_whyStopped_63 rfl rfl ?_
          refine a_aload_n C dX7_whyStopped_64 rfl rfl ?_
          refine a_getf C fX7_165 dX7_whyStopped_65 (show _ < 219 from (by first | decide | omega)) (by first | decide | omega) rfl (gl (hk11 (Or.inr (Or.inr h_60)))) ?_
          refine p_callV C (K_X7_isLock hR hA (by first | assumption | decide | omega)) vX7_95 rfl (by first | decide | omega) rfl rfl dX7_whyStopped_68 (Nat.le_of_ble_eq_true rfl) ⟨by decide, by decide⟩ ?_
          first | refine b_if_ne (tgt := 77) C dX7_whyStopped_71 (by decide) (fun h_71 => ?_) (fun h_71 => ?_) | refine n_if_ne (tgt := 77) C dX7_whyStopped_71 (by decide) (by first | decide | omega) (fun h_71 => ?_) (fun h_71 => ?_) | refine a_if_ne (tgt := 77) C dX7_whyStopped_71 (by decide) (fun h_71 => ?_) (fun h_71 => ?_)
          · have zq_w : ¬ l = 116 ∨ wdA A s = true := Or.inr h_71
            refine a_aload_n C dX7_whyStopped_77 rfl rfl ?_
            refine a_aload_n C dX7_whyStopped_78 rfl rfl ?_
            refine a_getf C fX7_168 dX7_whyStopped_79 (show _ < 219 from (by first | decide | omega)) (by first | decide | omega) rfl (gl hk10) ?_
            refine a_iconst (v := nI 2) C dX7_whyStopped_82 (by decide) ?_
            refine p_callV C (KC_ofKey2 hR hA (by omega)) vX7_85 rfl (by first | decide | omega) rfl rfl dX7_whyStopped_83 (Nat.le_of_ble_eq_true rfl) ⟨by decide, by decide⟩ ?_
            refine a_via 100 (bI (l != 102)) ?_ (fun zJ100 => ?_)
            · refine a_icmp_ne (tgt := 108) C dX7_whyStopped_100 (by decide) (fun h_100 => ?_) (fun h_100 => ?_)
              · have zq_e := rsn_w ho h_6 zq_k h_38 zq_w
                rw [if_neg (fun z => h_100 (by rw [z]))] at zq_e
                refine a_iconst (v := nI 0) C dX7_whyStopped_108 (by decide) ?_
                refine f_iret C hr ?_ dX7_whyStopped_109 ⟨?_, rfl⟩
                · rfl
                · rw [zq_e]
              · have zq_e := rsn_w ho h_6 zq_k h_38 zq_w
                rw [if_pos (bI_inj h_100)] at zq_e
                refine a_bipush (v := nI 9) C dX7_whyStopped_103 (by decide) ?_
                refine a_goto (tgt := 109) C dX7_whyStopped_105 (by decide) ?_
                refine f_iret C hr ?_ dX7_whyStopped_109 ⟨?_, rfl⟩
                · rfl
                · rw [zq_e]
            · refine a_aload_n C dX7_whyStopped_86 rfl rfl ?_
              refine a_getf C fX7_174 dX7_whyStopped_87 (show _ < 219 from (by first | decide | omega)) (by first | decide | omega) rfl (gl hk9) ?_
              refine a_bipush (v := nI 102) C dX7_whyStopped_90 (by decide) ?_
              refine n_icmp_ne (tgt := 99) C dX7_whyStopped_92 (by decide) (by first | decide | omega) (by first | decide | omega) (fun h_92 => ?_) (fun h_92 => ?_)
              · refine a_iconst (v := nI 1) C dX7_whyStopped_99 (by decide) ?_
                refine a_eq rfl (gl1 ?_) rfl zJ100
                · first | exact iF (bne_eq_false_iff_eq.mpr h_92) | exact iT (bne_iff_ne.mpr h_92)
              · refine a_iconst (v := nI 0) C dX7_whyStopped_95 (by decide) ?_
                refine a_goto (tgt := 100) C dX7_whyStopped_96 (by decide) ?_
                refine a_eq rfl (gl1 ?_) rfl zJ100
                · first | exact iF (bne_eq_false_iff_eq.mpr h_92) | exact iT (bne_iff_ne.mpr h_92)
          · refine a_bipush (v := nI 8) C dX7_whyStopped_74 (by decide) ?_
            refine f_iret C hr ?_ dX7_whyStopped_76 ⟨?_, rfl⟩
            · rfl
            · rw [h_60, rsn_t zq_k, h_71]
              rfl
      · subst h_38
        have zq_o : s < 4 := by unfold okO at ho; omega
        refine a_aload_n C dX7_whyStopped_41 rfl rfl ?_
        refine a_aload_n C dX7_whyStopped_42 rfl rfl ?_
        refine a_getf C fX7_168 dX7_whyStopped_43 (show _ < 219 from (by first | decide | omega)) (by first | decide | omega) rfl (gl hk10) ?_
        refine a_aload_n C dX7_whyStopped_46 rfl rfl ?_
        refine a_getf C fX7_165 dX7_whyStopped_47 (show _ < 219 from (by first | decide | omega)) (by first | decide | omega) rfl (gl (hk11 (Or.inr (Or.inl rfl)))) ?_
        refine p_callV C (K_X7_whyNotDeeper hR hA (by first | assumption | decide | omega) (by first | assumption | decide | omega)) vX7_137 rfl (by first | decide | omega) rfl rfl dX7_whyStopped_50 (Nat.le_of_ble_eq_true rfl) ⟨by decide, by decide⟩ ?_
        refine f_iret C hr ?_ dX7_whyStopped_53 ⟨?_, rfl⟩
        · rfl
        · rw [rsn_d zq_k]
    · have zq_k : ¬ f < kN A := by have z9 := h_26; rw [inR_nI (by omega)] at z9; exact of_decide_eq_false z9
      refine a_bipush (v := nI 7) C dX7_whyStopped_29 (by decide) ?_
      refine f_iret C hr ?_ dX7_whyStopped_31 ⟨?_, rfl⟩
      · rfl
      · rw [rsn_7 h_6 zq_k]
  · subst h_6
    have zq_o : f < 81 := zq_r.2
    refine a_aload_n C dX7_whyStopped_9 rfl rfl ?_
    refine a_aload_n C dX7_whyStopped_10 rfl rfl ?_
    refine a_getf C fX7_168 dX7_whyStopped_11 (show _ < 219 from (by first | decide | omega)) (by first | decide | omega) rfl (gl hk10) ?_
    refine p_callV C (K_X7_whyNotCut hR hA (by first | assumption | decide | omega)) vX7_125 rfl (by first | decide | omega) rfl rfl dX7_whyStopped_14 (Nat.le_of_ble_eq_true rfl) ⟨by decide, by decide⟩ ?_
    refine f_iret C hr ?_ dX7_whyStopped_17 ⟨?_, rfl⟩
    · rfl
    · exact rfl

theorem onesN_lt (x : Nat) : onesN x < 1000 := by
  have z := sumN_le (P := oneP x) (b := 1) (fun k => by
    unfold oneP
    exact Nat.and_le_right) 12
  unfold onesN
  omega
set_option maxRecDepth 20000 in
set_option maxHeartbeats 4000000 in
theorem K_X7_doesOrder {w : Wd} {A : St} (hR : RR w A) (hA : AOK A) {l f s : Nat} (ho : okO l f s) (hk9 : w.1 204 9 = nI l) (hk10 : w.1 204 10 = nI f) (hk11 : l = 99 ∨ l = 100 ∨ l = 116 → w.1 204 11 = nI s) (hz : rsnA A l f s = 0) : CF yX7_doesOrder cX7_doesOrder 1 (some .int) 7 153 [.ref 204] w (fun r w' => ∃ v, v < 2 ^ 31 ∧ r = some (.int (nI v)) ∧ w' = wRow w 205 (dosA A l f s)) := by
  have zq_n := hA.n12
  have zq_r := okO_r ho
  have zq_k : ¬ l = 99 → f < kN A := fun h => by
    by_cases z : f < kN A
    · exact z
    · rw [rsn_7 h z] at hz; cases hz
  refine CF.of ok_X7_doesOrder (Nat.le_of_ble_eq_true rfl) (fun ex us G9 p9 l9 e9 s9 m9 ar9 be9 me9 co9 C hr => ?_)
  refine a_aload_n C dX7_doesOrder_0 rfl rfl ?_
  refine a_getf C fX7_174 dX7_doesOrder_1 (show _ < 219 from (by first | decide | omega)) (by first | decide | omega) rfl (gl hk9) ?_
  rcases ho with ⟨zl, zl_1, zl_2⟩ | ⟨zl, zl_1, zl_2⟩ | ⟨zl, zl_1, zl_2⟩ | ⟨zl, zl_1⟩ | ⟨zl, zl_1⟩
  · rw [zl]
    refine a_lookup (x := nI 99) (off := 36) (tgt := 40) C dX7_doesOrder_4 (by decide) (by decide) (by decide) ?_
    refine a_aload_n C dX7_doesOrder_40 rfl rfl ?_
    refine a_aload_n C dX7_doesOrder_41 rfl rfl ?_
    refine a_getf C fX7_168 dX7_doesOrder_42 (show _ < 219 from (by first | decide | omega)) (by first | decide | omega) rfl (gl hk10) ?_
    refine a_aload_n C dX7_doesOrder_45 rfl rfl ?_
    refine a_getf C fX7_165 dX7_doesOrder_46 (show _ < 219 from (by first | decide | omega)) (by first | decide | omega) rfl (gl (hk11 (Or.inl zl))) ?_
    refine f_callV C _ _ (K_X7_doesCut hR hA (wnc_n hA (by rw [zl] at hz; exact hz)) zl_1 zl_2) vX7_128 (by first | decide | omega) rfl rfl dX7_doesOrder_49 rfl (Nat.le_of_ble_eq_true rfl) ⟨by decide, by decide⟩ (fun zr49 zw49 zp49 => ?_)
    obtain ⟨rfl, rfl⟩ := zp49
    refine f_iret C hr ?_ dX7_doesOrder_52 ?_
    · rfl
    · exact ⟨kN A, by omega, rfl, rfl⟩
  · rw [zl]
    refine a_lookup (x := nI 100) (off := 49) (tgt := 53) C dX7_doesOrder_4 (by decide) (by decide) (by decide) ?_
    refine a_aload_n C dX7_doesOrder_53 rfl rfl ?_
    refine a_aload_n C dX7_doesOrder_54 rfl rfl ?_
    refine a_getf C fX7_168 dX7_doesOrder_55 (show _ < 219 from (by first | decide | omega)) (by first | decide | omega) rfl (gl hk10) ?_
    refine a_aload_n C dX7_doesOrder_58 rfl rfl ?_
    refine a_getf C fX7_165 dX7_doesOrder_59 (show _ < 219 from (by first | decide | omega)) (by first | decide | omega) rfl (gl (hk11 (Or.inr (Or.inl zl)))) ?_
    refine f_callV C _ _ (K_X7_doesDeepen hR hA (zq_k (by rw [zl]; decide)) zl_2) vX7_140 (by first | decide | omega) rfl rfl dX7_doesOrder_62 rfl (Nat.le_of_ble_eq_true rfl) ⟨by decide, by decide⟩ (fun zr62 zw62 zp62 => ?_)
    obtain ⟨rfl, rfl⟩ := zp62
    refine f_iret C hr ?_ dX7_doesOrder_65 ?_
    · rfl
    · exact ⟨_, by have := hA.c81 (k := f) zl_1; have := (wtN_lt (k := s)).2; omega, rfl, rfl⟩
  · rw [zl]
    refine a_lookup (x := nI 116) (off := 62) (tgt := 66) C dX7_doesOrder_4 (by decide) (by decide) (by decide) ?_
    refine a_aload_n C dX7_doesOrder_66 rfl rfl ?_
    refine a_aload_n C dX7_doesOrder_67 rfl rfl ?_
    refine a_getf C fX7_168 dX7_doesOrder_68 (show _ < 219 from (by first | decide | omega)) (by first | decide | omega) rfl (gl hk10) ?_
    refine a_aload_n C dX7_doesOrder_71 rfl rfl ?_
    refine a_getf C fX7_165 dX7_doesOrder_72 (show _ < 219 from (by first | decide | omega)) (by first | decide | omega) rfl (gl (hk11 (Or.inr (Or.inr zl)))) ?_
    refine f_callV C _ _ (K_X7_doesTurn hR hA (zq_k (by rw [zl]; decide)) zl_2) vX7_152 (by first | decide | omega) rfl rfl dX7_doesOrder_75 rfl (Nat.le_of_ble_eq_true rfl) ⟨by decide, by decide⟩ (fun zr75 zw75 zp75 => ?_)
    obtain ⟨rfl, rfl⟩ := zp75
    refine f_iret C hr ?_ dX7_doesOrder_78 ?_
    · rfl
    · cases e9 : opnA A (cN A f) s with
      | true => exact ⟨1, by decide, rfl, rfl⟩
      | false => exact ⟨0, by decide, rfl, rfl⟩
  · rw [zl]
    refine a_lookup (x := nI 108) (off := 75) (tgt := 79) C dX7_doesOrder_4 (by decide) (by decide) (by decide) ?_
    refine a_aload_n C dX7_doesOrder_79 rfl rfl ?_
    refine a_aload_n C dX7_doesOrder_80 rfl rfl ?_
    refine a_getf C fX7_168 dX7_doesOrder_81 (show _ < 219 from (by first | decide | omega)) (by first | decide | omega) rfl (gl hk10) ?_
    refine a_via 98 (bI (l == 108)) ?_ (fun zJ98 => ?_)
    · refine f_callV C _ _ (K_X7_setsLost hR hA (l == 108) (zq_k (by rw [zl]; decide))) vX7_143 (by first | decide | omega) rfl rfl dX7_doesOrder_98 rfl (Nat.le_of_ble_eq_true rfl) ⟨by decide, by decide⟩ (fun zr98 zw98 zp98 => ?_)
      obtain ⟨rfl, rfl⟩ := zp98
      refine f_iret C hr ?_ dX7_doesOrder_101 ?_
      · rfl
      · exact ⟨_, by have z9 := onesN_lt (lksA A (cN A f)); omega, rfl, by rw [zl]; rfl⟩
    · refine a_aload_n C dX7_doesOrder_84 rfl rfl ?_
      refine a_getf C fX7_174 dX7_doesOrder_85 (show _ < 219 from (by first | decide | omega)) (by first | decide | omega) rfl (gl (hk9.trans (by rw [zl]))) ?_
      refine a_bipush (v := nI 108) C dX7_doesOrder_88 (by decide) ?_
      refine n_icmp_ne (tgt := 97) C dX7_doesOrder_90 (by decide) (by first | decide | omega) (by first | decide | omega) (fun h_90 => ?_) (fun h_90 => ?_)
      · refine a_iconst (v := nI 0) C dX7_doesOrder_97 (by decide) ?_
        refine a_eq rfl (gl1 ?_) rfl zJ98
        · first | exact iT (by rw [zl]; rfl) | exact iF (by rw [zl]; rfl) | exact absurd rfl h_90 | exact absurd h_90 (by decide)
      · refine a_iconst (v := nI 1) C dX7_doesOrder_93 (by decide) ?_
        refine a_goto (tgt := 98) C dX7_doesOrder_94 (by decide) ?_
        refine a_eq rfl (gl1 ?_) rfl zJ98
        · first | exact iT (by rw [zl]; rfl) | exact iF (by rw [zl]; rfl) | exact absurd rfl h_90 | exact absurd h_90 (by decide)
  · rw [zl]
    refine a_lookup (x := nI 102) (off := 75) (tgt := 79) C dX7_doesOrder_4 (by decide) (by decide) (by decide) ?_
    refine a_aload_n C dX7_doesOrder_79 rfl rfl ?_
    refine a_aload_n C dX7_doesOrder_80 rfl rfl ?_
    refine a_getf C fX7_168 dX7_doesOrder_81 (show _ < 219 from (by first | decide | omega)) (by first | decide | omega) rfl (gl hk10) ?_
    refine a_via 98 (bI (l == 108)) ?_ (fun zJ98 => ?_)
    · refine f_callV C _ _ (K_X7_setsLost hR hA (l == 108) (zq_k (by rw [zl]; decide))) vX7_143 (by first | decide | omega) rfl rfl dX7_doesOrder_98 rfl (Nat.le_of_ble_eq_true rfl) ⟨by decide, by decide⟩ (fun zr98 zw98 zp98 => ?_)
      obtain ⟨rfl, rfl⟩ := zp98
      refine f_iret C hr ?_ dX7_doesOrder_101 ?_
      · rfl
      · exact ⟨_, by have z9 := onesN_lt (lksA A (cN A f)); omega, rfl, by rw [zl]; rfl⟩
    · refine a_aload_n C dX7_doesOrder_84 rfl rfl ?_
      refine a_getf C fX7_174 dX7_doesOrder_85 (show _ < 219 from (by first | decide | omega)) (by first | decide | omega) rfl (gl (hk9.trans (by rw [zl]))) ?_
      refine a_bipush (v := nI 108) C dX7_doesOrder_88 (by decide) ?_
      refine n_icmp_ne (tgt := 97) C dX7_doesOrder_90 (by decide) (by first | decide | omega) (by first | decide | omega) (fun h_90 => ?_) (fun h_90 => ?_)
      · refine a_iconst (v := nI 0) C dX7_doesOrder_97 (by decide) ?_
        refine a_eq rfl (gl1 ?_) rfl zJ98
        · first | exact iT (by rw [zl]; rfl) | exact iF (by rw [zl]; rfl) | exact absurd rfl h_90 | exact absurd h_90 (by decide)
      · refine a_iconst (v := nI 1) C dX7_doesOrder_93 (by decide) ?_
        refine a_goto (tgt := 98) C dX7_doesOrder_94 (by decide) ?_
        refine a_eq rfl (gl1 ?_) rfl zJ98
        · first | exact iT (by rw [zl]; rfl) | exact iF (by rw [zl]; rfl) | exact absurd rfl h_90 | exact absurd h_90 (by decide)

def Frz (u z : Wd) : Prop := (∀ a, ¬ a = 204 → ¬ a = 205 → z.1 a = u.1 a) ∧ (∀ j, (j < 8 ∨ 12 ≤ j) → z.1 204 j = u.1 204 j) ∧ z.2 = u.2
theorem Frz.rf {u : Wd} : Frz u u := ⟨fun _ _ _ => rfl, fun _ _ => rfl, rfl⟩
theorem Frz.o7 {u z v : Wd} (h : Frz u z) (h2 : O7 z v) : Frz u v := ⟨fun a a4 a5 => (h2.1 a a4).trans (h.1 a a4 a5), fun j hj => (h2.2.1 j hj).trans (h.2.1 j hj), h2.2.2.trans h.2.2⟩
theorem Frz.row {u z : Wd} {f : Nat → Int32} (h : Frz u z) : Frz u (wRow z 205 f) := ⟨fun a a4 a5 => by rw [wRow_ne a5]; exact h.1 a a4 a5, fun j hj => by rw [wRow_ne (by decide)]; exact h.2.1 j hj, h.2.2⟩
theorem Frz.set {u z : Wd} {j : Nat} {x : Int32} (h : Frz u z) (hj : 8 ≤ j ∧ j < 12) : Frz u (wSet z 204 j x) := ⟨fun a a4 a5 => by rw [wSet_th a4]; exact h.1 a a4 a5, fun k hk => by rw [wSet_ne (by omega)]; exact h.2.1 k hk, h.2.2⟩
theorem Frz.tm {u z : Wd} {t : Nat → Nat} {ln : Nat} (h : Frz u z) (hT : Tm u t ln) : Tm z t ln := ⟨(h.2.1 7 (by decide)).trans hT.1, hT.2.1, fun j hj => ⟨by rw [h.1 208 (by decide) (by decide)]; exact (hT.2.2 j hj).1, (hT.2.2 j hj).2⟩⟩
def FAo (w : Wd) : Option Value → Wd → Prop := fun r w' => r = some (.int (nI 0)) ∧ w'.1 204 0 = nI 1 ∧ (∀ a, ¬ a = 204 → w'.1 a = w.1 a) ∧ (∀ j, ¬ j = 0 → (j < 8 ∨ 12 ≤ j) → w'.1 204 j = w.1 204 j) ∧ w'.2 = w.2
set_option maxRecDepth 20000 in
set_option maxHeartbeats 4000000 in
theorem K_X7_obey_0 {w : Wd} {A : St} (hR : RR w A) (hA : AOK A) {sv : Nat} (hv : w.1 204 3 = nI sv) (hs : sv ≤ 6) {t : Nat → Nat} {ln : Nat} (hT : Tm w t ln) (hr0 : (rdA t ln 60 0).1 = false) : CF yX7_obey cX7_obey 4 (some .int) 8 173 [.ref 204] w (FAo w) := by
  have zq_l := hT.2.1
  have zq_pl := rdA_pl (t := t) (ln := ln) 60 0 (Nat.zero_le _)
  refine CF.of ok_X7_obey (Nat.le_of_ble_eq_true rfl) (fun ex us G9 p9 l9 e9 s9 m9 ar9 be9 me9 co9 C hr => ?_)
  refine a_pad 3 ?_
  refine a_eq (L' := [some (.ref 204), none, none, none]) rfl rfl rfl ?_
  refine a_aload_n C dX7_obey_0 rfl rfl ?_
  refine a_iconst (v := nI 0) C dX7_obey_1 (by decide) ?_
  refine f_putf C fX7_53 dX7_obey_2 (by first | decide | omega) rfl rfl rfl (Nat.le_of_ble_eq_true rfl) rfl ?_
  refine a_aload_n C dX7_obey_5 rfl rfl ?_
  refine f_callV C _ _ (K_X7_findError (w := wSet w 204 0 (nI 0)) (t := t) (ln := ln) hT) vX7_190 (by first | decide | omega) rfl rfl dX7_obey_6 rfl (Nat.le_of_ble_eq_true rfl) ⟨by decide, by decide⟩ (fun zr6 zw6 zp6 => ?_)
  obtain ⟨rfl, zp_6, zo_6⟩ := zp6
  refine a_iconst (v := (-1)) C dX7_obey_9 (by decide) ?_
  refine a_icmp_eq (tgt := 19) C dX7_obey_10 (by decide) (fun h_10 => ?_) (fun h_10 => ?_)
  · rw [hr0] at h_10; exact absurd h_10 (nI_m1 (by omega))
  · refine a_aload_n C dX7_obey_13 rfl rfl ?_
    refine a_iconst (v := nI 1) C dX7_obey_14 (by decide) ?_
    refine f_callV C _ _ (K_X7_fails _) vX7_68 (by first | decide | omega) rfl rfl dX7_obey_15 rfl (Nat.le_of_ble_eq_true rfl) ⟨by decide, by decide⟩ (fun zr15 zw15 zp15 => ?_)
    obtain ⟨rfl, rfl⟩ := zp15
    refine f_iret C hr ?_ dX7_obey_18 ?_
    · rfl
    · exact ⟨rfl, wSet_at, fun a ha => by rw [wSet_th ha, zo_6.1 a ha, wSet_th ha], fun j j0 hj => by rw [wSet_ne (by omega), zo_6.2.1 j hj, wSet_ne (by omega)], zo_6.2.2⟩

set_option maxRecDepth 20000 in
set_option maxHeartbeats 4000000 in
theorem K_X7_obey {w : Wd} {A : St} (hR : RR w A) (hA : AOK A) {sv : Nat} (hv : w.1 204 3 = nI sv) (hs : sv ≤ 6) {t : Nat → Nat} {ln : Nat} (hT : Tm w t ln) (hr0 : (rdA t ln 60 0).1 = true) : CF yX7_obey cX7_obey 4 (some .int) 8 173 [.ref 204] w (fun r w' => r = some (.int (nI (oby t ln A).1)) ∧ RR w' (oby t ln A).2 ∧ w'.1 204 0 = nI 0 ∧ w'.1 204 3 = nI (svN sv) ∧ w'.1 206 = svR (w.1 206) sv A ∧ w'.1 204 7 = nI 0 ∧ (∀ a, ¬ a = 204 → ¬ a = 205 → ¬ a = 206 → w'.1 a = w.1 a) ∧ (∀ j, ¬ j = 0 → ¬ j = 3 → ¬ j = 7 → (j < 8 ∨ 12 ≤ j) → w'.1 204 j = w.1 204 j) ∧ w'.2 = w.2) := by
  have zq_l := hT.2.1
  have zq_pl := rdA_pl (t := t) (ln := ln) 60 0 (Nat.zero_le _)
  have zq_d9 : ∀ d9 : Nat, d9 ≤ 60 → d9 < 2 ^ 31 := fun d9 h => by omega
  refine CF.of ok_X7_obey (Nat.le_of_ble_eq_true rfl) (fun ex us G9 p9 l9 e9 s9 m9 ar9 be9 me9 co9 C hr => ?_)
  have ZL46 : ∀ (zd46 : Nat) (u : Wd) (d q : Nat) (B : St) (b : Bool) (z : Wd), ln + 2 ≤ q + zd46 → Tm u t ln → (u.1 204 0 = nI 0 ∧ u.1 204 3 = nI (svN sv) ∧ u.1 206 = svR (w.1 206) sv A ∧ (∀ a, ¬ a = 204 → ¬ a = 205 → ¬ a = 206 → u.1 a = w.1 a) ∧ (∀ j, ¬ j = 0 → ¬ j = 3 → (j < 8 ∨ 12 ≤ j) → u.1 204 j = w.1 204 j) ∧ u.2 = w.2) → q ≤ ln + 1 → 2 * d ≤ q → RR z B → AOK B → z.1 204 8 = nI q → Frz u z → (b = true → q ≤ ln ∧ B 6 = -1 ∧ ∃ n, (rdA t ln n q).1 = true ∧ runO t ln n q d B = (oby t ln A)) → (b = false → (oby t ln A) = (d, B) ∧ (ln ≤ q ∨ ¬ B 6 = -1)) → WA G9 p9 l9 e9 (RM 8 173) s9 m9 ar9 be9 me9 co9 (QF G9 be9 ar9 s9 w ex us (fun r w' => r = some (.int (nI (oby t ln A).1)) ∧ RR w' (oby t ln A).2 ∧ w'.1 204 0 = nI 0 ∧ w'.1 204 3 = nI (svN sv) ∧ w'.1 206 = svR (w.1 206) sv A ∧ w'.1 204 7 = nI 0 ∧ (∀ a, ¬ a = 204 → ¬ a = 205 → ¬ a = 206 → w'.1 a = w.1 a) ∧ (∀ j, ¬ j = 0 → ¬ j = 3 → ¬ j = 7 → (j < 8 ∨ 12 ≤ j) → w'.1 204 j = w.1 204 j) ∧ w'.2 = w.2)) 4 (219 + ex) us 46 [some (.ref 204), some (.int (nI d)), none, none] [] (fzM z ex us) := by
    intro zd46
    induction zd46 with
    | zero => intro u d q B b z zm46 zu_T zu_w zh_q zh_d zh_R zh_B zh_p zh_F zh_t zh_f; exfalso; omega
    | succ zd46 zih46 =>
      intro u d q B b z zm46 zu_T zu_w zh_q zh_d zh_R zh_B zh_p zh_F zh_t zh_f
      have zh_T := zh_F.tm zu_T
      refine a_aload_n C dX7_obey_46 rfl rfl ?_
      refine a_getf C fX7_158 dX7_obey_47 (show _ < 219 from (by first | decide | omega)) (by first | decide | omega) rfl (gl zh_p) ?_
      refine a_aload_n C dX7_obey_50 rfl rfl ?_
      refine a_getf C fX7_155 dX7_obey_51 (show _ < 219 from (by first | decide | omega)) (by first | decide | omega) rfl (gl zh_T.1) ?_
      refine n_icmp_ge (tgt := 128) C dX7_obey_54 (by decide) (by first | decide | omega) (by first | decide | omega) (fun h_54 => ?_) (fun h_54 => ?_)
      · have zq_b : b = false := by
          cases e9 : b with
          | false => rfl
          | true =>
            obtain ⟨z1, -, n9, z3, -⟩ := zh_t e9
            obtain ⟨-, -, -, -, -, -, z4, -⟩ := rdA_in z1 z3
            omega
        obtain ⟨zq_e, -⟩ := zh_f zq_b
        refine a_aload_n C dX7_obey_128 rfl rfl ?_
        refine a_iconst (v := nI 0) C dX7_obey_129 (by decide) ?_
        refine f_putf C fX7_155 dX7_obey_130 (by first | decide | omega) rfl rfl rfl (Nat.le_of_ble_eq_true rfl) rfl ?_
        refine a_iload_n C dX7_obey_133 rfl rfl ?_
        refine f_iret C hr ?_ dX7_obey_134 ?_
        · rfl
        · exact ⟨by rw [zq_e], by rw [zq_e]; exact (wSet_th (by decide)).trans zh_R, by rw [wSet_ne (by decide), zh_F.2.1 0 (by decide)]; exact zu_w.1, by rw [wSet_ne (by decide), zh_F.2.1 3 (by decide)]; exact zu_w.2.1, by rw [wSet_th (by decide), zh_F.1 206 (by decide) (by decide)]; exact zu_w.2.2.1, wSet_at, fun a a4 a5 a6 => by rw [wSet_th a4, zh_F.1 a a4 a5]; exact zu_w.2.2.2.1 a a4 a5 a6, fun j j0 j3 j7 hj => by rw [wSet_ne (by omega), zh_F.2.1 j hj]; exact zu_w.2.2.2.2.1 j j0 j3 hj, zh_F.2.2.trans zu_w.2.2.2.2.2⟩
      · refine a_aload_n C dX7_obey_57 rfl rfl ?_
        refine a_getfF C fX7_7 dX7_obey_58 (show _ < 219 from (by first | decide | omega)) (by first | decide | omega) rfl rfl ?_
        refine a_bipush (v := nI 6) C dX7_obey_61 (by decide) ?_
        refine n_iald C dX7_obey_63 (show _ < 219 from (by first | decide | omega)) (by first | decide | omega) rfl rfl (by first | decide | omega) (by decide) zh_R.at ?_
        refine a_iconst (v := (-1)) C dX7_obey_64 (by decide) ?_
        refine a_icmp_ne (tgt := 128) C dX7_obey_65 (by decide) (fun h_65 => ?_) (fun h_65 => ?_)
        · have zq_b : b = false := by
            cases e9 : b with
            | false => rfl
            | true => exact absurd (zh_t e9).2.1 h_65
          obtain ⟨zq_e, -⟩ := zh_f zq_b
          refine a_aload_n C dX7_obey_128 rfl rfl ?_
          refine a_iconst (v := nI 0) C dX7_obey_129 (by decide) ?_
          refine f_putf C fX7_155 dX7_obey_130 (by first | decide | omega) rfl rfl rfl (Nat.le_of_ble_eq_true rfl) rfl ?_
          refine a_iload_n C dX7_obey_133 rfl rfl ?_
          refine f_iret C hr ?_ dX7_obey_134 ?_
          · rfl
          · exact ⟨by rw [zq_e], by rw [zq_e]; exact (wSet_th (by decide)).trans zh_R, by rw [wSet_ne (by decide), zh_F.2.1 0 (by decide)]; exact zu_w.1, by rw [wSet_ne (by decide), zh_F.2.1 3 (by decide)]; exact zu_w.2.1, by rw [wSet_th (by decide), zh_F.1 206 (by decide) (by decide)]; exact zu_w.2.2.1, wSet_at, fun a a4 a5 a6 => by rw [wSet_th a4, zh_F.1 a a4 a5]; exact zu_w.2.2.2.1 a a4 a5 a6, fun j j0 j3 j7 hj => by rw [wSet_ne (by omega), zh_F.2.1 j hj]; exact zu_w.2.2.2.2.1 j j0 j3 hj, zh_F.2.2.trans zu_w.2.2.2.2.2⟩
        · have zq_b : b = true := by
            cases e9 : b with
            | true => rfl
            | false => rcases (zh_f e9).2 with z9 | z9
                       · omega
                       · exact absurd h_65 z9
          obtain ⟨zr_0, zr_9, n9, zr_1, zr_2⟩ := zh_t zq_b
          obtain ⟨m9, rfl, zr_7, zr_o, zr_3, zr_4, zr_5, zr_6⟩ := rdA_in zr_0 zr_1
          refine a_aload_n C dX7_obey_68 rfl rfl ?_
          refine f_callV C _ _ (K_X7_readsOrder zh_T zh_p zr_0) vX7_187 (by first | decide | omega) rfl rfl dX7_obey_69 rfl (Nat.le_of_ble_eq_true rfl) ⟨by decide, by decide⟩ (fun zr69 zw69 zp69 => ?_)
          obtain ⟨rfl, zp_69, zn_69, zo_69⟩ := zp69
          obtain ⟨zn_9, zn_10, zn_11⟩ := zn_69 zr_7
          have zR69 : RR zw69 B := (zo_69.1 205 (by decide)).trans zh_R
          have zF69 := zh_F.o7 zo_69
          refine a_istore_n C dX7_obey_72 rfl (by decide) ?_
          refine a_aload_n C dX7_obey_73 rfl rfl ?_
          refine p_callV C (K_X7_whyStopped zR69 zh_B zr_o zn_9 zn_10 zn_11) vX7_193 rfl (by first | decide | omega) rfl rfl dX7_obey_74 (Nat.le_of_ble_eq_true rfl) ⟨by decide, by decide⟩ ?_
          refine a_istore_n C dX7_obey_77 rfl (by decide) ?_
          refine a_iload_n C dX7_obey_78 rfl rfl ?_
          first | refine b_if_eq (tgt := 99) C dX7_obey_79 (by decide) (fun h_79 => ?_) (fun h_79 => ?_) | refine n_if_eq (tgt := 99) C dX7_obey_79 (by decide) (by first | decide | omega) (fun h_79 => ?_) (fun h_79 => ?_) | refine a_if_eq (tgt := 99) C dX7_obey_79 (by decide) (fun h_79 => ?_) (fun h_79 => ?_)
          · exact absurd (h_79.symm.trans zr_7) (by decide)
          · refine a_iload_n C dX7_obey_82 rfl rfl ?_
            refine n_if_ne (tgt := 99) C dX7_obey_83 (by decide) rsn_lt  (fun h_83 => ?_) (fun h_83 => ?_)
            · have zq_rs : ¬ rsO B (rdO t ln q) = 0 := h_83
              rw [run_s zq_rs] at zr_2
              obtain ⟨d9, B9, b9, zy_d, zy_dd, zy_R, zy_B, zy_F, zy_t, zy_f⟩ : ∃ d9 B9 b9, nI d = nI d9 ∧ d9 ≤ d + 1 ∧ RR (wSet (wRow zw69 205 (upd (upd B 6 (nI d)) 7 (nI (rsO B (rdO t ln q))))) 204 8 (nI ((rdO t ln q).2.1 + 1))) B9 ∧ AOK B9 ∧ Frz u (wSet (wRow zw69 205 (upd (upd B 6 (nI d)) 7 (nI (rsO B (rdO t ln q))))) 204 8 (nI ((rdO t ln q).2.1 + 1))) ∧ (b9 = true → (rdO t ln q).2.1 + 1 ≤ ln ∧ B9 6 = -1 ∧ ∃ n, (rdA t ln n ((rdO t ln q).2.1 + 1)).1 = true ∧ runO t ln n ((rdO t ln q).2.1 + 1) d9 B9 = (oby t ln A)) ∧ (b9 = false → (oby t ln A) = (d9, B9) ∧ (ln ≤ (rdO t ln q).2.1 + 1 ∨ ¬ B9 6 = -1)) := ⟨d, stA B d (rsO B (rdO t ln q)), false, rfl, by omega, (wSet_th (by decide)).trans wRow_at, st_ok zh_B _ _, zF69.row.set (by decide), (fun h => nomatch h), fun _ => ⟨zr_2.symm, Or.inr (by unfold stA; rw [upd_ne (by decide), upd_at]; exact nI_m1 (by have := zr_5; omega))⟩⟩
              refine a_wd (RR_row zR69) ?_
              refine a_aload_n C dX7_obey_99 rfl rfl ?_
              refine a_getfF C fX7_7 dX7_obey_100 (show _ < 219 from (by first | decide | omega)) (by first | decide | omega) rfl rfl ?_
              refine a_bipush (v := nI 6) C dX7_obey_103 (by decide) ?_
              refine a_iload_n C dX7_obey_105 rfl rfl ?_
              refine f_iast C dX7_obey_106 (by first | decide | omega) rfl rfl (by first | decide | omega) (by decide)  rfl ?_
              refine a_wd wSet_row ?_
              refine a_aload_n C dX7_obey_107 rfl rfl ?_
              refine a_getfF C fX7_7 dX7_obey_108 (show _ < 219 from (by first | decide | omega)) (by first | decide | omega) rfl rfl ?_
              refine a_bipush (v := nI 7) C dX7_obey_111 (by decide) ?_
              refine a_iload_n C dX7_obey_113 rfl rfl ?_
              refine f_iast C dX7_obey_114 (by first | decide | omega) rfl rfl (by first | decide | omega) (by decide)  rfl ?_
              refine a_wd wSet_row ?_
              refine a_aload_n C dX7_obey_115 rfl rfl ?_
              refine a_dup C dX7_obey_116 rfl ?_
              refine a_getf C fX7_158 dX7_obey_117 (show _ < 219 from (by first | decide | omega)) (by first | decide | omega) rfl (gl (show _ = nI (rdO t ln q).2.1 from by first | exact zp_69 | (rw [wRow_ne (by decide)]; exact zp_69))) ?_
              refine a_iconst (v := nI 1) C dX7_obey_120 (by decide) ?_
              first | refine n_iadd C dX7_obey_121 ?_ | refine a_iadd C dX7_obey_121 ?_
              refine f_putf C fX7_158 dX7_obey_122 (by first | decide | omega) rfl rfl rfl (Nat.le_of_ble_eq_true rfl) rfl ?_
              refine a_goto (tgt := 46) C dX7_obey_125 (by decide) ?_
              refine a_join (aLe_s ?_ (aLe_s ?_ (aLe_n (aLe_n aLe_nil)))) rfl rfl (zih46 u d9 ((rdO t ln q).2.1 + 1) B9 b9 _ (by omega) zu_T zu_w (by omega) (by omega) zy_R zy_B wSet_at zy_F zy_t zy_f)
              · first | with_reducible rfl | exact gl (by first | with_reducible rfl | (refine iF ?_; simp [h_54, h_79, h_83, (beq_eq_false_iff_ne.mpr h_83), (bne_iff_ne.mpr h_83)]; done) | (refine iT ?_; simp [h_54, h_79, h_83, (beq_eq_false_iff_ne.mpr h_83), (bne_iff_ne.mpr h_83)]; done) | (refine iB ?_; simp [h_54, h_79, h_83, (beq_eq_false_iff_ne.mpr h_83), (bne_iff_ne.mpr h_83)]; done) | (simp [h_54, h_79, h_83, (beq_eq_false_iff_ne.mpr h_83), (bne_iff_ne.mpr h_83)]; done) | (simp [h_54, h_79, h_83, (beq_eq_false_iff_ne.mpr h_83), (bne_iff_ne.mpr h_83)]; omega) | omega)
              · exact gl zy_d
            · have zq_rs : rsO B (rdO t ln q) = 0 := h_83
              have zq_ok : AOK (dsO B (rdO t ln q)) := dos_ok zh_B zr_o zq_rs
              have zq_6 : dsO B (rdO t ln q) 6 = B 6 := dos_6 zh_B zr_o
              refine a_aload_n C dX7_obey_86 rfl rfl ?_
              refine f_callV C _ _ (K_X7_doesOrder zR69 zh_B zr_o zn_9 zn_10 zn_11 h_83) vX7_196 (by first | decide | omega) rfl rfl dX7_obey_87 rfl (Nat.le_of_ble_eq_true rfl) ⟨by decide, by decide⟩ (fun zr87 zw87 zp87 => ?_)
              obtain ⟨v9, zv_9, rfl, rfl⟩ := zp87
              obtain ⟨d9, B9, b9, zy_d, zy_dd, zy_R, zy_B, zy_F, zy_t, zy_f⟩ : ∃ d9 B9 b9, nI (d + 1) = nI d9 ∧ d9 ≤ d + 1 ∧ RR (wSet (wRow zw69 205 (dsO B (rdO t ln q))) 204 8 (nI ((rdO t ln q).2.1 + 1))) B9 ∧ AOK B9 ∧ Frz u (wSet (wRow zw69 205 (dsO B (rdO t ln q))) 204 8 (nI ((rdO t ln q).2.1 + 1))) ∧ (b9 = true → (rdO t ln q).2.1 + 1 ≤ ln ∧ B9 6 = -1 ∧ ∃ n, (rdA t ln n ((rdO t ln q).2.1 + 1)).1 = true ∧ runO t ln n ((rdO t ln q).2.1 + 1) d9 B9 = (oby t ln A)) ∧ (b9 = false → (oby t ln A) = (d9, B9) ∧ (ln ≤ (rdO t ln q).2.1 + 1 ∨ ¬ B9 6 = -1)) := by
                rcases zr_6 with z6 | ⟨z6, z7, z8⟩
                · exact ⟨d + 1, dsO B (rdO t ln q), false, rfl, Nat.le_refl _, (wSet_th (by decide)).trans wRow_at, zq_ok, zF69.row.set (by decide), (fun h => nomatch h), fun _ => ⟨by rw [← zr_2, run_e zq_rs z6], Or.inl (by omega)⟩⟩
                · exact ⟨d + 1, dsO B (rdO t ln q), true, rfl, Nat.le_refl _, (wSet_th (by decide)).trans wRow_at, zq_ok, zF69.row.set (by decide), fun _ => ⟨by have := isB_at z7; omega, by rw [zq_6]; exact zr_9, m9, z8, by rw [← zr_2, run_g zq_rs z6]⟩, (fun h => nomatch h)⟩
              refine n_if_lt (tgt := 99) C dX7_obey_90 (by decide) (by first | decide | omega) ?_
              refine n_iinc C dX7_obey_93 rfl (by decide) ?_
              refine a_goto (tgt := 115) C dX7_obey_96 (by decide) ?_
              refine a_aload_n C dX7_obey_115 rfl rfl ?_
              refine a_dup C dX7_obey_116 rfl ?_
              refine a_getf C fX7_158 dX7_obey_117 (show _ < 219 from (by first | decide | omega)) (by first | decide | omega) rfl (gl (show _ = nI (rdO t ln q).2.1 from by first | exact zp_69 | (rw [wRow_ne (by decide)]; exact zp_69))) ?_
              refine a_iconst (v := nI 1) C dX7_obey_120 (by decide) ?_
              first | refine n_iadd C dX7_obey_121 ?_ | refine a_iadd C dX7_obey_121 ?_
              refine f_putf C fX7_158 dX7_obey_122 (by first | decide | omega) rfl rfl rfl (Nat.le_of_ble_eq_true rfl) rfl ?_
              refine a_goto (tgt := 46) C dX7_obey_125 (by decide) ?_
              refine a_join (aLe_s ?_ (aLe_s ?_ (aLe_n (aLe_n aLe_nil)))) rfl rfl (zih46 u d9 ((rdO t ln q).2.1 + 1) B9 b9 _ (by omega) zu_T zu_w (by omega) (by omega) zy_R zy_B wSet_at zy_F zy_t zy_f)
              · first | with_reducible rfl | exact gl (by first | with_reducible rfl | (refine iF ?_; simp [h_54, h_79, (eq_true h_83), (beq_iff_eq.mpr h_83), (bne_eq_false_iff_eq.mpr h_83)]; done) | (refine iT ?_; simp [h_54, h_79, (eq_true h_83), (beq_iff_eq.mpr h_83), (bne_eq_false_iff_eq.mpr h_83)]; done) | (refine iB ?_; simp [h_54, h_79, (eq_true h_83), (beq_iff_eq.mpr h_83), (bne_eq_false_iff_eq.mpr h_83)]; done) | (simp [h_54, h_79, (eq_true h_83), (beq_iff_eq.mpr h_83), (bne_eq_false_iff_eq.mpr h_83)]; done) | (simp [h_54, h_79, (eq_true h_83), (beq_iff_eq.mpr h_83), (bne_eq_false_iff_eq.mpr h_83)]; omega) | omega)
              · exact gl zy_d
  refine a_pad 3 ?_
  refine a_eq (L' := [some (.ref 204), none, none, none]) rfl rfl rfl ?_
  refine a_aload_n C dX7_obey_0 rfl rfl ?_
  refine a_iconst (v := nI 0) C dX7_obey_1 (by decide) ?_
  refine f_putf C fX7_53 dX7_obey_2 (by first | decide | omega) rfl rfl rfl (Nat.le_of_ble_eq_true rfl) rfl ?_
  refine a_aload_n C dX7_obey_5 rfl rfl ?_
  refine f_callV C _ _ (K_X7_findError (w := wSet w 204 0 (nI 0)) (t := t) (ln := ln) hT) vX7_190 (by first | decide | omega) rfl rfl dX7_obey_6 rfl (Nat.le_of_ble_eq_true rfl) ⟨by decide, by decide⟩ (fun zr6 zw6 zp6 => ?_)
  obtain ⟨rfl, zp_6, zo_6⟩ := zp6
  refine a_iconst (v := (-1)) C dX7_obey_9 (by decide) ?_
  refine a_icmp_eq (tgt := 19) C dX7_obey_10 (by decide) (fun h_10 => ?_) (fun h_10 => ?_)
  · refine a_aload_n C dX7_obey_19 rfl rfl ?_
    refine f_callV C _ _ (K_X7_save (w := zw6) (A := A) ((zo_6.1 205 (by decide)).trans hR) (sv := sv) ((zo_6.2.1 3 (by decide)).trans hv) hs) vX7_76 (by first | decide | omega) rfl rfl dX7_obey_20 rfl (Nat.le_of_ble_eq_true rfl) ⟨by decide, by decide⟩ (fun zr20 zw20 zp20 => ?_)
    obtain ⟨rfl, rfl⟩ := zp20
    have zs_R : RR (svW zw6 A sv) A := (zo_6.1 205 (by decide)).trans hR
    refine a_wd (RR_row zs_R) ?_
    refine a_aload_n C dX7_obey_23 rfl rfl ?_
    refine a_getfF C fX7_7 dX7_obey_24 (show _ < 219 from (by first | decide | omega)) (by first | decide | omega) rfl rfl ?_
    refine a_bipush (v := nI 6) C dX7_obey_27 (by decide) ?_
    refine a_iconst (v := (-1)) C dX7_obey_29 (by decide) ?_
    refine f_iast C dX7_obey_30 (by first | decide | omega) rfl rfl (by first | decide | omega) (by decide)  rfl ?_
    refine a_wd wSet_row ?_
    refine a_aload_n C dX7_obey_31 rfl rfl ?_
    refine a_getfF C fX7_7 dX7_obey_32 (show _ < 219 from (by first | decide | omega)) (by first | decide | omega) rfl rfl ?_
    refine a_bipush (v := nI 7) C dX7_obey_35 (by decide) ?_
    refine a_iconst (v := (-1)) C dX7_obey_37 (by decide) ?_
    refine f_iast C dX7_obey_38 (by first | decide | omega) rfl rfl (by first | decide | omega) (by decide)  rfl ?_
    refine a_wd wSet_row ?_
    refine a_aload_n C dX7_obey_39 rfl rfl ?_
    refine a_iconst (v := nI 0) C dX7_obey_40 (by decide) ?_
    refine f_putf C fX7_158 dX7_obey_41 (by first | decide | omega) rfl rfl rfl (Nat.le_of_ble_eq_true rfl) rfl ?_
    have zu_R : RR (wSet (wRow (svW zw6 A sv) 205 (a0A A)) 204 8 (nI 0)) (a0A A) := (wSet_th (by decide)).trans wRow_at
    have zu_6 : zw6.1 206 = w.1 206 := zo_6.1 206 (by decide)
    have zu_T : Tm (wSet (wRow (svW zw6 A sv) 205 (a0A A)) 204 8 (nI 0)) t ln := ⟨(zo_6.2.1 7 (by decide)).trans hT.1, hT.2.1, fun j hj => ⟨(congrFun (zo_6.1 208 (by decide)) j).trans (hT.2.2 j hj).1, (hT.2.2 j hj).2⟩⟩
    have zu_w : ((wSet (wRow (svW zw6 A sv) 205 (a0A A)) 204 8 (nI 0)).1 204 0 = nI 0 ∧ (wSet (wRow (svW zw6 A sv) 205 (a0A A)) 204 8 (nI 0)).1 204 3 = nI (svN sv) ∧ (wSet (wRow (svW zw6 A sv) 205 (a0A A)) 204 8 (nI 0)).1 206 = svR (w.1 206) sv A ∧ (∀ a, ¬ a = 204 → ¬ a = 205 → ¬ a = 206 → (wSet (wRow (svW zw6 A sv) 205 (a0A A)) 204 8 (nI 0)).1 a = w.1 a) ∧ (∀ j, ¬ j = 0 → ¬ j = 3 → (j < 8 ∨ 12 ≤ j) → (wSet (wRow (svW zw6 A sv) 205 (a0A A)) 204 8 (nI 0)).1 204 j = w.1 204 j) ∧ (wSet (wRow (svW zw6 A sv) 205 (a0A A)) 204 8 (nI 0)).2 = w.2) := by
      refine ⟨?_, ?_, ?_, fun a a4 a5 a6 => ?_, fun j j0 j3 hj => ?_, zo_6.2.2⟩
      · rw [wSet_ne (by decide), wRow_ne (by decide)]; unfold svW; rw [wRow_ne (by decide), wSet_ne (by decide)]; exact zo_6.2.1 0 (by decide)
      · rw [wSet_ne (by decide), wRow_ne (by decide)]; unfold svW; rw [wRow_ne (by decide), wSet_at]
      · rw [wSet_th (by decide), wRow_ne (by decide)]; unfold svW; rw [wRow_at, zu_6]
      · rw [wSet_th a4, wRow_ne a5]; unfold svW; rw [wRow_ne a6, wSet_th a4, zo_6.1 a a4, wSet_th a4]
      · rw [wSet_ne (by omega), wRow_ne (by decide)]; unfold svW; rw [wRow_ne (by decide), wSet_ne (by omega), zo_6.2.1 j hj, wSet_ne (by omega)]
    refine a_wd (show _ = wSet (wRow (svW zw6 A sv) 205 (a0A A)) 204 8 (nI 0) from rfl) ?_
    refine a_iconst (v := nI 0) C dX7_obey_44 (by decide) ?_
    refine a_istore_n C dX7_obey_45 rfl (by decide) ?_
    refine a_join (aLe_s ?_ (aLe_s ?_ (aLe_n (aLe_n aLe_nil)))) rfl rfl (ZL46 (ln + 2) _ 0 0 (a0A A) true _ (by omega) zu_T zu_w (by omega) (by omega) zu_R (a0_ok hA) wSet_at Frz.rf (fun _ => ⟨Nat.zero_le _, by unfold a0A; rw [upd_ne (by decide), upd_at], 60, hr0, rfl⟩) (fun h => nomatch h))
    · first | with_reducible rfl | exact gl (by first | with_reducible rfl | (refine iF ?_; simp []; done) | (refine iT ?_; simp []; done) | (refine iB ?_; simp []; done) | (simp []; done) | (simp []; omega) | omega | rfl)
    · first | with_reducible rfl | exact gl (by first | with_reducible rfl | (refine iF ?_; simp []; done) | (refine iT ?_; simp []; done) | (refine iB ?_; simp []; done) | (simp []; done) | (simp []; omega) | omega | rfl)
  · exact absurd (by rw [hr0]; rfl) h_10

end A38

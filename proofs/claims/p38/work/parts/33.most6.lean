section A33
variable {S T : Nat → Bool} {nx pv : OM}
theorem apt_len {l : List Nat} {c : Nat} : (l ++ [c]).length = l.length + 1 := by rw [List.length_append]; rfl
theorem RN.sn {f : Nat → Int32} {l : List Nat} {c : Nat} (h : RN f (fun j => l.getD j 0) l.length) : RN (upd f l.length (nI c)) (fun j => (l ++ [c]).getD j 0) (l ++ [c]).length := fun j hj => by
  rw [apt_len] at hj
  show _ = nI ((l ++ [c]).getD j 0)
  by_cases e : j = l.length
  · subst e
    rw [upd_at, getD_r]
  · rw [upd_ne e, getD_l (by omega)]
    exact h j (by omega)
theorem wdt81 (S : Nat → Bool) : wdt S ≤ 81 := wdt_le S
set_option maxRecDepth 20000 in
set_option maxHeartbeats 4000000 in
theorem K_X0_leavesFullSet {w : Wd} (hS : Su S) {sts : Nat → Nat} {l : List Nat} {c : Nat} (hC : Chn w S nx pv sts) (ho : ∀ d, d < 81 → w.1 63 d = bI (remS S l d)) (h4 : w.1 55 4 = nI l.length) (hl : Ap S l) (hll : l.length < wdt S) (hc : c < 81) (hrc : remS S l c = true) : CF yX0_leavesFullSet cX0_leavesFullSet 5 (some .boolean) 2 49 [.ref 55, .int (nI c)] w (fun r w' => r = some (.int (bI (decide (l.length + 1 + wdt (remS S (l ++ [c])) = wdt S)))) ∧ Frm [64, 65] w w') := by
  have zq_w := wdt81 S
  have hM := hC.1.1
  have hT : Sub (remS S (l ++ [c])) S := remS_sub _
  have hl2 := hl.snoc hrc
  refine CF.of ok_X0_leavesFullSet (Nat.le_of_ble_eq_true rfl) (fun ex us G9 p9 l9 e9 s9 m9 ar9 be9 me9 co9 C hr => ?_)
  have ZL50 : ∀ (zd50 : Nat) (ch m : Nat) (lo st : Nat → Nat) (z : Wd), 81 + 1 ≤ ch + zd50 → ch ≤ wdt S → Lw S (remS S (l ++ [c])) nx pv sts ch m lo st → RN (z.1 65) lo m → (∀ e, e < 81 → z.1 64 e = bI ((remS S (l ++ [c])) e)) → Frm [64, 65] w z → WA G9 p9 l9 e9 (RM 2 49) s9 m9 ar9 be9 me9 co9 (QF G9 be9 ar9 s9 w ex us (fun r w' => r = some (.int (bI (decide (l.length + 1 + wdt (remS S (l ++ [c])) = wdt S)))) ∧ Frm [64, 65] w w')) 5 (207 + ex.1 + ex.2) us 50 [some (.ref 55), some (.int (nI c)), some (.int (nI m)), some (.int (nI ch)), none] [] (fzM z ex us) := by
    intro zd50
    induction zd50 with
    | zero => intro ch m lo st z zm50 zh_c zh_L zh_o zh_l zh_F; exfalso; omega
    | succ zd50 zih50 =>
      intro ch m lo st z zm50 zh_c zh_L zh_o zh_l zh_F
      have zq_m := zh_L.1
      refine a_iload_n C dX0_leavesFullSet_50 rfl rfl ?_
      refine a_aload_n C dX0_leavesFullSet_51 rfl rfl ?_
      refine a_getf C fX0_57 dX0_leavesFullSet_52 (tw (by first | decide | omega)) (by first | decide | omega) rfl (gl (show _ = nI (wdt S) from by rw [zh_F.at 55 (by decide)]; exact hC.2.2.2.1)) ?_
      first | refine n_icmp_ge (tgt := 99) C dX0_leavesFullSet_55 (by decide) (by first | decide | omega) (by first | decide | omega) (fun h_55 => ?_) (fun h_55 => ?_) | refine a_icmp_ge (tgt := 99) C dX0_leavesFullSet_55 (by decide) (fun h_55 => ?_) (fun h_55 => ?_)
      · obtain rfl : ch = wdt S := by omega
        have zq_cv := zh_L.cv hS hM hT hC.2.2.2.2.2
        have zq_t := zh_L.2.1.wd hS hM hT zq_cv
        have zq_r : m + (l.length + 1) ≤ wdt S := by
          have z9 := zh_L.2.1.room hS hM hl2
          rw [apt_len] at z9
          rw [hC.1.2]
          exact z9
        have zq_d := lf_dec zq_r zq_t
        refine a_iload_n C dX0_leavesFullSet_99 rfl rfl ?_
        refine a_aload_n C dX0_leavesFullSet_100 rfl rfl ?_
        refine a_getf C fX0_57 dX0_leavesFullSet_101 (tw (by first | decide | omega)) (by first | decide | omega) rfl (gl (show _ = nI (wdt S) from by rw [zh_F.at 55 (by decide)]; exact hC.2.2.2.1)) ?_
        refine a_aload_n C dX0_leavesFullSet_104 rfl rfl ?_
        refine a_getf C fX0_70 dX0_leavesFullSet_105 (tw (by first | decide | omega)) (by first | decide | omega) rfl (gl (show _ = nI l.length from by rw [zh_F.at 55 (by decide)]; exact h4)) ?_
        refine n_isub C dX0_leavesFullSet_108 (by omega) ?_
        refine a_iconst (v := nI 1) C dX0_leavesFullSet_109 (by decide) ?_
        refine n_isub C dX0_leavesFullSet_110 (by omega) ?_
        refine n_icmp_ne (tgt := 126) C dX0_leavesFullSet_111 (by decide) (by first | decide | omega) (by first | decide | omega) (fun h_111 => ?_) (fun h_111 => ?_)
        · refine a_iconst (v := nI 0) C dX0_leavesFullSet_126 (by decide) ?_
          refine f_iret C hr ?_ dX0_leavesFullSet_127 ?_
          · first | exact bI_narrow _ | rfl
          · first | exact ⟨bI_fal (by rw [zq_d, decide_eq_false h_111]; rfl), zh_F⟩ | exact ⟨bI_fal (by rw [zq_d, h_119, Bool.and_false]), zq_F⟩ | exact ⟨bI_tru (by rw [zq_d, h_119, decide_eq_true h_111]; rfl), zq_F⟩
        · refine a_aload_n C dX0_leavesFullSet_114 rfl rfl ?_
          refine a_iload_n C dX0_leavesFullSet_115 rfl rfl ?_
          refine f_callV C _ _ (K_X0_canBeApart (w := z) (m := m) (lo := lo) (st := st) hS hM hT (by rw [zh_F.at 58 (by decide)]; exact hC.2.1) zh_l zh_o (by omega) zh_L.2.1 zq_t (zh_L.2.1.hit hS hM hT zq_cv)) vX0_87 (by first | decide | omega) rfl rfl dX0_leavesFullSet_116 rfl (Nat.le_of_ble_eq_true rfl) ⟨by decide, by decide⟩ (fun zr116 zw116 zp116 => ?_)
          obtain ⟨rfl, zy_F⟩ := zp116
          have zq_F := zh_F.tr (zy_F.up (by decide))
          first | refine b_if_eq (tgt := 126) C dX0_leavesFullSet_119 (by decide) (fun h_119 => ?_) (fun h_119 => ?_) | refine n_if_eq (tgt := 126) C dX0_leavesFullSet_119 (by decide) (by first | decide | omega) (fun h_119 => ?_) (fun h_119 => ?_) | refine a_if_eq (tgt := 126) C dX0_leavesFullSet_119 (by decide) (fun h_119 => ?_) (fun h_119 => ?_)
          · refine a_iconst (v := nI 0) C dX0_leavesFullSet_126 (by decide) ?_
            refine f_iret C hr ?_ dX0_leavesFullSet_127 ?_
            · first | exact bI_narrow _ | rfl
            · first | exact ⟨bI_fal (by rw [zq_d, decide_eq_false h_111]; rfl), zh_F⟩ | exact ⟨bI_fal (by rw [zq_d, h_119, Bool.and_false]), zq_F⟩ | exact ⟨bI_tru (by rw [zq_d, h_119, decide_eq_true h_111]; rfl), zq_F⟩
          · refine a_iconst (v := nI 1) C dX0_leavesFullSet_122 (by decide) ?_
            refine a_goto (tgt := 127) C dX0_leavesFullSet_123 (by decide) ?_
            refine f_iret C hr ?_ dX0_leavesFullSet_127 ?_
            · first | exact bI_narrow _ | rfl
            · first | exact ⟨bI_fal (by rw [zq_d, decide_eq_false h_111]; rfl), zh_F⟩ | exact ⟨bI_fal (by rw [zq_d, h_119, Bool.and_false]), zq_F⟩ | exact ⟨bI_tru (by rw [zq_d, h_119, decide_eq_true h_111]; rfl), zq_F⟩
      · refine a_iload_n C dX0_leavesFullSet_58 rfl rfl ?_
        refine a_bipush (v := nI 81) C dX0_leavesFullSet_59 (by decide) ?_
        first | refine n_icmp_ge (tgt := 99) C dX0_leavesFullSet_61 (by decide) (by first | decide | omega) (by first | decide | omega) (fun h_61 => ?_) (fun h_61 => ?_) | refine a_icmp_ge (tgt := 99) C dX0_leavesFullSet_61 (by decide) (fun h_61 => ?_) (fun h_61 => ?_)
        · exfalso; omega
        · refine a_aload_n C dX0_leavesFullSet_64 rfl rfl ?_
          refine a_aload_n C dX0_leavesFullSet_65 rfl rfl ?_
          refine a_getfF C fX0_25 dX0_leavesFullSet_66 (tw (by first | decide | omega)) (by first | decide | omega) rfl rfl ?_
          refine a_iload_n C dX0_leavesFullSet_69 rfl rfl ?_
          refine n_iald C dX0_leavesFullSet_70 (tw (by first | decide | omega)) (by first | decide | omega) rfl rfl (by first | decide | omega) (by decide) (show _ = nI (sts ch) from by rw [zh_F.at 60 (by decide)]; exact hC.2.2.2.2.1 ch h_55) ?_
          refine f_callV C [.int (oI (some (sts ch)))] _ (K_X0_leftFrom (w := z) (nx := nx) (T := (remS S (l ++ [c]))) (oo := some (sts ch)) hS hM (fun k hk => by cases hk; exact hS _ (hC.2.2.2.2.2.1 ch h_55).1) (by rw [zh_F.at 58 (by decide)]; exact hC.2.1) zh_l) vX0_83 (by first | decide | omega) rfl rfl dX0_leavesFullSet_71 rfl (Nat.le_of_ble_eq_true rfl) ⟨by decide, by decide⟩ (fun zr71 zw71 zp71 => ?_)
          obtain ⟨rfl, x9, rfl, zy_f⟩ := zp71
          refine a_istore C dX0_leavesFullSet_74 (by decide) ?_
          refine a_iload C dX0_leavesFullSet_76 rfl ?_
          refine a_iconst (v := (-1)) C dX0_leavesFullSet_78 (by decide) ?_
          refine a_icmp_eq (tgt := 93) C dX0_leavesFullSet_79 (by decide) (fun h_79 => ?_) (fun h_79 => ?_)
          · obtain rfl := oI_n (fun k hk => hS _ (hT _ (zy_f.1 k hk).1)) h_79
            obtain ⟨m9, lo9, st9, zy_1, zy_L, zy_o, zy_l, zy_F⟩ : ∃ m9 lo9 st9, m9 = m ∧ Lw S (remS S (l ++ [c])) nx pv sts (ch + 1) m9 lo9 st9 ∧ RN (z.1 65) lo9 m9 ∧ (∀ e, e < 81 → z.1 64 e = bI ((remS S (l ++ [c])) e)) ∧ Frm [64, 65] w z := ⟨m, lo, st, rfl, zh_L.no zy_f, zh_o, zh_l, zh_F⟩
            refine n_iinc C dX0_leavesFullSet_93 rfl (by decide) ?_
            refine a_goto (tgt := 50) C dX0_leavesFullSet_96 (by decide) ?_
            refine a_join (aLe_s ?_ (aLe_s ?_ (aLe_s ?_ (aLe_s ?_ (aLe_n aLe_nil))))) rfl rfl (zih50 (ch + 1) m9 lo9 st9 _ (by omega) (by omega) zy_L zy_o zy_l zy_F)
            · first | with_reducible rfl | exact gl (by first | with_reducible rfl | (refine iF ?_; simp [h_55, h_61]; done) | (refine iT ?_; simp [h_55, h_61]; done) | (refine iB ?_; simp [h_55, h_61]; done) | (simp [h_55, h_61]; done) | (simp [h_55, h_61]; omega) | omega)
            · first | with_reducible rfl | exact gl (by first | with_reducible rfl | (refine iF ?_; simp [h_55, h_61]; done) | (refine iT ?_; simp [h_55, h_61]; done) | (refine iB ?_; simp [h_55, h_61]; done) | (simp [h_55, h_61]; done) | (simp [h_55, h_61]; omega) | omega)
            · exact gl (by rw [zy_1])
            · first | with_reducible rfl | exact gl (by first | with_reducible rfl | (refine iF ?_; simp [h_55, h_61]; done) | (refine iT ?_; simp [h_55, h_61]; done) | (refine iB ?_; simp [h_55, h_61]; done) | (simp [h_55, h_61]; done) | (simp [h_55, h_61]; omega) | omega)
          · obtain ⟨x8, rfl⟩ := oI_s h_79
            obtain ⟨m9, lo9, st9, zy_1, zy_L, zy_o, zy_l, zy_F⟩ : ∃ m9 lo9 st9, m9 = m + 1 ∧ Lw S (remS S (l ++ [c])) nx pv sts (ch + 1) m9 lo9 st9 ∧ RN ((wSet z 65 m (nI x8)).1 65) lo9 m9 ∧ (∀ e, e < 81 → (wSet z 65 m (nI x8)).1 64 e = bI ((remS S (l ++ [c])) e)) ∧ Frm [64, 65] w (wSet z 65 m (nI x8)) := ⟨m + 1, _, _, rfl, zh_L.yes hC.2.2.2.2.2 h_55 zy_f, by rw [wSet_row1]; exact zh_o.push, fun e he => by rw [wSet_th (by decide)]; exact zh_l e he, zh_F.set (by decide)⟩
            refine a_aload_n C dX0_leavesFullSet_82 rfl rfl ?_
            refine a_getfF C fX0_40 dX0_leavesFullSet_83 (tw (by first | decide | omega)) (by first | decide | omega) rfl rfl ?_
            refine a_iload_n C dX0_leavesFullSet_86 rfl rfl ?_
            refine a_iload C dX0_leavesFullSet_87 rfl ?_
            refine f_iast C dX0_leavesFullSet_89 (by first | decide | omega) rfl rfl (by first | decide | omega) (by decide)  rfl ?_
            refine n_iinc C dX0_leavesFullSet_90 rfl (by decide) ?_
            refine n_iinc C dX0_leavesFullSet_93 rfl (by decide) ?_
            refine a_goto (tgt := 50) C dX0_leavesFullSet_96 (by decide) ?_
            refine a_join (aLe_s ?_ (aLe_s ?_ (aLe_s ?_ (aLe_s ?_ (aLe_n aLe_nil))))) rfl rfl (zih50 (ch + 1) m9 lo9 st9 _ (by omega) (by omega) zy_L zy_o zy_l zy_F)
            · first | with_reducible rfl | exact gl (by first | with_reducible rfl | (refine iF ?_; simp [h_55, h_61]; done) | (refine iT ?_; simp [h_55, h_61]; done) | (refine iB ?_; simp [h_55, h_61]; done) | (simp [h_55, h_61]; done) | (simp [h_55, h_61]; omega) | omega)
            · first | with_reducible rfl | exact gl (by first | with_reducible rfl | (refine iF ?_; simp [h_55, h_61]; done) | (refine iT ?_; simp [h_55, h_61]; done) | (refine iB ?_; simp [h_55, h_61]; done) | (simp [h_55, h_61]; done) | (simp [h_55, h_61]; omega) | omega)
            · exact gl (by rw [zy_1])
            · first | with_reducible rfl | exact gl (by first | with_reducible rfl | (refine iF ?_; simp [h_55, h_61]; done) | (refine iT ?_; simp [h_55, h_61]; done) | (refine iB ?_; simp [h_55, h_61]; done) | (simp [h_55, h_61]; done) | (simp [h_55, h_61]; omega) | omega)
  have ZL2 : ∀ (zd2 : Nat) (d : Nat) (z : Wd), 81 + 1 ≤ d + zd2 → d ≤ 81 → (∀ e, e < d → z.1 64 e = bI ((remS S (l ++ [c])) e)) → Frm [64] w z → WA G9 p9 l9 e9 (RM 2 49) s9 m9 ar9 be9 me9 co9 (QF G9 be9 ar9 s9 w ex us (fun r w' => r = some (.int (bI (decide (l.length + 1 + wdt (remS S (l ++ [c])) = wdt S)))) ∧ Frm [64, 65] w w')) 5 (207 + ex.1 + ex.2) us 2 [some (.ref 55), some (.int (nI c)), some (.int (nI d)), none, none] [] (fzM z ex us) := by
    intro zd2
    induction zd2 with
    | zero => intro d z zm2 zh_d zh_l zh_F; exfalso; omega
    | succ zd2 zih2 =>
      intro d z zm2 zh_d zh_l zh_F
      refine a_iload_n C dX0_leavesFullSet_2 rfl rfl ?_
      refine a_bipush (v := nI 81) C dX0_leavesFullSet_3 (by decide) ?_
      first | refine n_icmp_ge (tgt := 46) C dX0_leavesFullSet_5 (by decide) (by first | decide | omega) (by first | decide | omega) (fun h_5 => ?_) (fun h_5 => ?_) | refine a_icmp_ge (tgt := 46) C dX0_leavesFullSet_5 (by decide) (fun h_5 => ?_) (fun h_5 => ?_)
      · obtain rfl : d = 81 := by omega
        refine a_iconst (v := nI 0) C dX0_leavesFullSet_46 (by decide) ?_
        refine a_istore_n C dX0_leavesFullSet_47 rfl (by decide) ?_
        refine a_iconst (v := nI 0) C dX0_leavesFullSet_48 (by decide) ?_
        refine a_istore_n C dX0_leavesFullSet_49 rfl (by decide) ?_
        refine a_join (aLe_s ?_ (aLe_s ?_ (aLe_s ?_ (aLe_s ?_ (aLe_n aLe_nil))))) rfl rfl (ZL50 (81 + 1) 0 0 (fun _ => 0) (fun _ => 0) z (by omega) (Nat.zero_le _) ⟨Nat.le_refl _, ⟨fun i9 hi => absurd hi (Nat.not_lt_zero i9), fun i9 j9 hi => absurd hi (Nat.not_lt_zero i9)⟩, fun i9 hi => absurd hi (Nat.not_lt_zero i9), fun d9 _ ⟨c9, hc9, _⟩ => absurd hc9 (Nat.not_lt_zero c9)⟩ (fun j hj => absurd hj (Nat.not_lt_zero j)) zh_l (zh_F.up (by decide)))
        · first | with_reducible rfl | exact gl (by first | with_reducible rfl | (refine iF ?_; simp [h_5]; done) | (refine iT ?_; simp [h_5]; done) | (refine iB ?_; simp [h_5]; done) | (simp [h_5]; done) | (simp [h_5]; omega) | omega | rfl)
        · first | with_reducible rfl | exact gl (by first | with_reducible rfl | (refine iF ?_; simp [h_5]; done) | (refine iT ?_; simp [h_5]; done) | (refine iB ?_; simp [h_5]; done) | (simp [h_5]; done) | (simp [h_5]; omega) | omega | rfl)
        · first | with_reducible rfl | exact gl (by first | with_reducible rfl | (refine iF ?_; simp [h_5]; done) | (refine iT ?_; simp [h_5]; done) | (refine iB ?_; simp [h_5]; done) | (simp [h_5]; done) | (simp [h_5]; omega) | omega | rfl)
        · first | with_reducible rfl | exact gl (by first | with_reducible rfl | (refine iF ?_; simp [h_5]; done) | (refine iT ?_; simp [h_5]; done) | (refine iB ?_; simp [h_5]; done) | (simp [h_5]; done) | (simp [h_5]; omega) | omega | rfl)
      · refine a_aload_n C dX0_leavesFullSet_8 rfl rfl ?_
        refine a_getfF C fX0_37 dX0_leavesFullSet_9 (tw (by first | decide | omega)) (by first | decide | omega) rfl rfl ?_
        refine a_iload_n C dX0_leavesFullSet_12 rfl rfl ?_
        refine a_via 39 (bI ((remS S (l ++ [c])) d)) ?_ (fun zJ39 => ?_)
        · refine f_zast C dX0_leavesFullSet_39 (by first | decide | omega) rfl rfl (by first | decide | omega) (by decide) (bI_narrow _) rfl ?_
          refine n_iinc C dX0_leavesFullSet_40 rfl (by decide) ?_
          refine a_goto (tgt := 2) C dX0_leavesFullSet_43 (by decide) ?_
          refine a_join (aLe_s ?_ (aLe_s ?_ (aLe_s ?_ (aLe_n (aLe_n aLe_nil))))) rfl rfl (zih2 (d + 1) _ (by omega) (by omega) (fun e he => by
            rw [wSet_row1]
            by_cases e9 : e = d
            · subst e9; exact upd_at
            · rw [upd_ne e9]; exact zh_l e (by omega)) (zh_F.set (by decide)))
          · first | with_reducible rfl | exact gl (by first | with_reducible rfl | (refine iF ?_; simp [h_5]; done) | (refine iT ?_; simp [h_5]; done) | (refine iB ?_; simp [h_5]; done) | (simp [h_5]; done) | (simp [h_5]; omega) | omega)
          · first | with_reducible rfl | exact gl (by first | with_reducible rfl | (refine iF ?_; simp [h_5]; done) | (refine iT ?_; simp [h_5]; done) | (refine iB ?_; simp [h_5]; done) | (simp [h_5]; done) | (simp [h_5]; omega) | omega)
          · first | with_reducible rfl | exact gl (by first | with_reducible rfl | (refine iF ?_; simp [h_5]; done) | (refine iT ?_; simp [h_5]; done) | (refine iB ?_; simp [h_5]; done) | (simp [h_5]; done) | (simp [h_5]; omega) | omega)
        · refine a_aload_n C dX0_leavesFullSet_13 rfl rfl ?_
          refine a_getfF C fX0_34 dX0_leavesFullSet_14 (tw (by first | decide | omega)) (by first | decide | omega) rfl rfl ?_
          refine a_iload_n C dX0_leavesFullSet_17 rfl rfl ?_
          refine n_zald C dX0_leavesFullSet_18 (tw (by first | decide | omega)) (by first | decide | omega) rfl rfl (by first | decide | omega) (by decide) (show _ = bI (remS S l d) from by rw [zh_F.at 63 (by decide)]; exact ho d (by omega)) ?_
          first | refine b_if_eq (tgt := 38) C dX0_leavesFullSet_19 (by decide) (fun h_19 => ?_) (fun h_19 => ?_) | refine n_if_eq (tgt := 38) C dX0_leavesFullSet_19 (by decide) (by first | decide | omega) (fun h_19 => ?_) (fun h_19 => ?_) | refine a_if_eq (tgt := 38) C dX0_leavesFullSet_19 (by decide) (fun h_19 => ?_) (fun h_19 => ?_)
          · refine a_iconst (v := nI 0) C dX0_leavesFullSet_38 (by decide) ?_
            refine a_eq rfl (gl1 ?_) rfl zJ39
            · first | exact iT (by rw [remS_s, h_19, h_31]; rfl) | exact iF (by rw [remS_s, h_19]; rfl) | exact iF (by rw [remS_s, h_19, h_31]; rfl)
          · refine a_aload_n C dX0_leavesFullSet_22 rfl rfl ?_
            refine a_getfF C fX0_43 dX0_leavesFullSet_23 (tw (by first | decide | omega)) (by first | decide | omega) rfl rfl ?_
            refine a_iload_n C dX0_leavesFullSet_26 rfl rfl ?_
            refine a_iload_n C dX0_leavesFullSet_27 rfl rfl ?_
            refine p_callV C (K_X1_areCrossed (by first | assumption | decide | omega) (by first | assumption | decide | omega)) vX0_80 rfl (by first | decide | omega) rfl rfl dX0_leavesFullSet_28 (Nat.le_of_ble_eq_true rfl) ⟨by decide, by decide⟩ ?_
            first | refine b_if_ne (tgt := 38) C dX0_leavesFullSet_31 (by decide) (fun h_31 => ?_) (fun h_31 => ?_) | refine n_if_ne (tgt := 38) C dX0_leavesFullSet_31 (by decide) (by first | decide | omega) (fun h_31 => ?_) (fun h_31 => ?_) | refine a_if_ne (tgt := 38) C dX0_leavesFullSet_31 (by decide) (fun h_31 => ?_) (fun h_31 => ?_)
            · refine a_iconst (v := nI 0) C dX0_leavesFullSet_38 (by decide) ?_
              refine a_eq rfl (gl1 ?_) rfl zJ39
              · first | exact iT (by rw [remS_s, h_19, h_31]; rfl) | exact iF (by rw [remS_s, h_19]; rfl) | exact iF (by rw [remS_s, h_19, h_31]; rfl)
            · refine a_iconst (v := nI 1) C dX0_leavesFullSet_34 (by decide) ?_
              refine a_goto (tgt := 39) C dX0_leavesFullSet_35 (by decide) ?_
              refine a_eq rfl (gl1 ?_) rfl zJ39
              · first | exact iT (by rw [remS_s, h_19, h_31]; rfl) | exact iF (by rw [remS_s, h_19]; rfl) | exact iF (by rw [remS_s, h_19, h_31]; rfl)
  refine a_pad 3 ?_
  refine a_eq (L' := [some (.ref 55), some (.int (nI c)), none, none, none]) rfl rfl rfl ?_
  refine a_iconst (v := nI 0) C dX0_leavesFullSet_0 (by decide) ?_
  refine a_istore_n C dX0_leavesFullSet_1 rfl (by decide) ?_
  refine a_join (aLe_s ?_ (aLe_s ?_ (aLe_s ?_ (aLe_n (aLe_n aLe_nil))))) rfl rfl (ZL2 (81 + 1) 0 w (by omega) (by omega) (fun e he => absurd he (Nat.not_lt_zero e)) Frm.rf)
  · first | with_reducible rfl | exact gl (by first | with_reducible rfl | (refine iF ?_; simp []; done) | (refine iT ?_; simp []; done) | (refine iB ?_; simp []; done) | (simp []; done) | (simp []; omega) | omega | rfl)
  · first | with_reducible rfl | exact gl (by first | with_reducible rfl | (refine iF ?_; simp []; done) | (refine iT ?_; simp []; done) | (refine iB ?_; simp []; done) | (simp []; done) | (simp []; omega) | omega | rfl)
  · first | with_reducible rfl | exact gl (by first | with_reducible rfl | (refine iF ?_; simp []; done) | (refine iT ?_; simp []; done) | (refine iB ?_; simp []; done) | (simp []; done) | (simp []; omega) | omega | rfl)

set_option maxRecDepth 20000 in
set_option maxHeartbeats 4000000 in
theorem K_X0_add {w : Wd} {l : List Nat} {c : Nat} (ho : ∀ d, d < 81 → w.1 63 d = bI (remS S l d)) (h4 : w.1 55 4 = nI l.length) (h7 : RN (w.1 57) (fun j => l.getD j 0) l.length) (hll : l.length < 81) (hc : c < 81) : CF yX0_add cX0_add 3 none 1 23 [.ref 55, .int (nI c)] w (fun r w' => r = none ∧ w'.1 55 4 = nI (l ++ [c]).length ∧ RN (w'.1 57) (fun j => (l ++ [c]).getD j 0) (l ++ [c]).length ∧ (∀ d, d < 81 → w'.1 63 d = bI (remS S (l ++ [c]) d)) ∧ (∀ j, ¬ j = 4 → w'.1 55 j = w.1 55 j) ∧ Frm [55, 57, 63] w w') := by
  have zq_W : ∃ u, u = wSet (wSet w 57 l.length (nI c)) 55 4 (nI (l.length + 1)) := ⟨_, rfl⟩
  obtain ⟨u, zq_u⟩ := zq_W
  refine CF.of ok_X0_add (Nat.le_of_ble_eq_true rfl) (fun ex us G9 p9 l9 e9 s9 m9 ar9 be9 me9 co9 C hr => ?_)
  have ZL22 : ∀ (zd22 : Nat) (d : Nat) (z : Wd), 81 + 1 ≤ d + zd22 → d ≤ 81 → (∀ e, e < d → z.1 63 e = bI ((remS S (l ++ [c])) e)) → (∀ e, d ≤ e → e < 81 → z.1 63 e = bI (remS S l e)) → Frm [63] u z → WA G9 p9 l9 e9 (RM 1 23) s9 m9 ar9 be9 me9 co9 (QF G9 be9 ar9 s9 w ex us (fun r w' => r = none ∧ w'.1 55 4 = nI (l ++ [c]).length ∧ RN (w'.1 57) (fun j => (l ++ [c]).getD j 0) (l ++ [c]).length ∧ (∀ d, d < 81 → w'.1 63 d = bI (remS S (l ++ [c]) d)) ∧ (∀ j, ¬ j = 4 → w'.1 55 j = w.1 55 j) ∧ Frm [55, 57, 63] w w')) 3 (207 + ex.1 + ex.2) us 22 [some (.ref 55), some (.int (nI c)), some (.int (nI d))] [] (fzM z ex us) := by
    intro zd22
    induction zd22 with
    | zero => intro d z zm22 zh_d zh_l zh_r zh_F; exfalso; omega
    | succ zd22 zih22 =>
      intro d z zm22 zh_d zh_l zh_r zh_F
      refine a_iload_n C dX0_add_22 rfl rfl ?_
      refine a_bipush (v := nI 81) C dX0_add_23 (by decide) ?_
      first | refine n_icmp_ge (tgt := 66) C dX0_add_25 (by decide) (by first | decide | omega) (by first | decide | omega) (fun h_25 => ?_) (fun h_25 => ?_) | refine a_icmp_ge (tgt := 66) C dX0_add_25 (by decide) (fun h_25 => ?_) (fun h_25 => ?_)
      · obtain rfl : d = 81 := by omega
        refine f_vret C hr dX0_add_66 ?_
        exact ⟨rfl, by rw [zh_F.at 55 (by decide), zq_u, apt_len]; exact wSet_at, by rw [zh_F.at 57 (by decide), zq_u, wSet_th (by decide), wSet_row1]; exact h7.sn, zh_l, fun j hj => by rw [zh_F.at 55 (by decide), zq_u, wSet_ne (by omega), wSet_th (by decide)], Frm.tr (by rw [zq_u]; exact (Frm.rf.set (by decide)).set (by decide)) (zh_F.up (by decide))⟩
      · refine a_aload_n C dX0_add_28 rfl rfl ?_
        refine a_getfF C fX0_34 dX0_add_29 (tw (by first | decide | omega)) (by first | decide | omega) rfl rfl ?_
        refine a_iload_n C dX0_add_32 rfl rfl ?_
        refine a_via 59 (bI ((remS S (l ++ [c])) d)) ?_ (fun zJ59 => ?_)
        · refine f_zast C dX0_add_59 (by first | decide | omega) rfl rfl (by first | decide | omega) (by decide) (bI_narrow _) rfl ?_
          refine n_iinc C dX0_add_60 rfl (by decide) ?_
          refine a_goto (tgt := 22) C dX0_add_63 (by decide) ?_
          refine a_join (aLe_s ?_ (aLe_s ?_ (aLe_s ?_ aLe_nil))) rfl rfl (zih22 (d + 1) _ (by omega) (by omega) (fun e he => by
            rw [wSet_row1]
            by_cases e9 : e = d
            · subst e9; exact upd_at
            · rw [upd_ne e9]; exact zh_l e (by omega)) (fun e h1 h2 => by rw [wSet_row1, upd_ne (by omega)]; exact zh_r e (by omega) h2) (zh_F.set (by decide)))
          · first | with_reducible rfl | exact gl (by first | with_reducible rfl | (refine iF ?_; simp [h_25]; done) | (refine iT ?_; simp [h_25]; done) | (refine iB ?_; simp [h_25]; done) | (simp [h_25]; done) | (simp [h_25]; omega) | omega)
          · first | with_reducible rfl | exact gl (by first | with_reducible rfl | (refine iF ?_; simp [h_25]; done) | (refine iT ?_; simp [h_25]; done) | (refine iB ?_; simp [h_25]; done) | (simp [h_25]; done) | (simp [h_25]; omega) | omega)
          · first | with_reducible rfl | exact gl (by first | with_reducible rfl | (refine iF ?_; simp [h_25]; done) | (refine iT ?_; simp [h_25]; done) | (refine iB ?_; simp [h_25]; done) | (simp [h_25]; done) | (simp [h_25]; omega) | omega)
        · refine a_aload_n C dX0_add_33 rfl rfl ?_
          refine a_getfF C fX0_34 dX0_add_34 (tw (by first | decide | omega)) (by first | decide | omega) rfl rfl ?_
          refine a_iload_n C dX0_add_37 rfl rfl ?_
          refine n_zald C dX0_add_38 (tw (by first | decide | omega)) (by first | decide | omega) rfl rfl (by first | decide | omega) (by decide) (zh_r d (Nat.le_refl _) (by omega)) ?_
          first | refine b_if_eq (tgt := 58) C dX0_add_39 (by decide) (fun h_39 => ?_) (fun h_39 => ?_) | refine n_if_eq (tgt := 58) C dX0_add_39 (by decide) (by first | decide | omega) (fun h_39 => ?_) (fun h_39 => ?_) | refine a_if_eq (tgt := 58) C dX0_add_39 (by decide) (fun h_39 => ?_) (fun h_39 => ?_)
          · refine a_iconst (v := nI 0) C dX0_add_58 (by decide) ?_
            refine a_eq rfl (gl1 ?_) rfl zJ59
            · first | exact iT (by rw [remS_s, h_39, h_51]; rfl) | exact iF (by rw [remS_s, h_39]; rfl) | exact iF (by rw [remS_s, h_39, h_51]; rfl)
          · refine a_aload_n C dX0_add_42 rfl rfl ?_
            refine a_getfF C fX0_43 dX0_add_43 (tw (by first | decide | omega)) (by first | decide | omega) rfl rfl ?_
            refine a_iload_n C dX0_add_46 rfl rfl ?_
            refine a_iload_n C dX0_add_47 rfl rfl ?_
            refine p_callV C (K_X1_areCrossed (by first | assumption | decide | omega) (by first | assumption | decide | omega)) vX0_80 rfl (by first | decide | omega) rfl rfl dX0_add_48 (Nat.le_of_ble_eq_true rfl) ⟨by decide, by decide⟩ ?_
            first | refine b_if_ne (tgt := 58) C dX0_add_51 (by decide) (fun h_51 => ?_) (fun h_51 => ?_) | refine n_if_ne (tgt := 58) C dX0_add_51 (by decide) (by first | decide | omega) (fun h_51 => ?_) (fun h_51 => ?_) | refine a_if_ne (tgt := 58) C dX0_add_51 (by decide) (fun h_51 => ?_) (fun h_51 => ?_)
            · refine a_iconst (v := nI 0) C dX0_add_58 (by decide) ?_
              refine a_eq rfl (gl1 ?_) rfl zJ59
              · first | exact iT (by rw [remS_s, h_39, h_51]; rfl) | exact iF (by rw [remS_s, h_39]; rfl) | exact iF (by rw [remS_s, h_39, h_51]; rfl)
            · refine a_iconst (v := nI 1) C dX0_add_54 (by decide) ?_
              refine a_goto (tgt := 59) C dX0_add_55 (by decide) ?_
              refine a_eq rfl (gl1 ?_) rfl zJ59
              · first | exact iT (by rw [remS_s, h_39, h_51]; rfl) | exact iF (by rw [remS_s, h_39]; rfl) | exact iF (by rw [remS_s, h_39, h_51]; rfl)
  refine a_pad 1 ?_
  refine a_eq (L' := [some (.ref 55), some (.int (nI c)), none]) rfl rfl rfl ?_
  refine a_aload_n C dX0_add_0 rfl rfl ?_
  refine a_getfF C fX0_15 dX0_add_1 (tw (by first | decide | omega)) (by first | decide | omega) rfl rfl ?_
  refine a_aload_n C dX0_add_4 rfl rfl ?_
  refine a_getf C fX0_70 dX0_add_5 (tw (by first | decide | omega)) (by first | decide | omega) rfl (gl h4) ?_
  refine a_iload_n C dX0_add_8 rfl rfl ?_
  refine f_iast C dX0_add_9 (by first | decide | omega) rfl rfl (by first | decide | omega) (by decide)  rfl ?_
  refine a_aload_n C dX0_add_10 rfl rfl ?_
  refine a_dup C dX0_add_11 rfl ?_
  refine a_getf C fX0_70 dX0_add_12 (tw (by first | decide | omega)) (by first | decide | omega) rfl (gl (show _ = nI l.length from by rw [wSet_th (by decide)]; exact h4)) ?_
  refine a_iconst (v := nI 1) C dX0_add_15 (by decide) ?_
  first | refine n_iadd C dX0_add_16 ?_ | refine a_iadd C dX0_add_16 ?_
  refine f_putf C fX0_70 dX0_add_17 (by first | decide | omega) rfl rfl rfl (Nat.le_of_ble_eq_true rfl) rfl ?_
  refine a_iconst (v := nI 0) C dX0_add_20 (by decide) ?_
  refine a_istore_n C dX0_add_21 rfl (by decide) ?_
  refine a_join (aLe_s ?_ (aLe_s ?_ (aLe_s ?_ aLe_nil))) rfl (by rw [zq_u]) (ZL22 (81 + 1) 0 u (by omega) (by omega) (fun e he => absurd he (Nat.not_lt_zero e)) (fun e _ he => by rw [zq_u, wSet_th (by decide), wSet_th (by decide)]; exact ho e he) Frm.rf)
  · first | with_reducible rfl | exact gl (by first | with_reducible rfl | (refine iF ?_; simp []; done) | (refine iT ?_; simp []; done) | (refine iB ?_; simp []; done) | (simp []; done) | (simp []; omega) | omega | rfl)
  · first | with_reducible rfl | exact gl (by first | with_reducible rfl | (refine iF ?_; simp []; done) | (refine iT ?_; simp []; done) | (refine iB ?_; simp []; done) | (simp []; done) | (simp []; omega) | omega | rfl)
  · first | with_reducible rfl | exact gl (by first | with_reducible rfl | (refine iF ?_; simp []; done) | (refine iT ?_; simp []; done) | (refine iB ?_; simp []; done) | (simp []; done) | (simp []; omega) | omega | rfl)

/-- what the class knows of a set's choice -/
def Chs (w : Wd) (S : Nat → Bool) : Prop := w.1 55 2 = nI (wdt S) ∧ w.1 55 4 = nI (chs S 81).length ∧ RN (w.1 57) (fun j => (chs S 81).getD j 0) (chs S 81).length
theorem chs_e81 {c : Nat} (hc : c ≤ 81) (h : ¬ (chs S c).length < wdt S) : chs S 81 = chs S c := by
  have z := chs_end (S := S) (c := c) (by have := chs_len S c; omega) (81 - c)
  rwa [show c + (81 - c) = 81 by omega] at z
theorem Su.ap {l : List Nat} (hS : Su S) : ∀ c, (chs S c).length ≤ 81 := fun c => Nat.le_trans (chs_len S c) (wdt_le S)
set_option maxRecDepth 20000 in
set_option maxHeartbeats 4000000 in
theorem K_X0_choose {w : Wd} (hS : Su S) {sts : Nat → Nat} (hf : ∀ c, c < 81 → w.1 56 c = bI (S c)) (hC : Chn w S nx pv sts) : CF yX0_choose cX0_choose 2 none 3 73 [.ref 55] w (fun r w' => r = none ∧ Chs w' S ∧ (∀ j, ¬ j = 4 → w'.1 55 j = w.1 55 j) ∧ Frm [55, 57, 63, 64, 65] w w') := by
  have zq_w := wdt81 S
  have zq_W : ∃ u, u = wSet w 55 4 (nI 0) := ⟨_, rfl⟩
  obtain ⟨u, zq_u⟩ := zq_W
  refine CF.of ok_X0_choose (Nat.le_of_ble_eq_true rfl) (fun ex us G9 p9 l9 e9 s9 m9 ar9 be9 me9 co9 C hr => ?_)
  have ZL33 : ∀ (zd33 : Nat) (c : Nat) (l : List Nat) (z : Wd), 81 + 1 ≤ c + zd33 → c ≤ 81 → l = chs S c → z.1 55 4 = nI l.length → RN (z.1 57) (fun j => l.getD j 0) l.length → (∀ e, e < 81 → z.1 63 e = bI (remS S l e)) → (∀ j, ¬ j = 4 → z.1 55 j = w.1 55 j) → Frm [55, 57, 63, 64, 65] w z → WA G9 p9 l9 e9 (RM 3 73) s9 m9 ar9 be9 me9 co9 (QF G9 be9 ar9 s9 w ex us (fun r w' => r = none ∧ Chs w' S ∧ (∀ j, ¬ j = 4 → w'.1 55 j = w.1 55 j) ∧ Frm [55, 57, 63, 64, 65] w w')) 2 (207 + ex.1 + ex.2) us 33 [some (.ref 55), some (.int (nI c))] [] (fzM z ex us) := by
    intro zd33
    induction zd33 with
    | zero => intro c l z zm33 zh_c zh_l zh_4 zh_7 zh_o zh_5 zh_F; exfalso; omega
    | succ zd33 zih33 =>
      intro c l z zm33 zh_c zh_l zh_4 zh_7 zh_o zh_5 zh_F
      have zq_l : l.length ≤ wdt S := by rw [zh_l]; exact chs_len S c
      have zq_ap : Ap S l := by rw [zh_l]; exact chs_ap S c
      have zq_C : Chn z S nx pv sts := hC.fr (zh_5 2 (by decide)) (fun a h1 h2 => zh_F.at a (by simp; omega))
      refine a_iload_n C dX0_choose_33 rfl rfl ?_
      refine a_bipush (v := nI 81) C dX0_choose_34 (by decide) ?_
      first | refine n_icmp_ge (tgt := 78) C dX0_choose_36 (by decide) (by first | decide | omega) (by first | decide | omega) (fun h_36 => ?_) (fun h_36 => ?_) | refine a_icmp_ge (tgt := 78) C dX0_choose_36 (by decide) (fun h_36 => ?_) (fun h_36 => ?_)
      · obtain rfl : c = 81 := by omega
        have zq_e : chs S 81 = l := zh_l.symm
        refine f_vret C hr dX0_choose_78 ?_
        exact ⟨rfl, ⟨zq_C.2.2.2.1, by rw [zq_e]; exact zh_4, by rw [zq_e]; exact zh_7⟩, zh_5, zh_F⟩
      · refine a_aload_n C dX0_choose_39 rfl rfl ?_
        refine a_getf C fX0_70 dX0_choose_40 (tw (by first | decide | omega)) (by first | decide | omega) rfl (gl zh_4) ?_
        refine a_aload_n C dX0_choose_43 rfl rfl ?_
        refine a_getf C fX0_57 dX0_choose_44 (tw (by first | decide | omega)) (by first | decide | omega) rfl (gl zq_C.2.2.2.1) ?_
        first | refine n_icmp_ge (tgt := 78) C dX0_choose_47 (by decide) (by first | decide | omega) (by first | decide | omega) (fun h_47 => ?_) (fun h_47 => ?_) | refine a_icmp_ge (tgt := 78) C dX0_choose_47 (by decide) (fun h_47 => ?_) (fun h_47 => ?_)
        · have zq_e : chs S 81 = l := by rw [zh_l]; exact chs_e81 (by omega) (by rw [← zh_l]; omega)
          refine f_vret C hr dX0_choose_78 ?_
          exact ⟨rfl, ⟨zq_C.2.2.2.1, by rw [zq_e]; exact zh_4, by rw [zq_e]; exact zh_7⟩, zh_5, zh_F⟩
        · refine a_aload_n C dX0_choose_50 rfl rfl ?_
          refine a_getfF C fX0_34 dX0_choose_51 (tw (by first | decide | omega)) (by first | decide | omega) rfl rfl ?_
          refine a_iload_n C dX0_choose_54 rfl rfl ?_
          refine n_zald C dX0_choose_55 (tw (by first | decide | omega)) (by first | decide | omega) rfl rfl (by first | decide | omega) (by decide) (zh_o c (by omega)) ?_
          first | refine b_if_eq (tgt := 72) C dX0_choose_56 (by decide) (fun h_56 => ?_) (fun h_56 => ?_) | refine n_if_eq (tgt := 72) C dX0_choose_56 (by decide) (by first | decide | omega) (fun h_56 => ?_) (fun h_56 => ?_) | refine a_if_eq (tgt := 72) C dX0_choose_56 (by decide) (fun h_56 => ?_) (fun h_56 => ?_)
          · obtain ⟨l9, zy_l, zy_4, zy_7, zy_o, zy_5, zy_F⟩ : ∃ l9, l9 = chs S (c + 1) ∧ z.1 55 4 = nI l9.length ∧ RN (z.1 57) (fun j => l9.getD j 0) l9.length ∧ (∀ e, e < 81 → z.1 63 e = bI (remS S l9 e)) ∧ (∀ j, ¬ j = 4 → z.1 55 j = w.1 55 j) ∧ Frm [55, 57, 63, 64, 65] w z := ⟨l, by rw [chs_n1 (by rw [← zh_l]; exact h_56)]; exact zh_l, zh_4, zh_7, zh_o, zh_5, zh_F⟩
            refine n_iinc C dX0_choose_72 rfl (by decide) ?_
            refine a_goto (tgt := 33) C dX0_choose_75 (by decide) ?_
            refine a_join (aLe_s ?_ (aLe_s ?_ aLe_nil)) rfl rfl (zih33 (c + 1) l9 _ (by omega) (by omega) zy_l zy_4 zy_7 zy_o zy_5 zy_F)
            · first | with_reducible rfl | exact gl (by first | with_reducible rfl | (refine iF ?_; simp [h_36, h_47, h_56]; done) | (refine iT ?_; simp [h_36, h_47, h_56]; done) | (refine iB ?_; simp [h_36, h_47, h_56]; done) | (simp [h_36, h_47, h_56]; done) | (simp [h_36, h_47, h_56]; omega) | omega)
            · first | with_reducible rfl | exact gl (by first | with_reducible rfl | (refine iF ?_; simp [h_36, h_47, h_56]; done) | (refine iT ?_; simp [h_36, h_47, h_56]; done) | (refine iB ?_; simp [h_36, h_47, h_56]; done) | (simp [h_36, h_47, h_56]; done) | (simp [h_36, h_47, h_56]; omega) | omega)
          · refine a_aload_n C dX0_choose_59 rfl rfl ?_
            refine a_iload_n C dX0_choose_60 rfl rfl ?_
            refine f_callV C _ _ (K_X0_leavesFullSet (w := z) hS zq_C zh_o zh_4 zq_ap h_47 h_36 h_56) vX0_73 (by first | decide | omega) rfl rfl dX0_choose_61 rfl (Nat.le_of_ble_eq_true rfl) ⟨by decide, by decide⟩ (fun zr61 zw61 zp61 => ?_)
            obtain ⟨rfl, zp_F⟩ := zp61
            first | refine b_if_eq (tgt := 72) C dX0_choose_64 (by decide) (fun h_64 => ?_) (fun h_64 => ?_) | refine n_if_eq (tgt := 72) C dX0_choose_64 (by decide) (by first | decide | omega) (fun h_64 => ?_) (fun h_64 => ?_) | refine a_if_eq (tgt := 72) C dX0_choose_64 (by decide) (fun h_64 => ?_) (fun h_64 => ?_)
            · have zq_n := of_decide_eq_false h_64
              obtain ⟨l9, zy_l, zy_4, zy_7, zy_o, zy_5, zy_F⟩ : ∃ l9, l9 = chs S (c + 1) ∧ zw61.1 55 4 = nI l9.length ∧ RN (zw61.1 57) (fun j => l9.getD j 0) l9.length ∧ (∀ e, e < 81 → zw61.1 63 e = bI (remS S l9 e)) ∧ (∀ j, ¬ j = 4 → zw61.1 55 j = w.1 55 j) ∧ Frm [55, 57, 63, 64, 65] w zw61 := ⟨l, by rw [chs_n2 (by rw [← zh_l]; exact zq_n)]; exact zh_l, by rw [zp_F.at 55 (by decide)]; exact zh_4, by rw [zp_F.at 57 (by decide)]; exact zh_7, by rw [zp_F.at 63 (by decide)]; exact zh_o, by rw [zp_F.at 55 (by decide)]; exact zh_5, zh_F.tr (zp_F.up (by decide))⟩
              refine n_iinc C dX0_choose_72 rfl (by decide) ?_
              refine a_goto (tgt := 33) C dX0_choose_75 (by decide) ?_
              refine a_join (aLe_s ?_ (aLe_s ?_ aLe_nil)) rfl rfl (zih33 (c + 1) l9 _ (by omega) (by omega) zy_l zy_4 zy_7 zy_o zy_5 zy_F)
              · first | with_reducible rfl | exact gl (by first | with_reducible rfl | (refine iF ?_; simp [h_36, h_47, h_56, h_64]; done) | (refine iT ?_; simp [h_36, h_47, h_56, h_64]; done) | (refine iB ?_; simp [h_36, h_47, h_56, h_64]; done) | (simp [h_36, h_47, h_56, h_64]; done) | (simp [h_36, h_47, h_56, h_64]; omega) | omega)
              · first | with_reducible rfl | exact gl (by first | with_reducible rfl | (refine iF ?_; simp [h_36, h_47, h_56, h_64]; done) | (refine iT ?_; simp [h_36, h_47, h_56, h_64]; done) | (refine iB ?_; simp [h_36, h_47, h_56, h_64]; done) | (simp [h_36, h_47, h_56, h_64]; done) | (simp [h_36, h_47, h_56, h_64]; omega) | omega)
            · have zq_n := of_decide_eq_true h_64
              refine a_aload_n C dX0_choose_67 rfl rfl ?_
              refine a_iload_n C dX0_choose_68 rfl rfl ?_
              refine f_callV C _ _ (K_X0_add (w := zw61) (S := S) (l := l) (c := c) (by rw [zp_F.at 63 (by decide)]; exact zh_o) (by rw [zp_F.at 55 (by decide)]; exact zh_4) (by rw [zp_F.at 57 (by decide)]; exact zh_7) (by omega) h_36) vX0_77 (by first | decide | omega) rfl rfl dX0_choose_69 rfl (Nat.le_of_ble_eq_true rfl) ⟨by decide, by decide⟩ (fun zr69 zw69 zp69 => ?_)
              obtain ⟨rfl, zr_4, zr_7, zr_o, zr_5, zr_F⟩ := zp69
              obtain ⟨l9, zy_l, zy_4, zy_7, zy_o, zy_5, zy_F⟩ : ∃ l9, l9 = chs S (c + 1) ∧ zw69.1 55 4 = nI l9.length ∧ RN (zw69.1 57) (fun j => l9.getD j 0) l9.length ∧ (∀ e, e < 81 → zw69.1 63 e = bI (remS S l9 e)) ∧ (∀ j, ¬ j = 4 → zw69.1 55 j = w.1 55 j) ∧ Frm [55, 57, 63, 64, 65] w zw69 := ⟨l ++ [c], by rw [chs_y (by rw [← zh_l]; exact h_47) (by rw [← zh_l]; exact h_56) (by rw [← zh_l]; exact zq_n), zh_l], zr_4, zr_7, zr_o, fun j hj => by rw [zr_5 j hj, zp_F.at 55 (by decide)]; exact zh_5 j hj, (zh_F.tr (zp_F.up (by decide))).tr (zr_F.up (by decide))⟩
              refine n_iinc C dX0_choose_72 rfl (by decide) ?_
              refine a_goto (tgt := 33) C dX0_choose_75 (by decide) ?_
              refine a_join (aLe_s ?_ (aLe_s ?_ aLe_nil)) rfl rfl (zih33 (c + 1) l9 _ (by omega) (by omega) zy_l zy_4 zy_7 zy_o zy_5 zy_F)
              · first | with_reducible rfl | exact gl (by first | with_reducible rfl | (refine iF ?_; simp [h_36, h_47, h_56, h_64]; done) | (refine iT ?_; simp [h_36, h_47, h_56, h_64]; done) | (refine iB ?_; simp [h_36, h_47, h_56, h_64]; done) | (simp [h_36, h_47, h_56, h_64]; done) | (simp [h_36, h_47, h_56, h_64]; omega) | omega)
              · first | with_reducible rfl | exact gl (by first | with_reducible rfl | (refine iF ?_; simp [h_36, h_47, h_56, h_64]; done) | (refine iT ?_; simp [h_36, h_47, h_56, h_64]; done) | (refine iB ?_; simp [h_36, h_47, h_56, h_64]; done) | (simp [h_36, h_47, h_56, h_64]; done) | (simp [h_36, h_47, h_56, h_64]; omega) | omega)
  have ZL7 : ∀ (zd7 : Nat) (d : Nat) (z : Wd), 81 + 1 ≤ d + zd7 → d ≤ 81 → (∀ e, e < d → z.1 63 e = bI (S e)) → Frm [63] u z → WA G9 p9 l9 e9 (RM 3 73) s9 m9 ar9 be9 me9 co9 (QF G9 be9 ar9 s9 w ex us (fun r w' => r = none ∧ Chs w' S ∧ (∀ j, ¬ j = 4 → w'.1 55 j = w.1 55 j) ∧ Frm [55, 57, 63, 64, 65] w w')) 2 (207 + ex.1 + ex.2) us 7 [some (.ref 55), some (.int (nI d))] [] (fzM z ex us) := by
    intro zd7
    induction zd7 with
    | zero => intro d z zm7 zh_d zh_l zh_F; exfalso; omega
    | succ zd7 zih7 =>
      intro d z zm7 zh_d zh_l zh_F
      refine a_iload_n C dX0_choose_7 rfl rfl ?_
      refine a_bipush (v := nI 81) C dX0_choose_8 (by decide) ?_
      first | refine n_icmp_ge (tgt := 31) C dX0_choose_10 (by decide) (by first | decide | omega) (by first | decide | omega) (fun h_10 => ?_) (fun h_10 => ?_) | refine a_icmp_ge (tgt := 31) C dX0_choose_10 (by decide) (fun h_10 => ?_) (fun h_10 => ?_)
      · obtain rfl : d = 81 := by omega
        refine a_iconst (v := nI 0) C dX0_choose_31 (by decide) ?_
        refine a_istore_n C dX0_choose_32 rfl (by decide) ?_
        refine a_join (aLe_s ?_ (aLe_s ?_ aLe_nil)) rfl rfl (ZL33 (81 + 1) 0 [] z (by omega) (by omega) rfl (by rw [zh_F.at 55 (by decide), zq_u]; exact wSet_at) (fun j hj => absurd hj (Nat.not_lt_zero j)) (fun e he => by rw [remS_0]; exact zh_l e he) (fun j hj => by rw [zh_F.at 55 (by decide), zq_u, wSet_ne (by omega)]) (Frm.tr (by rw [zq_u]; exact Frm.rf.set (by decide)) (zh_F.up (by decide))))
        · first | with_reducible rfl | exact gl (by first | with_reducible rfl | (refine iF ?_; simp [h_10]; done) | (refine iT ?_; simp [h_10]; done) | (refine iB ?_; simp [h_10]; done) | (simp [h_10]; done) | (simp [h_10]; omega) | omega | rfl)
        · first | with_reducible rfl | exact gl (by first | with_reducible rfl | (refine iF ?_; simp [h_10]; done) | (refine iT ?_; simp [h_10]; done) | (refine iB ?_; simp [h_10]; done) | (simp [h_10]; done) | (simp [h_10]; omega) | omega | rfl)
      · refine a_aload_n C dX0_choose_13 rfl rfl ?_
        refine a_getfF C fX0_34 dX0_choose_14 (tw (by first | decide | omega)) (by first | decide | omega) rfl rfl ?_
        refine a_iload_n C dX0_choose_17 rfl rfl ?_
        refine a_aload_n C dX0_choose_18 rfl rfl ?_
        refine a_getfF C fX0_9 dX0_choose_19 (tw (by first | decide | omega)) (by first | decide | omega) rfl rfl ?_
        refine a_iload_n C dX0_choose_22 rfl rfl ?_
        refine n_zald C dX0_choose_23 (tw (by first | decide | omega)) (by first | decide | omega) rfl rfl (by first | decide | omega) (by decide) (show _ = bI (S d) from by rw [zh_F.at 56 (by decide), zq_u, wSet_th (by decide)]; exact hf d (by omega)) ?_
        refine f_zast C dX0_choose_24 (by first | decide | omega) rfl rfl (by first | decide | omega) (by decide) (bI_narrow _) rfl ?_
        refine n_iinc C dX0_choose_25 rfl (by decide) ?_
        refine a_goto (tgt := 7) C dX0_choose_28 (by decide) ?_
        refine a_join (aLe_s ?_ (aLe_s ?_ aLe_nil)) rfl rfl (zih7 (d + 1) _ (by omega) (by omega) (fun e he => by
          rw [wSet_row1]
          by_cases e9 : e = d
          · subst e9; exact upd_at
          · rw [upd_ne e9]; exact zh_l e (by omega)) (zh_F.set (by decide)))
        · first | with_reducible rfl | exact gl (by first | with_reducible rfl | (refine iF ?_; simp [h_10]; done) | (refine iT ?_; simp [h_10]; done) | (refine iB ?_; simp [h_10]; done) | (simp [h_10]; done) | (simp [h_10]; omega) | omega)
        · first | with_reducible rfl | exact gl (by first | with_reducible rfl | (refine iF ?_; simp [h_10]; done) | (refine iT ?_; simp [h_10]; done) | (refine iB ?_; simp [h_10]; done) | (simp [h_10]; done) | (simp [h_10]; omega) | omega)
  refine a_pad 1 ?_
  refine a_eq (L' := [some (.ref 55), none]) rfl rfl rfl ?_
  refine a_aload_n C dX0_choose_0 rfl rfl ?_
  refine a_iconst (v := nI 0) C dX0_choose_1 (by decide) ?_
  refine f_putf C fX0_70 dX0_choose_2 (by first | decide | omega) rfl rfl rfl (Nat.le_of_ble_eq_true rfl) rfl ?_
  refine a_iconst (v := nI 0) C dX0_choose_5 (by decide) ?_
  refine a_istore_n C dX0_choose_6 rfl (by decide) ?_
  refine a_join (aLe_s ?_ (aLe_s ?_ aLe_nil)) rfl (by rw [zq_u]) (ZL7 (81 + 1) 0 u (by omega) (by omega) (fun e he => absurd he (Nat.not_lt_zero e)) Frm.rf)
  · first | with_reducible rfl | exact gl (by first | with_reducible rfl | (refine iF ?_; simp []; done) | (refine iT ?_; simp []; done) | (refine iB ?_; simp []; done) | (simp []; done) | (simp []; omega) | omega | rfl)
  · first | with_reducible rfl | exact gl (by first | with_reducible rfl | (refine iF ?_; simp []; done) | (refine iT ?_; simp []; done) | (refine iB ?_; simp []; done) | (simp []; done) | (simp []; omega) | omega | rfl)

/-! ### the most keys that could come -/
def fS (A : St) : Nat → Bool := fun c => decide (c < 81) && freA A c
theorem fS_su (A : St) : Su (fS A) := fun c hc => of_decide_eq_true (Bool.and_eq_true_iff.mp hc).1
theorem fS_at {A : St} {c : Nat} (hc : c < 81) : fS A c = freA A c := by unfold fS; rw [decide_eq_true hc]; rfl
/-- the class's latest choice is that of F -/
def Mo (w : Wd) (F : Nat → Bool) : Prop := Su F ∧ (∀ c, c < 81 → w.1 56 c = bI (F c)) ∧ Chs w F
theorem bI_inj {a b : Bool} (h : bI a = bI b) : a = b := by
  cases a <;> cases b <;> first | rfl | exact absurd h (by decide)
theorem Su.ext {F G : Nat → Bool} (hF : Su F) (hG : Su G) (h : ∀ c, c < 81 → G c = F c) : G = F := funext fun c => by
  by_cases hc : c < 81
  · exact h c hc
  · cases e : F c with
    | true => exact absurd (hF c e) hc
    | false =>
      cases e2 : G c with
      | true => exact absurd (hG c e2) hc
      | false => rfl
theorem DR.x0 {w w' : Wd} {A : St} (hD : DR w 3 A) (hA : AOK A) {K : List Nat} (hF : Frm K w w') (hK : K.all (fun a => decide (50 ≤ a)) = true) : DR w' 3 A := hD.same hA (fun a h1 h2 => hF.at a (fun z => by have := of_decide_eq_true (List.all_eq_true.mp hK a z); omega))
set_option maxRecDepth 20000 in
set_option maxHeartbeats 4000000 in
theorem K_X6_findMost {w : Wd} {A : St} {F : Nat → Bool} (hD : DR w 3 A) (hA : AOK A) (hM : Mo w F) : CF yX6_findMost cX6_findMost 4 none 4 94 [.ref 0] w (fun r w' => r = none ∧ Mo w' (fS A) ∧ Frm [55, 56, 57, 58, 59, 60, 61, 62, 63, 64, 65] w w') := by
  refine CF.of ok_X6_findMost (Nat.le_of_ble_eq_true rfl) (fun ex us G9 p9 l9 e9 s9 m9 ar9 be9 me9 co9 C hr => ?_)
  have ZL4 : ∀ (zd4 : Nat) (c : Nat) (b : Bool) (z : Wd), 81 + 1 ≤ c + zd4 → c ≤ 81 → (∀ e, e < c → z.1 56 e = bI (fS A e)) → (∀ e, c ≤ e → e < 81 → z.1 56 e = bI (F e)) → (b = false → ∀ e, e < c → fS A e = F e) → Frm [56] w z → WA G9 p9 l9 e9 (RM 4 94) s9 m9 ar9 be9 me9 co9 (QF G9 be9 ar9 s9 w ex us (fun r w' => r = none ∧ Mo w' (fS A) ∧ Frm [55, 56, 57, 58, 59, 60, 61, 62, 63, 64, 65] w w')) 4 (207 + ex.1 + ex.2) us 4 [some (.ref 0), some (.int (bI b)), some (.int (nI c)), none] [] (fzM z ex us) := by
    intro zd4
    induction zd4 with
    | zero => intro c b z zm4 zh_c zh_l zh_r zh_b zh_F; exfalso; omega
    | succ zd4 zih4 =>
      intro c b z zm4 zh_c zh_l zh_r zh_b zh_F
      have zq_D := hD.x0 hA zh_F (by decide)
      refine a_iload_n C dX6_findMost_4 rfl rfl ?_
      refine a_bipush (v := nI 81) C dX6_findMost_5 (by decide) ?_
      first | refine n_icmp_ge (tgt := 55) C dX6_findMost_7 (by decide) (by first | decide | omega) (by first | decide | omega) (fun h_7 => ?_) (fun h_7 => ?_) | refine a_icmp_ge (tgt := 55) C dX6_findMost_7 (by decide) (fun h_7 => ?_) (fun h_7 => ?_)
      · obtain rfl : c = 81 := by omega
        refine a_iload_n C dX6_findMost_55 rfl rfl ?_
        first | refine b_if_eq (tgt := 73) C dX6_findMost_56 (by decide) (fun h_56 => ?_) (fun h_56 => ?_) | refine n_if_eq (tgt := 73) C dX6_findMost_56 (by decide) (by first | decide | omega) (fun h_56 => ?_) (fun h_56 => ?_) | refine a_if_eq (tgt := 73) C dX6_findMost_56 (by decide) (fun h_56 => ?_) (fun h_56 => ?_)
        · have zq_e : fS A = F := hM.1.ext (fS_su A) (fun c hc => zh_b h_56 c hc)
          refine f_vret C hr dX6_findMost_73 ?_
          first | exact ⟨rfl, by rw [zq_e]; exact ⟨hM.1, fun c hc => by rw [← zq_e]; exact zh_l c hc, by rw [show z.1 55 = w.1 55 from zh_F.at 55 (by decide)]; exact hM.2.2.1, by rw [zh_F.at 55 (by decide)]; exact hM.2.2.2.1, by rw [zh_F.at 57 (by decide)]; exact hM.2.2.2.2⟩, zh_F.up (by decide)⟩ | exact ⟨rfl, ⟨fS_su A, fun c hc => by rw [zr_F.at 56 (by decide), zy_F.at 56 (by decide)]; exact zh_l c hc, zr_C⟩, ((zh_F.up (by decide)).tr (zy_F.up (by decide))).tr (zr_F.up (by decide))⟩
        · refine a_aload_n C dX6_findMost_59 rfl rfl ?_
          refine a_getfF C fX6_46 dX6_findMost_60 (tw (by first | decide | omega)) (by first | decide | omega) rfl rfl ?_
          refine f_callV C _ _ (K_X0_findChains (w := z) (S := fS A) (fS_su A) zh_l) vX6_477 (by first | decide | omega) rfl rfl dX6_findMost_63 rfl (Nat.le_of_ble_eq_true rfl) ⟨by decide, by decide⟩ (fun zr63 zw63 zp63 => ?_)
          obtain ⟨rfl, ⟨nx9, pv9, sts9, zy_C⟩, zy_5, zy_F⟩ := zp63
          refine a_aload_n C dX6_findMost_66 rfl rfl ?_
          refine a_getfF C fX6_46 dX6_findMost_67 (tw (by first | decide | omega)) (by first | decide | omega) rfl rfl ?_
          refine f_callV C _ _ (K_X0_choose (w := zw63) (S := fS A) (nx := nx9) (pv := pv9) (sts := sts9) (fS_su A) (fun c hc => by rw [zy_F.at 56 (by decide)]; exact zh_l c hc) zy_C) vX6_480 (by first | decide | omega) rfl rfl dX6_findMost_70 rfl (Nat.le_of_ble_eq_true rfl) ⟨by decide, by decide⟩ (fun zr70 zw70 zp70 => ?_)
          obtain ⟨rfl, zr_C, zr_5, zr_F⟩ := zp70
          refine f_vret C hr dX6_findMost_73 ?_
          first | exact ⟨rfl, by rw [zq_e]; exact ⟨hM.1, fun c hc => by rw [← zq_e]; exact zh_l c hc, by rw [show z.1 55 = w.1 55 from zh_F.at 55 (by decide)]; exact hM.2.2.1, by rw [zh_F.at 55 (by decide)]; exact hM.2.2.2.1, by rw [zh_F.at 57 (by decide)]; exact hM.2.2.2.2⟩, zh_F.up (by decide)⟩ | exact ⟨rfl, ⟨fS_su A, fun c hc => by rw [zr_F.at 56 (by decide), zy_F.at 56 (by decide)]; exact zh_l c hc, zr_C⟩, ((zh_F.up (by decide)).tr (zy_F.up (by decide))).tr (zr_F.up (by decide))⟩
      · refine a_aload_n C dX6_findMost_10 rfl rfl ?_
        refine a_iload_n C dX6_findMost_11 rfl rfl ?_
        refine p_callV C (K_X6_isFree zq_D hA (by omega)) vX6_291 rfl (by first | decide | omega) rfl rfl dX6_findMost_12 (Nat.le_of_ble_eq_true rfl) ⟨by decide, by decide⟩ ?_
        refine a_istore_n C dX6_findMost_15 rfl (by decide) ?_
        refine a_via 38 (bI (b || (fS A c != F c))) ?_ (fun zJ38 => ?_)
        · refine a_istore_n C dX6_findMost_38 rfl (by decide) ?_
          refine a_aload_n C dX6_findMost_39 rfl rfl ?_
          refine a_getfF C fX6_46 dX6_findMost_40 (tw (by first | decide | omega)) (by first | decide | omega) rfl rfl ?_
          refine a_getfF C fX6_473 dX6_findMost_43 (tw (by first | decide | omega)) (by first | decide | omega) rfl rfl ?_
          refine a_iload_n C dX6_findMost_46 rfl rfl ?_
          refine a_iload_n C dX6_findMost_47 rfl rfl ?_
          refine f_zast C dX6_findMost_48 (by first | decide | omega) rfl rfl (by first | decide | omega) (by decide) (bI_narrow _) rfl ?_
          refine n_iinc C dX6_findMost_49 rfl (by decide) ?_
          refine a_goto (tgt := 4) C dX6_findMost_52 (by decide) ?_
          refine a_join (aLe_s ?_ (aLe_s ?_ (aLe_s ?_ (aLe_n aLe_nil)))) rfl rfl (zih4 (c + 1) (b || (fS A c != F c)) _ (by omega) (by omega) (fun e he => by
            rw [wSet_row1]
            by_cases e9 : e = c
            · subst e9; exact upd_at.trans (by rw [fS_at (by omega)])
            · rw [upd_ne e9]; exact zh_l e (by omega)) (fun e h1 h2 => by rw [wSet_row1, upd_ne (by omega)]; exact zh_r e (by omega) h2) (fun h e he => by
            have z9 := Bool.or_eq_false_iff.mp h
            by_cases e9 : e = c
            · subst e9; exact bne_eq_false_iff_eq.mp z9.2
            · exact zh_b z9.1 e (by omega)) (zh_F.set (by decide)))
          · first | with_reducible rfl | exact gl (by first | with_reducible rfl | (refine iF ?_; simp [h_7]; done) | (refine iT ?_; simp [h_7]; done) | (refine iB ?_; simp [h_7]; done) | (simp [h_7]; done) | (simp [h_7]; omega) | omega)
          · first | with_reducible rfl | exact gl (by first | with_reducible rfl | (refine iF ?_; simp [h_7]; done) | (refine iT ?_; simp [h_7]; done) | (refine iB ?_; simp [h_7]; done) | (simp [h_7]; done) | (simp [h_7]; omega) | omega)
          · first | with_reducible rfl | exact gl (by first | with_reducible rfl | (refine iF ?_; simp [h_7]; done) | (refine iT ?_; simp [h_7]; done) | (refine iB ?_; simp [h_7]; done) | (simp [h_7]; done) | (simp [h_7]; omega) | omega)
        · refine a_iload_n C dX6_findMost_16 rfl rfl ?_
          first | refine b_if_ne (tgt := 33) C dX6_findMost_17 (by decide) (fun h_17 => ?_) (fun h_17 => ?_) | refine n_if_ne (tgt := 33) C dX6_findMost_17 (by decide) (by first | decide | omega) (fun h_17 => ?_) (fun h_17 => ?_) | refine a_if_ne (tgt := 33) C dX6_findMost_17 (by decide) (fun h_17 => ?_) (fun h_17 => ?_)
          · refine a_iconst (v := nI 1) C dX6_findMost_33 (by decide) ?_
            refine a_goto (tgt := 38) C dX6_findMost_34 (by decide) ?_
            refine a_eq rfl (gl1 ?_) rfl zJ38
            · first | exact iT (by rw [h_17]; rfl) | exact iF (by rw [h_17, fS_at (by omega), bI_inj h_30]; simp) | exact iT (by rw [h_17, fS_at (by omega)]; simp; exact fun z9 => h_30 (by rw [z9]))
          · refine a_iload_n C dX6_findMost_20 rfl rfl ?_
            refine a_aload_n C dX6_findMost_21 rfl rfl ?_
            refine a_getfF C fX6_46 dX6_findMost_22 (tw (by first | decide | omega)) (by first | decide | omega) rfl rfl ?_
            refine a_getfF C fX6_473 dX6_findMost_25 (tw (by first | decide | omega)) (by first | decide | omega) rfl rfl ?_
            refine a_iload_n C dX6_findMost_28 rfl rfl ?_
            refine n_zald C dX6_findMost_29 (tw (by first | decide | omega)) (by first | decide | omega) rfl rfl (by first | decide | omega) (by decide) (zh_r c (Nat.le_refl _) (by omega)) ?_
            refine a_icmp_eq (tgt := 37) C dX6_findMost_30 (by decide) (fun h_30 => ?_) (fun h_30 => ?_)
            · refine a_iconst (v := nI 0) C dX6_findMost_37 (by decide) ?_
              refine a_eq rfl (gl1 ?_) rfl zJ38
              · first | exact iT (by rw [h_17]; rfl) | exact iF (by rw [h_17, fS_at (by omega), bI_inj h_30]; simp) | exact iT (by rw [h_17, fS_at (by omega)]; simp; exact fun z9 => h_30 (by rw [z9]))
            · refine a_iconst (v := nI 1) C dX6_findMost_33 (by decide) ?_
              refine a_goto (tgt := 38) C dX6_findMost_34 (by decide) ?_
              refine a_eq rfl (gl1 ?_) rfl zJ38
              · first | exact iT (by rw [h_17]; rfl) | exact iF (by rw [h_17, fS_at (by omega), bI_inj h_30]; simp) | exact iT (by rw [h_17, fS_at (by omega)]; simp; exact fun z9 => h_30 (by rw [z9]))
  refine a_pad 3 ?_
  refine a_eq (L' := [some (.ref 0), none, none, none]) rfl rfl rfl ?_
  refine a_iconst (v := bI false) C dX6_findMost_0 (by decide) ?_
  refine a_istore_n C dX6_findMost_1 rfl (by decide) ?_
  refine a_iconst (v := nI 0) C dX6_findMost_2 (by decide) ?_
  refine a_istore_n C dX6_findMost_3 rfl (by decide) ?_
  refine a_join (aLe_s ?_ (aLe_s ?_ (aLe_s ?_ (aLe_n aLe_nil)))) rfl rfl (ZL4 (81 + 1) 0 false w (by omega) (by omega) (fun e he => absurd he (Nat.not_lt_zero e)) (fun e _ he => hM.2.1 e he) (fun _ e he => absurd he (Nat.not_lt_zero e)) Frm.rf)
  · first | with_reducible rfl | exact gl (by first | with_reducible rfl | (refine iF ?_; simp []; done) | (refine iT ?_; simp []; done) | (refine iB ?_; simp []; done) | (simp []; done) | (simp []; omega) | omega | rfl)
  · first | with_reducible rfl | exact gl (by first | with_reducible rfl | (refine iF ?_; simp []; done) | (refine iT ?_; simp []; done) | (refine iB ?_; simp []; done) | (simp []; done) | (simp []; omega) | omega | rfl)
  · first | with_reducible rfl | exact gl (by first | with_reducible rfl | (refine iF ?_; simp []; done) | (refine iT ?_; simp []; done) | (refine iB ?_; simp []; done) | (simp []; done) | (simp []; omega) | omega | rfl)

noncomputable def mstA (A : St) (j : Nat) : Nat := if j = 0 then wdt (fS A) else (chs (fS A) 81).length
noncomputable def pckA (A : St) (x : Int32) : Int32 := if x < nI (chs (fS A) 81).length then nI ((chs (fS A) 81).getD (iN x) 0) else -1
theorem chs81 (A : St) : (chs (fS A) 81).length ≤ 81 := Nat.le_trans (chs_len _ 81) (wdt_le _)
theorem x_nI {x : Int32} {n : Nat} (h0 : ¬ x < 0) (hn : n < 2 ^ 31) (h : x < nI n) : ∃ k, k < n ∧ x = nI k :=
  inR_of (N := n) (decide_eq_true ⟨not_lt0 h0, lt_nI hn h⟩) hn
set_option maxRecDepth 20000 in
set_option maxHeartbeats 4000000 in
theorem K_X6_most {w : Wd} {A : St} {F : Nat → Bool} (hD : DR w 3 A) (hA : AOK A) (hM : Mo w F) {j : Nat} (hj : j < 2) : CF yX6_most cX6_most 2 (some .int) 6 117 [.ref 0, .int (nI j)] w (fun r w' => r = some (.int (nI (mstA A j))) ∧ Mo w' (fS A) ∧ Frm [55, 56, 57, 58, 59, 60, 61, 62, 63, 64, 65] w w') := by
  refine CF.of ok_X6_most (Nat.le_of_ble_eq_true rfl) (fun ex us G9 p9 l9 e9 s9 m9 ar9 be9 me9 co9 C hr => ?_)
  refine a_iload_n C dX6_most_0 rfl rfl ?_
  refine n_if_lt (tgt := 9) C dX6_most_1 (by decide) (by first | decide | omega) ?_
  refine a_iload_n C dX6_most_4 rfl rfl ?_
  refine a_iconst (v := nI 1) C dX6_most_5 (by decide) ?_
  first | refine n_icmp_le (tgt := 20) C dX6_most_6 (by decide) (by first | decide | omega) (by first | decide | omega) (fun h_6 => ?_) (fun h_6 => ?_) | refine a_icmp_le (tgt := 20) C dX6_most_6 (by decide) (fun h_6 => ?_) (fun h_6 => ?_)
  · refine a_aload_n C dX6_most_20 rfl rfl ?_
    refine f_callV C _ _ (K_X6_findMost hD hA hM) vX6_335 (by first | decide | omega) rfl rfl dX6_most_21 rfl (Nat.le_of_ble_eq_true rfl) ⟨by decide, by decide⟩ (fun zr21 zw21 zp21 => ?_)
    obtain ⟨rfl, zy_M, zy_F⟩ := zp21
    refine a_iload_n C dX6_most_24 rfl rfl ?_
    refine n_if_ne (tgt := 38) C dX6_most_25 (by decide) (by first | decide | omega)  (fun h_25 => ?_) (fun h_25 => ?_)
    · refine a_aload_n C dX6_most_38 rfl rfl ?_
      refine a_getfF C fX6_46 dX6_most_39 (tw (by first | decide | omega)) (by first | decide | omega) rfl rfl ?_
      refine a_getf C fX6_341 dX6_most_42 (tw (by first | decide | omega)) (by first | decide | omega) rfl (gl zy_M.2.2.2.1) ?_
      refine f_iret C hr ?_ dX6_most_45 ?_
      · rfl
      · first | exact ⟨by unfold mstA; rw [if_pos h_25], zy_M, zy_F⟩ | exact ⟨by unfold mstA; rw [if_neg h_25], zy_M, zy_F⟩
    · refine a_aload_n C dX6_most_28 rfl rfl ?_
      refine a_getfF C fX6_46 dX6_most_29 (tw (by first | decide | omega)) (by first | decide | omega) rfl rfl ?_
      refine a_getf C fX6_338 dX6_most_32 (tw (by first | decide | omega)) (by first | decide | omega) rfl (gl zy_M.2.2.1) ?_
      refine a_goto (tgt := 45) C dX6_most_35 (by decide) ?_
      refine f_iret C hr ?_ dX6_most_45 ?_
      · rfl
      · first | exact ⟨by unfold mstA; rw [if_pos h_25], zy_M, zy_F⟩ | exact ⟨by unfold mstA; rw [if_neg h_25], zy_M, zy_F⟩
  · exfalso; omega

set_option maxRecDepth 20000 in
set_option maxHeartbeats 4000000 in
theorem K_X6_pick {w : Wd} {A : St} {F : Nat → Bool} (hD : DR w 3 A) (hA : AOK A) (hM : Mo w F) (x : Int32) (h0 : ¬ x < 0) : CF yX6_pick cX6_pick 2 (some .int) 6 117 [.ref 0, .int x] w (fun r w' => r = some (.int (pckA A x)) ∧ Mo w' (fS A) ∧ Frm [55, 56, 57, 58, 59, 60, 61, 62, 63, 64, 65] w w') := by
  have zq_81 := chs81 A
  refine CF.of ok_X6_pick (Nat.le_of_ble_eq_true rfl) (fun ex us G9 p9 l9 e9 s9 m9 ar9 be9 me9 co9 C hr => ?_)
  refine a_iload_n C dX6_pick_0 rfl rfl ?_
  refine a_if_ge (tgt := 15) C dX6_pick_1 (by decide) (fun h_1 => ?_) (fun h_1 => ?_)
  · refine a_aload_n C dX6_pick_15 rfl rfl ?_
    refine f_callV C _ _ (K_X6_findMost hD hA hM) vX6_335 (by first | decide | omega) rfl rfl dX6_pick_16 rfl (Nat.le_of_ble_eq_true rfl) ⟨by decide, by decide⟩ (fun zr16 zw16 zp16 => ?_)
    obtain ⟨rfl, zy_M, zy_F⟩ := zp16
    refine a_iload_n C dX6_pick_19 rfl rfl ?_
    refine a_aload_n C dX6_pick_20 rfl rfl ?_
    refine a_getfF C fX6_46 dX6_pick_21 (tw (by first | decide | omega)) (by first | decide | omega) rfl rfl ?_
    refine a_getf C fX6_341 dX6_pick_24 (tw (by first | decide | omega)) (by first | decide | omega) rfl (gl zy_M.2.2.2.1) ?_
    refine a_icmp_ge (tgt := 48) C dX6_pick_27 (by decide) (fun h_27 => ?_) (fun h_27 => ?_)
    · have zq_n := Int32.not_lt.mpr h_27
      refine a_iconst (v := (-1)) C dX6_pick_48 (by decide) ?_
      refine f_iret C hr ?_ dX6_pick_49 ?_
      · rfl
      · first | exact ⟨by unfold pckA; rw [if_neg zq_n], zy_M, zy_F⟩ | exact ⟨by unfold pckA; rw [if_pos (Int32.not_le.mp h_27), iN_nI (by omega)], zy_M, zy_F⟩
    · obtain ⟨k, zq_k, rfl⟩ := x_nI h0 (by omega) (Int32.not_le.mp h_27)
      refine a_iload_n C dX6_pick_30 rfl rfl ?_
      refine a_bipush (v := nI 81) C dX6_pick_31 (by decide) ?_
      refine n_icmp_ge (tgt := 48) C dX6_pick_33 (by decide) (by first | decide | omega) (by first | decide | omega) (fun h_33 => ?_) (fun h_33 => ?_)
      · exfalso; omega
      · refine a_aload_n C dX6_pick_36 rfl rfl ?_
        refine a_getfF C fX6_46 dX6_pick_37 (tw (by first | decide | omega)) (by first | decide | omega) rfl rfl ?_
        refine a_getfF C fX6_346 dX6_pick_40 (tw (by first | decide | omega)) (by first | decide | omega) rfl rfl ?_
        refine a_iload_n C dX6_pick_43 rfl rfl ?_
        refine n_iald C dX6_pick_44 (tw (by first | decide | omega)) (by first | decide | omega) rfl rfl (by first | decide | omega) (by decide) (zy_M.2.2.2.2 k zq_k) ?_
        refine a_goto (tgt := 49) C dX6_pick_45 (by decide) ?_
        refine f_iret C hr ?_ dX6_pick_49 ?_
        · rfl
        · first | exact ⟨by unfold pckA; rw [if_neg zq_n], zy_M, zy_F⟩ | exact ⟨by unfold pckA; rw [if_pos (Int32.not_le.mp h_27), iN_nI (by omega)], zy_M, zy_F⟩
  · exact absurd (Int32.not_le.mp h_1) h0

end A33

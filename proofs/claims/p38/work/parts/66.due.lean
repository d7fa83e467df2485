section A66
set_option maxRecDepth 20000 in
set_option maxHeartbeats 4000000 in
theorem K_L_keyDue0_f {w : Wd} {A : St} (hL : LR w A) (hA : AOK A) {c : Nat} {y : Int32} (hc : c < 81) (hz : ¬ wncA A c = 0) : CP yL_keyDue cL_keyDue 8 (some .int) 4 98 [.int (nI 0), .int (nI c), .int y, .ref 204, .ref 205, .ref 206] w (.int (-103)) := by
  have zq_n := hA.n12
  have zq_10 := hL.2
  refine CF.of ok_L_keyDue (Nat.le_of_ble_eq_true rfl) (fun ex us G9 p9 l9 e9 s9 m9 ar9 be9 me9 co9 C hr => ?_)
  refine a_pad 2 ?_
  refine a_eq (L' := [some (.int (nI 0)), some (.int (nI c)), some (.int y), some (.ref 204), some (.ref 205), some (.ref 206), none, none]) rfl rfl rfl ?_
  refine a_iload_n C dL_keyDue_0 rfl rfl ?_
  refine n_if_ne (tgt := 99) C dL_keyDue_1 (by decide) (by first | decide | omega)  (fun h_1 => ?_) (fun h_1 => ?_)
  · exact absurd rfl h_1
  · refine a_iload_n C dL_keyDue_4 rfl rfl ?_
    refine a_aload_n C dL_keyDue_5 rfl rfl ?_
    refine a_aload C dL_keyDue_6 rfl ?_
    refine p_callS C (K_L_whyNotCut hL hA (by first | assumption | decide | omega)) sL_150 rfl dL_keyDue_8 (Nat.le_of_ble_eq_true rfl) ⟨by decide, by decide⟩ ?_
    refine n_if_eq (tgt := 17) C dL_keyDue_11 (by decide) (wnc_lt A c)  (fun h_11 => ?_) (fun h_11 => ?_)
    · exact absurd h_11 hz
    · refine a_bipush (v := (-103)) C dL_keyDue_14 (by decide) ?_
      refine f_iret C hr ?_ dL_keyDue_16 ⟨?_, rfl⟩
      · rfl
      · rfl

set_option maxRecDepth 20000 in
set_option maxHeartbeats 4000000 in
theorem K_L_keyDue0 {w : Wd} {A : St} (hL : LR w A) (hA : AOK A) {c q : Nat} (hc : c < 81) (hz : wncA A c = 0) (h10 : kN A < 10) : CF yL_keyDue cL_keyDue 8 (some .int) 4 98 [.int (nI 0), .int (nI c), .int (nI q), .ref 204, .ref 205, .ref 206] w (PD w (cutA A c q) (nI (kN A))) := by
  have zq_n := hA.n12
  have zq_10 := hL.2
  refine CF.of ok_L_keyDue (Nat.le_of_ble_eq_true rfl) (fun ex us G9 p9 l9 e9 s9 m9 ar9 be9 me9 co9 C hr => ?_)
  refine a_pad 2 ?_
  refine a_eq (L' := [some (.int (nI 0)), some (.int (nI c)), some (.int (nI q)), some (.ref 204), some (.ref 205), some (.ref 206), none, none]) rfl rfl rfl ?_
  refine a_iload_n C dL_keyDue_0 rfl rfl ?_
  refine n_if_ne (tgt := 99) C dL_keyDue_1 (by decide) (by first | decide | omega)  (fun h_1 => ?_) (fun h_1 => ?_)
  · exact absurd rfl h_1
  · refine a_iload_n C dL_keyDue_4 rfl rfl ?_
    refine a_aload_n C dL_keyDue_5 rfl rfl ?_
    refine a_aload C dL_keyDue_6 rfl ?_
    refine p_callS C (K_L_whyNotCut hL hA (by first | assumption | decide | omega)) sL_150 rfl dL_keyDue_8 (Nat.le_of_ble_eq_true rfl) ⟨by decide, by decide⟩ ?_
    refine n_if_eq (tgt := 17) C dL_keyDue_11 (by decide) (wnc_lt A c)  (fun h_11 => ?_) (fun h_11 => ?_)
    · refine a_bipush (v := nI 6) C dL_keyDue_17 (by decide) ?_
      refine a_aload_n C dL_keyDue_19 rfl rfl ?_
      refine a_iconst (v := nI 0) C dL_keyDue_20 (by decide) ?_
      refine n_iald C dL_keyDue_21 (tw (by first | decide | omega)) (by first | decide | omega) rfl rfl (by first | decide | omega) (by decide) (LR_n hL hA) ?_
      first | refine n_imul C dL_keyDue_22 ?_ | refine a_imul C dL_keyDue_22 ?_
      refine a_istore C dL_keyDue_23 (by decide) ?_
      refine a_aload C dL_keyDue_25 rfl ?_
      refine a_iload C dL_keyDue_27 rfl ?_
      refine a_iload_n C dL_keyDue_29 rfl rfl ?_
      refine f_iast C dL_keyDue_30 (by first | decide | omega) rfl rfl (by first | decide | omega) (by decide)  rfl ?_
      refine a_aload C dL_keyDue_31 rfl ?_
      refine a_iload C dL_keyDue_33 rfl ?_
      refine a_iconst (v := nI 1) C dL_keyDue_35 (by decide) ?_
      first | refine n_iadd C dL_keyDue_36 ?_ | refine a_iadd C dL_keyDue_36 ?_
      refine a_iload_n C dL_keyDue_37 rfl rfl ?_
      refine f_iast C dL_keyDue_38 (by first | decide | omega) rfl rfl (by first | decide | omega) (by decide)  rfl ?_
      refine a_aload C dL_keyDue_39 rfl ?_
      refine a_iload C dL_keyDue_41 rfl ?_
      refine a_iconst (v := nI 2) C dL_keyDue_43 (by decide) ?_
      first | refine n_iadd C dL_keyDue_44 ?_ | refine a_iadd C dL_keyDue_44 ?_
      refine a_iconst (v := nI 0) C dL_keyDue_45 (by decide) ?_
      refine f_iast C dL_keyDue_46 (by first | decide | omega) rfl rfl (by first | decide | omega) (by decide)  rfl ?_
      refine a_aload C dL_keyDue_47 rfl ?_
      refine a_iload C dL_keyDue_49 rfl ?_
      refine a_iconst (v := nI 3) C dL_keyDue_51 (by decide) ?_
      first | refine n_iadd C dL_keyDue_52 ?_ | refine a_iadd C dL_keyDue_52 ?_
      refine a_iload_n C dL_keyDue_53 rfl rfl ?_
      refine f_iast C dL_keyDue_54 (by first | decide | omega) rfl rfl (by first | decide | omega) (by decide)  rfl ?_
      refine a_aload C dL_keyDue_55 rfl ?_
      refine a_iload C dL_keyDue_57 rfl ?_
      refine a_iconst (v := nI 4) C dL_keyDue_59 (by decide) ?_
      first | refine n_iadd C dL_keyDue_60 ?_ | refine a_iadd C dL_keyDue_60 ?_
      refine a_iconst (v := nI 0) C dL_keyDue_61 (by decide) ?_
      refine f_iast C dL_keyDue_62 (by first | decide | omega) rfl rfl (by first | decide | omega) (by decide)  rfl ?_
      refine a_aload C dL_keyDue_63 rfl ?_
      refine a_iload C dL_keyDue_65 rfl ?_
      refine a_iconst (v := nI 5) C dL_keyDue_67 (by decide) ?_
      first | refine n_iadd C dL_keyDue_68 ?_ | refine a_iadd C dL_keyDue_68 ?_
      refine a_iconst (v := nI 0) C dL_keyDue_69 (by decide) ?_
      refine f_iast C dL_keyDue_70 (by first | decide | omega) rfl rfl (by first | decide | omega) (by decide)  rfl ?_
      refine a_aload_n C dL_keyDue_71 rfl rfl ?_
      refine a_iconst (v := nI 1) C dL_keyDue_72 (by decide) ?_
      refine a_dup2 C dL_keyDue_73 rfl rfl ?_
      refine n_iald C dL_keyDue_74 (tw (by first | decide | omega)) (by first | decide | omega) rfl rfl (by first | decide | omega) (by decide) (show _ = A 1 from by
        rw [wSet_th (by decide), wSet_th (by decide), wSet_th (by decide), wSet_th (by decide), wSet_th (by decide), wSet_th (by decide)]
        exact LR_q hL (j := 1) (by decide)) ?_
      refine a_aload_n C dL_keyDue_75 rfl rfl ?_
      refine a_bipush (v := nI 7) C dL_keyDue_76 (by decide) ?_
      refine n_iald C dL_keyDue_78 (tw (by first | decide | omega)) (by first | decide | omega) rfl rfl (by first | decide | omega) (by decide) (show _ = nI (sN A 1) from by
        rw [wSet_th (by decide), wSet_th (by decide), wSet_th (by decide), wSet_th (by decide), wSet_th (by decide), wSet_th (by decide)]
        exact LR_s1 hL hA) ?_
      refine a_iload_n C dL_keyDue_79 rfl rfl ?_
      refine p_callS C ((K_L_levelOf (by first | assumption | decide | omega))).cp sL_154 rfl dL_keyDue_80 (Nat.le_of_ble_eq_true rfl) ⟨by decide, by decide⟩ ?_
      first | refine n_imul C dL_keyDue_83 ?_ | refine a_imul C dL_keyDue_83 ?_
      first | refine n_iadd C dL_keyDue_84 ?_ | refine a_iadd C dL_keyDue_84 ?_
      refine f_iast C dL_keyDue_85 (by first | decide | omega) rfl rfl (by first | decide | omega) (by decide)  rfl ?_
      refine a_aload_n C dL_keyDue_86 rfl rfl ?_
      refine a_iconst (v := nI 0) C dL_keyDue_87 (by decide) ?_
      refine a_dup2 C dL_keyDue_88 rfl rfl ?_
      refine n_iald C dL_keyDue_89 (tw (by first | decide | omega)) (by first | decide | omega) rfl rfl (by first | decide | omega) (by decide) (show _ = nI (kN A) from by
        rw [wSet_ne (by decide), wSet_th (by decide), wSet_th (by decide), wSet_th (by decide), wSet_th (by decide), wSet_th (by decide), wSet_th (by decide)]
        exact LR_n hL hA) ?_
      refine a_iconst (v := nI 1) C dL_keyDue_90 (by decide) ?_
      first | refine n_iadd C dL_keyDue_91 ?_ | refine a_iadd C dL_keyDue_91 ?_
      refine f_iast C dL_keyDue_92 (by first | decide | omega) rfl rfl (by first | decide | omega) (by decide)  rfl ?_
      refine a_aload_n C dL_keyDue_93 rfl rfl ?_
      refine a_iconst (v := nI 0) C dL_keyDue_94 (by decide) ?_
      refine n_iald C dL_keyDue_95 (tw (by first | decide | omega)) (by first | decide | omega) rfl rfl (by first | decide | omega) (by decide) wSet_at ?_
      refine a_iconst (v := nI 1) C dL_keyDue_96 (by decide) ?_
      refine n_isub C dL_keyDue_97 (by first | decide | omega) ?_
      refine f_iret C hr ?_ dL_keyDue_98 ?_
      · rfl
      · exact ⟨gl (by rw [Nat.add_sub_cancel]), cut_LR hL h10, (by repeat' (first | exact Frm.rf | assumption | (refine Frm.set ?_ (by decide))))⟩
    · exact absurd hz h_11

set_option maxRecDepth 20000 in
set_option maxHeartbeats 4000000 in
theorem K_L_keyDue_n {w : Wd} {A : St} (hL : LR w A) (hA : AOK A) {t k : Nat} {y : Int32} (ht : 0 < t ∧ t < 10) (hk : k < 2 ^ 31) (hz : ¬ k < kN A) : CP yL_keyDue cL_keyDue 8 (some .int) 4 98 [.int (nI t), .int (nI k), .int y, .ref 204, .ref 205, .ref 206] w (.int (-101)) := by
  have zq_n := hA.n12
  have zq_10 := hL.2
  refine CF.of ok_L_keyDue (Nat.le_of_ble_eq_true rfl) (fun ex us G9 p9 l9 e9 s9 m9 ar9 be9 me9 co9 C hr => ?_)
  refine a_pad 2 ?_
  refine a_eq (L' := [some (.int (nI t)), some (.int (nI k)), some (.int y), some (.ref 204), some (.ref 205), some (.ref 206), none, none]) rfl rfl rfl ?_
  refine a_iload_n C dL_keyDue_0 rfl rfl ?_
  refine n_if_ne (tgt := 99) C dL_keyDue_1 (by decide) (by first | decide | omega)  (fun h_1 => ?_) (fun h_1 => ?_)
  · refine a_iload_n C dL_keyDue_99 rfl rfl ?_
    refine a_aload_n C dL_keyDue_100 rfl rfl ?_
    refine a_iconst (v := nI 0) C dL_keyDue_101 (by decide) ?_
    refine n_iald C dL_keyDue_102 (tw (by first | decide | omega)) (by first | decide | omega) rfl rfl (by first | decide | omega) (by decide) (LR_n hL hA) ?_
    refine n_icmp_lt (tgt := 109) C dL_keyDue_103 (by decide) (by first | decide | omega) (by first | decide | omega) (fun h_103 => ?_) (fun h_103 => ?_)
    · exact absurd h_103 hz
    · refine a_bipush (v := (-101)) C dL_keyDue_106 (by decide) ?_
      refine f_iret C hr ?_ dL_keyDue_108 ⟨?_, rfl⟩
      · rfl
      · rfl
  · exfalso; omega

set_option maxRecDepth 20000 in
set_option maxHeartbeats 4000000 in
theorem K_L_keyDue1_f {w : Wd} {A : St} (hL : LR w A) (hA : AOK A) {k j : Nat} (hk : k < kN A) (hj : j < 4) (hz : ¬ wndA A k j = 0) : CP yL_keyDue cL_keyDue 8 (some .int) 4 98 [.int (nI 1), .int (nI k), .int (nI j), .ref 204, .ref 205, .ref 206] w (.int (-103)) := by
  have zq_n := hA.n12
  have zq_10 := hL.2
  refine CF.of ok_L_keyDue (Nat.le_of_ble_eq_true rfl) (fun ex us G9 p9 l9 e9 s9 m9 ar9 be9 me9 co9 C hr => ?_)
  refine a_pad 2 ?_
  refine a_eq (L' := [some (.int (nI 1)), some (.int (nI k)), some (.int (nI j)), some (.ref 204), some (.ref 205), some (.ref 206), none, none]) rfl rfl rfl ?_
  refine a_iload_n C dL_keyDue_0 rfl rfl ?_
  refine n_if_ne (tgt := 99) C dL_keyDue_1 (by decide) (by first | decide | omega)  (fun h_1 => ?_) (fun h_1 => ?_)
  · refine a_iload_n C dL_keyDue_99 rfl rfl ?_
    refine a_aload_n C dL_keyDue_100 rfl rfl ?_
    refine a_iconst (v := nI 0) C dL_keyDue_101 (by decide) ?_
    refine n_iald C dL_keyDue_102 (tw (by first | decide | omega)) (by first | decide | omega) rfl rfl (by first | decide | omega) (by decide) (LR_n hL hA) ?_
    refine n_icmp_lt (tgt := 109) C dL_keyDue_103 (by decide) (by first | decide | omega) (by first | decide | omega) (fun h_103 => ?_) (fun h_103 => ?_)
    · refine a_aload C dL_keyDue_109 rfl ?_
      refine a_bipush (v := nI 6) C dL_keyDue_111 (by decide) ?_
      refine a_iload_n C dL_keyDue_113 rfl rfl ?_
      first | refine n_imul C dL_keyDue_114 ?_ | refine a_imul C dL_keyDue_114 ?_
      refine a_iconst (v := nI 1) C dL_keyDue_115 (by decide) ?_
      first | refine n_iadd C dL_keyDue_116 ?_ | refine a_iadd C dL_keyDue_116 ?_
      refine n_iald C dL_keyDue_117 (tw (by first | decide | omega)) (by first | decide | omega) rfl rfl (by first | decide | omega) (by decide) (LR_ko hL hA (by omega)) ?_
      refine a_istore C dL_keyDue_118 (by decide) ?_
      refine a_iload_n C dL_keyDue_120 rfl rfl ?_
      refine a_tableIn (x := nI 1) (tgt := 172) C dL_keyDue_121 (by decide) (by decide) rfl (by decide) ?_
      refine a_iload_n C dL_keyDue_172 rfl rfl ?_
      refine a_iload_n C dL_keyDue_173 rfl rfl ?_
      refine a_aload_n C dL_keyDue_174 rfl rfl ?_
      refine a_aload C dL_keyDue_175 rfl ?_
      refine p_callS C (K_L_whyNotDeeper hL hA (by first | assumption | decide | omega) (by first | assumption | decide | omega)) sL_157 rfl dL_keyDue_177 (Nat.le_of_ble_eq_true rfl) ⟨by decide, by decide⟩ ?_
      refine n_if_eq (tgt := 186) C dL_keyDue_180 (by decide) (wnd_lt A k j)  (fun h_180 => ?_) (fun h_180 => ?_)
      · exact absurd h_180 hz
      · refine a_bipush (v := (-103)) C dL_keyDue_183 (by decide) ?_
        refine f_iret C hr ?_ dL_keyDue_185 ⟨?_, rfl⟩
        · rfl
        · rfl
    · exfalso; omega
  · exact absurd h_1 (by decide)

set_option maxRecDepth 20000 in
set_option maxHeartbeats 4000000 in
theorem K_L_keyDue1 {w : Wd} {A : St} (hL : LR w A) (hA : AOK A) {k j : Nat} (hk : k < kN A) (hj : j < 4) (hz : wndA A k j = 0) : CF yL_keyDue cL_keyDue 8 (some .int) 4 98 [.int (nI 1), .int (nI k), .int (nI j), .ref 204, .ref 205, .ref 206] w (PD w (deeA A k j) (nI (cN A k + wtN j))) := by
  have zq_n := hA.n12
  have zq_10 := hL.2
  refine CF.of ok_L_keyDue (Nat.le_of_ble_eq_true rfl) (fun ex us G9 p9 l9 e9 s9 m9 ar9 be9 me9 co9 C hr => ?_)
  refine a_pad 2 ?_
  refine a_eq (L' := [some (.int (nI 1)), some (.int (nI k)), some (.int (nI j)), some (.ref 204), some (.ref 205), some (.ref 206), none, none]) rfl rfl rfl ?_
  refine a_iload_n C dL_keyDue_0 rfl rfl ?_
  refine n_if_ne (tgt := 99) C dL_keyDue_1 (by decide) (by first | decide | omega)  (fun h_1 => ?_) (fun h_1 => ?_)
  · refine a_iload_n C dL_keyDue_99 rfl rfl ?_
    refine a_aload_n C dL_keyDue_100 rfl rfl ?_
    refine a_iconst (v := nI 0) C dL_keyDue_101 (by decide) ?_
    refine n_iald C dL_keyDue_102 (tw (by first | decide | omega)) (by first | decide | omega) rfl rfl (by first | decide | omega) (by decide) (LR_n hL hA) ?_
    refine n_icmp_lt (tgt := 109) C dL_keyDue_103 (by decide) (by first | decide | omega) (by first | decide | omega) (fun h_103 => ?_) (fun h_103 => ?_)
    · refine a_aload C dL_keyDue_109 rfl ?_
      refine a_bipush (v := nI 6) C dL_keyDue_111 (by decide) ?_
      refine a_iload_n C dL_keyDue_113 rfl rfl ?_
      first | refine n_imul C dL_keyDue_114 ?_ | refine a_imul C dL_keyDue_114 ?_
      refine a_iconst (v := nI 1) C dL_keyDue_115 (by decide) ?_
      first | refine n_iadd C dL_keyDue_116 ?_ | refine a_iadd C dL_keyDue_116 ?_
      refine n_iald C dL_keyDue_117 (tw (by first | decide | omega)) (by first | decide | omega) rfl rfl (by first | decide | omega) (by decide) (LR_ko hL hA (by omega)) ?_
      refine a_istore C dL_keyDue_118 (by decide) ?_
      refine a_iload_n C dL_keyDue_120 rfl rfl ?_
      refine a_tableIn (x := nI 1) (tgt := 172) C dL_keyDue_121 (by decide) (by decide) rfl (by decide) ?_
      refine a_iload_n C dL_keyDue_172 rfl rfl ?_
      refine a_iload_n C dL_keyDue_173 rfl rfl ?_
      refine a_aload_n C dL_keyDue_174 rfl rfl ?_
      refine a_aload C dL_keyDue_175 rfl ?_
      refine p_callS C (K_L_whyNotDeeper hL hA (by first | assumption | decide | omega) (by first | assumption | decide | omega)) sL_157 rfl dL_keyDue_177 (Nat.le_of_ble_eq_true rfl) ⟨by decide, by decide⟩ ?_
      refine n_if_eq (tgt := 186) C dL_keyDue_180 (by decide) (wnd_lt A k j)  (fun h_180 => ?_) (fun h_180 => ?_)
      · refine a_aload C dL_keyDue_186 rfl ?_
        refine a_bipush (v := nI 6) C dL_keyDue_188 (by decide) ?_
        refine a_iload_n C dL_keyDue_190 rfl rfl ?_
        first | refine n_imul C dL_keyDue_191 ?_ | refine a_imul C dL_keyDue_191 ?_
        refine a_dup2 C dL_keyDue_192 rfl rfl ?_
        refine n_iald C dL_keyDue_193 (tw (by first | decide | omega)) (by first | decide | omega) rfl rfl (by first | decide | omega) (by decide) (LR_kc hL hA (by omega)) ?_
        refine a_iload_n C dL_keyDue_194 rfl rfl ?_
        refine p_callS C ((K_L_step (by first | assumption | decide | omega))).cp sL_103 rfl dL_keyDue_195 (Nat.le_of_ble_eq_true rfl) ⟨by decide, by decide⟩ ?_
        first | refine n_iadd C dL_keyDue_198 ?_ | refine a_iadd C dL_keyDue_198 ?_
        refine f_iast C dL_keyDue_199 (by first | decide | omega) rfl rfl (by first | decide | omega) (by decide)  rfl ?_
        refine a_aload_n C dL_keyDue_200 rfl rfl ?_
        refine a_iconst (v := nI 1) C dL_keyDue_201 (by decide) ?_
        refine a_dup2 C dL_keyDue_202 rfl rfl ?_
        refine n_iald C dL_keyDue_203 (tw (by first | decide | omega)) (by first | decide | omega) rfl rfl (by first | decide | omega) (by decide) (show _ = A 1 from by
          rw [wSet_th (by decide)]
          exact LR_q hL (j := 1) (by decide)) ?_
        refine a_aload_n C dL_keyDue_204 rfl rfl ?_
        refine a_bipush (v := nI 7) C dL_keyDue_205 (by decide) ?_
        refine n_iald C dL_keyDue_207 (tw (by first | decide | omega)) (by first | decide | omega) rfl rfl (by first | decide | omega) (by decide) (show _ = nI (sN A 1) from by
          rw [wSet_th (by decide)]
          exact LR_s1 hL hA) ?_
        first | refine n_iadd C dL_keyDue_208 ?_ | refine a_iadd C dL_keyDue_208 ?_
        refine f_iast C dL_keyDue_209 (by first | decide | omega) rfl rfl (by first | decide | omega) (by decide)  rfl ?_
        refine a_aload C dL_keyDue_210 rfl ?_
        refine a_bipush (v := nI 6) C dL_keyDue_212 (by decide) ?_
        refine a_iload_n C dL_keyDue_214 rfl rfl ?_
        first | refine n_imul C dL_keyDue_215 ?_ | refine a_imul C dL_keyDue_215 ?_
        refine n_iald C dL_keyDue_216 (tw (by first | decide | omega)) (by first | decide | omega) rfl rfl (by first | decide | omega) (by decide) (show _ = nI (cN A k + wtN j) from by
          rw [wSet_th (by decide)]
          exact wSet_at) ?_
        refine f_iret C hr ?_ dL_keyDue_217 ?_
        · rfl
        · exact ⟨rfl, LR_set ((hL.1.setk (k := k) (j := 0)).setq (j := 1) (by decide)) dee_kN hL.2, (by repeat' (first | exact Frm.rf | assumption | (refine Frm.set ?_ (by decide))))⟩
      · exact absurd hz h_180
    · exfalso; omega
  · exact absurd h_1 (by decide)

set_option maxRecDepth 20000 in
set_option maxHeartbeats 4000000 in
theorem K_L_keyDue3 {w : Wd} {A : St} (hL : LR w A) (hA : AOK A) {k q : Nat} (hk : k < kN A) : CF yL_keyDue cL_keyDue 8 (some .int) 4 98 [.int (nI 3), .int (nI k), .int (nI q), .ref 204, .ref 205, .ref 206] w (PD w (givA A k q) (nI (oN A k))) := by
  have zq_n := hA.n12
  have zq_10 := hL.2
  refine CF.of ok_L_keyDue (Nat.le_of_ble_eq_true rfl) (fun ex us G9 p9 l9 e9 s9 m9 ar9 be9 me9 co9 C hr => ?_)
  refine a_pad 2 ?_
  refine a_eq (L' := [some (.int (nI 3)), some (.int (nI k)), some (.int (nI q)), some (.ref 204), some (.ref 205), some (.ref 206), none, none]) rfl rfl rfl ?_
  refine a_iload_n C dL_keyDue_0 rfl rfl ?_
  refine n_if_ne (tgt := 99) C dL_keyDue_1 (by decide) (by first | decide | omega)  (fun h_1 => ?_) (fun h_1 => ?_)
  · refine a_iload_n C dL_keyDue_99 rfl rfl ?_
    refine a_aload_n C dL_keyDue_100 rfl rfl ?_
    refine a_iconst (v := nI 0) C dL_keyDue_101 (by decide) ?_
    refine n_iald C dL_keyDue_102 (tw (by first | decide | omega)) (by first | decide | omega) rfl rfl (by first | decide | omega) (by decide) (LR_n hL hA) ?_
    refine n_icmp_lt (tgt := 109) C dL_keyDue_103 (by decide) (by first | decide | omega) (by first | decide | omega) (fun h_103 => ?_) (fun h_103 => ?_)
    · refine a_aload C dL_keyDue_109 rfl ?_
      refine a_bipush (v := nI 6) C dL_keyDue_111 (by decide) ?_
      refine a_iload_n C dL_keyDue_113 rfl rfl ?_
      first | refine n_imul C dL_keyDue_114 ?_ | refine a_imul C dL_keyDue_114 ?_
      refine a_iconst (v := nI 1) C dL_keyDue_115 (by decide) ?_
      first | refine n_iadd C dL_keyDue_116 ?_ | refine a_iadd C dL_keyDue_116 ?_
      refine n_iald C dL_keyDue_117 (tw (by first | decide | omega)) (by first | decide | omega) rfl rfl (by first | decide | omega) (by decide) (LR_ko hL hA (by omega)) ?_
      refine a_istore C dL_keyDue_118 (by decide) ?_
      refine a_iload_n C dL_keyDue_120 rfl rfl ?_
      refine a_tableIn (x := nI 3) (tgt := 275) C dL_keyDue_121 (by decide) (by decide) rfl (by decide) ?_
      refine a_aload C dL_keyDue_275 rfl ?_
      refine a_bipush (v := nI 6) C dL_keyDue_277 (by decide) ?_
      refine a_iload_n C dL_keyDue_279 rfl rfl ?_
      first | refine n_imul C dL_keyDue_280 ?_ | refine a_imul C dL_keyDue_280 ?_
      refine a_iconst (v := nI 1) C dL_keyDue_281 (by decide) ?_
      first | refine n_iadd C dL_keyDue_282 ?_ | refine a_iadd C dL_keyDue_282 ?_
      refine a_iload_n C dL_keyDue_283 rfl rfl ?_
      refine f_iast C dL_keyDue_284 (by first | decide | omega) rfl rfl (by first | decide | omega) (by decide)  rfl ?_
      refine a_iload C dL_keyDue_285 rfl ?_
      refine f_iret C hr ?_ dL_keyDue_287 ?_
      · rfl
      · exact ⟨rfl, LR_set (B := givA A k q) (hL.1.setk (k := k) (j := 1)) (kN_same (by unfold givA; rw [upd_ne (by omega)])) hL.2, (by repeat' (first | exact Frm.rf | assumption | (refine Frm.set ?_ (by decide))))⟩
    · exfalso; omega
  · exact absurd h_1 (by decide)

set_option maxRecDepth 20000 in
set_option maxHeartbeats 4000000 in
theorem K_L_keyDue9_f {w : Wd} {A : St} (hL : LR w A) (hA : AOK A) {k p : Nat} (hk : k < kN A) (hp : p < 6) (hz : lsA A k = true ∨ wdA A p = false) : CP yL_keyDue cL_keyDue 8 (some .int) 4 98 [.int (nI 9), .int (nI k), .int (nI p), .ref 204, .ref 205, .ref 206] w (.int (-103)) := by
  have zq_n := hA.n12
  have zq_10 := hL.2
  refine CF.of ok_L_keyDue (Nat.le_of_ble_eq_true rfl) (fun ex us G9 p9 l9 e9 s9 m9 ar9 be9 me9 co9 C hr => ?_)
  refine a_pad 2 ?_
  refine a_eq (L' := [some (.int (nI 9)), some (.int (nI k)), some (.int (nI p)), some (.ref 204), some (.ref 205), some (.ref 206), none, none]) rfl rfl rfl ?_
  refine a_iload_n C dL_keyDue_0 rfl rfl ?_
  refine n_if_ne (tgt := 99) C dL_keyDue_1 (by decide) (by first | decide | omega)  (fun h_1 => ?_) (fun h_1 => ?_)
  · refine a_iload_n C dL_keyDue_99 rfl rfl ?_
    refine a_aload_n C dL_keyDue_100 rfl rfl ?_
    refine a_iconst (v := nI 0) C dL_keyDue_101 (by decide) ?_
    refine n_iald C dL_keyDue_102 (tw (by first | decide | omega)) (by first | decide | omega) rfl rfl (by first | decide | omega) (by decide) (LR_n hL hA) ?_
    refine n_icmp_lt (tgt := 109) C dL_keyDue_103 (by decide) (by first | decide | omega) (by first | decide | omega) (fun h_103 => ?_) (fun h_103 => ?_)
    · refine a_aload C dL_keyDue_109 rfl ?_
      refine a_bipush (v := nI 6) C dL_keyDue_111 (by decide) ?_
      refine a_iload_n C dL_keyDue_113 rfl rfl ?_
      first | refine n_imul C dL_keyDue_114 ?_ | refine a_imul C dL_keyDue_114 ?_
      refine a_iconst (v := nI 1) C dL_keyDue_115 (by decide) ?_
      first | refine n_iadd C dL_keyDue_116 ?_ | refine a_iadd C dL_keyDue_116 ?_
      refine n_iald C dL_keyDue_117 (tw (by first | decide | omega)) (by first | decide | omega) rfl rfl (by first | decide | omega) (by decide) (LR_ko hL hA (by omega)) ?_
      refine a_istore C dL_keyDue_118 (by decide) ?_
      refine a_iload_n C dL_keyDue_120 rfl rfl ?_
      refine a_tableIn (x := nI 9) (tgt := 288) C dL_keyDue_121 (by decide) (by decide) rfl (by decide) ?_
      refine a_iload_n C dL_keyDue_288 rfl rfl ?_
      refine a_iload_n C dL_keyDue_289 rfl rfl ?_
      refine a_aload_n C dL_keyDue_290 rfl rfl ?_
      refine a_aload C dL_keyDue_291 rfl ?_
      refine a_aload C dL_keyDue_293 rfl ?_
      refine p_callS C (K_L_turned_0 hL hA hk hp hz) sL_160 rfl dL_keyDue_295 (Nat.le_of_ble_eq_true rfl) ⟨by decide, by decide⟩ ?_
      refine f_iret C hr ?_ dL_keyDue_298 ⟨?_, rfl⟩
      · rfl
      · rfl
    · exfalso; omega
  · exact absurd h_1 (by decide)

set_option maxRecDepth 20000 in
set_option maxHeartbeats 4000000 in
theorem K_L_keyDue9 {w : Wd} {A : St} (hL : LR w A) (hA : AOK A) {k p : Nat} (hk : k < kN A) (hp : p < 6) (hl0 : lsA A k = false) (hw1 : wdA A p = true) : CF yL_keyDue cL_keyDue 8 (some .int) 4 98 [.int (nI 9), .int (nI k), .int (nI p), .ref 204, .ref 205, .ref 206] w (PD w (turA A k p) (bI (opnA A (cN A k) p))) := by
  have zq_n := hA.n12
  have zq_10 := hL.2
  refine CF.of ok_L_keyDue (Nat.le_of_ble_eq_true rfl) (fun ex us G9 p9 l9 e9 s9 m9 ar9 be9 me9 co9 C hr => ?_)
  refine a_pad 2 ?_
  refine a_eq (L' := [some (.int (nI 9)), some (.int (nI k)), some (.int (nI p)), some (.ref 204), some (.ref 205), some (.ref 206), none, none]) rfl rfl rfl ?_
  refine a_iload_n C dL_keyDue_0 rfl rfl ?_
  refine n_if_ne (tgt := 99) C dL_keyDue_1 (by decide) (by first | decide | omega)  (fun h_1 => ?_) (fun h_1 => ?_)
  · refine a_iload_n C dL_keyDue_99 rfl rfl ?_
    refine a_aload_n C dL_keyDue_100 rfl rfl ?_
    refine a_iconst (v := nI 0) C dL_keyDue_101 (by decide) ?_
    refine n_iald C dL_keyDue_102 (tw (by first | decide | omega)) (by first | decide | omega) rfl rfl (by first | decide | omega) (by decide) (LR_n hL hA) ?_
    refine n_icmp_lt (tgt := 109) C dL_keyDue_103 (by decide) (by first | decide | omega) (by first | decide | omega) (fun h_103 => ?_) (fun h_103 => ?_)
    · refine a_aload C dL_keyDue_109 rfl ?_
      refine a_bipush (v := nI 6) C dL_keyDue_111 (by decide) ?_
      refine a_iload_n C dL_keyDue_113 rfl rfl ?_
      first | refine n_imul C dL_keyDue_114 ?_ | refine a_imul C dL_keyDue_114 ?_
      refine a_iconst (v := nI 1) C dL_keyDue_115 (by decide) ?_
      first | refine n_iadd C dL_keyDue_116 ?_ | refine a_iadd C dL_keyDue_116 ?_
      refine n_iald C dL_keyDue_117 (tw (by first | decide | omega)) (by first | decide | omega) rfl rfl (by first | decide | omega) (by decide) (LR_ko hL hA (by omega)) ?_
      refine a_istore C dL_keyDue_118 (by decide) ?_
      refine a_iload_n C dL_keyDue_120 rfl rfl ?_
      refine a_tableIn (x := nI 9) (tgt := 288) C dL_keyDue_121 (by decide) (by decide) rfl (by decide) ?_
      refine a_iload_n C dL_keyDue_288 rfl rfl ?_
      refine a_iload_n C dL_keyDue_289 rfl rfl ?_
      refine a_aload_n C dL_keyDue_290 rfl rfl ?_
      refine a_aload C dL_keyDue_291 rfl ?_
      refine a_aload C dL_keyDue_293 rfl ?_
      refine f_callS C _ (K_L_turned_1 hL hA hk hp hl0 hw1) sL_160 dL_keyDue_295 rfl (Nat.le_of_ble_eq_true rfl) ⟨by decide, by decide⟩ (fun zr295 zw295 zp295 => ?_)
      obtain ⟨rfl, zq_L, zq_F⟩ := zp295
      refine f_iret C hr ?_ dL_keyDue_298 ?_
      · rfl
      · exact ⟨rfl, zq_L, zq_F⟩
    · exfalso; omega
  · exact absurd h_1 (by decide)

set_option maxRecDepth 20000 in
set_option maxHeartbeats 4000000 in
theorem K_L_keyDue4_f {w : Wd} {A : St} (hL : LR w A) (hA : AOK A) {k : Nat} {y : Int32} (hk : k < kN A) (hz : lsA A k = true) : CP yL_keyDue cL_keyDue 8 (some .int) 4 98 [.int (nI 4), .int (nI k), .int y, .ref 204, .ref 205, .ref 206] w (.int (-103)) := by
  have zq_n := hA.n12
  have zq_10 := hL.2
  refine CF.of ok_L_keyDue (Nat.le_of_ble_eq_true rfl) (fun ex us G9 p9 l9 e9 s9 m9 ar9 be9 me9 co9 C hr => ?_)
  refine a_pad 2 ?_
  refine a_eq (L' := [some (.int (nI 4)), some (.int (nI k)), some (.int y), some (.ref 204), some (.ref 205), some (.ref 206), none, none]) rfl rfl rfl ?_
  refine a_iload_n C dL_keyDue_0 rfl rfl ?_
  refine n_if_ne (tgt := 99) C dL_keyDue_1 (by decide) (by first | decide | omega)  (fun h_1 => ?_) (fun h_1 => ?_)
  · refine a_iload_n C dL_keyDue_99 rfl rfl ?_
    refine a_aload_n C dL_keyDue_100 rfl rfl ?_
    refine a_iconst (v := nI 0) C dL_keyDue_101 (by decide) ?_
    refine n_iald C dL_keyDue_102 (tw (by first | decide | omega)) (by first | decide | omega) rfl rfl (by first | decide | omega) (by decide) (LR_n hL hA) ?_
    refine n_icmp_lt (tgt := 109) C dL_keyDue_103 (by decide) (by first | decide | omega) (by first | decide | omega) (fun h_103 => ?_) (fun h_103 => ?_)
    · refine a_aload C dL_keyDue_109 rfl ?_
      refine a_bipush (v := nI 6) C dL_keyDue_111 (by decide) ?_
      refine a_iload_n C dL_keyDue_113 rfl rfl ?_
      first | refine n_imul C dL_keyDue_114 ?_ | refine a_imul C dL_keyDue_114 ?_
      refine a_iconst (v := nI 1) C dL_keyDue_115 (by decide) ?_
      first | refine n_iadd C dL_keyDue_116 ?_ | refine a_iadd C dL_keyDue_116 ?_
      refine n_iald C dL_keyDue_117 (tw (by first | decide | omega)) (by first | decide | omega) rfl rfl (by first | decide | omega) (by decide) (LR_ko hL hA (by omega)) ?_
      refine a_istore C dL_keyDue_118 (by decide) ?_
      refine a_iload_n C dL_keyDue_120 rfl rfl ?_
      refine a_tableIn (x := nI 4) (tgt := 299) C dL_keyDue_121 (by decide) (by decide) rfl (by decide) ?_
      refine a_iload_n C dL_keyDue_299 rfl rfl ?_
      refine a_iconst (v := nI 4) C dL_keyDue_300 (by decide) ?_
      refine n_icmp_ne (tgt := 308) C dL_keyDue_301 (by decide) (by first | decide | omega) (by first | decide | omega) (fun h_301 => ?_) (fun h_301 => ?_)
      · exact absurd rfl h_301
      · refine a_iconst (v := nI 1) C dL_keyDue_304 (by decide) ?_
        refine a_goto (tgt := 309) C dL_keyDue_305 (by decide) ?_
        refine a_aload C dL_keyDue_309 rfl ?_
        refine a_bipush (v := nI 6) C dL_keyDue_311 (by decide) ?_
        refine a_iload_n C dL_keyDue_313 rfl rfl ?_
        first | refine n_imul C dL_keyDue_314 ?_ | refine a_imul C dL_keyDue_314 ?_
        refine a_iconst (v := nI 2) C dL_keyDue_315 (by decide) ?_
        first | refine n_iadd C dL_keyDue_316 ?_ | refine a_iadd C dL_keyDue_316 ?_
        refine n_iald C dL_keyDue_317 (tw (by first | decide | omega)) (by first | decide | omega) rfl rfl (by first | decide | omega) (by decide) ((LR_kl hL hA hk).trans (congrArg bI hz)) ?_
        refine a_iconst (v := nI 1) C dL_keyDue_318 (by decide) ?_
        refine b_icmp1_ne (tgt := 326) C dL_keyDue_319 (by decide) (fun h_319 => ?_) (fun h_319 => ?_)
        · exact absurd h_319 (by decide)
        · refine a_iconst (v := nI 1) C dL_keyDue_322 (by decide) ?_
          refine a_goto (tgt := 327) C dL_keyDue_323 (by decide) ?_
          refine n_icmp_ne (tgt := 333) C dL_keyDue_327 (by decide) (by first | decide | omega) (by first | decide | omega) (fun h_327 => ?_) (fun h_327 => ?_)
          · exact absurd h_327 (by decide)
          · refine a_bipush (v := (-103)) C dL_keyDue_330 (by decide) ?_
            refine f_iret C hr ?_ dL_keyDue_332 ⟨?_, rfl⟩
            · rfl
            · rfl
    · exfalso; omega
  · exact absurd h_1 (by decide)

set_option maxRecDepth 20000 in
set_option maxHeartbeats 4000000 in
theorem K_L_keyDue4 {w : Wd} {A : St} (hL : LR w A) (hA : AOK A) {k : Nat} {y : Int32} (hk : k < kN A) (hz : lsA A k = false) : CF yL_keyDue cL_keyDue 8 (some .int) 4 98 [.int (nI 4), .int (nI k), .int y, .ref 204, .ref 205, .ref 206] w (PD w (losA A k true) (nI (onesN (lksA A (cN A k))))) := by
  have zq_n := hA.n12
  have zq_10 := hL.2
  refine CF.of ok_L_keyDue (Nat.le_of_ble_eq_true rfl) (fun ex us G9 p9 l9 e9 s9 m9 ar9 be9 me9 co9 C hr => ?_)
  refine a_pad 2 ?_
  refine a_eq (L' := [some (.int (nI 4)), some (.int (nI k)), some (.int y), some (.ref 204), some (.ref 205), some (.ref 206), none, none]) rfl rfl rfl ?_
  refine a_iload_n C dL_keyDue_0 rfl rfl ?_
  refine n_if_ne (tgt := 99) C dL_keyDue_1 (by decide) (by first | decide | omega)  (fun h_1 => ?_) (fun h_1 => ?_)
  · refine a_iload_n C dL_keyDue_99 rfl rfl ?_
    refine a_aload_n C dL_keyDue_100 rfl rfl ?_
    refine a_iconst (v := nI 0) C dL_keyDue_101 (by decide) ?_
    refine n_iald C dL_keyDue_102 (tw (by first | decide | omega)) (by first | decide | omega) rfl rfl (by first | decide | omega) (by decide) (LR_n hL hA) ?_
    refine n_icmp_lt (tgt := 109) C dL_keyDue_103 (by decide) (by first | decide | omega) (by first | decide | omega) (fun h_103 => ?_) (fun h_103 => ?_)
    · refine a_aload C dL_keyDue_109 rfl ?_
      refine a_bipush (v := nI 6) C dL_keyDue_111 (by decide) ?_
      refine a_iload_n C dL_keyDue_113 rfl rfl ?_
      first | refine n_imul C dL_keyDue_114 ?_ | refine a_imul C dL_keyDue_114 ?_
      refine a_iconst (v := nI 1) C dL_keyDue_115 (by decide) ?_
      first | refine n_iadd C dL_keyDue_116 ?_ | refine a_iadd C dL_keyDue_116 ?_
      refine n_iald C dL_keyDue_117 (tw (by first | decide | omega)) (by first | decide | omega) rfl rfl (by first | decide | omega) (by decide) (LR_ko hL hA (by omega)) ?_
      refine a_istore C dL_keyDue_118 (by decide) ?_
      refine a_iload_n C dL_keyDue_120 rfl rfl ?_
      refine a_tableIn (x := nI 4) (tgt := 299) C dL_keyDue_121 (by decide) (by decide) rfl (by decide) ?_
      refine a_iload_n C dL_keyDue_299 rfl rfl ?_
      refine a_iconst (v := nI 4) C dL_keyDue_300 (by decide) ?_
      refine n_icmp_ne (tgt := 308) C dL_keyDue_301 (by decide) (by first | decide | omega) (by first | decide | omega) (fun h_301 => ?_) (fun h_301 => ?_)
      · exact absurd rfl h_301
      · refine a_iconst (v := nI 1) C dL_keyDue_304 (by decide) ?_
        refine a_goto (tgt := 309) C dL_keyDue_305 (by decide) ?_
        refine a_aload C dL_keyDue_309 rfl ?_
        refine a_bipush (v := nI 6) C dL_keyDue_311 (by decide) ?_
        refine a_iload_n C dL_keyDue_313 rfl rfl ?_
        first | refine n_imul C dL_keyDue_314 ?_ | refine a_imul C dL_keyDue_314 ?_
        refine a_iconst (v := nI 2) C dL_keyDue_315 (by decide) ?_
        first | refine n_iadd C dL_keyDue_316 ?_ | refine a_iadd C dL_keyDue_316 ?_
        refine n_iald C dL_keyDue_317 (tw (by first | decide | omega)) (by first | decide | omega) rfl rfl (by first | decide | omega) (by decide) ((LR_kl hL hA hk).trans (congrArg bI hz)) ?_
        refine a_iconst (v := nI 1) C dL_keyDue_318 (by decide) ?_
        refine b_icmp1_ne (tgt := 326) C dL_keyDue_319 (by decide) (fun h_319 => ?_) (fun h_319 => ?_)
        · refine a_iconst (v := nI 0) C dL_keyDue_326 (by decide) ?_
          refine n_icmp_ne (tgt := 333) C dL_keyDue_327 (by decide) (by first | decide | omega) (by first | decide | omega) (fun h_327 => ?_) (fun h_327 => ?_)
          · refine a_aload C dL_keyDue_333 rfl ?_
            refine a_bipush (v := nI 6) C dL_keyDue_335 (by decide) ?_
            refine a_iload_n C dL_keyDue_337 rfl rfl ?_
            first | refine n_imul C dL_keyDue_338 ?_ | refine a_imul C dL_keyDue_338 ?_
            refine a_iconst (v := nI 2) C dL_keyDue_339 (by decide) ?_
            first | refine n_iadd C dL_keyDue_340 ?_ | refine a_iadd C dL_keyDue_340 ?_
            refine a_dup2 C dL_keyDue_341 rfl rfl ?_
            refine n_iald C dL_keyDue_342 (tw (by first | decide | omega)) (by first | decide | omega) rfl rfl (by first | decide | omega) (by decide) ((LR_kl hL hA hk).trans (congrArg bI hz)) ?_
            refine a_iconst (v := nI 1) C dL_keyDue_343 (by decide) ?_
            refine a_ixor C dL_keyDue_344 ?_
            refine a_eq rfl (gl1 (show bI false ^^^ nI 1 = bI true by decide)) rfl ?_
            refine f_iast C dL_keyDue_345 (by first | decide | omega) rfl rfl (by first | decide | omega) (by decide)  rfl ?_
            have zq_L : LR (wSet w 205 (6 * k + 2) (bI true)) (losA A k true) := LR_set (B := losA A k true) (hL.1.setk (k := k) (j := 2)) (kN_same (by unfold losA; rw [upd_ne (by omega)])) hL.2
            have zq_c := hA.c81 (k := k) (by omega)
            have zq_e : lksA (losA A k true) (cN A k) = lksA A (cN A k) := lks_k (A := A) (i := 40 + 6 * k + 2) (x := bI true) (by omega)
            refine a_aload C dL_keyDue_346 rfl ?_
            refine a_bipush (v := nI 6) C dL_keyDue_348 (by decide) ?_
            refine a_iload_n C dL_keyDue_350 rfl rfl ?_
            first | refine n_imul C dL_keyDue_351 ?_ | refine a_imul C dL_keyDue_351 ?_
            refine n_iald C dL_keyDue_352 (tw (by first | decide | omega)) (by first | decide | omega) rfl rfl (by first | decide | omega) (by decide) ((wSet_ne (by omega)).trans (LR_kc hL hA hk)) ?_
            refine a_aload C dL_keyDue_353 rfl ?_
            refine p_callS C (K_L_locksOf (A := losA A k true) zq_L (losA_ok hA k true) zq_c) sL_164 rfl dL_keyDue_355 (Nat.le_of_ble_eq_true rfl) ⟨by decide, by decide⟩ ?_
            refine p_callS C ((K_L_ones (lks_lt (losA A k true) (cN A k)))).cp sL_168 rfl dL_keyDue_358 (Nat.le_of_ble_eq_true rfl) ⟨by decide, by decide⟩ ?_
            refine f_iret C hr ?_ dL_keyDue_361 ?_
            · rfl
            · exact ⟨gl (by rw [zq_e]), zq_L, (by repeat' (first | exact Frm.rf | assumption | (refine Frm.set ?_ (by decide))))⟩
          · exact absurd h_327 (by decide)
        · exact absurd h_319 (by decide)
    · exfalso; omega
  · exact absurd h_1 (by decide)

set_option maxRecDepth 20000 in
set_option maxHeartbeats 4000000 in
theorem K_L_keyDue5_f {w : Wd} {A : St} (hL : LR w A) (hA : AOK A) {k : Nat} {y : Int32} (hk : k < kN A) (hz : lsA A k = false) : CP yL_keyDue cL_keyDue 8 (some .int) 4 98 [.int (nI 5), .int (nI k), .int y, .ref 204, .ref 205, .ref 206] w (.int (-103)) := by
  have zq_n := hA.n12
  have zq_10 := hL.2
  refine CF.of ok_L_keyDue (Nat.le_of_ble_eq_true rfl) (fun ex us G9 p9 l9 e9 s9 m9 ar9 be9 me9 co9 C hr => ?_)
  refine a_pad 2 ?_
  refine a_eq (L' := [some (.int (nI 5)), some (.int (nI k)), some (.int y), some (.ref 204), some (.ref 205), some (.ref 206), none, none]) rfl rfl rfl ?_
  refine a_iload_n C dL_keyDue_0 rfl rfl ?_
  refine n_if_ne (tgt := 99) C dL_keyDue_1 (by decide) (by first | decide | omega)  (fun h_1 => ?_) (fun h_1 => ?_)
  · refine a_iload_n C dL_keyDue_99 rfl rfl ?_
    refine a_aload_n C dL_keyDue_100 rfl rfl ?_
    refine a_iconst (v := nI 0) C dL_keyDue_101 (by decide) ?_
    refine n_iald C dL_keyDue_102 (tw (by first | decide | omega)) (by first | decide | omega) rfl rfl (by first | decide | omega) (by decide) (LR_n hL hA) ?_
    refine n_icmp_lt (tgt := 109) C dL_keyDue_103 (by decide) (by first | decide | omega) (by first | decide | omega) (fun h_103 => ?_) (fun h_103 => ?_)
    · refine a_aload C dL_keyDue_109 rfl ?_
      refine a_bipush (v := nI 6) C dL_keyDue_111 (by decide) ?_
      refine a_iload_n C dL_keyDue_113 rfl rfl ?_
      first | refine n_imul C dL_keyDue_114 ?_ | refine a_imul C dL_keyDue_114 ?_
      refine a_iconst (v := nI 1) C dL_keyDue_115 (by decide) ?_
      first | refine n_iadd C dL_keyDue_116 ?_ | refine a_iadd C dL_keyDue_116 ?_
      refine n_iald C dL_keyDue_117 (tw (by first | decide | omega)) (by first | decide | omega) rfl rfl (by first | decide | omega) (by decide) (LR_ko hL hA (by omega)) ?_
      refine a_istore C dL_keyDue_118 (by decide) ?_
      refine a_iload_n C dL_keyDue_120 rfl rfl ?_
      refine a_tableIn (x := nI 5) (tgt := 299) C dL_keyDue_121 (by decide) (by decide) rfl (by decide) ?_
      refine a_iload_n C dL_keyDue_299 rfl rfl ?_
      refine a_iconst (v := nI 4) C dL_keyDue_300 (by decide) ?_
      refine n_icmp_ne (tgt := 308) C dL_keyDue_301 (by decide) (by first | decide | omega) (by first | decide | omega) (fun h_301 => ?_) (fun h_301 => ?_)
      · refine a_iconst (v := nI 0) C dL_keyDue_308 (by decide) ?_
        refine a_aload C dL_keyDue_309 rfl ?_
        refine a_bipush (v := nI 6) C dL_keyDue_311 (by decide) ?_
        refine a_iload_n C dL_keyDue_313 rfl rfl ?_
        first | refine n_imul C dL_keyDue_314 ?_ | refine a_imul C dL_keyDue_314 ?_
        refine a_iconst (v := nI 2) C dL_keyDue_315 (by decide) ?_
        first | refine n_iadd C dL_keyDue_316 ?_ | refine a_iadd C dL_keyDue_316 ?_
        refine n_iald C dL_keyDue_317 (tw (by first | decide | omega)) (by first | decide | omega) rfl rfl (by first | decide | omega) (by decide) ((LR_kl hL hA hk).trans (congrArg bI hz)) ?_
        refine a_iconst (v := nI 1) C dL_keyDue_318 (by decide) ?_
        refine b_icmp1_ne (tgt := 326) C dL_keyDue_319 (by decide) (fun h_319 => ?_) (fun h_319 => ?_)
        · refine a_iconst (v := nI 0) C dL_keyDue_326 (by decide) ?_
          refine n_icmp_ne (tgt := 333) C dL_keyDue_327 (by decide) (by first | decide | omega) (by first | decide | omega) (fun h_327 => ?_) (fun h_327 => ?_)
          · exact absurd h_327 (by decide)
          · refine a_bipush (v := (-103)) C dL_keyDue_330 (by decide) ?_
            refine f_iret C hr ?_ dL_keyDue_332 ⟨?_, rfl⟩
            · rfl
            · rfl
        · exact absurd h_319 (by decide)
      · exact absurd h_301 (by decide)
    · exfalso; omega
  · exact absurd h_1 (by decide)

set_option maxRecDepth 20000 in
set_option maxHeartbeats 4000000 in
theorem K_L_keyDue5 {w : Wd} {A : St} (hL : LR w A) (hA : AOK A) {k : Nat} {y : Int32} (hk : k < kN A) (hz : lsA A k = true) : CF yL_keyDue cL_keyDue 8 (some .int) 4 98 [.int (nI 5), .int (nI k), .int y, .ref 204, .ref 205, .ref 206] w (PD w (losA A k false) (nI (onesN (lksA A (cN A k))))) := by
  have zq_n := hA.n12
  have zq_10 := hL.2
  refine CF.of ok_L_keyDue (Nat.le_of_ble_eq_true rfl) (fun ex us G9 p9 l9 e9 s9 m9 ar9 be9 me9 co9 C hr => ?_)
  refine a_pad 2 ?_
  refine a_eq (L' := [some (.int (nI 5)), some (.int (nI k)), some (.int y), some (.ref 204), some (.ref 205), some (.ref 206), none, none]) rfl rfl rfl ?_
  refine a_iload_n C dL_keyDue_0 rfl rfl ?_
  refine n_if_ne (tgt := 99) C dL_keyDue_1 (by decide) (by first | decide | omega)  (fun h_1 => ?_) (fun h_1 => ?_)
  · refine a_iload_n C dL_keyDue_99 rfl rfl ?_
    refine a_aload_n C dL_keyDue_100 rfl rfl ?_
    refine a_iconst (v := nI 0) C dL_keyDue_101 (by decide) ?_
    refine n_iald C dL_keyDue_102 (tw (by first | decide | omega)) (by first | decide | omega) rfl rfl (by first | decide | omega) (by decide) (LR_n hL hA) ?_
    refine n_icmp_lt (tgt := 109) C dL_keyDue_103 (by decide) (by first | decide | omega) (by first | decide | omega) (fun h_103 => ?_) (fun h_103 => ?_)
    · refine a_aload C dL_keyDue_109 rfl ?_
      refine a_bipush (v := nI 6) C dL_keyDue_111 (by decide) ?_
      refine a_iload_n C dL_keyDue_113 rfl rfl ?_
      first | refine n_imul C dL_keyDue_114 ?_ | refine a_imul C dL_keyDue_114 ?_
      refine a_iconst (v := nI 1) C dL_keyDue_115 (by decide) ?_
      first | refine n_iadd C dL_keyDue_116 ?_ | refine a_iadd C dL_keyDue_116 ?_
      refine n_iald C dL_keyDue_117 (tw (by first | decide | omega)) (by first | decide | omega) rfl rfl (by first | decide | omega) (by decide) (LR_ko hL hA (by omega)) ?_
      refine a_istore C dL_keyDue_118 (by decide) ?_
      refine a_iload_n C dL_keyDue_120 rfl rfl ?_
      refine a_tableIn (x := nI 5) (tgt := 299) C dL_keyDue_121 (by decide) (by decide) rfl (by decide) ?_
      refine a_iload_n C dL_keyDue_299 rfl rfl ?_
      refine a_iconst (v := nI 4) C dL_keyDue_300 (by decide) ?_
      refine n_icmp_ne (tgt := 308) C dL_keyDue_301 (by decide) (by first | decide | omega) (by first | decide | omega) (fun h_301 => ?_) (fun h_301 => ?_)
      · refine a_iconst (v := nI 0) C dL_keyDue_308 (by decide) ?_
        refine a_aload C dL_keyDue_309 rfl ?_
        refine a_bipush (v := nI 6) C dL_keyDue_311 (by decide) ?_
        refine a_iload_n C dL_keyDue_313 rfl rfl ?_
        first | refine n_imul C dL_keyDue_314 ?_ | refine a_imul C dL_keyDue_314 ?_
        refine a_iconst (v := nI 2) C dL_keyDue_315 (by decide) ?_
        first | refine n_iadd C dL_keyDue_316 ?_ | refine a_iadd C dL_keyDue_316 ?_
        refine n_iald C dL_keyDue_317 (tw (by first | decide | omega)) (by first | decide | omega) rfl rfl (by first | decide | omega) (by decide) ((LR_kl hL hA hk).trans (congrArg bI hz)) ?_
        refine a_iconst (v := nI 1) C dL_keyDue_318 (by decide) ?_
        refine b_icmp1_ne (tgt := 326) C dL_keyDue_319 (by decide) (fun h_319 => ?_) (fun h_319 => ?_)
        · exact absurd h_319 (by decide)
        · refine a_iconst (v := nI 1) C dL_keyDue_322 (by decide) ?_
          refine a_goto (tgt := 327) C dL_keyDue_323 (by decide) ?_
          refine n_icmp_ne (tgt := 333) C dL_keyDue_327 (by decide) (by first | decide | omega) (by first | decide | omega) (fun h_327 => ?_) (fun h_327 => ?_)
          · refine a_aload C dL_keyDue_333 rfl ?_
            refine a_bipush (v := nI 6) C dL_keyDue_335 (by decide) ?_
            refine a_iload_n C dL_keyDue_337 rfl rfl ?_
            first | refine n_imul C dL_keyDue_338 ?_ | refine a_imul C dL_keyDue_338 ?_
            refine a_iconst (v := nI 2) C dL_keyDue_339 (by decide) ?_
            first | refine n_iadd C dL_keyDue_340 ?_ | refine a_iadd C dL_keyDue_340 ?_
            refine a_dup2 C dL_keyDue_341 rfl rfl ?_
            refine n_iald C dL_keyDue_342 (tw (by first | decide | omega)) (by first | decide | omega) rfl rfl (by first | decide | omega) (by decide) ((LR_kl hL hA hk).trans (congrArg bI hz)) ?_
            refine a_iconst (v := nI 1) C dL_keyDue_343 (by decide) ?_
            refine a_ixor C dL_keyDue_344 ?_
            refine a_eq rfl (gl1 (show bI true ^^^ nI 1 = bI false by decide)) rfl ?_
            refine f_iast C dL_keyDue_345 (by first | decide | omega) rfl rfl (by first | decide | omega) (by decide)  rfl ?_
            have zq_L : LR (wSet w 205 (6 * k + 2) (bI false)) (losA A k false) := LR_set (B := losA A k false) (hL.1.setk (k := k) (j := 2)) (kN_same (by unfold losA; rw [upd_ne (by omega)])) hL.2
            have zq_c := hA.c81 (k := k) (by omega)
            have zq_e : lksA (losA A k false) (cN A k) = lksA A (cN A k) := lks_k (A := A) (i := 40 + 6 * k + 2) (x := bI false) (by omega)
            refine a_aload C dL_keyDue_346 rfl ?_
            refine a_bipush (v := nI 6) C dL_keyDue_348 (by decide) ?_
            refine a_iload_n C dL_keyDue_350 rfl rfl ?_
            first | refine n_imul C dL_keyDue_351 ?_ | refine a_imul C dL_keyDue_351 ?_
            refine n_iald C dL_keyDue_352 (tw (by first | decide | omega)) (by first | decide | omega) rfl rfl (by first | decide | omega) (by decide) ((wSet_ne (by omega)).trans (LR_kc hL hA hk)) ?_
            refine a_aload C dL_keyDue_353 rfl ?_
            refine p_callS C (K_L_locksOf (A := losA A k false) zq_L (losA_ok hA k false) zq_c) sL_164 rfl dL_keyDue_355 (Nat.le_of_ble_eq_true rfl) ⟨by decide, by decide⟩ ?_
            refine p_callS C ((K_L_ones (lks_lt (losA A k false) (cN A k)))).cp sL_168 rfl dL_keyDue_358 (Nat.le_of_ble_eq_true rfl) ⟨by decide, by decide⟩ ?_
            refine f_iret C hr ?_ dL_keyDue_361 ?_
            · rfl
            · exact ⟨gl (by rw [zq_e]), zq_L, (by repeat' (first | exact Frm.rf | assumption | (refine Frm.set ?_ (by decide))))⟩
          · exact absurd h_327 (by decide)
      · exact absurd h_301 (by decide)
    · exfalso; omega
  · exact absurd h_1 (by decide)

set_option maxRecDepth 20000 in
set_option maxHeartbeats 4000000 in
theorem K_L_keyDue2 {w : Wd} {A : St} (hL : LR w A) (hA : AOK A) {k : Nat} {y : Int32} (hk : k < kN A) : CF yL_keyDue cL_keyDue 8 (some .int) 4 98 [.int (nI 2), .int (nI k), .int y, .ref 204, .ref 205, .ref 206] w (PD w (retA A k) (nI (kN A - 1))) := by
  have zq_n := hA.n12
  have zq_10 := hL.2
  refine CF.of ok_L_keyDue (Nat.le_of_ble_eq_true rfl) (fun ex us G9 p9 l9 e9 s9 m9 ar9 be9 me9 co9 C hr => ?_)
  have ZL224 : ∀ (zd224 : Nat) (e : Nat) (v : Wd), 6 * kN A ≤ e + zd224 → 6 * k ≤ e → e ≤ 6 * kN A - 6 → v.1 205 = shR (w.1 205) k e → Frm [205] w v → WA G9 p9 l9 e9 (RM 4 98) s9 m9 ar9 be9 me9 co9 (QF G9 be9 ar9 s9 w ex us (PD w (retA A k) (nI (kN A - 1)))) 8 (207 + ex.1 + ex.2) us 224 [some (.int (nI 2)), some (.int (nI k)), some (.int y), some (.ref 204), some (.ref 205), some (.ref 206), none, some (.int (nI e))] [] (fzM v ex us) := by
    intro zd224
    induction zd224 with
    | zero => intro e v zm224 zh_k zh_e zh_r zh_f; exfalso; omega
    | succ zd224 zih224 =>
      intro e v zm224 zh_k zh_e zh_r zh_f
      refine a_iload C dL_keyDue_224 rfl ?_
      refine a_bipush (v := nI 6) C dL_keyDue_226 (by decide) ?_
      refine a_aload_n C dL_keyDue_228 rfl rfl ?_
      refine a_iconst (v := nI 0) C dL_keyDue_229 (by decide) ?_
      refine n_iald C dL_keyDue_230 (tw (by first | decide | omega)) (by first | decide | omega) rfl rfl (by first | decide | omega) (by decide) ((congrFun (zh_f.at 204 (by decide)) 0).trans (LR_n hL hA)) ?_
      first | refine n_imul C dL_keyDue_231 ?_ | refine a_imul C dL_keyDue_231 ?_
      refine a_bipush (v := nI 6) C dL_keyDue_232 (by decide) ?_
      refine n_isub C dL_keyDue_234 (by first | decide | omega) ?_
      first | refine n_icmp_ge (tgt := 257) C dL_keyDue_235 (by decide) (by first | decide | omega) (by first | decide | omega) (fun h_235 => ?_) (fun h_235 => ?_) | refine a_icmp_ge (tgt := 257) C dL_keyDue_235 (by decide) (fun h_235 => ?_) (fun h_235 => ?_)
      · obtain rfl : e = 6 * kN A - 6 := by omega
        refine a_aload_n C dL_keyDue_257 rfl rfl ?_
        refine a_iconst (v := nI 0) C dL_keyDue_258 (by decide) ?_
        refine a_dup2 C dL_keyDue_259 rfl rfl ?_
        refine n_iald C dL_keyDue_260 (tw (by first | decide | omega)) (by first | decide | omega) rfl rfl (by first | decide | omega) (by decide) ((congrFun (zh_f.at 204 (by decide)) 0).trans (LR_n hL hA)) ?_
        refine a_iconst (v := nI 1) C dL_keyDue_261 (by decide) ?_
        refine n_isub C dL_keyDue_262 (by first | decide | omega) ?_
        refine f_iast C dL_keyDue_263 (by first | decide | omega) rfl rfl (by first | decide | omega) (by decide)  rfl ?_
        refine a_aload_n C dL_keyDue_264 rfl rfl ?_
        refine a_iconst (v := nI 5) C dL_keyDue_265 (by decide) ?_
        refine a_dup2 C dL_keyDue_266 rfl rfl ?_
        refine n_iald C dL_keyDue_267 (tw (by first | decide | omega)) (by first | decide | omega) rfl rfl (by first | decide | omega) (by decide) (show _ = A 5 from by
          rw [wSet_ne (by decide)]
          exact (congrFun (zh_f.at 204 (by decide)) 5).trans (LR_q hL (j := 5) (by decide))) ?_
        refine a_iconst (v := nI 1) C dL_keyDue_268 (by decide) ?_
        first | refine n_iadd C dL_keyDue_269 ?_ | refine a_iadd C dL_keyDue_269 ?_
        refine f_iast C dL_keyDue_270 (by first | decide | omega) rfl rfl (by first | decide | omega) (by decide)  rfl ?_
        refine a_aload_n C dL_keyDue_271 rfl rfl ?_
        refine a_iconst (v := nI 0) C dL_keyDue_272 (by decide) ?_
        refine n_iald C dL_keyDue_273 (tw (by first | decide | omega)) (by first | decide | omega) rfl rfl (by first | decide | omega) (by decide) (show _ = nI (kN A - 1) from by
          rw [wSet_ne (by decide)]
          exact wSet_at) ?_
        refine f_iret C hr ?_ dL_keyDue_274 ?_
        · rfl
        · exact ⟨rfl, ret_LR hA hL hk zh_f zh_r, (((frm3 zh_f (by decide)).set (by decide)).set (by decide))⟩
      · refine a_aload C dL_keyDue_238 rfl ?_
        refine a_iload C dL_keyDue_240 rfl ?_
        refine a_aload C dL_keyDue_242 rfl ?_
        refine a_iload C dL_keyDue_244 rfl ?_
        refine a_bipush (v := nI 6) C dL_keyDue_246 (by decide) ?_
        first | refine n_iadd C dL_keyDue_248 ?_ | refine a_iadd C dL_keyDue_248 ?_
        refine n_iald C dL_keyDue_249 (tw (by first | decide | omega)) (by first | decide | omega) rfl rfl (by first | decide | omega) (by decide) rfl ?_
        refine f_iast C dL_keyDue_250 (by first | decide | omega) rfl rfl (by first | decide | omega) (by decide)  rfl ?_
        refine n_iinc C dL_keyDue_251 rfl (by decide) ?_
        refine a_goto (tgt := 224) C dL_keyDue_254 (by decide) ?_
        refine a_join (aLe_s ?_ (aLe_s ?_ (aLe_s ?_ (aLe_s ?_ (aLe_s ?_ (aLe_s ?_ (aLe_n (aLe_s ?_ aLe_nil)))))))) rfl rfl (zih224 (e + 1) (wSet v 205 e (v.1 205 (e + 6))) (by omega) (by omega) (by omega) (shR_s zh_r zh_k) (zh_f.set (by decide)))
        · first | with_reducible rfl | exact gl (by first | with_reducible rfl | (refine iF ?_; simp [h_235]; done) | (refine iT ?_; simp [h_235]; done) | (refine iB ?_; simp [h_235]; done) | (simp [h_235]; done) | (simp [h_235]; omega) | omega)
        · first | with_reducible rfl | exact gl (by first | with_reducible rfl | (refine iF ?_; simp [h_235]; done) | (refine iT ?_; simp [h_235]; done) | (refine iB ?_; simp [h_235]; done) | (simp [h_235]; done) | (simp [h_235]; omega) | omega)
        · first | with_reducible rfl | exact gl (by first | with_reducible rfl | (refine iF ?_; simp [h_235]; done) | (refine iT ?_; simp [h_235]; done) | (refine iB ?_; simp [h_235]; done) | (simp [h_235]; done) | (simp [h_235]; omega) | omega)
        · first | with_reducible rfl | exact gl (by first | with_reducible rfl | (refine iF ?_; simp [h_235]; done) | (refine iT ?_; simp [h_235]; done) | (refine iB ?_; simp [h_235]; done) | (simp [h_235]; done) | (simp [h_235]; omega) | omega)
        · first | with_reducible rfl | exact gl (by first | with_reducible rfl | (refine iF ?_; simp [h_235]; done) | (refine iT ?_; simp [h_235]; done) | (refine iB ?_; simp [h_235]; done) | (simp [h_235]; done) | (simp [h_235]; omega) | omega)
        · first | with_reducible rfl | exact gl (by first | with_reducible rfl | (refine iF ?_; simp [h_235]; done) | (refine iT ?_; simp [h_235]; done) | (refine iB ?_; simp [h_235]; done) | (simp [h_235]; done) | (simp [h_235]; omega) | omega)
        · first | with_reducible rfl | exact gl (by first | with_reducible rfl | (refine iF ?_; simp [h_235]; done) | (refine iT ?_; simp [h_235]; done) | (refine iB ?_; simp [h_235]; done) | (simp [h_235]; done) | (simp [h_235]; omega) | omega)
  refine a_pad 2 ?_
  refine a_eq (L' := [some (.int (nI 2)), some (.int (nI k)), some (.int y), some (.ref 204), some (.ref 205), some (.ref 206), none, none]) rfl rfl rfl ?_
  refine a_iload_n C dL_keyDue_0 rfl rfl ?_
  refine n_if_ne (tgt := 99) C dL_keyDue_1 (by decide) (by first | decide | omega)  (fun h_1 => ?_) (fun h_1 => ?_)
  · refine a_iload_n C dL_keyDue_99 rfl rfl ?_
    refine a_aload_n C dL_keyDue_100 rfl rfl ?_
    refine a_iconst (v := nI 0) C dL_keyDue_101 (by decide) ?_
    refine n_iald C dL_keyDue_102 (tw (by first | decide | omega)) (by first | decide | omega) rfl rfl (by first | decide | omega) (by decide) (LR_n hL hA) ?_
    refine n_icmp_lt (tgt := 109) C dL_keyDue_103 (by decide) (by first | decide | omega) (by first | decide | omega) (fun h_103 => ?_) (fun h_103 => ?_)
    · refine a_aload C dL_keyDue_109 rfl ?_
      refine a_bipush (v := nI 6) C dL_keyDue_111 (by decide) ?_
      refine a_iload_n C dL_keyDue_113 rfl rfl ?_
      first | refine n_imul C dL_keyDue_114 ?_ | refine a_imul C dL_keyDue_114 ?_
      refine a_iconst (v := nI 1) C dL_keyDue_115 (by decide) ?_
      first | refine n_iadd C dL_keyDue_116 ?_ | refine a_iadd C dL_keyDue_116 ?_
      refine n_iald C dL_keyDue_117 (tw (by first | decide | omega)) (by first | decide | omega) rfl rfl (by first | decide | omega) (by decide) (LR_ko hL hA (by omega)) ?_
      refine a_istore C dL_keyDue_118 (by decide) ?_
      refine a_iload_n C dL_keyDue_120 rfl rfl ?_
      refine a_tableIn (x := nI 2) (tgt := 218) C dL_keyDue_121 (by decide) (by decide) rfl (by decide) ?_
      refine a_bipush (v := nI 6) C dL_keyDue_218 (by decide) ?_
      refine a_iload_n C dL_keyDue_220 rfl rfl ?_
      first | refine n_imul C dL_keyDue_221 ?_ | refine a_imul C dL_keyDue_221 ?_
      refine a_istore C dL_keyDue_222 (by decide) ?_
      refine a_join (aLe_s ?_ (aLe_s ?_ (aLe_s ?_ (aLe_s ?_ (aLe_s ?_ (aLe_s ?_ (aLe_n (aLe_s ?_ aLe_nil)))))))) rfl rfl (ZL224 (6 * kN A) (6 * k) w (by omega) (by omega) (by omega) shR_0 Frm.rf)
      · first | with_reducible rfl | exact gl (by first | with_reducible rfl | (refine iF ?_; simp [h_1, (beq_eq_false_iff_ne.mpr h_1), (bne_iff_ne.mpr h_1), h_103]; done) | (refine iT ?_; simp [h_1, (beq_eq_false_iff_ne.mpr h_1), (bne_iff_ne.mpr h_1), h_103]; done) | (refine iB ?_; simp [h_1, (beq_eq_false_iff_ne.mpr h_1), (bne_iff_ne.mpr h_1), h_103]; done) | (simp [h_1, (beq_eq_false_iff_ne.mpr h_1), (bne_iff_ne.mpr h_1), h_103]; done) | (simp [h_1, (beq_eq_false_iff_ne.mpr h_1), (bne_iff_ne.mpr h_1), h_103]; omega) | omega | rfl)
      · first | with_reducible rfl | exact gl (by first | with_reducible rfl | (refine iF ?_; simp [h_1, (beq_eq_false_iff_ne.mpr h_1), (bne_iff_ne.mpr h_1), h_103]; done) | (refine iT ?_; simp [h_1, (beq_eq_false_iff_ne.mpr h_1), (bne_iff_ne.mpr h_1), h_103]; done) | (refine iB ?_; simp [h_1, (beq_eq_false_iff_ne.mpr h_1), (bne_iff_ne.mpr h_1), h_103]; done) | (simp [h_1, (beq_eq_false_iff_ne.mpr h_1), (bne_iff_ne.mpr h_1), h_103]; done) | (simp [h_1, (beq_eq_false_iff_ne.mpr h_1), (bne_iff_ne.mpr h_1), h_103]; omega) | omega | rfl)
      · first | with_reducible rfl | exact gl (by first | with_reducible rfl | (refine iF ?_; simp [h_1, (beq_eq_false_iff_ne.mpr h_1), (bne_iff_ne.mpr h_1), h_103]; done) | (refine iT ?_; simp [h_1, (beq_eq_false_iff_ne.mpr h_1), (bne_iff_ne.mpr h_1), h_103]; done) | (refine iB ?_; simp [h_1, (beq_eq_false_iff_ne.mpr h_1), (bne_iff_ne.mpr h_1), h_103]; done) | (simp [h_1, (beq_eq_false_iff_ne.mpr h_1), (bne_iff_ne.mpr h_1), h_103]; done) | (simp [h_1, (beq_eq_false_iff_ne.mpr h_1), (bne_iff_ne.mpr h_1), h_103]; omega) | omega | rfl)
      · first | with_reducible rfl | exact gl (by first | with_reducible rfl | (refine iF ?_; simp [h_1, (beq_eq_false_iff_ne.mpr h_1), (bne_iff_ne.mpr h_1), h_103]; done) | (refine iT ?_; simp [h_1, (beq_eq_false_iff_ne.mpr h_1), (bne_iff_ne.mpr h_1), h_103]; done) | (refine iB ?_; simp [h_1, (beq_eq_false_iff_ne.mpr h_1), (bne_iff_ne.mpr h_1), h_103]; done) | (simp [h_1, (beq_eq_false_iff_ne.mpr h_1), (bne_iff_ne.mpr h_1), h_103]; done) | (simp [h_1, (beq_eq_false_iff_ne.mpr h_1), (bne_iff_ne.mpr h_1), h_103]; omega) | omega | rfl)
      · first | with_reducible rfl | exact gl (by first | with_reducible rfl | (refine iF ?_; simp [h_1, (beq_eq_false_iff_ne.mpr h_1), (bne_iff_ne.mpr h_1), h_103]; done) | (refine iT ?_; simp [h_1, (beq_eq_false_iff_ne.mpr h_1), (bne_iff_ne.mpr h_1), h_103]; done) | (refine iB ?_; simp [h_1, (beq_eq_false_iff_ne.mpr h_1), (bne_iff_ne.mpr h_1), h_103]; done) | (simp [h_1, (beq_eq_false_iff_ne.mpr h_1), (bne_iff_ne.mpr h_1), h_103]; done) | (simp [h_1, (beq_eq_false_iff_ne.mpr h_1), (bne_iff_ne.mpr h_1), h_103]; omega) | omega | rfl)
      · first | with_reducible rfl | exact gl (by first | with_reducible rfl | (refine iF ?_; simp [h_1, (beq_eq_false_iff_ne.mpr h_1), (bne_iff_ne.mpr h_1), h_103]; done) | (refine iT ?_; simp [h_1, (beq_eq_false_iff_ne.mpr h_1), (bne_iff_ne.mpr h_1), h_103]; done) | (refine iB ?_; simp [h_1, (beq_eq_false_iff_ne.mpr h_1), (bne_iff_ne.mpr h_1), h_103]; done) | (simp [h_1, (beq_eq_false_iff_ne.mpr h_1), (bne_iff_ne.mpr h_1), h_103]; done) | (simp [h_1, (beq_eq_false_iff_ne.mpr h_1), (bne_iff_ne.mpr h_1), h_103]; omega) | omega | rfl)
      · first | with_reducible rfl | exact gl (by first | with_reducible rfl | (refine iF ?_; simp [h_1, (beq_eq_false_iff_ne.mpr h_1), (bne_iff_ne.mpr h_1), h_103]; done) | (refine iT ?_; simp [h_1, (beq_eq_false_iff_ne.mpr h_1), (bne_iff_ne.mpr h_1), h_103]; done) | (refine iB ?_; simp [h_1, (beq_eq_false_iff_ne.mpr h_1), (bne_iff_ne.mpr h_1), h_103]; done) | (simp [h_1, (beq_eq_false_iff_ne.mpr h_1), (bne_iff_ne.mpr h_1), h_103]; done) | (simp [h_1, (beq_eq_false_iff_ne.mpr h_1), (bne_iff_ne.mpr h_1), h_103]; omega) | omega | rfl)
    · exfalso; omega
  · exact absurd h_1 (by decide)

set_option maxRecDepth 20000 in
set_option maxHeartbeats 4000000 in
theorem K_L_lockDue10 {w : Wd} {A : St} (hL : LR w A) (hA : AOK A) {j : Nat} (y : Int32) (hj : j < 4) : CF yL_lockDue cL_lockDue 9 (some .int) 3 71 [.int (nI 10), .int (nI j), .int y, .ref 204, .ref 205, .ref 206] w (PD w (setA A j y) (nI (sN A j))) := by
  have zq_n := hA.n12
  have zq_10 := hL.2
  refine CF.of ok_L_lockDue (Nat.le_of_ble_eq_true rfl) (fun ex us G9 p9 l9 e9 s9 m9 ar9 be9 me9 co9 C hr => ?_)
  refine a_pad 3 ?_
  refine a_eq (L' := [some (.int (nI 10)), some (.int (nI j)), some (.int y), some (.ref 204), some (.ref 205), some (.ref 206), none, none, none]) rfl rfl rfl ?_
  refine a_iload_n C dL_lockDue_0 rfl rfl ?_
  refine a_bipush (v := nI 10) C dL_lockDue_1 (by decide) ?_
  refine n_icmp_ne (tgt := 24) C dL_lockDue_3 (by decide) (by first | decide | omega) (by first | decide | omega) (fun h_3 => ?_) (fun h_3 => ?_)
  · exact absurd rfl h_3
  · refine a_aload_n C dL_lockDue_6 rfl rfl ?_
    refine a_bipush (v := nI 6) C dL_lockDue_7 (by decide) ?_
    refine a_iload_n C dL_lockDue_9 rfl rfl ?_
    first | refine n_iadd C dL_lockDue_10 ?_ | refine a_iadd C dL_lockDue_10 ?_
    refine n_iald C dL_lockDue_11 (tw (by first | decide | omega)) (by first | decide | omega) rfl rfl (by first | decide | omega) (by decide) (LR_s hL hA hj) ?_
    refine a_istore C dL_lockDue_12 (by decide) ?_
    refine a_aload_n C dL_lockDue_14 rfl rfl ?_
    refine a_bipush (v := nI 6) C dL_lockDue_15 (by decide) ?_
    refine a_iload_n C dL_lockDue_17 rfl rfl ?_
    first | refine n_iadd C dL_lockDue_18 ?_ | refine a_iadd C dL_lockDue_18 ?_
    refine a_iload_n C dL_lockDue_19 rfl rfl ?_
    refine f_iast C dL_lockDue_20 (by first | decide | omega) rfl rfl (by first | decide | omega) (by decide)  rfl ?_
    refine a_iload C dL_lockDue_21 rfl ?_
    refine f_iret C hr ?_ dL_lockDue_23 ?_
    · rfl
    · exact ⟨rfl, LR_set (B := setA A j y) (hL.1.sets hj) (kN_same (by unfold setA; rw [upd_ne (by omega)])) hL.2, (by repeat' (first | exact Frm.rf | assumption | (refine Frm.set ?_ (by decide))))⟩

set_option maxRecDepth 20000 in
set_option maxHeartbeats 4000000 in
theorem K_L_lockDue6 {w : Wd} {A : St} (hL : LR w A) (hA : AOK A) {p : Nat} (y : Int32) (hp : p < 6) : CF yL_lockDue cL_lockDue 9 (some .int) 3 71 [.int (nI 6), .int (nI p), .int y, .ref 204, .ref 205, .ref 206] w (PD w (warA A p y) (A (16 + 4 * p + 0))) := by
  have zq_n := hA.n12
  have zq_10 := hL.2
  refine CF.of ok_L_lockDue (Nat.le_of_ble_eq_true rfl) (fun ex us G9 p9 l9 e9 s9 m9 ar9 be9 me9 co9 C hr => ?_)
  refine a_pad 3 ?_
  refine a_eq (L' := [some (.int (nI 6)), some (.int (nI p)), some (.int y), some (.ref 204), some (.ref 205), some (.ref 206), none, none, none]) rfl rfl rfl ?_
  refine a_iload_n C dL_lockDue_0 rfl rfl ?_
  refine a_bipush (v := nI 10) C dL_lockDue_1 (by decide) ?_
  refine n_icmp_ne (tgt := 24) C dL_lockDue_3 (by decide) (by first | decide | omega) (by first | decide | omega) (fun h_3 => ?_) (fun h_3 => ?_)
  · refine a_aload C dL_lockDue_24 rfl ?_
    refine a_iconst (v := nI 4) C dL_lockDue_26 (by decide) ?_
    refine a_iload_n C dL_lockDue_27 rfl rfl ?_
    first | refine n_imul C dL_lockDue_28 ?_ | refine a_imul C dL_lockDue_28 ?_
    refine n_iald C dL_lockDue_29 (tw (by first | decide | omega)) (by first | decide | omega) rfl rfl (by first | decide | omega) (by decide) (LR_lw hL (by omega)) ?_
    refine a_istore C dL_lockDue_30 (by decide) ?_
    refine a_iload_n C dL_lockDue_32 rfl rfl ?_
    refine a_bipush (v := nI 6) C dL_lockDue_33 (by decide) ?_
    refine n_icmp_ne (tgt := 48) C dL_lockDue_35 (by decide) (by first | decide | omega) (by first | decide | omega) (fun h_35 => ?_) (fun h_35 => ?_)
    · exact absurd rfl h_35
    · refine a_aload C dL_lockDue_38 rfl ?_
      refine a_iconst (v := nI 4) C dL_lockDue_40 (by decide) ?_
      refine a_iload_n C dL_lockDue_41 rfl rfl ?_
      first | refine n_imul C dL_lockDue_42 ?_ | refine a_imul C dL_lockDue_42 ?_
      refine a_iload_n C dL_lockDue_43 rfl rfl ?_
      refine f_iast C dL_lockDue_44 (by first | decide | omega) rfl rfl (by first | decide | omega) (by decide)  rfl ?_
      refine a_iload C dL_lockDue_45 rfl ?_
      refine f_iret C hr ?_ dL_lockDue_47 ?_
      · rfl
      · exact ⟨rfl, LR_set (B := warA A p y) (hL.1.setl (p := p) (j := 0) hp (by decide)) (kN_same (by unfold warA; rw [upd_ne (by omega)])) hL.2, (by repeat' (first | exact Frm.rf | assumption | (refine Frm.set ?_ (by decide))))⟩
  · exact absurd h_3 (by decide)

set_option maxRecDepth 20000 in
set_option maxHeartbeats 4000000 in
theorem K_L_lockDue_f {w : Wd} {A : St} (hL : LR w A) (hA : AOK A) {t p : Nat} {y : Int32} (ht : t = 7 ∨ t = 8) (hp : p < 6) (hz : wdA A p = false) : CP yL_lockDue cL_lockDue 9 (some .int) 3 71 [.int (nI t), .int (nI p), .int y, .ref 204, .ref 205, .ref 206] w (.int (-103)) := by
  have zq_n := hA.n12
  have zq_10 := hL.2
  refine CF.of ok_L_lockDue (Nat.le_of_ble_eq_true rfl) (fun ex us G9 p9 l9 e9 s9 m9 ar9 be9 me9 co9 C hr => ?_)
  refine a_pad 3 ?_
  refine a_eq (L' := [some (.int (nI t)), some (.int (nI p)), some (.int y), some (.ref 204), some (.ref 205), some (.ref 206), none, none, none]) rfl rfl rfl ?_
  refine a_iload_n C dL_lockDue_0 rfl rfl ?_
  refine a_bipush (v := nI 10) C dL_lockDue_1 (by decide) ?_
  refine n_icmp_ne (tgt := 24) C dL_lockDue_3 (by decide) (by first | decide | omega) (by first | decide | omega) (fun h_3 => ?_) (fun h_3 => ?_)
  · refine a_aload C dL_lockDue_24 rfl ?_
    refine a_iconst (v := nI 4) C dL_lockDue_26 (by decide) ?_
    refine a_iload_n C dL_lockDue_27 rfl rfl ?_
    first | refine n_imul C dL_lockDue_28 ?_ | refine a_imul C dL_lockDue_28 ?_
    refine n_iald C dL_lockDue_29 (tw (by first | decide | omega)) (by first | decide | omega) rfl rfl (by first | decide | omega) (by decide) (LR_lw hL (by omega)) ?_
    refine a_istore C dL_lockDue_30 (by decide) ?_
    refine a_iload_n C dL_lockDue_32 rfl rfl ?_
    refine a_bipush (v := nI 6) C dL_lockDue_33 (by decide) ?_
    refine n_icmp_ne (tgt := 48) C dL_lockDue_35 (by decide) (by first | decide | omega) (by first | decide | omega) (fun h_35 => ?_) (fun h_35 => ?_)
    · refine a_iload C dL_lockDue_48 rfl ?_
      refine a_if_ge (tgt := 56) C dL_lockDue_50 (by decide) (fun h_50 => ?_) (fun h_50 => ?_)
      · exact absurd (wd_ge hA hp h_50) (by rw [hz]; decide)
      · refine a_bipush (v := (-103)) C dL_lockDue_53 (by decide) ?_
        refine f_iret C hr ?_ dL_lockDue_55 ⟨?_, rfl⟩
        · rfl
        · rfl
    · exfalso; omega
  · exfalso; omega

set_option maxRecDepth 20000 in
set_option maxHeartbeats 4000000 in
theorem K_L_lockDue7 {w : Wd} {A : St} (hL : LR w A) (hA : AOK A) {p : Nat} (y : Int32) (hp : p < 6) (hz : wdA A p = true) : CF yL_lockDue cL_lockDue 9 (some .int) 3 71 [.int (nI 7), .int (nI p), .int y, .ref 204, .ref 205, .ref 206] w (PD w (gueA A p y) (A (16 + 4 * p + 1))) := by
  have zq_n := hA.n12
  have zq_10 := hL.2
  refine CF.of ok_L_lockDue (Nat.le_of_ble_eq_true rfl) (fun ex us G9 p9 l9 e9 s9 m9 ar9 be9 me9 co9 C hr => ?_)
  refine a_pad 3 ?_
  refine a_eq (L' := [some (.int (nI 7)), some (.int (nI p)), some (.int y), some (.ref 204), some (.ref 205), some (.ref 206), none, none, none]) rfl rfl rfl ?_
  refine a_iload_n C dL_lockDue_0 rfl rfl ?_
  refine a_bipush (v := nI 10) C dL_lockDue_1 (by decide) ?_
  refine n_icmp_ne (tgt := 24) C dL_lockDue_3 (by decide) (by first | decide | omega) (by first | decide | omega) (fun h_3 => ?_) (fun h_3 => ?_)
  · refine a_aload C dL_lockDue_24 rfl ?_
    refine a_iconst (v := nI 4) C dL_lockDue_26 (by decide) ?_
    refine a_iload_n C dL_lockDue_27 rfl rfl ?_
    first | refine n_imul C dL_lockDue_28 ?_ | refine a_imul C dL_lockDue_28 ?_
    refine n_iald C dL_lockDue_29 (tw (by first | decide | omega)) (by first | decide | omega) rfl rfl (by first | decide | omega) (by decide) (LR_lw hL (by omega)) ?_
    refine a_istore C dL_lockDue_30 (by decide) ?_
    refine a_iload_n C dL_lockDue_32 rfl rfl ?_
    refine a_bipush (v := nI 6) C dL_lockDue_33 (by decide) ?_
    refine n_icmp_ne (tgt := 48) C dL_lockDue_35 (by decide) (by first | decide | omega) (by first | decide | omega) (fun h_35 => ?_) (fun h_35 => ?_)
    · refine a_iload C dL_lockDue_48 rfl ?_
      refine a_if_ge (tgt := 56) C dL_lockDue_50 (by decide) (fun h_50 => ?_) (fun h_50 => ?_)
      · refine a_iload_n C dL_lockDue_56 rfl rfl ?_
        refine a_bipush (v := nI 7) C dL_lockDue_57 (by decide) ?_
        refine n_icmp_ne (tgt := 84) C dL_lockDue_59 (by decide) (by first | decide | omega) (by first | decide | omega) (fun h_59 => ?_) (fun h_59 => ?_)
        · exact absurd rfl h_59
        · refine a_aload C dL_lockDue_62 rfl ?_
          refine a_iconst (v := nI 4) C dL_lockDue_64 (by decide) ?_
          refine a_iload_n C dL_lockDue_65 rfl rfl ?_
          first | refine n_imul C dL_lockDue_66 ?_ | refine a_imul C dL_lockDue_66 ?_
          refine a_iconst (v := nI 1) C dL_lockDue_67 (by decide) ?_
          first | refine n_iadd C dL_lockDue_68 ?_ | refine a_iadd C dL_lockDue_68 ?_
          refine n_iald C dL_lockDue_69 (tw (by first | decide | omega)) (by first | decide | omega) rfl rfl (by first | decide | omega) (by decide) (LR_lg hL (by omega)) ?_
          refine a_istore C dL_lockDue_70 (by decide) ?_
          refine a_aload C dL_lockDue_72 rfl ?_
          refine a_iconst (v := nI 4) C dL_lockDue_74 (by decide) ?_
          refine a_iload_n C dL_lockDue_75 rfl rfl ?_
          first | refine n_imul C dL_lockDue_76 ?_ | refine a_imul C dL_lockDue_76 ?_
          refine a_iconst (v := nI 1) C dL_lockDue_77 (by decide) ?_
          first | refine n_iadd C dL_lockDue_78 ?_ | refine a_iadd C dL_lockDue_78 ?_
          refine a_iload_n C dL_lockDue_79 rfl rfl ?_
          refine f_iast C dL_lockDue_80 (by first | decide | omega) rfl rfl (by first | decide | omega) (by decide)  rfl ?_
          refine a_iload C dL_lockDue_81 rfl ?_
          refine f_iret C hr ?_ dL_lockDue_83 ?_
          · rfl
          · exact ⟨rfl, LR_set (B := gueA A p y) (hL.1.setl (p := p) (j := 1) hp (by decide)) (kN_same (by unfold gueA; rw [upd_ne (by omega)])) hL.2, (by repeat' (first | exact Frm.rf | assumption | (refine Frm.set ?_ (by decide))))⟩
      · exact absurd (wd_lt hA hp h_50) (by rw [hz]; decide)
    · exact absurd h_35 (by decide)
  · exact absurd h_3 (by decide)

set_option maxRecDepth 20000 in
set_option maxHeartbeats 4000000 in
theorem K_L_lockDue8 {w : Wd} {A : St} (hL : LR w A) (hA : AOK A) {p : Nat} {y : Int32} (hp : p < 6) (hz : wdA A p = true) : CF yL_lockDue cL_lockDue 9 (some .int) 3 71 [.int (nI 8), .int (nI p), .int y, .ref 204, .ref 205, .ref 206] w (PD w (takA A p) (nI (onesN (kysA A p)))) := by
  have zq_n := hA.n12
  have zq_10 := hL.2
  refine CF.of ok_L_lockDue (Nat.le_of_ble_eq_true rfl) (fun ex us G9 p9 l9 e9 s9 m9 ar9 be9 me9 co9 C hr => ?_)
  have ZL134 : ∀ (zd134 : Nat) (e : Nat) (v : Wd), 4 + 1 ≤ e + zd134 → e ≤ 4 → v.1 206 = tkR (w.1 206) p e → Frm [206] w v → WA G9 p9 l9 e9 (RM 3 71) s9 m9 ar9 be9 me9 co9 (QF G9 be9 ar9 s9 w ex us (PD w (takA A p) (nI (onesN (kysA A p))))) 9 (207 + ex.1 + ex.2) us 134 [some (.int (nI 8)), some (.int (nI p)), some (.int y), some (.ref 204), some (.ref 205), some (.ref 206), none, some (.int (nI (cntN (kyP A p) (kN A)))), some (.int (nI e))] [] (fzM v ex us) := by
    intro zd134
    induction zd134 with
    | zero => intro e v zm134 zh_e zh_r zh_f; exfalso; omega
    | succ zd134 zih134 =>
      intro e v zm134 zh_e zh_r zh_f
      refine a_iload C dL_lockDue_134 rfl ?_
      refine a_iconst (v := nI 4) C dL_lockDue_136 (by decide) ?_
      first | refine n_icmp_ge (tgt := 166) C dL_lockDue_137 (by decide) (by first | decide | omega) (by first | decide | omega) (fun h_137 => ?_) (fun h_137 => ?_) | refine a_icmp_ge (tgt := 166) C dL_lockDue_137 (by decide) (fun h_137 => ?_) (fun h_137 => ?_)
      · obtain rfl : e = 4 := by omega
        refine a_iload C dL_lockDue_166 rfl ?_
        refine f_iret C hr ?_ dL_lockDue_168 ?_
        · rfl
        · exact ⟨gl (congrArg nI (ones_msk _ _ zq_n).symm), tak_LR hL hp zh_f zh_r, frm3 zh_f (by decide)⟩
      · refine a_aload C dL_lockDue_140 rfl ?_
        refine a_iconst (v := nI 4) C dL_lockDue_142 (by decide) ?_
        refine a_iload_n C dL_lockDue_143 rfl rfl ?_
        first | refine n_imul C dL_lockDue_144 ?_ | refine a_imul C dL_lockDue_144 ?_
        refine a_iload C dL_lockDue_145 rfl ?_
        first | refine n_iadd C dL_lockDue_147 ?_ | refine a_iadd C dL_lockDue_147 ?_
        refine a_via 159 (if e < 2 then -1 else nI 0) ?_ (fun zJ159 => ?_)
        · refine f_iast C dL_lockDue_159 (by first | decide | omega) rfl rfl (by first | decide | omega) (by decide)  rfl ?_
          refine n_iinc C dL_lockDue_160 rfl (by decide) ?_
          refine a_goto (tgt := 134) C dL_lockDue_163 (by decide) ?_
          refine a_join (aLe_s ?_ (aLe_s ?_ (aLe_s ?_ (aLe_s ?_ (aLe_s ?_ (aLe_s ?_ (aLe_n (aLe_s ?_ (aLe_s ?_ aLe_nil))))))))) rfl rfl (zih134 (e + 1) (wSet v 206 (4 * p + e) (if e < 2 then -1 else nI 0)) (by omega) (by omega) (tkR_s zh_r) (zh_f.set (by decide)))
          · first | with_reducible rfl | exact gl (by first | with_reducible rfl | (refine iF ?_; simp [cntN, h_137]; done) | (refine iT ?_; simp [cntN, h_137]; done) | (refine iB ?_; simp [cntN, h_137]; done) | (simp [cntN, h_137]; done) | (simp [cntN, h_137]; omega) | omega)
          · first | with_reducible rfl | exact gl (by first | with_reducible rfl | (refine iF ?_; simp [cntN, h_137]; done) | (refine iT ?_; simp [cntN, h_137]; done) | (refine iB ?_; simp [cntN, h_137]; done) | (simp [cntN, h_137]; done) | (simp [cntN, h_137]; omega) | omega)
          · first | with_reducible rfl | exact gl (by first | with_reducible rfl | (refine iF ?_; simp [cntN, h_137]; done) | (refine iT ?_; simp [cntN, h_137]; done) | (refine iB ?_; simp [cntN, h_137]; done) | (simp [cntN, h_137]; done) | (simp [cntN, h_137]; omega) | omega)
          · first | with_reducible rfl | exact gl (by first | with_reducible rfl | (refine iF ?_; simp [cntN, h_137]; done) | (refine iT ?_; simp [cntN, h_137]; done) | (refine iB ?_; simp [cntN, h_137]; done) | (simp [cntN, h_137]; done) | (simp [cntN, h_137]; omega) | omega)
          · first | with_reducible rfl | exact gl (by first | with_reducible rfl | (refine iF ?_; simp [cntN, h_137]; done) | (refine iT ?_; simp [cntN, h_137]; done) | (refine iB ?_; simp [cntN, h_137]; done) | (simp [cntN, h_137]; done) | (simp [cntN, h_137]; omega) | omega)
          · first | with_reducible rfl | exact gl (by first | with_reducible rfl | (refine iF ?_; simp [cntN, h_137]; done) | (refine iT ?_; simp [cntN, h_137]; done) | (refine iB ?_; simp [cntN, h_137]; done) | (simp [cntN, h_137]; done) | (simp [cntN, h_137]; omega) | omega)
          · first | with_reducible rfl | exact gl (by first | with_reducible rfl | (refine iF ?_; simp [cntN, h_137]; done) | (refine iT ?_; simp [cntN, h_137]; done) | (refine iB ?_; simp [cntN, h_137]; done) | (simp [cntN, h_137]; done) | (simp [cntN, h_137]; omega) | omega)
          · first | with_reducible rfl | exact gl (by first | with_reducible rfl | (refine iF ?_; simp [cntN, h_137]; done) | (refine iT ?_; simp [cntN, h_137]; done) | (refine iB ?_; simp [cntN, h_137]; done) | (simp [cntN, h_137]; done) | (simp [cntN, h_137]; omega) | omega)
        · refine a_iload C dL_lockDue_148 rfl ?_
          refine a_iconst (v := nI 2) C dL_lockDue_150 (by decide) ?_
          refine n_icmp_ge (tgt := 158) C dL_lockDue_151 (by decide) (by first | decide | omega) (by first | decide | omega) (fun h_151 => ?_) (fun h_151 => ?_)
          · refine a_iconst (v := nI 0) C dL_lockDue_158 (by decide) ?_
            refine a_eq rfl (gl1 ?_) rfl zJ159
            · first | exact (if_pos h_151).symm | exact (if_neg (by omega)).symm
          · refine a_iconst (v := (-1)) C dL_lockDue_154 (by decide) ?_
            refine a_goto (tgt := 159) C dL_lockDue_155 (by decide) ?_
            refine a_eq rfl (gl1 ?_) rfl zJ159
            · first | exact (if_pos h_151).symm | exact (if_neg (by omega)).symm
  have ZL90 : ∀ (zd90 : Nat) (k : Nat), kN A + 1 ≤ k + zd90 → k ≤ kN A → WA G9 p9 l9 e9 (RM 3 71) s9 m9 ar9 be9 me9 co9 (QF G9 be9 ar9 s9 w ex us (PD w (takA A p) (nI (onesN (kysA A p))))) 9 (207 + ex.1 + ex.2) us 90 [some (.int (nI 8)), some (.int (nI p)), some (.int y), some (.ref 204), some (.ref 205), some (.ref 206), none, some (.int (nI (cntN (kyP A p) k))), some (.int (nI k))] [] (fzM w ex us) := by
    intro zd90
    induction zd90 with
    | zero => intro k zm90 zh90_0; exfalso; omega
    | succ zd90 zih90 =>
      intro k zm90 zh90_0
      refine a_iload C dL_lockDue_90 rfl ?_
      refine a_aload_n C dL_lockDue_92 rfl rfl ?_
      refine a_iconst (v := nI 0) C dL_lockDue_93 (by decide) ?_
      refine n_iald C dL_lockDue_94 (tw (by first | decide | omega)) (by first | decide | omega) rfl rfl (by first | decide | omega) (by decide) (LR_n hL hA) ?_
      first | refine n_icmp_ge (tgt := 131) C dL_lockDue_95 (by decide) (by first | decide | omega) (by first | decide | omega) (fun h_95 => ?_) (fun h_95 => ?_) | refine a_icmp_ge (tgt := 131) C dL_lockDue_95 (by decide) (fun h_95 => ?_) (fun h_95 => ?_)
      · obtain rfl : k = kN A := by omega
        refine a_iconst (v := nI 0) C dL_lockDue_131 (by decide) ?_
        refine a_istore C dL_lockDue_132 (by decide) ?_
        refine a_join (aLe_s ?_ (aLe_s ?_ (aLe_s ?_ (aLe_s ?_ (aLe_s ?_ (aLe_s ?_ (aLe_n (aLe_s ?_ (aLe_s ?_ aLe_nil))))))))) rfl rfl (ZL134 5 0 w (by omega) (by omega) tkR_0 Frm.rf)
        · first | with_reducible rfl | exact gl (by first | with_reducible rfl | (refine iF ?_; simp [cntN, h_95]; done) | (refine iT ?_; simp [cntN, h_95]; done) | (refine iB ?_; simp [cntN, h_95]; done) | (simp [cntN, h_95]; done) | (simp [cntN, h_95]; omega) | omega | rfl)
        · first | with_reducible rfl | exact gl (by first | with_reducible rfl | (refine iF ?_; simp [cntN, h_95]; done) | (refine iT ?_; simp [cntN, h_95]; done) | (refine iB ?_; simp [cntN, h_95]; done) | (simp [cntN, h_95]; done) | (simp [cntN, h_95]; omega) | omega | rfl)
        · first | with_reducible rfl | exact gl (by first | with_reducible rfl | (refine iF ?_; simp [cntN, h_95]; done) | (refine iT ?_; simp [cntN, h_95]; done) | (refine iB ?_; simp [cntN, h_95]; done) | (simp [cntN, h_95]; done) | (simp [cntN, h_95]; omega) | omega | rfl)
        · first | with_reducible rfl | exact gl (by first | with_reducible rfl | (refine iF ?_; simp [cntN, h_95]; done) | (refine iT ?_; simp [cntN, h_95]; done) | (refine iB ?_; simp [cntN, h_95]; done) | (simp [cntN, h_95]; done) | (simp [cntN, h_95]; omega) | omega | rfl)
        · first | with_reducible rfl | exact gl (by first | with_reducible rfl | (refine iF ?_; simp [cntN, h_95]; done) | (refine iT ?_; simp [cntN, h_95]; done) | (refine iB ?_; simp [cntN, h_95]; done) | (simp [cntN, h_95]; done) | (simp [cntN, h_95]; omega) | omega | rfl)
        · first | with_reducible rfl | exact gl (by first | with_reducible rfl | (refine iF ?_; simp [cntN, h_95]; done) | (refine iT ?_; simp [cntN, h_95]; done) | (refine iB ?_; simp [cntN, h_95]; done) | (simp [cntN, h_95]; done) | (simp [cntN, h_95]; omega) | omega | rfl)
        · first | with_reducible rfl | exact gl (by first | with_reducible rfl | (refine iF ?_; simp [cntN, h_95]; done) | (refine iT ?_; simp [cntN, h_95]; done) | (refine iB ?_; simp [cntN, h_95]; done) | (simp [cntN, h_95]; done) | (simp [cntN, h_95]; omega) | omega | rfl)
        · first | with_reducible rfl | exact gl (by first | with_reducible rfl | (refine iF ?_; simp [cntN, h_95]; done) | (refine iT ?_; simp [cntN, h_95]; done) | (refine iB ?_; simp [cntN, h_95]; done) | (simp [cntN, h_95]; done) | (simp [cntN, h_95]; omega) | omega | rfl)
      · have zq_c := hA.c81 (k := k) (by omega)
        refine a_iload C dL_lockDue_98 rfl ?_
        refine a_via 122 (nI (if kyP A p k = true then 1 else 0)) ?_ (fun zJ122 => ?_)
        · first | refine n_iadd C dL_lockDue_122 ?_ | refine a_iadd C dL_lockDue_122 ?_
          refine a_istore C dL_lockDue_123 (by decide) ?_
          refine n_iinc C dL_lockDue_125 rfl (by decide) ?_
          refine a_goto (tgt := 90) C dL_lockDue_128 (by decide) ?_
          refine a_join (aLe_s ?_ (aLe_s ?_ (aLe_s ?_ (aLe_s ?_ (aLe_s ?_ (aLe_s ?_ (aLe_n (aLe_s ?_ (aLe_s ?_ aLe_nil))))))))) rfl rfl (zih90 (k + 1) (by omega) (by omega))
          · first | with_reducible rfl | exact gl (by first | with_reducible rfl | (refine iF ?_; simp [cntN, h_95]; done) | (refine iT ?_; simp [cntN, h_95]; done) | (refine iB ?_; simp [cntN, h_95]; done) | (simp [cntN, h_95]; done) | (simp [cntN, h_95]; omega) | omega)
          · first | with_reducible rfl | exact gl (by first | with_reducible rfl | (refine iF ?_; simp [cntN, h_95]; done) | (refine iT ?_; simp [cntN, h_95]; done) | (refine iB ?_; simp [cntN, h_95]; done) | (simp [cntN, h_95]; done) | (simp [cntN, h_95]; omega) | omega)
          · first | with_reducible rfl | exact gl (by first | with_reducible rfl | (refine iF ?_; simp [cntN, h_95]; done) | (refine iT ?_; simp [cntN, h_95]; done) | (refine iB ?_; simp [cntN, h_95]; done) | (simp [cntN, h_95]; done) | (simp [cntN, h_95]; omega) | omega)
          · first | with_reducible rfl | exact gl (by first | with_reducible rfl | (refine iF ?_; simp [cntN, h_95]; done) | (refine iT ?_; simp [cntN, h_95]; done) | (refine iB ?_; simp [cntN, h_95]; done) | (simp [cntN, h_95]; done) | (simp [cntN, h_95]; omega) | omega)
          · first | with_reducible rfl | exact gl (by first | with_reducible rfl | (refine iF ?_; simp [cntN, h_95]; done) | (refine iT ?_; simp [cntN, h_95]; done) | (refine iB ?_; simp [cntN, h_95]; done) | (simp [cntN, h_95]; done) | (simp [cntN, h_95]; omega) | omega)
          · first | with_reducible rfl | exact gl (by first | with_reducible rfl | (refine iF ?_; simp [cntN, h_95]; done) | (refine iT ?_; simp [cntN, h_95]; done) | (refine iB ?_; simp [cntN, h_95]; done) | (simp [cntN, h_95]; done) | (simp [cntN, h_95]; omega) | omega)
          · first | with_reducible rfl | exact gl (by first | with_reducible rfl | (refine iF ?_; simp [cntN, h_95]; done) | (refine iT ?_; simp [cntN, h_95]; done) | (refine iB ?_; simp [cntN, h_95]; done) | (simp [cntN, h_95]; done) | (simp [cntN, h_95]; omega) | omega)
          · first | with_reducible rfl | exact gl (by first | with_reducible rfl | (refine iF ?_; simp [cntN, h_95]; done) | (refine iT ?_; simp [cntN, h_95]; done) | (refine iB ?_; simp [cntN, h_95]; done) | (simp [cntN, h_95]; done) | (simp [cntN, h_95]; omega) | omega)
        · refine a_aload C dL_lockDue_100 rfl ?_
          refine a_bipush (v := nI 6) C dL_lockDue_102 (by decide) ?_
          refine a_iload C dL_lockDue_104 rfl ?_
          first | refine n_imul C dL_lockDue_106 ?_ | refine a_imul C dL_lockDue_106 ?_
          refine n_iald C dL_lockDue_107 (tw (by first | decide | omega)) (by first | decide | omega) rfl rfl (by first | decide | omega) (by decide) (LR_kc hL hA (by omega)) ?_
          refine a_iload_n C dL_lockDue_108 rfl rfl ?_
          refine a_aload C dL_lockDue_109 rfl ?_
          refine p_callS C (K_L_opens hL hA (by first | assumption | decide | omega) (by first | assumption | decide | omega)) sL_106 rfl dL_lockDue_111 (Nat.le_of_ble_eq_true rfl) ⟨by decide, by decide⟩ ?_
          first | refine b_if_eq (tgt := 121) C dL_lockDue_114 (by decide) (fun h_114 => ?_) (fun h_114 => ?_) | refine n_if_eq (tgt := 121) C dL_lockDue_114 (by decide) (by first | decide | omega) (fun h_114 => ?_) (fun h_114 => ?_) | refine a_if_eq (tgt := 121) C dL_lockDue_114 (by decide) (fun h_114 => ?_) (fun h_114 => ?_)
          · refine a_iconst (v := nI 0) C dL_lockDue_121 (by decide) ?_
            refine a_eq rfl (gl1 ?_) rfl zJ122
            · first | exact n1 h_114 | exact n0 h_114
          · refine a_iconst (v := nI 1) C dL_lockDue_117 (by decide) ?_
            refine a_goto (tgt := 122) C dL_lockDue_118 (by decide) ?_
            refine a_eq rfl (gl1 ?_) rfl zJ122
            · first | exact n1 h_114 | exact n0 h_114
  refine a_pad 3 ?_
  refine a_eq (L' := [some (.int (nI 8)), some (.int (nI p)), some (.int y), some (.ref 204), some (.ref 205), some (.ref 206), none, none, none]) rfl rfl rfl ?_
  refine a_iload_n C dL_lockDue_0 rfl rfl ?_
  refine a_bipush (v := nI 10) C dL_lockDue_1 (by decide) ?_
  refine n_icmp_ne (tgt := 24) C dL_lockDue_3 (by decide) (by first | decide | omega) (by first | decide | omega) (fun h_3 => ?_) (fun h_3 => ?_)
  · refine a_aload C dL_lockDue_24 rfl ?_
    refine a_iconst (v := nI 4) C dL_lockDue_26 (by decide) ?_
    refine a_iload_n C dL_lockDue_27 rfl rfl ?_
    first | refine n_imul C dL_lockDue_28 ?_ | refine a_imul C dL_lockDue_28 ?_
    refine n_iald C dL_lockDue_29 (tw (by first | decide | omega)) (by first | decide | omega) rfl rfl (by first | decide | omega) (by decide) (LR_lw hL (by omega)) ?_
    refine a_istore C dL_lockDue_30 (by decide) ?_
    refine a_iload_n C dL_lockDue_32 rfl rfl ?_
    refine a_bipush (v := nI 6) C dL_lockDue_33 (by decide) ?_
    refine n_icmp_ne (tgt := 48) C dL_lockDue_35 (by decide) (by first | decide | omega) (by first | decide | omega) (fun h_35 => ?_) (fun h_35 => ?_)
    · refine a_iload C dL_lockDue_48 rfl ?_
      refine a_if_ge (tgt := 56) C dL_lockDue_50 (by decide) (fun h_50 => ?_) (fun h_50 => ?_)
      · refine a_iload_n C dL_lockDue_56 rfl rfl ?_
        refine a_bipush (v := nI 7) C dL_lockDue_57 (by decide) ?_
        refine n_icmp_ne (tgt := 84) C dL_lockDue_59 (by decide) (by first | decide | omega) (by first | decide | omega) (fun h_59 => ?_) (fun h_59 => ?_)
        · refine a_iconst (v := nI 0) C dL_lockDue_84 (by decide) ?_
          refine a_istore C dL_lockDue_85 (by decide) ?_
          refine a_iconst (v := nI 0) C dL_lockDue_87 (by decide) ?_
          refine a_istore C dL_lockDue_88 (by decide) ?_
          refine a_join (aLe_s ?_ (aLe_s ?_ (aLe_s ?_ (aLe_s ?_ (aLe_s ?_ (aLe_s ?_ (aLe_n (aLe_s ?_ (aLe_s ?_ aLe_nil))))))))) rfl rfl (ZL90 (kN A + 1) 0 (by omega) (by omega))
          · first | with_reducible rfl | exact gl (by first | with_reducible rfl | (refine iF ?_; simp [cntN, h_3, (beq_eq_false_iff_ne.mpr h_3), (bne_iff_ne.mpr h_3), h_35, (beq_eq_false_iff_ne.mpr h_35), (bne_iff_ne.mpr h_35), h_50, h_59, (beq_eq_false_iff_ne.mpr h_59), (bne_iff_ne.mpr h_59)]; done) | (refine iT ?_; simp [cntN, h_3, (beq_eq_false_iff_ne.mpr h_3), (bne_iff_ne.mpr h_3), h_35, (beq_eq_false_iff_ne.mpr h_35), (bne_iff_ne.mpr h_35), h_50, h_59, (beq_eq_false_iff_ne.mpr h_59), (bne_iff_ne.mpr h_59)]; done) | (refine iB ?_; simp [cntN, h_3, (beq_eq_false_iff_ne.mpr h_3), (bne_iff_ne.mpr h_3), h_35, (beq_eq_false_iff_ne.mpr h_35), (bne_iff_ne.mpr h_35), h_50, h_59, (beq_eq_false_iff_ne.mpr h_59), (bne_iff_ne.mpr h_59)]; done) | (simp [cntN, h_3, (beq_eq_false_iff_ne.mpr h_3), (bne_iff_ne.mpr h_3), h_35, (beq_eq_false_iff_ne.mpr h_35), (bne_iff_ne.mpr h_35), h_50, h_59, (beq_eq_false_iff_ne.mpr h_59), (bne_iff_ne.mpr h_59)]; done) | (simp [cntN, h_3, (beq_eq_false_iff_ne.mpr h_3), (bne_iff_ne.mpr h_3), h_35, (beq_eq_false_iff_ne.mpr h_35), (bne_iff_ne.mpr h_35), h_50, h_59, (beq_eq_false_iff_ne.mpr h_59), (bne_iff_ne.mpr h_59)]; omega) | omega | rfl)
          · first | with_reducible rfl | exact gl (by first | with_reducible rfl | (refine iF ?_; simp [cntN, h_3, (beq_eq_false_iff_ne.mpr h_3), (bne_iff_ne.mpr h_3), h_35, (beq_eq_false_iff_ne.mpr h_35), (bne_iff_ne.mpr h_35), h_50, h_59, (beq_eq_false_iff_ne.mpr h_59), (bne_iff_ne.mpr h_59)]; done) | (refine iT ?_; simp [cntN, h_3, (beq_eq_false_iff_ne.mpr h_3), (bne_iff_ne.mpr h_3), h_35, (beq_eq_false_iff_ne.mpr h_35), (bne_iff_ne.mpr h_35), h_50, h_59, (beq_eq_false_iff_ne.mpr h_59), (bne_iff_ne.mpr h_59)]; done) | (refine iB ?_; simp [cntN, h_3, (beq_eq_false_iff_ne.mpr h_3), (bne_iff_ne.mpr h_3), h_35, (beq_eq_false_iff_ne.mpr h_35), (bne_iff_ne.mpr h_35), h_50, h_59, (beq_eq_false_iff_ne.mpr h_59), (bne_iff_ne.mpr h_59)]; done) | (simp [cntN, h_3, (beq_eq_false_iff_ne.mpr h_3), (bne_iff_ne.mpr h_3), h_35, (beq_eq_false_iff_ne.mpr h_35), (bne_iff_ne.mpr h_35), h_50, h_59, (beq_eq_false_iff_ne.mpr h_59), (bne_iff_ne.mpr h_59)]; done) | (simp [cntN, h_3, (beq_eq_false_iff_ne.mpr h_3), (bne_iff_ne.mpr h_3), h_35, (beq_eq_false_iff_ne.mpr h_35), (bne_iff_ne.mpr h_35), h_50, h_59, (beq_eq_false_iff_ne.mpr h_59), (bne_iff_ne.mpr h_59)]; omega) | omega | rfl)
          · first | with_reducible rfl | exact gl (by first | with_reducible rfl | (refine iF ?_; simp [cntN, h_3, (beq_eq_false_iff_ne.mpr h_3), (bne_iff_ne.mpr h_3), h_35, (beq_eq_false_iff_ne.mpr h_35), (bne_iff_ne.mpr h_35), h_50, h_59, (beq_eq_false_iff_ne.mpr h_59), (bne_iff_ne.mpr h_59)]; done) | (refine iT ?_; simp [cntN, h_3, (beq_eq_false_iff_ne.mpr h_3), (bne_iff_ne.mpr h_3), h_35, (beq_eq_false_iff_ne.mpr h_35), (bne_iff_ne.mpr h_35), h_50, h_59, (beq_eq_false_iff_ne.mpr h_59), (bne_iff_ne.mpr h_59)]; done) | (refine iB ?_; simp [cntN, h_3, (beq_eq_false_iff_ne.mpr h_3), (bne_iff_ne.mpr h_3), h_35, (beq_eq_false_iff_ne.mpr h_35), (bne_iff_ne.mpr h_35), h_50, h_59, (beq_eq_false_iff_ne.mpr h_59), (bne_iff_ne.mpr h_59)]; done) | (simp [cntN, h_3, (beq_eq_false_iff_ne.mpr h_3), (bne_iff_ne.mpr h_3), h_35, (beq_eq_false_iff_ne.mpr h_35), (bne_iff_ne.mpr h_35), h_50, h_59, (beq_eq_false_iff_ne.mpr h_59), (bne_iff_ne.mpr h_59)]; done) | (simp [cntN, h_3, (beq_eq_false_iff_ne.mpr h_3), (bne_iff_ne.mpr h_3), h_35, (beq_eq_false_iff_ne.mpr h_35), (bne_iff_ne.mpr h_35), h_50, h_59, (beq_eq_false_iff_ne.mpr h_59), (bne_iff_ne.mpr h_59)]; omega) | omega | rfl)
          · first | with_reducible rfl | exact gl (by first | with_reducible rfl | (refine iF ?_; simp [cntN, h_3, (beq_eq_false_iff_ne.mpr h_3), (bne_iff_ne.mpr h_3), h_35, (beq_eq_false_iff_ne.mpr h_35), (bne_iff_ne.mpr h_35), h_50, h_59, (beq_eq_false_iff_ne.mpr h_59), (bne_iff_ne.mpr h_59)]; done) | (refine iT ?_; simp [cntN, h_3, (beq_eq_false_iff_ne.mpr h_3), (bne_iff_ne.mpr h_3), h_35, (beq_eq_false_iff_ne.mpr h_35), (bne_iff_ne.mpr h_35), h_50, h_59, (beq_eq_false_iff_ne.mpr h_59), (bne_iff_ne.mpr h_59)]; done) | (refine iB ?_; simp [cntN, h_3, (beq_eq_false_iff_ne.mpr h_3), (bne_iff_ne.mpr h_3), h_35, (beq_eq_false_iff_ne.mpr h_35), (bne_iff_ne.mpr h_35), h_50, h_59, (beq_eq_false_iff_ne.mpr h_59), (bne_iff_ne.mpr h_59)]; done) | (simp [cntN, h_3, (beq_eq_false_iff_ne.mpr h_3), (bne_iff_ne.mpr h_3), h_35, (beq_eq_false_iff_ne.mpr h_35), (bne_iff_ne.mpr h_35), h_50, h_59, (beq_eq_false_iff_ne.mpr h_59), (bne_iff_ne.mpr h_59)]; done) | (simp [cntN, h_3, (beq_eq_false_iff_ne.mpr h_3), (bne_iff_ne.mpr h_3), h_35, (beq_eq_false_iff_ne.mpr h_35), (bne_iff_ne.mpr h_35), h_50, h_59, (beq_eq_false_iff_ne.mpr h_59), (bne_iff_ne.mpr h_59)]; omega) | omega | rfl)
          · first | with_reducible rfl | exact gl (by first | with_reducible rfl | (refine iF ?_; simp [cntN, h_3, (beq_eq_false_iff_ne.mpr h_3), (bne_iff_ne.mpr h_3), h_35, (beq_eq_false_iff_ne.mpr h_35), (bne_iff_ne.mpr h_35), h_50, h_59, (beq_eq_false_iff_ne.mpr h_59), (bne_iff_ne.mpr h_59)]; done) | (refine iT ?_; simp [cntN, h_3, (beq_eq_false_iff_ne.mpr h_3), (bne_iff_ne.mpr h_3), h_35, (beq_eq_false_iff_ne.mpr h_35), (bne_iff_ne.mpr h_35), h_50, h_59, (beq_eq_false_iff_ne.mpr h_59), (bne_iff_ne.mpr h_59)]; done) | (refine iB ?_; simp [cntN, h_3, (beq_eq_false_iff_ne.mpr h_3), (bne_iff_ne.mpr h_3), h_35, (beq_eq_false_iff_ne.mpr h_35), (bne_iff_ne.mpr h_35), h_50, h_59, (beq_eq_false_iff_ne.mpr h_59), (bne_iff_ne.mpr h_59)]; done) | (simp [cntN, h_3, (beq_eq_false_iff_ne.mpr h_3), (bne_iff_ne.mpr h_3), h_35, (beq_eq_false_iff_ne.mpr h_35), (bne_iff_ne.mpr h_35), h_50, h_59, (beq_eq_false_iff_ne.mpr h_59), (bne_iff_ne.mpr h_59)]; done) | (simp [cntN, h_3, (beq_eq_false_iff_ne.mpr h_3), (bne_iff_ne.mpr h_3), h_35, (beq_eq_false_iff_ne.mpr h_35), (bne_iff_ne.mpr h_35), h_50, h_59, (beq_eq_false_iff_ne.mpr h_59), (bne_iff_ne.mpr h_59)]; omega) | omega | rfl)
          · first | with_reducible rfl | exact gl (by first | with_reducible rfl | (refine iF ?_; simp [cntN, h_3, (beq_eq_false_iff_ne.mpr h_3), (bne_iff_ne.mpr h_3), h_35, (beq_eq_false_iff_ne.mpr h_35), (bne_iff_ne.mpr h_35), h_50, h_59, (beq_eq_false_iff_ne.mpr h_59), (bne_iff_ne.mpr h_59)]; done) | (refine iT ?_; simp [cntN, h_3, (beq_eq_false_iff_ne.mpr h_3), (bne_iff_ne.mpr h_3), h_35, (beq_eq_false_iff_ne.mpr h_35), (bne_iff_ne.mpr h_35), h_50, h_59, (beq_eq_false_iff_ne.mpr h_59), (bne_iff_ne.mpr h_59)]; done) | (refine iB ?_; simp [cntN, h_3, (beq_eq_false_iff_ne.mpr h_3), (bne_iff_ne.mpr h_3), h_35, (beq_eq_false_iff_ne.mpr h_35), (bne_iff_ne.mpr h_35), h_50, h_59, (beq_eq_false_iff_ne.mpr h_59), (bne_iff_ne.mpr h_59)]; done) | (simp [cntN, h_3, (beq_eq_false_iff_ne.mpr h_3), (bne_iff_ne.mpr h_3), h_35, (beq_eq_false_iff_ne.mpr h_35), (bne_iff_ne.mpr h_35), h_50, h_59, (beq_eq_false_iff_ne.mpr h_59), (bne_iff_ne.mpr h_59)]; done) | (simp [cntN, h_3, (beq_eq_false_iff_ne.mpr h_3), (bne_iff_ne.mpr h_3), h_35, (beq_eq_false_iff_ne.mpr h_35), (bne_iff_ne.mpr h_35), h_50, h_59, (beq_eq_false_iff_ne.mpr h_59), (bne_iff_ne.mpr h_59)]; omega) | omega | rfl)
          · first | with_reducible rfl | exact gl (by first | with_reducible rfl | (refine iF ?_; simp [cntN, h_3, (beq_eq_false_iff_ne.mpr h_3), (bne_iff_ne.mpr h_3), h_35, (beq_eq_false_iff_ne.mpr h_35), (bne_iff_ne.mpr h_35), h_50, h_59, (beq_eq_false_iff_ne.mpr h_59), (bne_iff_ne.mpr h_59)]; done) | (refine iT ?_; simp [cntN, h_3, (beq_eq_false_iff_ne.mpr h_3), (bne_iff_ne.mpr h_3), h_35, (beq_eq_false_iff_ne.mpr h_35), (bne_iff_ne.mpr h_35), h_50, h_59, (beq_eq_false_iff_ne.mpr h_59), (bne_iff_ne.mpr h_59)]; done) | (refine iB ?_; simp [cntN, h_3, (beq_eq_false_iff_ne.mpr h_3), (bne_iff_ne.mpr h_3), h_35, (beq_eq_false_iff_ne.mpr h_35), (bne_iff_ne.mpr h_35), h_50, h_59, (beq_eq_false_iff_ne.mpr h_59), (bne_iff_ne.mpr h_59)]; done) | (simp [cntN, h_3, (beq_eq_false_iff_ne.mpr h_3), (bne_iff_ne.mpr h_3), h_35, (beq_eq_false_iff_ne.mpr h_35), (bne_iff_ne.mpr h_35), h_50, h_59, (beq_eq_false_iff_ne.mpr h_59), (bne_iff_ne.mpr h_59)]; done) | (simp [cntN, h_3, (beq_eq_false_iff_ne.mpr h_3), (bne_iff_ne.mpr h_3), h_35, (beq_eq_false_iff_ne.mpr h_35), (bne_iff_ne.mpr h_35), h_50, h_59, (beq_eq_false_iff_ne.mpr h_59), (bne_iff_ne.mpr h_59)]; omega) | omega | rfl)
          · first | with_reducible rfl | exact gl (by first | with_reducible rfl | (refine iF ?_; simp [cntN, h_3, (beq_eq_false_iff_ne.mpr h_3), (bne_iff_ne.mpr h_3), h_35, (beq_eq_false_iff_ne.mpr h_35), (bne_iff_ne.mpr h_35), h_50, h_59, (beq_eq_false_iff_ne.mpr h_59), (bne_iff_ne.mpr h_59)]; done) | (refine iT ?_; simp [cntN, h_3, (beq_eq_false_iff_ne.mpr h_3), (bne_iff_ne.mpr h_3), h_35, (beq_eq_false_iff_ne.mpr h_35), (bne_iff_ne.mpr h_35), h_50, h_59, (beq_eq_false_iff_ne.mpr h_59), (bne_iff_ne.mpr h_59)]; done) | (refine iB ?_; simp [cntN, h_3, (beq_eq_false_iff_ne.mpr h_3), (bne_iff_ne.mpr h_3), h_35, (beq_eq_false_iff_ne.mpr h_35), (bne_iff_ne.mpr h_35), h_50, h_59, (beq_eq_false_iff_ne.mpr h_59), (bne_iff_ne.mpr h_59)]; done) | (simp [cntN, h_3, (beq_eq_false_iff_ne.mpr h_3), (bne_iff_ne.mpr h_3), h_35, (beq_eq_false_iff_ne.mpr h_35), (bne_iff_ne.mpr h_35), h_50, h_59, (beq_eq_false_iff_ne.mpr h_59), (bne_iff_ne.mpr h_59)]; done) | (simp [cntN, h_3, (beq_eq_false_iff_ne.mpr h_3), (bne_iff_ne.mpr h_3), h_35, (beq_eq_false_iff_ne.mpr h_35), (bne_iff_ne.mpr h_35), h_50, h_59, (beq_eq_false_iff_ne.mpr h_59), (bne_iff_ne.mpr h_59)]; omega) | omega | rfl)
        · exact absurd h_59 (by decide)
      · exact absurd (wd_lt hA hp h_50) (by rw [hz]; decide)
    · exact absurd h_35 (by decide)
  · exact absurd h_3 (by decide)

end A66

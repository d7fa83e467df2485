section A15
set_option maxRecDepth 20000 in
set_option maxHeartbeats 4000000 in
theorem K_X6_key {w : Wd} {A : St} (hD : DR w 3 A) (hA : AOK A) {k j : Nat} (hk : k < kN A) (hj : j < 10) : CP yX6_key cX6_key 4 (some .int) 6 90 [.ref 0, .int (nI k), .int (nI j)] w (.int (tkA A k j)) := by
  have zq_n := hA.n12
  have zq_c := hA.c81 (k := k) (by omega)
  have zf0 : inR (nI k) (kN A) = true := (inR_nI (by omega)).trans (decide_eq_true (by omega))
  refine CF.of ok_X6_key (Nat.le_of_ble_eq_true rfl) (fun ex us G9 p9 l9 e9 s9 m9 ar9 be9 me9 co9 C hr => ?_)
  refine a_pad 1 ?_
  refine a_eq (L' := [some (.ref 0), some (.int (nI k)), some (.int (nI j)), none]) rfl rfl rfl ?_
  refine a_aload_n C dX6_key_0 rfl rfl ?_
  refine a_iload_n C dX6_key_1 rfl rfl ?_
  refine p_callV C (K_X6_isKey hD hA _) vX6_83 rfl (by first | decide | omega) rfl rfl dX6_key_2 (Nat.le_of_ble_eq_true rfl) ⟨by decide, by decide⟩ ?_
  refine b_if_ne (tgt := 18) C dX6_key_5 (by decide) (fun h_5 => ?_) (fun h_5 => ?_)
  · refine a_aload_n C dX6_key_18 rfl rfl ?_
    refine a_getfF C fX6_19 dX6_key_19 (tw (by first | decide | omega)) (by first | decide | omega) rfl rfl ?_
    refine a_getfF C fX6_103 dX6_key_22 (tw (by first | decide | omega)) (by first | decide | omega) rfl rfl ?_
    refine a_iload_n C dX6_key_25 rfl rfl ?_
    refine a_aaldK C dX6_key_26 (tw (by first | decide | omega)) (by first | decide | omega) rfl rfl (by first | decide | omega) (by decide) rfl ?_
    refine a_astore_n C dX6_key_27 rfl (by decide) ?_
    refine a_iload_n C dX6_key_28 rfl rfl ?_
    obtain rfl | rfl | rfl | rfl | rfl | rfl | rfl | rfl | rfl | rfl : j = 0 ∨ j = 1 ∨ j = 2 ∨ j = 3 ∨ j = 4 ∨ j = 5 ∨ j = 6 ∨ j = 7 ∨ j = 8 ∨ j = 9 := by omega
    · refine a_tableIn (x := nI 0) (tgt := 84) C dX6_key_29 (by decide) (by decide) rfl (by decide) ?_
      refine a_aload_n C dX6_key_84 rfl rfl ?_
      refine a_getf C fX6_107 dX6_key_85 (tw (by first | decide | omega)) (by first | decide | omega) (fz_key (j := 0) (by decide) (by omega)) (gl (DR_kc hD hA (by omega))) ?_
      refine f_iret C hr ?_ dX6_key_88 ⟨?_, rfl⟩
      · rfl
      · first | with_reducible rfl | exact gl (by first | with_reducible rfl | (refine iF ?_; simp [tkA]; done) | (refine iT ?_; simp [tkA]; done) | (refine iB ?_; simp [tkA]; done) | (simp [tkA]; done) | (simp [tkA]; omega) | omega)
    · refine a_tableIn (x := nI 1) (tgt := 89) C dX6_key_29 (by decide) (by decide) rfl (by decide) ?_
      refine a_aload_n C dX6_key_89 rfl rfl ?_
      refine a_getfF C fX6_37 dX6_key_90 (tw (by first | decide | omega)) (by first | decide | omega) rfl rfl ?_
      refine a_getfF C fX6_240 dX6_key_93 (tw (by first | decide | omega)) (by first | decide | omega) rfl rfl ?_
      refine a_aload_n C dX6_key_96 rfl rfl ?_
      refine a_getf C fX6_107 dX6_key_97 (tw (by first | decide | omega)) (by first | decide | omega) (fz_key (j := 0) (by decide) (by omega)) (gl (DR_kc hD hA (by omega))) ?_
      refine n_iald C dX6_key_100 (tw (by first | decide | omega)) (by first | decide | omega) rfl rfl (by first | decide | omega) (by decide) rfl ?_
      refine f_iret C hr ?_ dX6_key_101 ⟨?_, rfl⟩
      · rfl
      · first | with_reducible rfl | exact gl (by first | with_reducible rfl | (refine iF ?_; simp [tkA]; done) | (refine iT ?_; simp [tkA]; done) | (refine iB ?_; simp [tkA]; done) | (simp [tkA]; done) | (simp [tkA]; omega) | omega)
    · refine a_tableIn (x := nI 2) (tgt := 102) C dX6_key_29 (by decide) (by decide) rfl (by decide) ?_
      refine a_aload_n C dX6_key_102 rfl rfl ?_
      refine a_getf C fX6_243 dX6_key_103 (tw (by first | decide | omega)) (by first | decide | omega) (fz_key (j := 0) (by decide) (by omega)) (gl (DR_kf hD (by omega))) ?_
      refine f_iret C hr ?_ dX6_key_106 ⟨?_, rfl⟩
      · rfl
      · first | with_reducible rfl | exact gl (by first | with_reducible rfl | (refine iF ?_; simp [tkA]; done) | (refine iT ?_; simp [tkA]; done) | (refine iB ?_; simp [tkA]; done) | (simp [tkA]; done) | (simp [tkA]; omega) | omega)
    · refine a_tableIn (x := nI 3) (tgt := 107) C dX6_key_29 (by decide) (by decide) rfl (by decide) ?_
      refine a_aload_n C dX6_key_107 rfl rfl ?_
      refine a_getf C fX6_246 dX6_key_108 (tw (by first | decide | omega)) (by first | decide | omega) (fz_key (j := 0) (by decide) (by omega)) (gl (DR_ku hD (by omega))) ?_
      refine f_iret C hr ?_ dX6_key_111 ⟨?_, rfl⟩
      · rfl
      · first | with_reducible rfl | exact gl (by first | with_reducible rfl | (refine iF ?_; simp [tkA]; done) | (refine iT ?_; simp [tkA]; done) | (refine iB ?_; simp [tkA]; done) | (simp [tkA]; done) | (simp [tkA]; omega) | omega)
    · refine a_tableIn (x := nI 4) (tgt := 112) C dX6_key_29 (by decide) (by decide) rfl (by decide) ?_
      refine a_aload_n C dX6_key_112 rfl rfl ?_
      refine a_getf C fX6_123 dX6_key_113 (tw (by first | decide | omega)) (by first | decide | omega) (fz_key (j := 0) (by decide) (by omega)) (gl (DR_ko hD hA (by omega))) ?_
      refine f_iret C hr ?_ dX6_key_116 ⟨?_, rfl⟩
      · rfl
      · first | with_reducible rfl | exact gl (by first | with_reducible rfl | (refine iF ?_; simp [tkA]; done) | (refine iT ?_; simp [tkA]; done) | (refine iB ?_; simp [tkA]; done) | (simp [tkA]; done) | (simp [tkA]; omega) | omega)
    · refine a_tableIn (x := nI 5) (tgt := 117) C dX6_key_29 (by decide) (by decide) rfl (by decide) ?_
      refine a_aload_n C dX6_key_117 rfl rfl ?_
      refine a_getf C fX6_126 dX6_key_118 (tw (by first | decide | omega)) (by first | decide | omega) (fz_key (j := 0) (by decide) (by omega)) (gl (DR_kl hD hA (by omega))) ?_
      first | refine b_if_eq (tgt := 128) C dX6_key_121 (by decide) (fun h_121 => ?_) (fun h_121 => ?_) | refine n_if_eq (tgt := 128) C dX6_key_121 (by decide) (by first | decide | omega) (fun h_121 => ?_) (fun h_121 => ?_) | refine a_if_eq (tgt := 128) C dX6_key_121 (by decide) (fun h_121 => ?_) (fun h_121 => ?_)
      · refine a_iconst (v := nI 0) C dX6_key_128 (by decide) ?_
        refine f_iret C hr ?_ dX6_key_129 ⟨?_, rfl⟩
        · rfl
        · first | with_reducible rfl | exact gl (by first | with_reducible rfl | (refine iF ?_; simp [tkA, h_121]; done) | (refine iT ?_; simp [tkA, h_121]; done) | (refine iB ?_; simp [tkA, h_121]; done) | (simp [tkA, h_121]; done) | (simp [tkA, h_121]; omega) | omega)
      · refine a_iconst (v := nI 1) C dX6_key_124 (by decide) ?_
        refine a_goto (tgt := 129) C dX6_key_125 (by decide) ?_
        refine f_iret C hr ?_ dX6_key_129 ⟨?_, rfl⟩
        · rfl
        · first | with_reducible rfl | exact gl (by first | with_reducible rfl | (refine iF ?_; simp [tkA, h_121]; done) | (refine iT ?_; simp [tkA, h_121]; done) | (refine iB ?_; simp [tkA, h_121]; done) | (simp [tkA, h_121]; done) | (simp [tkA, h_121]; omega) | omega)
    · refine a_tableIn (x := nI 6) (tgt := 130) C dX6_key_29 (by decide) (by decide) rfl (by decide) ?_
      refine a_aload_n C dX6_key_130 rfl rfl ?_
      refine a_iload_n C dX6_key_131 rfl rfl ?_
      refine p_callV C (K_X6_locksOpenedBy hD hA (by first | assumption | decide | omega)) vX6_132 rfl (by first | decide | omega) rfl rfl dX6_key_132 (Nat.le_of_ble_eq_true rfl) ⟨by decide, by decide⟩ ?_
      refine f_iret C hr ?_ dX6_key_135 ⟨?_, rfl⟩
      · rfl
      · first | with_reducible rfl | exact gl (by first | with_reducible rfl | (refine iF ?_; simp [tkA]; done) | (refine iT ?_; simp [tkA]; done) | (refine iB ?_; simp [tkA]; done) | (simp [tkA]; done) | (simp [tkA]; omega) | omega)
    · refine a_tableIn (x := nI 7) (tgt := 136) C dX6_key_29 (by decide) (by decide) rfl (by decide) ?_
      refine a_aload_n C dX6_key_136 rfl rfl ?_
      refine a_aload_n C dX6_key_137 rfl rfl ?_
      refine a_getf C fX6_107 dX6_key_138 (tw (by first | decide | omega)) (by first | decide | omega) (fz_key (j := 0) (by decide) (by omega)) (gl (DR_kc hD hA (by omega))) ?_
      refine p_callV C (K_X6_keysOver hD hA (by first | assumption | decide | omega)) vX6_249 rfl (by first | decide | omega) rfl rfl dX6_key_141 (Nat.le_of_ble_eq_true rfl) ⟨by decide, by decide⟩ ?_
      refine f_iret C hr ?_ dX6_key_144 ⟨?_, rfl⟩
      · rfl
      · first | with_reducible rfl | exact gl (by first | with_reducible rfl | (refine iF ?_; simp [tkA]; done) | (refine iT ?_; simp [tkA]; done) | (refine iB ?_; simp [tkA]; done) | (simp [tkA]; done) | (simp [tkA]; omega) | omega)
    · refine a_tableIn (x := nI 8) (tgt := 145) C dX6_key_29 (by decide) (by decide) rfl (by decide) ?_
      refine a_aload_n C dX6_key_145 rfl rfl ?_
      refine a_aload_n C dX6_key_146 rfl rfl ?_
      refine a_getf C fX6_107 dX6_key_147 (tw (by first | decide | omega)) (by first | decide | omega) (fz_key (j := 0) (by decide) (by omega)) (gl (DR_kc hD hA (by omega))) ?_
      refine p_callV C (K_X6_keysUnder hD hA (by first | assumption | decide | omega)) vX6_252 rfl (by first | decide | omega) rfl rfl dX6_key_150 (Nat.le_of_ble_eq_true rfl) ⟨by decide, by decide⟩ ?_
      refine f_iret C hr ?_ dX6_key_153 ⟨?_, rfl⟩
      · rfl
      · first | with_reducible rfl | exact gl (by first | with_reducible rfl | (refine iF ?_; simp [tkA]; done) | (refine iT ?_; simp [tkA]; done) | (refine iB ?_; simp [tkA]; done) | (simp [tkA]; done) | (simp [tkA]; omega) | omega)
    · refine a_tableIn (x := nI 9) (tgt := 154) C dX6_key_29 (by decide) (by decide) rfl (by decide) ?_
      refine a_aload_n C dX6_key_154 rfl rfl ?_
      refine a_getf C fX6_255 dX6_key_155 (tw (by first | decide | omega)) (by first | decide | omega) (fz_key (j := 0) (by decide) (by omega)) (gl (DR_kw hD (by omega))) ?_
      refine f_iret C hr ?_ dX6_key_158 ⟨?_, rfl⟩
      · rfl
      · first | with_reducible rfl | exact gl (by first | with_reducible rfl | (refine iF ?_; simp [tkA]; done) | (refine iT ?_; simp [tkA]; done) | (refine iB ?_; simp [tkA]; done) | (simp [tkA]; done) | (simp [tkA]; omega) | omega)
  · exact absurd (h_5.symm.trans zf0) (by decide)

set_option maxRecDepth 20000 in
set_option maxHeartbeats 4000000 in
theorem K_X6_lock {w : Wd} {A : St} (hD : DR w 3 A) (hA : AOK A) {p j : Nat} (hp : p < 6) (hj : j < 6) : CP yX6_lock cX6_lock 4 (some .int) 6 90 [.ref 0, .int (nI p), .int (nI j)] w (.int (tlA A p j)) := by
  have zq_n := hA.n12
  have zf0 : inR (nI p) 6 = true := (inR_nI (by omega)).trans (decide_eq_true (by omega))
  refine CF.of ok_X6_lock (Nat.le_of_ble_eq_true rfl) (fun ex us G9 p9 l9 e9 s9 m9 ar9 be9 me9 co9 C hr => ?_)
  refine a_pad 1 ?_
  refine a_eq (L' := [some (.ref 0), some (.int (nI p)), some (.int (nI j)), none]) rfl rfl rfl ?_
  refine a_iload_n C dX6_lock_0 rfl rfl ?_
  refine p_callS C ((K_X6_isPlace _)).cp sX6_142 rfl dX6_lock_1 (Nat.le_of_ble_eq_true rfl) ⟨by decide, by decide⟩ ?_
  refine b_if_ne (tgt := 17) C dX6_lock_4 (by decide) (fun h_4 => ?_) (fun h_4 => ?_)
  · refine a_iload_n C dX6_lock_17 rfl rfl ?_
    refine n_if_lt (tgt := 26) C dX6_lock_18 (by decide) (by first | decide | omega) ?_
    refine a_iload_n C dX6_lock_21 rfl rfl ?_
    refine a_iconst (v := nI 5) C dX6_lock_22 (by decide) ?_
    refine n_icmp_le (tgt := 37) C dX6_lock_23 (by decide) (by first | decide | omega) (by first | decide | omega) (fun h_23 => ?_) (fun h_23 => ?_)
    · refine a_aload_n C dX6_lock_37 rfl rfl ?_
      refine a_iload_n C dX6_lock_38 rfl rfl ?_
      refine p_callV C (K_X6_isLock hD hA (by first | assumption | decide | omega)) vX6_158 rfl (by first | decide | omega) rfl rfl dX6_lock_39 (Nat.le_of_ble_eq_true rfl) ⟨by decide, by decide⟩ ?_
      first | refine b_if_ne (tgt := 47) C dX6_lock_42 (by decide) (fun h_42 => ?_) (fun h_42 => ?_) | refine n_if_ne (tgt := 47) C dX6_lock_42 (by decide) (by first | decide | omega) (fun h_42 => ?_) (fun h_42 => ?_) | refine a_if_ne (tgt := 47) C dX6_lock_42 (by decide) (fun h_42 => ?_) (fun h_42 => ?_)
      · refine a_aload_n C dX6_lock_47 rfl rfl ?_
        refine a_getfF C fX6_19 dX6_lock_48 (tw (by first | decide | omega)) (by first | decide | omega) rfl rfl ?_
        refine a_getfF C fX6_149 dX6_lock_51 (tw (by first | decide | omega)) (by first | decide | omega) rfl rfl ?_
        refine a_iload_n C dX6_lock_54 rfl rfl ?_
        refine a_aaldL C dX6_lock_55 (tw (by first | decide | omega)) (by first | decide | omega) rfl rfl (by first | decide | omega) (by decide) rfl ?_
        refine a_astore_n C dX6_lock_56 rfl (by decide) ?_
        refine a_iload_n C dX6_lock_57 rfl rfl ?_
        obtain rfl | rfl | rfl | rfl | rfl | rfl : j = 0 ∨ j = 1 ∨ j = 2 ∨ j = 3 ∨ j = 4 ∨ j = 5 := by omega
        · refine a_tableIn (x := nI 0) (tgt := 92) C dX6_lock_58 (by decide) (by decide) rfl (by decide) ?_
          refine a_aload_n C dX6_lock_92 rfl rfl ?_
          refine a_getf C fX6_153 dX6_lock_93 (tw (by first | decide | omega)) (by first | decide | omega) (fz_lock (j := 0) (by decide) (by omega)) (gl (DR_lw hD (by omega))) ?_
          refine f_iret C hr ?_ dX6_lock_96 ⟨?_, rfl⟩
          · rfl
          · first | with_reducible rfl | exact gl (by first | with_reducible rfl | (refine iF ?_; simp [tlA, h_42]; done) | (refine iT ?_; simp [tlA, h_42]; done) | (refine iB ?_; simp [tlA, h_42]; done) | (simp [tlA, h_42]; done) | (simp [tlA, h_42]; omega) | omega)
        · refine a_tableIn (x := nI 1) (tgt := 97) C dX6_lock_58 (by decide) (by decide) rfl (by decide) ?_
          refine a_aload_n C dX6_lock_97 rfl rfl ?_
          refine a_getf C fX6_163 dX6_lock_98 (tw (by first | decide | omega)) (by first | decide | omega) (fz_lock (j := 0) (by decide) (by omega)) (gl (DR_lg hD (by omega))) ?_
          refine f_iret C hr ?_ dX6_lock_101 ⟨?_, rfl⟩
          · rfl
          · first | with_reducible rfl | exact gl (by first | with_reducible rfl | (refine iF ?_; simp [tlA, h_42]; done) | (refine iT ?_; simp [tlA, h_42]; done) | (refine iB ?_; simp [tlA, h_42]; done) | (simp [tlA, h_42]; done) | (simp [tlA, h_42]; omega) | omega)
        · refine a_tableIn (x := nI 2) (tgt := 102) C dX6_lock_58 (by decide) (by decide) rfl (by decide) ?_
          refine a_aload_n C dX6_lock_102 rfl rfl ?_
          refine a_iload_n C dX6_lock_103 rfl rfl ?_
          refine p_callV C (K_X6_keysOpening hD hA (by first | assumption | decide | omega)) vX6_166 rfl (by first | decide | omega) rfl rfl dX6_lock_104 (Nat.le_of_ble_eq_true rfl) ⟨by decide, by decide⟩ ?_
          refine f_iret C hr ?_ dX6_lock_107 ⟨?_, rfl⟩
          · rfl
          · first | with_reducible rfl | exact gl (by first | with_reducible rfl | (refine iF ?_; simp [tlA, h_42]; done) | (refine iT ?_; simp [tlA, h_42]; done) | (refine iB ?_; simp [tlA, h_42]; done) | (simp [tlA, h_42]; done) | (simp [tlA, h_42]; omega) | omega)
        · refine a_tableIn (x := nI 3) (tgt := 108) C dX6_lock_58 (by decide) (by decide) rfl (by decide) ?_
          refine a_aload_n C dX6_lock_108 rfl rfl ?_
          refine a_getf C fX6_262 dX6_lock_109 (tw (by first | decide | omega)) (by first | decide | omega) (fz_lock (j := 0) (by decide) (by omega)) (gl (DR_lu hD (by omega))) ?_
          refine f_iret C hr ?_ dX6_lock_112 ⟨?_, rfl⟩
          · rfl
          · first | with_reducible rfl | exact gl (by first | with_reducible rfl | (refine iF ?_; simp [tlA, h_42]; done) | (refine iT ?_; simp [tlA, h_42]; done) | (refine iB ?_; simp [tlA, h_42]; done) | (simp [tlA, h_42]; done) | (simp [tlA, h_42]; omega) | omega)
        · refine a_tableIn (x := nI 4) (tgt := 113) C dX6_lock_58 (by decide) (by decide) rfl (by decide) ?_
          refine a_aload_n C dX6_lock_113 rfl rfl ?_
          refine a_getf C fX6_263 dX6_lock_114 (tw (by first | decide | omega)) (by first | decide | omega) (fz_lock (j := 0) (by decide) (by omega)) (gl (DR_lf hD (by omega))) ?_
          refine f_iret C hr ?_ dX6_lock_117 ⟨?_, rfl⟩
          · rfl
          · first | with_reducible rfl | exact gl (by first | with_reducible rfl | (refine iF ?_; simp [tlA, h_42]; done) | (refine iT ?_; simp [tlA, h_42]; done) | (refine iB ?_; simp [tlA, h_42]; done) | (simp [tlA, h_42]; done) | (simp [tlA, h_42]; omega) | omega)
        · refine a_tableOut (x := nI 5) (tgt := 118) C dX6_lock_58 (by decide) (by decide) ?_
          refine a_aload_n C dX6_lock_118 rfl rfl ?_
          refine a_iload_n C dX6_lock_119 rfl rfl ?_
          refine p_callV C (K_X6_whoCouldOpen hD hA (by first | assumption | decide | omega)) vX6_266 rfl (by first | decide | omega) rfl rfl dX6_lock_120 (Nat.le_of_ble_eq_true rfl) ⟨by decide, by decide⟩ ?_
          refine f_iret C hr ?_ dX6_lock_123 ⟨?_, rfl⟩
          · rfl
          · first | with_reducible rfl | exact gl (by first | with_reducible rfl | (refine iF ?_; simp [tlA, h_42]; done) | (refine iT ?_; simp [tlA, h_42]; done) | (refine iB ?_; simp [tlA, h_42]; done) | (simp [tlA, h_42]; done) | (simp [tlA, h_42]; omega) | omega)
      · refine a_iconst (v := (-1)) C dX6_lock_45 (by decide) ?_
        refine f_iret C hr ?_ dX6_lock_46 ⟨?_, rfl⟩
        · rfl
        · first | with_reducible rfl | exact gl (by first | with_reducible rfl | (refine iF ?_; simp [tlA, h_42]; done) | (refine iT ?_; simp [tlA, h_42]; done) | (refine iB ?_; simp [tlA, h_42]; done) | (simp [tlA, h_42]; done) | (simp [tlA, h_42]; omega) | omega)
    · exfalso; omega
  · exact absurd (h_4.symm.trans zf0) (by decide)

set_option maxRecDepth 20000 in
set_option maxHeartbeats 4000000 in
theorem K_X6_person {w : Wd} {A : St} (hD : DR w 3 A) (hA : AOK A) {q j : Nat} (hq : q < 4) (hj : j < 3) : CP yX6_person cX6_person 3 (some .int) 6 91 [.ref 0, .int (nI q), .int (nI j)] w (.int (tpA A q j)) := by
  have zq_n := hA.n12
  have zf0 : inR (nI q) 4 = true := (inR_nI (by omega)).trans (decide_eq_true (by omega))
  refine CF.of ok_X6_person (Nat.le_of_ble_eq_true rfl) (fun ex us G9 p9 l9 e9 s9 m9 ar9 be9 me9 co9 C hr => ?_)
  refine a_iload_n C dX6_person_0 rfl rfl ?_
  refine p_callS C ((K_X6_isPerson _)).cp sX6_54 rfl dX6_person_1 (Nat.le_of_ble_eq_true rfl) ⟨by decide, by decide⟩ ?_
  refine b_if_ne (tgt := 18) C dX6_person_4 (by decide) (fun h_4 => ?_) (fun h_4 => ?_)
  · refine a_iload_n C dX6_person_18 rfl rfl ?_
    obtain rfl | rfl | rfl : j = 0 ∨ j = 1 ∨ j = 2 := by omega
    · refine a_tableIn (x := nI 0) (tgt := 44) C dX6_person_19 (by decide) (by decide) rfl (by decide) ?_
      refine a_aload_n C dX6_person_44 rfl rfl ?_
      refine a_iload_n C dX6_person_45 rfl rfl ?_
      refine p_callV C (K_X6_keysOf hD hA (by first | assumption | decide | omega)) vX6_271 rfl (by first | decide | omega) rfl rfl dX6_person_46 (Nat.le_of_ble_eq_true rfl) ⟨by decide, by decide⟩ ?_
      refine f_iret C hr ?_ dX6_person_49 ⟨?_, rfl⟩
      · rfl
      · first | with_reducible rfl | exact gl (by first | with_reducible rfl | (refine iF ?_; simp [tpA]; done) | (refine iT ?_; simp [tpA]; done) | (refine iB ?_; simp [tpA]; done) | (simp [tpA]; done) | (simp [tpA]; omega) | omega)
    · refine a_tableIn (x := nI 1) (tgt := 50) C dX6_person_19 (by decide) (by decide) rfl (by decide) ?_
      refine a_aload_n C dX6_person_50 rfl rfl ?_
      refine a_iload_n C dX6_person_51 rfl rfl ?_
      refine p_callV C (K_X6_locksFor hD hA (by first | assumption | decide | omega)) vX6_274 rfl (by first | decide | omega) rfl rfl dX6_person_52 (Nat.le_of_ble_eq_true rfl) ⟨by decide, by decide⟩ ?_
      refine f_iret C hr ?_ dX6_person_55 ⟨?_, rfl⟩
      · rfl
      · first | with_reducible rfl | exact gl (by first | with_reducible rfl | (refine iF ?_; simp [tpA]; done) | (refine iT ?_; simp [tpA]; done) | (refine iB ?_; simp [tpA]; done) | (simp [tpA]; done) | (simp [tpA]; omega) | omega)
    · refine a_tableIn (x := nI 2) (tgt := 56) C dX6_person_19 (by decide) (by decide) rfl (by decide) ?_
      refine a_aload_n C dX6_person_56 rfl rfl ?_
      refine a_getfF C fX6_19 dX6_person_57 (tw (by first | decide | omega)) (by first | decide | omega) rfl rfl ?_
      refine a_getfF C fX6_277 dX6_person_60 (tw (by first | decide | omega)) (by first | decide | omega) rfl rfl ?_
      refine a_iload_n C dX6_person_63 rfl rfl ?_
      refine n_iald C dX6_person_64 (tw (by first | decide | omega)) (by first | decide | omega) rfl rfl (by first | decide | omega) (by decide) (DR_p hD (by omega)) ?_
      refine f_iret C hr ?_ dX6_person_65 ⟨?_, rfl⟩
      · rfl
      · first | with_reducible rfl | exact gl (by first | with_reducible rfl | (refine iF ?_; simp [tpA]; done) | (refine iT ?_; simp [tpA]; done) | (refine iB ?_; simp [tpA]; done) | (simp [tpA]; done) | (simp [tpA]; omega) | omega)
  · exact absurd (h_4.symm.trans zf0) (by decide)

set_option maxRecDepth 20000 in
set_option maxHeartbeats 4000000 in
theorem K_X6_code {w : Wd} {A : St} (hD : DR w 3 A) (hA : AOK A) {c j : Nat} (hc : c < 81) (hj : j < 6) : CP yX6_code cX6_code 3 (some .int) 6 90 [.ref 0, .int (nI c), .int (nI j)] w (.int (tcA A c j)) := by
  have zq_n := hA.n12
  have zf0 : inR (nI c) 81 = true := (inR_nI (by omega)).trans (decide_eq_true (by omega))
  refine CF.of ok_X6_code (Nat.le_of_ble_eq_true rfl) (fun ex us G9 p9 l9 e9 s9 m9 ar9 be9 me9 co9 C hr => ?_)
  refine a_iload_n C dX6_code_0 rfl rfl ?_
  refine p_callS C ((K_X6_isCode _)).cp sX6_50 rfl dX6_code_1 (Nat.le_of_ble_eq_true rfl) ⟨by decide, by decide⟩ ?_
  refine b_if_ne (tgt := 17) C dX6_code_4 (by decide) (fun h_4 => ?_) (fun h_4 => ?_)
  · refine a_iload_n C dX6_code_17 rfl rfl ?_
    obtain rfl | rfl | rfl | rfl | rfl | rfl : j = 0 ∨ j = 1 ∨ j = 2 ∨ j = 3 ∨ j = 4 ∨ j = 5 := by omega
    · refine a_tableIn (x := nI 0) (tgt := 56) C dX6_code_18 (by decide) (by decide) rfl (by decide) ?_
      refine a_aload_n C dX6_code_56 rfl rfl ?_
      refine a_getfF C fX6_37 dX6_code_57 (tw (by first | decide | omega)) (by first | decide | omega) rfl rfl ?_
      refine a_getfF C fX6_240 dX6_code_60 (tw (by first | decide | omega)) (by first | decide | omega) rfl rfl ?_
      refine a_iload_n C dX6_code_63 rfl rfl ?_
      refine n_iald C dX6_code_64 (tw (by first | decide | omega)) (by first | decide | omega) rfl rfl (by first | decide | omega) (by decide) rfl ?_
      refine f_iret C hr ?_ dX6_code_65 ⟨?_, rfl⟩
      · rfl
      · first | with_reducible rfl | exact gl (by first | with_reducible rfl | (refine iF ?_; simp [tcA]; done) | (refine iT ?_; simp [tcA]; done) | (refine iB ?_; simp [tcA]; done) | (simp [tcA]; done) | (simp [tcA]; omega) | omega)
    · refine a_tableIn (x := nI 1) (tgt := 66) C dX6_code_18 (by decide) (by decide) rfl (by decide) ?_
      refine a_aload_n C dX6_code_66 rfl rfl ?_
      refine a_iload_n C dX6_code_67 rfl rfl ?_
      refine p_callV C (K_X6_isSound hD hA (by first | assumption | decide | omega)) vX6_282 rfl (by first | decide | omega) rfl rfl dX6_code_68 (Nat.le_of_ble_eq_true rfl) ⟨by decide, by decide⟩ ?_
      first | refine b_if_eq (tgt := 78) C dX6_code_71 (by decide) (fun h_71 => ?_) (fun h_71 => ?_) | refine n_if_eq (tgt := 78) C dX6_code_71 (by decide) (by first | decide | omega) (fun h_71 => ?_) (fun h_71 => ?_) | refine a_if_eq (tgt := 78) C dX6_code_71 (by decide) (fun h_71 => ?_) (fun h_71 => ?_)
      · refine a_iconst (v := nI 0) C dX6_code_78 (by decide) ?_
        refine f_iret C hr ?_ dX6_code_79 ⟨?_, rfl⟩
        · rfl
        · first | with_reducible rfl | exact gl (by first | with_reducible rfl | (refine iF ?_; simp [tcA, h_71]; done) | (refine iT ?_; simp [tcA, h_71]; done) | (refine iB ?_; simp [tcA, h_71]; done) | (simp [tcA, h_71]; done) | (simp [tcA, h_71]; omega) | omega)
      · refine a_iconst (v := nI 1) C dX6_code_74 (by decide) ?_
        refine a_goto (tgt := 79) C dX6_code_75 (by decide) ?_
        refine f_iret C hr ?_ dX6_code_79 ⟨?_, rfl⟩
        · rfl
        · first | with_reducible rfl | exact gl (by first | with_reducible rfl | (refine iF ?_; simp [tcA, h_71]; done) | (refine iT ?_; simp [tcA, h_71]; done) | (refine iB ?_; simp [tcA, h_71]; done) | (simp [tcA, h_71]; done) | (simp [tcA, h_71]; omega) | omega)
    · refine a_tableIn (x := nI 2) (tgt := 80) C dX6_code_18 (by decide) (by decide) rfl (by decide) ?_
      refine a_aload_n C dX6_code_80 rfl rfl ?_
      refine a_iload_n C dX6_code_81 rfl rfl ?_
      refine p_callV C (K_X6_reasonAgainstCut hD hA (by first | assumption | decide | omega)) vX6_64 rfl (by first | decide | omega) rfl rfl dX6_code_82 (Nat.le_of_ble_eq_true rfl) ⟨by decide, by decide⟩ ?_
      refine f_iret C hr ?_ dX6_code_85 ⟨?_, rfl⟩
      · rfl
      · first | with_reducible rfl | exact gl (by first | with_reducible rfl | (refine iF ?_; simp [tcA]; done) | (refine iT ?_; simp [tcA]; done) | (refine iB ?_; simp [tcA]; done) | (simp [tcA]; done) | (simp [tcA]; omega) | omega)
    · refine a_tableIn (x := nI 3) (tgt := 86) C dX6_code_18 (by decide) (by decide) rfl (by decide) ?_
      refine a_aload_n C dX6_code_86 rfl rfl ?_
      refine a_iload_n C dX6_code_87 rfl rfl ?_
      refine p_callV C (K_X6_soundCodesOver hD hA (by first | assumption | decide | omega)) vX6_285 rfl (by first | decide | omega) rfl rfl dX6_code_88 (Nat.le_of_ble_eq_true rfl) ⟨by decide, by decide⟩ ?_
      refine f_iret C hr ?_ dX6_code_91 ⟨?_, rfl⟩
      · rfl
      · first | with_reducible rfl | exact gl (by first | with_reducible rfl | (refine iF ?_; simp [tcA]; done) | (refine iT ?_; simp [tcA]; done) | (refine iB ?_; simp [tcA]; done) | (simp [tcA]; done) | (simp [tcA]; omega) | omega)
    · refine a_tableIn (x := nI 4) (tgt := 92) C dX6_code_18 (by decide) (by decide) rfl (by decide) ?_
      refine a_aload_n C dX6_code_92 rfl rfl ?_
      refine a_iload_n C dX6_code_93 rfl rfl ?_
      refine p_callV C (K_X6_soundCodesUnder hD hA (by first | assumption | decide | omega)) vX6_288 rfl (by first | decide | omega) rfl rfl dX6_code_94 (Nat.le_of_ble_eq_true rfl) ⟨by decide, by decide⟩ ?_
      refine f_iret C hr ?_ dX6_code_97 ⟨?_, rfl⟩
      · rfl
      · first | with_reducible rfl | exact gl (by first | with_reducible rfl | (refine iF ?_; simp [tcA]; done) | (refine iT ?_; simp [tcA]; done) | (refine iB ?_; simp [tcA]; done) | (simp [tcA]; done) | (simp [tcA]; omega) | omega)
    · refine a_tableIn (x := nI 5) (tgt := 98) C dX6_code_18 (by decide) (by decide) rfl (by decide) ?_
      refine a_aload_n C dX6_code_98 rfl rfl ?_
      refine a_iload_n C dX6_code_99 rfl rfl ?_
      refine p_callV C (K_X6_isFree hD hA (by first | assumption | decide | omega)) vX6_291 rfl (by first | decide | omega) rfl rfl dX6_code_100 (Nat.le_of_ble_eq_true rfl) ⟨by decide, by decide⟩ ?_
      first | refine b_if_eq (tgt := 110) C dX6_code_103 (by decide) (fun h_103 => ?_) (fun h_103 => ?_) | refine n_if_eq (tgt := 110) C dX6_code_103 (by decide) (by first | decide | omega) (fun h_103 => ?_) (fun h_103 => ?_) | refine a_if_eq (tgt := 110) C dX6_code_103 (by decide) (fun h_103 => ?_) (fun h_103 => ?_)
      · refine a_iconst (v := nI 0) C dX6_code_110 (by decide) ?_
        refine f_iret C hr ?_ dX6_code_111 ⟨?_, rfl⟩
        · rfl
        · first | with_reducible rfl | exact gl (by first | with_reducible rfl | (refine iF ?_; simp [tcA, h_103]; done) | (refine iT ?_; simp [tcA, h_103]; done) | (refine iB ?_; simp [tcA, h_103]; done) | (simp [tcA, h_103]; done) | (simp [tcA, h_103]; omega) | omega)
      · refine a_iconst (v := nI 1) C dX6_code_106 (by decide) ?_
        refine a_goto (tgt := 111) C dX6_code_107 (by decide) ?_
        refine f_iret C hr ?_ dX6_code_111 ⟨?_, rfl⟩
        · rfl
        · first | with_reducible rfl | exact gl (by first | with_reducible rfl | (refine iF ?_; simp [tcA, h_103]; done) | (refine iT ?_; simp [tcA, h_103]; done) | (refine iB ?_; simp [tcA, h_103]; done) | (simp [tcA, h_103]; done) | (simp [tcA, h_103]; omega) | omega)
  · exact absurd (h_4.symm.trans zf0) (by decide)

set_option maxRecDepth 20000 in
set_option maxHeartbeats 4000000 in
theorem K_X6_count {w : Wd} {A : St} (hD : DR w 3 A) (hA : AOK A) {j : Nat} (hj : j < 12) : CP yX6_count cX6_count 2 (some .int) 6 93 [.ref 0, .int (nI j)] w (.int (tnA A (w.1 0 8) j)) := by
  have zq_n := hA.n12
  refine CF.of ok_X6_count (Nat.le_of_ble_eq_true rfl) (fun ex us G9 p9 l9 e9 s9 m9 ar9 be9 me9 co9 C hr => ?_)
  refine a_iload_n C dX6_count_0 rfl rfl ?_
  obtain rfl | rfl | rfl | rfl | rfl | rfl | rfl | rfl | rfl | rfl | rfl | rfl : j = 0 ∨ j = 1 ∨ j = 2 ∨ j = 3 ∨ j = 4 ∨ j = 5 ∨ j = 6 ∨ j = 7 ∨ j = 8 ∨ j = 9 ∨ j = 10 ∨ j = 11 := by omega
  · refine a_tableIn (x := nI 0) (tgt := 64) C dX6_count_1 (by decide) (by decide) rfl (by decide) ?_
    refine a_aload_n C dX6_count_64 rfl rfl ?_
    refine a_getfF C fX6_19 dX6_count_65 (tw (by first | decide | omega)) (by first | decide | omega) rfl rfl ?_
    refine a_getf C fX6_80 dX6_count_68 (tw (by first | decide | omega)) (by first | decide | omega) rfl (gl (DR_n hD hA)) ?_
    refine f_iret C hr ?_ dX6_count_71 ⟨?_, rfl⟩
    · rfl
    · first | with_reducible rfl | exact gl (by first | with_reducible rfl | (refine iF ?_; simp [tnA]; done) | (refine iT ?_; simp [tnA]; done) | (refine iB ?_; simp [tnA]; done) | (simp [tnA]; done) | (simp [tnA]; omega) | omega)
  · refine a_tableIn (x := nI 1) (tgt := 72) C dX6_count_1 (by decide) (by decide) rfl (by decide) ?_
    refine a_aload_n C dX6_count_72 rfl rfl ?_
    refine p_callV C (K_X6_lostKeys hD hA) vX6_310 rfl (by first | decide | omega) rfl rfl dX6_count_73 (Nat.le_of_ble_eq_true rfl) ⟨by decide, by decide⟩ ?_
    refine f_iret C hr ?_ dX6_count_76 ⟨?_, rfl⟩
    · rfl
    · first | with_reducible rfl | exact gl (by first | with_reducible rfl | (refine iF ?_; simp [tnA]; done) | (refine iT ?_; simp [tnA]; done) | (refine iB ?_; simp [tnA]; done) | (simp [tnA]; done) | (simp [tnA]; omega) | omega)
  · refine a_tableIn (x := nI 2) (tgt := 77) C dX6_count_1 (by decide) (by decide) rfl (by decide) ?_
    refine a_aload_n C dX6_count_77 rfl rfl ?_
    refine p_callV C (K_X6_lockCount hD hA) vX6_313 rfl (by first | decide | omega) rfl rfl dX6_count_78 (Nat.le_of_ble_eq_true rfl) ⟨by decide, by decide⟩ ?_
    refine f_iret C hr ?_ dX6_count_81 ⟨?_, rfl⟩
    · rfl
    · first | with_reducible rfl | exact gl (by first | with_reducible rfl | (refine iF ?_; simp [tnA]; done) | (refine iT ?_; simp [tnA]; done) | (refine iB ?_; simp [tnA]; done) | (simp [tnA]; done) | (simp [tnA]; omega) | omega)
  · refine a_tableIn (x := nI 3) (tgt := 82) C dX6_count_1 (by decide) (by decide) rfl (by decide) ?_
    refine a_aload_n C dX6_count_82 rfl rfl ?_
    refine p_callV C (K_X6_crossedPairs hD hA) vX6_316 rfl (by first | decide | omega) rfl rfl dX6_count_83 (Nat.le_of_ble_eq_true rfl) ⟨by decide, by decide⟩ ?_
    refine f_iret C hr ?_ dX6_count_86 ⟨?_, rfl⟩
    · rfl
    · first | with_reducible rfl | exact gl (by first | with_reducible rfl | (refine iF ?_; simp [tnA]; done) | (refine iT ?_; simp [tnA]; done) | (refine iB ?_; simp [tnA]; done) | (simp [tnA]; done) | (simp [tnA]; omega) | omega)
  · refine a_tableIn (x := nI 4) (tgt := 87) C dX6_count_1 (by decide) (by decide) rfl (by decide) ?_
    refine a_aload_n C dX6_count_87 rfl rfl ?_
    refine a_getfF C fX6_19 dX6_count_88 (tw (by first | decide | omega)) (by first | decide | omega) rfl rfl ?_
    refine a_getf C fX6_319 dX6_count_91 (tw (by first | decide | omega)) (by first | decide | omega) rfl (gl (DR_r hD).1) ?_
    refine f_iret C hr ?_ dX6_count_94 ⟨?_, rfl⟩
    · rfl
    · first | with_reducible rfl | exact gl (by first | with_reducible rfl | (refine iF ?_; simp [tnA]; done) | (refine iT ?_; simp [tnA]; done) | (refine iB ?_; simp [tnA]; done) | (simp [tnA]; done) | (simp [tnA]; omega) | omega)
  · refine a_tableIn (x := nI 5) (tgt := 95) C dX6_count_1 (by decide) (by decide) rfl (by decide) ?_
    refine a_aload_n C dX6_count_95 rfl rfl ?_
    refine a_getfF C fX6_19 dX6_count_96 (tw (by first | decide | omega)) (by first | decide | omega) rfl rfl ?_
    refine a_getf C fX6_322 dX6_count_99 (tw (by first | decide | omega)) (by first | decide | omega) rfl (gl (DR_r hD).2.1) ?_
    refine f_iret C hr ?_ dX6_count_102 ⟨?_, rfl⟩
    · rfl
    · first | with_reducible rfl | exact gl (by first | with_reducible rfl | (refine iF ?_; simp [tnA]; done) | (refine iT ?_; simp [tnA]; done) | (refine iB ?_; simp [tnA]; done) | (simp [tnA]; done) | (simp [tnA]; omega) | omega)
  · refine a_tableIn (x := nI 6) (tgt := 103) C dX6_count_1 (by decide) (by decide) rfl (by decide) ?_
    refine a_aload_n C dX6_count_103 rfl rfl ?_
    refine a_getfF C fX6_19 dX6_count_104 (tw (by first | decide | omega)) (by first | decide | omega) rfl rfl ?_
    refine a_getf C fX6_323 dX6_count_107 (tw (by first | decide | omega)) (by first | decide | omega) rfl (gl (DR_r hD).2.2.1) ?_
    refine f_iret C hr ?_ dX6_count_110 ⟨?_, rfl⟩
    · rfl
    · first | with_reducible rfl | exact gl (by first | with_reducible rfl | (refine iF ?_; simp [tnA]; done) | (refine iT ?_; simp [tnA]; done) | (refine iB ?_; simp [tnA]; done) | (simp [tnA]; done) | (simp [tnA]; omega) | omega)
  · refine a_tableIn (x := nI 7) (tgt := 111) C dX6_count_1 (by decide) (by decide) rfl (by decide) ?_
    refine a_aload_n C dX6_count_111 rfl rfl ?_
    refine a_getfF C fX6_19 dX6_count_112 (tw (by first | decide | omega)) (by first | decide | omega) rfl rfl ?_
    refine a_getf C fX6_324 dX6_count_115 (tw (by first | decide | omega)) (by first | decide | omega) rfl (gl (DR_r hD).2.2.2.1) ?_
    refine f_iret C hr ?_ dX6_count_118 ⟨?_, rfl⟩
    · rfl
    · first | with_reducible rfl | exact gl (by first | with_reducible rfl | (refine iF ?_; simp [tnA]; done) | (refine iT ?_; simp [tnA]; done) | (refine iB ?_; simp [tnA]; done) | (simp [tnA]; done) | (simp [tnA]; omega) | omega)
  · refine a_tableIn (x := nI 8) (tgt := 119) C dX6_count_1 (by decide) (by decide) rfl (by decide) ?_
    refine a_aload_n C dX6_count_119 rfl rfl ?_
    refine a_getfF C fX6_19 dX6_count_120 (tw (by first | decide | omega)) (by first | decide | omega) rfl rfl ?_
    refine a_getf C fX6_118 dX6_count_123 (tw (by first | decide | omega)) (by first | decide | omega) rfl (gl (DR_r hD).2.2.2.2.1) ?_
    refine f_iret C hr ?_ dX6_count_126 ⟨?_, rfl⟩
    · rfl
    · first | with_reducible rfl | exact gl (by first | with_reducible rfl | (refine iF ?_; simp [tnA]; done) | (refine iT ?_; simp [tnA]; done) | (refine iB ?_; simp [tnA]; done) | (simp [tnA]; done) | (simp [tnA]; omega) | omega)
  · refine a_tableIn (x := nI 9) (tgt := 127) C dX6_count_1 (by decide) (by decide) rfl (by decide) ?_
    refine a_aload_n C dX6_count_127 rfl rfl ?_
    refine p_callV C (K_X6_soundCodes hD hA) vX6_325 rfl (by first | decide | omega) rfl rfl dX6_count_128 (Nat.le_of_ble_eq_true rfl) ⟨by decide, by decide⟩ ?_
    refine f_iret C hr ?_ dX6_count_131 ⟨?_, rfl⟩
    · rfl
    · first | with_reducible rfl | exact gl (by first | with_reducible rfl | (refine iF ?_; simp [tnA]; done) | (refine iT ?_; simp [tnA]; done) | (refine iB ?_; simp [tnA]; done) | (simp [tnA]; done) | (simp [tnA]; omega) | omega)
  · refine a_tableIn (x := nI 10) (tgt := 132) C dX6_count_1 (by decide) (by decide) rfl (by decide) ?_
    refine a_aload_n C dX6_count_132 rfl rfl ?_
    refine p_callV C (K_X6_freeCodes hD hA) vX6_328 rfl (by first | decide | omega) rfl rfl dX6_count_133 (Nat.le_of_ble_eq_true rfl) ⟨by decide, by decide⟩ ?_
    refine f_iret C hr ?_ dX6_count_136 ⟨?_, rfl⟩
    · rfl
    · first | with_reducible rfl | exact gl (by first | with_reducible rfl | (refine iF ?_; simp [tnA]; done) | (refine iT ?_; simp [tnA]; done) | (refine iB ?_; simp [tnA]; done) | (simp [tnA]; done) | (simp [tnA]; omega) | omega)
  · refine a_tableIn (x := nI 11) (tgt := 137) C dX6_count_1 (by decide) (by decide) rfl (by decide) ?_
    refine a_aload_n C dX6_count_137 rfl rfl ?_
    refine a_getf C fX6_235 dX6_count_138 (tw (by first | decide | omega)) (by first | decide | omega) rfl rfl ?_
    refine f_iret C hr ?_ dX6_count_141 ⟨?_, rfl⟩
    · rfl
    · first | with_reducible rfl | exact gl (by first | with_reducible rfl | (refine iF ?_; simp [tnA]; done) | (refine iT ?_; simp [tnA]; done) | (refine iB ?_; simp [tnA]; done) | (simp [tnA]; done) | (simp [tnA]; omega) | omega)

set_option maxRecDepth 20000 in
set_option maxHeartbeats 4000000 in
theorem K_X6_why {w : Wd} {A : St} (hD : DR w 3 A) (hA : AOK A) {k j : Nat} (hk : k < kN A) (hj : j < 4) : CP yX6_why cX6_why 3 (some .int) 6 90 [.ref 0, .int (nI k), .int (nI j)] w (.int (nI (wndA A k j))) := by
  have zq_n := hA.n12
  have zf0 : inR (nI k) (kN A) = true := (inR_nI (by omega)).trans (decide_eq_true (by omega))
  have zf1 : inR (nI j) 4 = true := (inR_nI (by omega)).trans (decide_eq_true (by omega))
  refine CF.of ok_X6_why (Nat.le_of_ble_eq_true rfl) (fun ex us G9 p9 l9 e9 s9 m9 ar9 be9 me9 co9 C hr => ?_)
  refine a_aload_n C dX6_why_0 rfl rfl ?_
  refine a_iload_n C dX6_why_1 rfl rfl ?_
  refine p_callV C (K_X6_isKey hD hA _) vX6_83 rfl (by first | decide | omega) rfl rfl dX6_why_2 (Nat.le_of_ble_eq_true rfl) ⟨by decide, by decide⟩ ?_
  refine b_if_eq (tgt := 15) C dX6_why_5 (by decide) (fun h_5 => ?_) (fun h_5 => ?_)
  · exact absurd (h_5.symm.trans zf0) (by decide)
  · refine a_iload_n C dX6_why_8 rfl rfl ?_
    refine p_callS C ((K_X6_isNotch _)).cp sX6_86 rfl dX6_why_9 (Nat.le_of_ble_eq_true rfl) ⟨by decide, by decide⟩ ?_
    refine b_if_ne (tgt := 25) C dX6_why_12 (by decide) (fun h_12 => ?_) (fun h_12 => ?_)
    · refine a_aload_n C dX6_why_25 rfl rfl ?_
      refine a_iload_n C dX6_why_26 rfl rfl ?_
      refine a_iload_n C dX6_why_27 rfl rfl ?_
      refine p_callV C (K_X6_reasonAgainstDeeper hD hA (by first | assumption | decide | omega) (by first | assumption | decide | omega)) vX6_94 rfl (by first | decide | omega) rfl rfl dX6_why_28 (Nat.le_of_ble_eq_true rfl) ⟨by decide, by decide⟩ ?_
      refine f_iret C hr ?_ dX6_why_31 ⟨?_, rfl⟩
      · rfl
      · first | with_reducible rfl | exact gl (by first | with_reducible rfl | (refine iF ?_; simp []; done) | (refine iT ?_; simp []; done) | (refine iB ?_; simp []; done) | (simp []; done) | (simp []; omega) | omega)
    · exact absurd (h_12.symm.trans zf1) (by decide)

def blA (A : St) (x c : Nat) : Nat := if oprA A x c == -1 then 9 else lvN (iN (oprA A x c))
def opC (A : St) (x c : Nat) : Bool := decide (lvN c < blA A x c) && (sndA A c && (lksA A c &&& x == x))
theorem opr_or (A : St) (x : Nat) : ∀ c, c ≤ 81 → oprA A x c = -1 ∨ ∃ d, d < 81 ∧ oprA A x c = nI d
  | 0, _ => Or.inl rfl
  | c + 1, hc => by
    have zq_1 := opr_or A x c (by omega)
    unfold oprA
    split
    · exact Or.inr ⟨c, by omega, rfl⟩
    · exact zq_1
theorem opr_cond {A : St} {x c : Nat} : ((sndA A c && lksA A c &&& x == x) && (oprA A x c == -1 || decide (lvN c < lvN (iN (oprA A x c))))) = opC A x c := by
  have zq_1 := lvN_le c
  unfold opC blA
  cases oprA A x c == -1 with
  | true =>
    have zq_2 : decide (lvN c < 9) = true := decide_eq_true (by omega)
    simp [zq_2]
  | false =>
    simp only [Bool.false_or]
    rw [Bool.and_comm]
    rfl
theorem opr_t {A : St} {x c : Nat} (hc : c < 81) (h : opC A x c = true) : oprA A x (c + 1) = nI c ∧ blA A x (c + 1) = lvN c := by
  have zq_1 : oprA A x (c + 1) = nI c := by
    show (if ((sndA A c && lksA A c &&& x == x) && (oprA A x c == -1 || decide (lvN c < lvN (iN (oprA A x c))))) then nI c else oprA A x c) = nI c
    rw [opr_cond, h]
    rfl
  refine ⟨zq_1, ?_⟩
  have zq_2 : (nI c == (-1 : Int32)) = false := beq_eq_false_iff_ne.mpr (nI_m1 (by omega))
  unfold blA
  rw [zq_1, zq_2, iN_nI (by omega)]
  rfl
theorem opr_f {A : St} {x c : Nat} (h : opC A x c = false) : oprA A x (c + 1) = oprA A x c ∧ blA A x (c + 1) = blA A x c := by
  have zq_1 : oprA A x (c + 1) = oprA A x c := by
    show (if ((sndA A c && lksA A c &&& x == x) && (oprA A x c == -1 || decide (lvN c < lvN (iN (oprA A x c))))) then nI c else oprA A x c) = oprA A x c
    rw [opr_cond, h]
    rfl
  refine ⟨zq_1, ?_⟩
  unfold blA
  rw [zq_1]
theorem opC_f1 {A : St} {x c : Nat} (h : blA A x c ≤ lvN c) : opC A x c = false := by
  unfold opC
  rw [decide_eq_false (by omega), Bool.false_and]
theorem opC_f2 {A : St} {x c : Nat} (h : sndA A c = false) : opC A x c = false := by
  unfold opC
  rw [h, Bool.false_and, Bool.and_false]
theorem opC_f3 {A : St} {x c : Nat} (h : (lksA A c &&& x == x) = false) : opC A x c = false := by
  unfold opC
  rw [h, Bool.and_false, Bool.and_false]
theorem opC_t {A : St} {x c : Nat} (h1 : lvN c < blA A x c) (h2 : sndA A c = true) (h3 : (lksA A c &&& x == x) = true) : opC A x c = true := by
  unfold opC
  rw [h2, h3, decide_eq_true h1]
  rfl
theorem blA_le (A : St) (x c : Nat) : blA A x c ≤ 9 := by
  unfold blA
  split
  · exact Nat.le_refl _
  · exact Nat.le_trans (lvN_le _) (by decide)
set_option maxRecDepth 20000 in
set_option maxHeartbeats 4000000 in
theorem K_X6_opener {w : Wd} {A : St} (hD : DR w 3 A) (hA : AOK A) {x : Nat} (hx : 1 ≤ x ∧ x ≤ 63) (hl : allN (alP A x) 6 = true) : CP yX6_opener cX6_opener 5 (some .int) 6 90 [.ref 0, .int (nI x)] w (.int (oprA A x 81)) := by
  have zf1 := hl
  refine CF.of ok_X6_opener (Nat.le_of_ble_eq_true rfl) (fun ex us G9 p9 l9 e9 s9 m9 ar9 be9 me9 co9 C hr => ?_)
  have ZL37 : ∀ (zd37 : Nat) (c : Nat), 81 + 1 ≤ c + zd37 → c ≤ 81 → WA G9 p9 l9 e9 (RM 6 90) s9 m9 ar9 be9 me9 co9 (QP G9 be9 ar9 s9 w ex us (.int (oprA A x 81))) 5 (207 + ex.1 + ex.2) us 37 [some (.ref 0), some (.int (nI x)), some (.int (oprA A x c)), some (.int (nI (blA A x c))), some (.int (nI c))] [] (fzM w ex us) := by
    intro zd37
    induction zd37 with
    | zero => intro c zm37 zh37_0; exfalso; omega
    | succ zd37 zih37 =>
      intro c zm37 zh37_0
      have zq_l := lvN_le c
      have zq_b := blA_le A x c
      refine a_iload C dX6_opener_37 rfl ?_
      refine a_bipush (v := nI 81) C dX6_opener_39 (by decide) ?_
      first | refine n_icmp_ge (tgt := 97) C dX6_opener_41 (by decide) (by first | decide | omega) (by first | decide | omega) (fun h_41 => ?_) (fun h_41 => ?_) | refine a_icmp_ge (tgt := 97) C dX6_opener_41 (by decide) (fun h_41 => ?_) (fun h_41 => ?_)
      · obtain rfl : c = 81 := by omega
        refine a_iload_n C dX6_opener_97 rfl rfl ?_
        refine f_iret C hr ?_ dX6_opener_98 ⟨?_, rfl⟩
        · rfl
        · rfl
      · refine a_aload_n C dX6_opener_44 rfl rfl ?_
        refine a_getfF C fX6_37 dX6_opener_45 (tw (by first | decide | omega)) (by first | decide | omega) rfl rfl ?_
        refine a_getfF C fX6_240 dX6_opener_48 (tw (by first | decide | omega)) (by first | decide | omega) rfl rfl ?_
        refine a_iload C dX6_opener_51 rfl ?_
        refine n_iald C dX6_opener_53 (tw (by first | decide | omega)) (by first | decide | omega) rfl rfl (by first | decide | omega) (by decide) rfl ?_
        refine a_iload_n C dX6_opener_54 rfl rfl ?_
        refine n_icmp_ge (tgt := 91) C dX6_opener_55 (by decide) (by first | decide | omega) (by first | decide | omega) (fun h_55 => ?_) (fun h_55 => ?_)
        · refine n_iinc C dX6_opener_91 rfl (by decide) ?_
          refine a_goto (tgt := 37) C dX6_opener_94 (by decide) ?_
          refine a_join (aLe_s ?_ (aLe_s ?_ (aLe_s ?_ (aLe_s ?_ (aLe_s ?_ aLe_nil))))) rfl rfl (zih37 (c + 1) (by omega) (by omega))
          · first | with_reducible rfl | exact gl (by first | with_reducible rfl | (refine iF ?_; simp [h_41, h_55]; done) | (refine iT ?_; simp [h_41, h_55]; done) | (refine iB ?_; simp [h_41, h_55]; done) | (simp [h_41, h_55]; done) | (simp [h_41, h_55]; omega) | omega)
          · first | with_reducible rfl | exact gl (by first | with_reducible rfl | (refine iF ?_; simp [h_41, h_55]; done) | (refine iT ?_; simp [h_41, h_55]; done) | (refine iB ?_; simp [h_41, h_55]; done) | (simp [h_41, h_55]; done) | (simp [h_41, h_55]; omega) | omega)
          · first | exact gl (opr_f (opC_f1 h_55)).1.symm | exact gl (opr_f (opC_f2 h_64)).1.symm | exact gl (opr_f (opC_f3 h_74)).1.symm | exact gl (opr_t h_41 (opC_t h_55 h_64 h_74)).1.symm
          · first | exact gl (congrArg nI (opr_f (opC_f1 h_55)).2.symm) | exact gl (congrArg nI (opr_f (opC_f2 h_64)).2.symm) | exact gl (congrArg nI (opr_f (opC_f3 h_74)).2.symm) | exact gl (congrArg nI (opr_t h_41 (opC_t h_55 h_64 h_74)).2.symm)
          · first | with_reducible rfl | exact gl (by first | with_reducible rfl | (refine iF ?_; simp [h_41, h_55]; done) | (refine iT ?_; simp [h_41, h_55]; done) | (refine iB ?_; simp [h_41, h_55]; done) | (simp [h_41, h_55]; done) | (simp [h_41, h_55]; omega) | omega)
        · refine a_aload_n C dX6_opener_58 rfl rfl ?_
          refine a_iload C dX6_opener_59 rfl ?_
          refine p_callV C (K_X6_isSound hD hA (by first | assumption | decide | omega)) vX6_282 rfl (by first | decide | omega) rfl rfl dX6_opener_61 (Nat.le_of_ble_eq_true rfl) ⟨by decide, by decide⟩ ?_
          first | refine b_if_eq (tgt := 91) C dX6_opener_64 (by decide) (fun h_64 => ?_) (fun h_64 => ?_) | refine n_if_eq (tgt := 91) C dX6_opener_64 (by decide) (by first | decide | omega) (fun h_64 => ?_) (fun h_64 => ?_) | refine a_if_eq (tgt := 91) C dX6_opener_64 (by decide) (fun h_64 => ?_) (fun h_64 => ?_)
          · refine n_iinc C dX6_opener_91 rfl (by decide) ?_
            refine a_goto (tgt := 37) C dX6_opener_94 (by decide) ?_
            refine a_join (aLe_s ?_ (aLe_s ?_ (aLe_s ?_ (aLe_s ?_ (aLe_s ?_ aLe_nil))))) rfl rfl (zih37 (c + 1) (by omega) (by omega))
            · first | with_reducible rfl | exact gl (by first | with_reducible rfl | (refine iF ?_; simp [h_41, h_55, h_64]; done) | (refine iT ?_; simp [h_41, h_55, h_64]; done) | (refine iB ?_; simp [h_41, h_55, h_64]; done) | (simp [h_41, h_55, h_64]; done) | (simp [h_41, h_55, h_64]; omega) | omega)
            · first | with_reducible rfl | exact gl (by first | with_reducible rfl | (refine iF ?_; simp [h_41, h_55, h_64]; done) | (refine iT ?_; simp [h_41, h_55, h_64]; done) | (refine iB ?_; simp [h_41, h_55, h_64]; done) | (simp [h_41, h_55, h_64]; done) | (simp [h_41, h_55, h_64]; omega) | omega)
            · first | exact gl (opr_f (opC_f1 h_55)).1.symm | exact gl (opr_f (opC_f2 h_64)).1.symm | exact gl (opr_f (opC_f3 h_74)).1.symm | exact gl (opr_t h_41 (opC_t h_55 h_64 h_74)).1.symm
            · first | exact gl (congrArg nI (opr_f (opC_f1 h_55)).2.symm) | exact gl (congrArg nI (opr_f (opC_f2 h_64)).2.symm) | exact gl (congrArg nI (opr_f (opC_f3 h_74)).2.symm) | exact gl (congrArg nI (opr_t h_41 (opC_t h_55 h_64 h_74)).2.symm)
            · first | with_reducible rfl | exact gl (by first | with_reducible rfl | (refine iF ?_; simp [h_41, h_55, h_64]; done) | (refine iT ?_; simp [h_41, h_55, h_64]; done) | (refine iB ?_; simp [h_41, h_55, h_64]; done) | (simp [h_41, h_55, h_64]; done) | (simp [h_41, h_55, h_64]; omega) | omega)
          · refine a_aload_n C dX6_opener_67 rfl rfl ?_
            refine a_iload C dX6_opener_68 rfl ?_
            refine a_iload_n C dX6_opener_70 rfl rfl ?_
            refine p_callV C (K_X6_opensAll hD hA (by first | assumption | decide | omega) (by first | assumption | decide | omega)) vX6_354 rfl (by first | decide | omega) rfl rfl dX6_opener_71 (Nat.le_of_ble_eq_true rfl) ⟨by decide, by decide⟩ ?_
            first | refine b_if_eq (tgt := 91) C dX6_opener_74 (by decide) (fun h_74 => ?_) (fun h_74 => ?_) | refine n_if_eq (tgt := 91) C dX6_opener_74 (by decide) (by first | decide | omega) (fun h_74 => ?_) (fun h_74 => ?_) | refine a_if_eq (tgt := 91) C dX6_opener_74 (by decide) (fun h_74 => ?_) (fun h_74 => ?_)
            · refine n_iinc C dX6_opener_91 rfl (by decide) ?_
              refine a_goto (tgt := 37) C dX6_opener_94 (by decide) ?_
              refine a_join (aLe_s ?_ (aLe_s ?_ (aLe_s ?_ (aLe_s ?_ (aLe_s ?_ aLe_nil))))) rfl rfl (zih37 (c + 1) (by omega) (by omega))
              · first | with_reducible rfl | exact gl (by first | with_reducible rfl | (refine iF ?_; simp [h_41, h_55, h_64, h_74]; done) | (refine iT ?_; simp [h_41, h_55, h_64, h_74]; done) | (refine iB ?_; simp [h_41, h_55, h_64, h_74]; done) | (simp [h_41, h_55, h_64, h_74]; done) | (simp [h_41, h_55, h_64, h_74]; omega) | omega)
              · first | with_reducible rfl | exact gl (by first | with_reducible rfl | (refine iF ?_; simp [h_41, h_55, h_64, h_74]; done) | (refine iT ?_; simp [h_41, h_55, h_64, h_74]; done) | (refine iB ?_; simp [h_41, h_55, h_64, h_74]; done) | (simp [h_41, h_55, h_64, h_74]; done) | (simp [h_41, h_55, h_64, h_74]; omega) | omega)
              · first | exact gl (opr_f (opC_f1 h_55)).1.symm | exact gl (opr_f (opC_f2 h_64)).1.symm | exact gl (opr_f (opC_f3 h_74)).1.symm | exact gl (opr_t h_41 (opC_t h_55 h_64 h_74)).1.symm
              · first | exact gl (congrArg nI (opr_f (opC_f1 h_55)).2.symm) | exact gl (congrArg nI (opr_f (opC_f2 h_64)).2.symm) | exact gl (congrArg nI (opr_f (opC_f3 h_74)).2.symm) | exact gl (congrArg nI (opr_t h_41 (opC_t h_55 h_64 h_74)).2.symm)
              · first | with_reducible rfl | exact gl (by first | with_reducible rfl | (refine iF ?_; simp [h_41, h_55, h_64, h_74]; done) | (refine iT ?_; simp [h_41, h_55, h_64, h_74]; done) | (refine iB ?_; simp [h_41, h_55, h_64, h_74]; done) | (simp [h_41, h_55, h_64, h_74]; done) | (simp [h_41, h_55, h_64, h_74]; omega) | omega)
            · refine a_iload C dX6_opener_77 rfl ?_
              refine a_istore_n C dX6_opener_79 rfl (by decide) ?_
              refine a_aload_n C dX6_opener_80 rfl rfl ?_
              refine a_getfF C fX6_37 dX6_opener_81 (tw (by first | decide | omega)) (by first | decide | omega) rfl rfl ?_
              refine a_getfF C fX6_240 dX6_opener_84 (tw (by first | decide | omega)) (by first | decide | omega) rfl rfl ?_
              refine a_iload C dX6_opener_87 rfl ?_
              refine n_iald C dX6_opener_89 (tw (by first | decide | omega)) (by first | decide | omega) rfl rfl (by first | decide | omega) (by decide) rfl ?_
              refine a_istore_n C dX6_opener_90 rfl (by decide) ?_
              refine n_iinc C dX6_opener_91 rfl (by decide) ?_
              refine a_goto (tgt := 37) C dX6_opener_94 (by decide) ?_
              refine a_join (aLe_s ?_ (aLe_s ?_ (aLe_s ?_ (aLe_s ?_ (aLe_s ?_ aLe_nil))))) rfl rfl (zih37 (c + 1) (by omega) (by omega))
              · first | with_reducible rfl | exact gl (by first | with_reducible rfl | (refine iF ?_; simp [h_41, h_55, h_64, h_74]; done) | (refine iT ?_; simp [h_41, h_55, h_64, h_74]; done) | (refine iB ?_; simp [h_41, h_55, h_64, h_74]; done) | (simp [h_41, h_55, h_64, h_74]; done) | (simp [h_41, h_55, h_64, h_74]; omega) | omega)
              · first | with_reducible rfl | exact gl (by first | with_reducible rfl | (refine iF ?_; simp [h_41, h_55, h_64, h_74]; done) | (refine iT ?_; simp [h_41, h_55, h_64, h_74]; done) | (refine iB ?_; simp [h_41, h_55, h_64, h_74]; done) | (simp [h_41, h_55, h_64, h_74]; done) | (simp [h_41, h_55, h_64, h_74]; omega) | omega)
              · first | exact gl (opr_f (opC_f1 h_55)).1.symm | exact gl (opr_f (opC_f2 h_64)).1.symm | exact gl (opr_f (opC_f3 h_74)).1.symm | exact gl (opr_t h_41 (opC_t h_55 h_64 h_74)).1.symm
              · first | exact gl (congrArg nI (opr_f (opC_f1 h_55)).2.symm) | exact gl (congrArg nI (opr_f (opC_f2 h_64)).2.symm) | exact gl (congrArg nI (opr_f (opC_f3 h_74)).2.symm) | exact gl (congrArg nI (opr_t h_41 (opC_t h_55 h_64 h_74)).2.symm)
              · first | with_reducible rfl | exact gl (by first | with_reducible rfl | (refine iF ?_; simp [h_41, h_55, h_64, h_74]; done) | (refine iT ?_; simp [h_41, h_55, h_64, h_74]; done) | (refine iB ?_; simp [h_41, h_55, h_64, h_74]; done) | (simp [h_41, h_55, h_64, h_74]; done) | (simp [h_41, h_55, h_64, h_74]; omega) | omega)
  refine a_pad 3 ?_
  refine a_eq (L' := [some (.ref 0), some (.int (nI x)), none, none, none]) rfl rfl rfl ?_
  refine a_iload_n C dX6_opener_0 rfl rfl ?_
  refine n_if_le (tgt := 18) C dX6_opener_1 (by decide) (by first | decide | omega)  (fun h_1 => ?_) (fun h_1 => ?_)
  · exfalso; omega
  · refine a_iload_n C dX6_opener_4 rfl rfl ?_
    refine a_bipush (v := nI 64) C dX6_opener_5 (by decide) ?_
    refine n_icmp_ge (tgt := 18) C dX6_opener_7 (by decide) (by first | decide | omega) (by first | decide | omega) (fun h_7 => ?_) (fun h_7 => ?_)
    · exfalso; omega
    · refine a_aload_n C dX6_opener_10 rfl rfl ?_
      refine a_iload_n C dX6_opener_11 rfl rfl ?_
      refine p_callV C (K_X6_hasAllLocks hD hA (by first | assumption | decide | omega)) vX6_349 rfl (by first | decide | omega) rfl rfl dX6_opener_12 (Nat.le_of_ble_eq_true rfl) ⟨by decide, by decide⟩ ?_
      refine b_if_ne (tgt := 29) C dX6_opener_15 (by decide) (fun h_15 => ?_) (fun h_15 => ?_)
      · refine a_iconst (v := (-1)) C dX6_opener_29 (by decide) ?_
        refine a_istore_n C dX6_opener_30 rfl (by decide) ?_
        refine a_bipush (v := nI 9) C dX6_opener_31 (by decide) ?_
        refine a_istore_n C dX6_opener_33 rfl (by decide) ?_
        refine a_iconst (v := nI 0) C dX6_opener_34 (by decide) ?_
        refine a_istore C dX6_opener_35 (by decide) ?_
        refine a_join (aLe_s ?_ (aLe_s ?_ (aLe_s ?_ (aLe_s ?_ (aLe_s ?_ aLe_nil))))) rfl rfl (ZL37 (81 + 1) 0 (by omega) (by omega))
        · first | with_reducible rfl | exact gl (by first | with_reducible rfl | (refine iF ?_; simp []; done) | (refine iT ?_; simp []; done) | (refine iB ?_; simp []; done) | (simp []; done) | (simp []; omega) | omega | rfl)
        · first | with_reducible rfl | exact gl (by first | with_reducible rfl | (refine iF ?_; simp []; done) | (refine iT ?_; simp []; done) | (refine iB ?_; simp []; done) | (simp []; done) | (simp []; omega) | omega | rfl)
        · first | with_reducible rfl | exact gl (by first | with_reducible rfl | (refine iF ?_; simp []; done) | (refine iT ?_; simp []; done) | (refine iB ?_; simp []; done) | (simp []; done) | (simp []; omega) | omega | rfl)
        · first | with_reducible rfl | exact gl (by first | with_reducible rfl | (refine iF ?_; simp []; done) | (refine iT ?_; simp []; done) | (refine iB ?_; simp []; done) | (simp []; done) | (simp []; omega) | omega | rfl)
        · first | with_reducible rfl | exact gl (by first | with_reducible rfl | (refine iF ?_; simp []; done) | (refine iT ?_; simp []; done) | (refine iB ?_; simp []; done) | (simp []; done) | (simp []; omega) | omega | rfl)
      · exact absurd (h_15.symm.trans zf1) (by decide)

end A15

section A18
theorem KV_ofKey {w : Wd} {A : St} (hR : RR w A) {k j : Nat} {x : Int32} (hk : 40 + 6 * k + j < 112) (hx : A (40 + 6 * k + j) = x) : CP yX7_ofKey cX7_ofKey 3 (some .int) 0 0 [.ref 204, .int (nI k), .int (nI j)] w (.int x) := by
  rw [← hx]
  exact K_X7_ofKey hR hk
def cutA (A : St) (c q : Nat) : St := upd (upd (upd (upd (upd (upd (upd (upd A (40 + 6 * kN A + 0) (nI c)) (40 + 6 * kN A + 1) (nI q)) (40 + 6 * kN A + 2) (nI 0)) (40 + 6 * kN A + 3) (nI c)) (40 + 6 * kN A + 4) (nI 0)) (40 + 6 * kN A + 5) (nI 0)) 0 (nI (kN A + 1))) 1 (A 1 + nI (sN A 1 * lvN c))
def deeA (A : St) (k j : Nat) : St := upd (upd A (40 + 6 * k + 0) (nI (cN A k + wtN j))) 1 (A 1 + nI (sN A 1))
def losA (A : St) (k : Nat) (b : Bool) : St := upd A (40 + 6 * k + 2) (bI b)
/-- a use: the key's code behind it -/
def behA (A : St) (k : Nat) : Nat := if wrA A (A (40 + 6 * k + 4) + nI 1) then woN (cN A k) else cN A k
def tu1A (A : St) (k : Nat) : St := upd A (40 + 6 * k + 4) (A (40 + 6 * k + 4) + nI 1)
def tu4A (A : St) (k p : Nat) : St := upd (upd (upd (tu1A A k) (12 + oN A k) (A (12 + oN A k) + nI 1)) (16 + 4 * p + 2) (A (16 + 4 * p + 2) + nI 1)) 2 (A 2 + nI 1)
def tu7A (A : St) (k p : Nat) : St := upd (upd (upd (tu4A A k p) (40 + 6 * k + 0) (nI (behA A k))) (40 + 6 * k + 5) (A (40 + 6 * k + 5) + nI 1)) 4 (A 4 + nI 1)
def failA (A : St) (p : Nat) : St := upd (upd A (16 + 4 * p + 3) (A (16 + 4 * p + 3) + nI 1)) 3 (A 3 + nI 1)
def turA (A : St) (k p : Nat) : St := if opnA A (cN A k) p then (if behA A k = cN A k then tu4A A k p else tu7A A k p) else failA A p
theorem opn_k {A : St} {i : Nat} {x : Int32} {c p : Nat} (hp : p < 6) (hi : 40 ≤ i) : opnA (upd A i x) c p = opnA A c p := by
  unfold opnA wdA gdA wN gN
  rw [upd_ne (by omega), upd_ne (by omega)]
theorem lks_k {A : St} {i : Nat} {x : Int32} {c : Nat} (hi : 40 ≤ i) : lksA (upd A i x) c = lksA A c := mskN_congr 6 (fun p hp => opn_k hp hi)
theorem losA_ok {A : St} (hA : AOK A) (k : Nat) (b : Bool) : AOK (losA A k b) := hA.upd (by rw [okB_k2]; exact bI_in b) (Or.inr (Or.inl (by omega)))
theorem lks_lt (A : St) (c : Nat) : lksA A c < 64 := mskN_lt _ 6
theorem kys_lt {A : St} (hA : AOK A) (p : Nat) : kysA A p < 2 ^ 12 := Nat.lt_of_lt_of_le (mskN_lt _ (kN A)) (Nat.pow_le_pow_right (by decide) hA.n12)
theorem fr_u {k : Nat} : frI (40 + 6 * k + 4) = true := by
  unfold frI
  rw [decide_eq_true (show 12 ≤ 40 + 6 * k + 4 by omega), decide_eq_true (show 40 ≤ 40 + 6 * k + 4 by omega), decide_eq_true (show 3 ≤ (40 + 6 * k + 4 - 40) % 6 by omega)]
  simp
theorem fr_p {q : Nat} (hq : q < 4) : frI (12 + q) = true := by
  unfold frI
  rw [decide_eq_true (show 12 ≤ 12 + q by omega), decide_eq_true (show 12 + q < 16 by omega), decide_eq_true (show 12 + q < 40 by omega)]
  simp
theorem fr_l2 {p j : Nat} (hp : p < 6) (hj : 2 ≤ j ∧ j < 4) : frI (16 + 4 * p + j) = true := by
  unfold frI
  rw [decide_eq_true (show 12 ≤ 16 + 4 * p + j by omega), decide_eq_true (show 2 ≤ (16 + 4 * p + j - 16) % 4 by omega), decide_eq_true (show 16 + 4 * p + j < 40 by omega)]
  simp
theorem tu1_ok {A : St} (hA : AOK A) (k : Nat) : AOK (tu1A A k) := hA.upd (okB_k3 (by decide) _) (Or.inr (Or.inl (by omega)))
theorem tu4_ok {A : St} (hA : AOK A) {k p : Nat} (hk : k < 12) (hp : p < 6) : AOK (tu4A A k p) := by
  have zq_o := hA.o4 hk
  exact (((tu1_ok hA k).upd (okB_i (by omega) _) (Or.inl (by omega))).upd (okB_l2 hp (by decide) _) (by omega)).upd (okB_i (by decide) _) (Or.inl (by decide))
theorem tu4_ae {A : St} (hA : AOK A) {k p : Nat} (hk : k < 12) (hp : p < 6) : AE (tu4A A k p) A := ((AE_upd rfl).trans (AE_upd (fr_l2 hp (by decide)))).trans ((AE_upd (fr_p (hA.o4 hk))).trans (AE_upd fr_u))
theorem tur_f {A : St} {k p : Nat} (h : opnA A (cN A k) p = false) : failA A p = turA A k p := by
  unfold turA
  rw [h]
  rfl
theorem tur_4 {A : St} {k p : Nat} (h : opnA A (cN A k) p = true) (h2 : behA A k = cN A k) : tu4A A k p = turA A k p := by
  unfold turA
  rw [h, if_pos rfl, if_pos h2]
theorem tur_7 {A : St} {k p : Nat} (h : opnA A (cN A k) p = true) (h2 : ¬ behA A k = cN A k) : tu7A A k p = turA A k p := by
  unfold turA
  rw [h, if_pos rfl, if_neg h2]
theorem beh_lt {A : St} (hA : AOK A) {k : Nat} (hk : k < 12) : behA A k < 81 := by
  unfold behA
  split
  · exact woN_lt (hA.c81 hk)
  · exact hA.c81 hk
set_option maxRecDepth 20000 in
set_option maxHeartbeats 4000000 in
theorem K_X7_doesCut {w : Wd} {A : St} (hR : RR w A) (hA : AOK A) {c q : Nat} (hn : kN A < 12) (hc : c < 81) (hq : q < 4) : CF yX7_doesCut cX7_doesCut 4 (some .int) 1 20 [.ref 204, .int (nI c), .int (nI q)] w (fun r w' => r = some (.int (nI (kN A))) ∧ w' = wRow w 205 (cutA A c q)) := by
  have zq_l := lvN_le c
  have zq_s := hA.s10 (j := 1) (by decide)
  refine CF.of ok_X7_doesCut (Nat.le_of_ble_eq_true rfl) (fun ex us G9 p9 l9 e9 s9 m9 ar9 be9 me9 co9 C hr => ?_)
  refine a_pad 1 ?_
  refine a_eq (L' := [some (.ref 204), some (.int (nI c)), some (.int (nI q)), none]) rfl rfl rfl ?_
  refine a_wd (RR_row hR) ?_
  refine a_bipush (v := nI 40) C dX7_doesCut_0 (by decide) ?_
  refine a_bipush (v := nI 6) C dX7_doesCut_2 (by decide) ?_
  refine a_aload_n C dX7_doesCut_4 rfl rfl ?_
  refine a_getfF C fX7_7 dX7_doesCut_5 (show _ < 219 from (by first | decide | omega)) (by first | decide | omega) rfl rfl ?_
  refine a_iconst (v := nI 0) C dX7_doesCut_8 (by decide) ?_
  refine n_iald C dX7_doesCut_9 (show _ < 219 from (by first | decide | omega)) (by first | decide | omega) rfl rfl (by first | decide | omega) (by decide) (RR_self.at.trans (show _ = nI (kN A) from by (repeat rw [upd_ne (by omega)]); exact hA.n)) ?_
  first | refine n_imul C dX7_doesCut_10 ?_ | refine a_imul C dX7_doesCut_10 ?_
  first | refine n_iadd C dX7_doesCut_11 ?_ | refine a_iadd C dX7_doesCut_11 ?_
  refine a_istore_n C dX7_doesCut_12 rfl (by decide) ?_
  refine a_aload_n C dX7_doesCut_13 rfl rfl ?_
  refine a_getfF C fX7_7 dX7_doesCut_14 (show _ < 219 from (by first | decide | omega)) (by first | decide | omega) rfl rfl ?_
  refine a_iload_n C dX7_doesCut_17 rfl rfl ?_
  refine a_iconst (v := nI 0) C dX7_doesCut_18 (by decide) ?_
  first | refine n_iadd C dX7_doesCut_19 ?_ | refine a_iadd C dX7_doesCut_19 ?_
  refine a_iload_n C dX7_doesCut_20 rfl rfl ?_
  refine f_iast C dX7_doesCut_21 (by first | decide | omega) rfl rfl (by first | decide | omega) (by decide)  rfl ?_
  refine a_wd wSet_row ?_
  refine a_aload_n C dX7_doesCut_22 rfl rfl ?_
  refine a_getfF C fX7_7 dX7_doesCut_23 (show _ < 219 from (by first | decide | omega)) (by first | decide | omega) rfl rfl ?_
  refine a_iload_n C dX7_doesCut_26 rfl rfl ?_
  refine a_iconst (v := nI 1) C dX7_doesCut_27 (by decide) ?_
  first | refine n_iadd C dX7_doesCut_28 ?_ | refine a_iadd C dX7_doesCut_28 ?_
  refine a_iload_n C dX7_doesCut_29 rfl rfl ?_
  refine f_iast C dX7_doesCut_30 (by first | decide | omega) rfl rfl (by first | decide | omega) (by decide)  rfl ?_
  refine a_wd wSet_row ?_
  refine a_aload_n C dX7_doesCut_31 rfl rfl ?_
  refine a_getfF C fX7_7 dX7_doesCut_32 (show _ < 219 from (by first | decide | omega)) (by first | decide | omega) rfl rfl ?_
  refine a_iload_n C dX7_doesCut_35 rfl rfl ?_
  refine a_iconst (v := nI 2) C dX7_doesCut_36 (by decide) ?_
  first | refine n_iadd C dX7_doesCut_37 ?_ | refine a_iadd C dX7_doesCut_37 ?_
  refine a_iconst (v := nI 0) C dX7_doesCut_38 (by decide) ?_
  refine f_iast C dX7_doesCut_39 (by first | decide | omega) rfl rfl (by first | decide | omega) (by decide)  rfl ?_
  refine a_wd wSet_row ?_
  refine a_aload_n C dX7_doesCut_40 rfl rfl ?_
  refine a_getfF C fX7_7 dX7_doesCut_41 (show _ < 219 from (by first | decide | omega)) (by first | decide | omega) rfl rfl ?_
  refine a_iload_n C dX7_doesCut_44 rfl rfl ?_
  refine a_iconst (v := nI 3) C dX7_doesCut_45 (by decide) ?_
  first | refine n_iadd C dX7_doesCut_46 ?_ | refine a_iadd C dX7_doesCut_46 ?_
  refine a_iload_n C dX7_doesCut_47 rfl rfl ?_
  refine f_iast C dX7_doesCut_48 (by first | decide | omega) rfl rfl (by first | decide | omega) (by decide)  rfl ?_
  refine a_wd wSet_row ?_
  refine a_aload_n C dX7_doesCut_49 rfl rfl ?_
  refine a_getfF C fX7_7 dX7_doesCut_50 (show _ < 219 from (by first | decide | omega)) (by first | decide | omega) rfl rfl ?_
  refine a_iload_n C dX7_doesCut_53 rfl rfl ?_
  refine a_iconst (v := nI 4) C dX7_doesCut_54 (by decide) ?_
  first | refine n_iadd C dX7_doesCut_55 ?_ | refine a_iadd C dX7_doesCut_55 ?_
  refine a_iconst (v := nI 0) C dX7_doesCut_56 (by decide) ?_
  refine f_iast C dX7_doesCut_57 (by first | decide | omega) rfl rfl (by first | decide | omega) (by decide)  rfl ?_
  refine a_wd wSet_row ?_
  refine a_aload_n C dX7_doesCut_58 rfl rfl ?_
  refine a_getfF C fX7_7 dX7_doesCut_59 (show _ < 219 from (by first | decide | omega)) (by first | decide | omega) rfl rfl ?_
  refine a_iload_n C dX7_doesCut_62 rfl rfl ?_
  refine a_iconst (v := nI 5) C dX7_doesCut_63 (by decide) ?_
  first | refine n_iadd C dX7_doesCut_64 ?_ | refine a_iadd C dX7_doesCut_64 ?_
  refine a_iconst (v := nI 0) C dX7_doesCut_65 (by decide) ?_
  refine f_iast C dX7_doesCut_66 (by first | decide | omega) rfl rfl (by first | decide | omega) (by decide)  rfl ?_
  refine a_wd wSet_row ?_
  refine a_aload_n C dX7_doesCut_67 rfl rfl ?_
  refine a_getfF C fX7_7 dX7_doesCut_68 (show _ < 219 from (by first | decide | omega)) (by first | decide | omega) rfl rfl ?_
  refine a_iconst (v := nI 0) C dX7_doesCut_71 (by decide) ?_
  refine a_dup2 C dX7_doesCut_72 rfl rfl ?_
  refine n_iald C dX7_doesCut_73 (show _ < 219 from (by first | decide | omega)) (by first | decide | omega) rfl rfl (by first | decide | omega) (by decide) (RR_self.at.trans (show _ = nI (kN A) from by (repeat rw [upd_ne (by omega)]); exact hA.n)) ?_
  refine a_iconst (v := nI 1) C dX7_doesCut_74 (by decide) ?_
  first | refine n_iadd C dX7_doesCut_75 ?_ | refine a_iadd C dX7_doesCut_75 ?_
  refine f_iast C dX7_doesCut_76 (by first | decide | omega) rfl rfl (by first | decide | omega) (by decide)  rfl ?_
  refine a_wd wSet_row ?_
  refine a_aload_n C dX7_doesCut_77 rfl rfl ?_
  refine a_getfF C fX7_7 dX7_doesCut_78 (show _ < 219 from (by first | decide | omega)) (by first | decide | omega) rfl rfl ?_
  refine a_iconst (v := nI 1) C dX7_doesCut_81 (by decide) ?_
  refine a_dup2 C dX7_doesCut_82 rfl rfl ?_
  refine n_iald C dX7_doesCut_83 (show _ < 219 from (by first | decide | omega)) (by first | decide | omega) rfl rfl (by first | decide | omega) (by decide) (RR_self.at.trans (show _ = A (1) from by (repeat rw [upd_ne (by omega)]) <;> rfl)) ?_
  refine a_aload_n C dX7_doesCut_84 rfl rfl ?_
  refine a_getfF C fX7_7 dX7_doesCut_85 (show _ < 219 from (by first | decide | omega)) (by first | decide | omega) rfl rfl ?_
  refine a_bipush (v := nI 9) C dX7_doesCut_88 (by decide) ?_
  refine n_iald C dX7_doesCut_90 (show _ < 219 from (by first | decide | omega)) (by first | decide | omega) rfl rfl (by first | decide | omega) (by decide) (RR_self.at.trans (show _ = nI (sN A 1) from by (repeat rw [upd_ne (by omega)]); exact hA.s (j := 1) (by decide))) ?_
  refine a_iload_n C dX7_doesCut_91 rfl rfl ?_
  refine p_callS C ((K_X7_levelOf (by first | assumption | decide | omega))).cp sX7_104 rfl dX7_doesCut_92 (Nat.le_of_ble_eq_true rfl) ⟨by decide, by decide⟩ ?_
  first | refine n_imul C dX7_doesCut_95 ?_ | refine a_imul C dX7_doesCut_95 ?_
  first | refine n_iadd C dX7_doesCut_96 ?_ | refine a_iadd C dX7_doesCut_96 ?_
  refine f_iast C dX7_doesCut_97 (by first | decide | omega) rfl rfl (by first | decide | omega) (by decide)  rfl ?_
  refine a_wd wSet_row ?_
  refine a_aload_n C dX7_doesCut_98 rfl rfl ?_
  refine a_getfF C fX7_7 dX7_doesCut_99 (show _ < 219 from (by first | decide | omega)) (by first | decide | omega) rfl rfl ?_
  refine a_iconst (v := nI 0) C dX7_doesCut_102 (by decide) ?_
  refine n_iald C dX7_doesCut_103 (show _ < 219 from (by first | decide | omega)) (by first | decide | omega) rfl rfl (by first | decide | omega) (by decide) (RR_self.at.trans (show _ = nI (kN A + 1) from by rw [upd_ne (by omega), upd_at])) ?_
  refine a_iconst (v := nI 1) C dX7_doesCut_104 (by decide) ?_
  refine n_isub C dX7_doesCut_105 (by omega) ?_
  refine f_iret C hr ?_ dX7_doesCut_106 ⟨?_, ?_⟩
  · rfl
  · first | with_reducible rfl | exact gl (by first | with_reducible rfl | (refine iF ?_; simp []; done) | (refine iT ?_; simp []; done) | (refine iB ?_; simp []; done) | (simp []; done) | (simp []; omega) | omega | rfl)
  · first | with_reducible rfl | exact wSet2 | rfl

set_option maxRecDepth 20000 in
set_option maxHeartbeats 4000000 in
theorem K_X7_doesDeepen {w : Wd} {A : St} (hR : RR w A) (hA : AOK A) {k j : Nat} (hk : k < kN A) (hj : j < 4) : CF yX7_doesDeepen cX7_doesDeepen 3 (some .int) 1 22 [.ref 204, .int (nI k), .int (nI j)] w (fun r w' => r = some (.int (nI (cN A k + wtN j))) ∧ w' = wRow w 205 (deeA A k j)) := by
  have zq_n := hA.n12
  refine CF.of ok_X7_doesDeepen (Nat.le_of_ble_eq_true rfl) (fun ex us G9 p9 l9 e9 s9 m9 ar9 be9 me9 co9 C hr => ?_)
  refine a_wd (RR_row hR) ?_
  refine a_aload_n C dX7_doesDeepen_0 rfl rfl ?_
  refine a_getfF C fX7_7 dX7_doesDeepen_1 (show _ < 219 from (by first | decide | omega)) (by first | decide | omega) rfl rfl ?_
  refine a_bipush (v := nI 40) C dX7_doesDeepen_4 (by decide) ?_
  refine a_bipush (v := nI 6) C dX7_doesDeepen_6 (by decide) ?_
  refine a_iload_n C dX7_doesDeepen_8 rfl rfl ?_
  first | refine n_imul C dX7_doesDeepen_9 ?_ | refine a_imul C dX7_doesDeepen_9 ?_
  first | refine n_iadd C dX7_doesDeepen_10 ?_ | refine a_iadd C dX7_doesDeepen_10 ?_
  refine a_iconst (v := nI 0) C dX7_doesDeepen_11 (by decide) ?_
  first | refine n_iadd C dX7_doesDeepen_12 ?_ | refine a_iadd C dX7_doesDeepen_12 ?_
  refine a_dup2 C dX7_doesDeepen_13 rfl rfl ?_
  refine n_iald C dX7_doesDeepen_14 (show _ < 219 from (by first | decide | omega)) (by first | decide | omega) rfl rfl (by first | decide | omega) (by decide) (RR_self.at.trans (show _ = nI (cN A k) from by (repeat rw [upd_ne (by omega)]); exact hA.c (by omega))) ?_
  refine a_iload_n C dX7_doesDeepen_15 rfl rfl ?_
  refine p_callS C ((K_X7_worth (by first | assumption | decide | omega))).cp sX7_79 rfl dX7_doesDeepen_16 (Nat.le_of_ble_eq_true rfl) ⟨by decide, by decide⟩ ?_
  first | refine n_iadd C dX7_doesDeepen_19 ?_ | refine a_iadd C dX7_doesDeepen_19 ?_
  refine f_iast C dX7_doesDeepen_20 (by first | decide | omega) rfl rfl (by first | decide | omega) (by decide)  rfl ?_
  refine a_wd wSet_row ?_
  refine a_aload_n C dX7_doesDeepen_21 rfl rfl ?_
  refine a_getfF C fX7_7 dX7_doesDeepen_22 (show _ < 219 from (by first | decide | omega)) (by first | decide | omega) rfl rfl ?_
  refine a_iconst (v := nI 1) C dX7_doesDeepen_25 (by decide) ?_
  refine a_dup2 C dX7_doesDeepen_26 rfl rfl ?_
  refine n_iald C dX7_doesDeepen_27 (show _ < 219 from (by first | decide | omega)) (by first | decide | omega) rfl rfl (by first | decide | omega) (by decide) (RR_self.at.trans (show _ = A (1) from by (repeat rw [upd_ne (by omega)]) <;> rfl)) ?_
  refine a_aload_n C dX7_doesDeepen_28 rfl rfl ?_
  refine a_getfF C fX7_7 dX7_doesDeepen_29 (show _ < 219 from (by first | decide | omega)) (by first | decide | omega) rfl rfl ?_
  refine a_bipush (v := nI 9) C dX7_doesDeepen_32 (by decide) ?_
  refine n_iald C dX7_doesDeepen_34 (show _ < 219 from (by first | decide | omega)) (by first | decide | omega) rfl rfl (by first | decide | omega) (by decide) (RR_self.at.trans (show _ = nI (sN A 1) from by (repeat rw [upd_ne (by omega)]); exact hA.s (j := 1) (by decide))) ?_
  first | refine n_iadd C dX7_doesDeepen_35 ?_ | refine a_iadd C dX7_doesDeepen_35 ?_
  refine f_iast C dX7_doesDeepen_36 (by first | decide | omega) rfl rfl (by first | decide | omega) (by decide)  rfl ?_
  refine a_wd wSet_row ?_
  refine a_aload_n C dX7_doesDeepen_37 rfl rfl ?_
  refine a_iload_n C dX7_doesDeepen_38 rfl rfl ?_
  refine a_iconst (v := nI 0) C dX7_doesDeepen_39 (by decide) ?_
  refine p_callV C (KV_ofKey (j := 0) (x := nI (cN A k + wtN j)) RR_self (by omega) (by rw [upd_ne (by omega), upd_at])) vX7_85 rfl (by first | decide | omega) rfl rfl dX7_doesDeepen_40 (Nat.le_of_ble_eq_true rfl) ⟨by decide, by decide⟩ ?_
  refine f_iret C hr ?_ dX7_doesDeepen_43 ⟨?_, ?_⟩
  · rfl
  · first | with_reducible rfl | exact gl (by first | with_reducible rfl | (refine iF ?_; simp []; done) | (refine iT ?_; simp []; done) | (refine iB ?_; simp []; done) | (simp []; done) | (simp []; omega) | omega | rfl)
  · first | with_reducible rfl | exact wSet2 | rfl

set_option maxRecDepth 20000 in
set_option maxHeartbeats 4000000 in
theorem K_X7_setsLost {w : Wd} {A : St} (hR : RR w A) (hA : AOK A) {k : Nat} (b : Bool) (hk : k < kN A) : CF yX7_setsLost cX7_setsLost 3 (some .int) 6 131 [.ref 204, .int (nI k), .int (bI b)] w (fun r w' => r = some (.int (nI (onesN (lksA A (cN A k))))) ∧ w' = wRow w 205 (losA A k b)) := by
  have zq_n := hA.n12
  have zq_c := hA.c81 (k := k) (by omega)
  have zq_k := lks_lt A (cN A k)
  refine CF.of ok_X7_setsLost (Nat.le_of_ble_eq_true rfl) (fun ex us G9 p9 l9 e9 s9 m9 ar9 be9 me9 co9 C hr => ?_)
  refine a_wd (RR_row hR) ?_
  refine a_aload_n C dX7_setsLost_0 rfl rfl ?_
  refine a_getfF C fX7_7 dX7_setsLost_1 (show _ < 219 from (by first | decide | omega)) (by first | decide | omega) rfl rfl ?_
  refine a_bipush (v := nI 40) C dX7_setsLost_4 (by decide) ?_
  refine a_bipush (v := nI 6) C dX7_setsLost_6 (by decide) ?_
  refine a_iload_n C dX7_setsLost_8 rfl rfl ?_
  first | refine n_imul C dX7_setsLost_9 ?_ | refine a_imul C dX7_setsLost_9 ?_
  first | refine n_iadd C dX7_setsLost_10 ?_ | refine a_iadd C dX7_setsLost_10 ?_
  refine a_iconst (v := nI 2) C dX7_setsLost_11 (by decide) ?_
  first | refine n_iadd C dX7_setsLost_12 ?_ | refine a_iadd C dX7_setsLost_12 ?_
  refine a_iload_n C dX7_setsLost_13 rfl rfl ?_
  refine f_iast C dX7_setsLost_14 (by first | decide | omega) rfl rfl (by first | decide | omega) (by decide)  rfl ?_
  refine a_wd wSet_row ?_
  refine a_aload_n C dX7_setsLost_15 rfl rfl ?_
  refine a_aload_n C dX7_setsLost_16 rfl rfl ?_
  refine a_iload_n C dX7_setsLost_17 rfl rfl ?_
  refine a_iconst (v := nI 0) C dX7_setsLost_18 (by decide) ?_
  refine p_callV C (KV_ofKey (j := 0) (x := nI (cN A k)) RR_self (by omega) (by rw [upd_ne (by omega)]; exact hA.c (by omega))) vX7_85 rfl (by first | decide | omega) rfl rfl dX7_setsLost_19 (Nat.le_of_ble_eq_true rfl) ⟨by decide, by decide⟩ ?_
  refine p_callV C (K_X7_locksOf (w := wRow w 205 (losA A k b)) RR_self (losA_ok hA k b) zq_c) vX7_113 rfl (by first | decide | omega) rfl rfl dX7_setsLost_22 (Nat.le_of_ble_eq_true rfl) ⟨by decide, by decide⟩ ?_
  refine a_eq (st' := [.int (nI (lksA A (cN A k)))]) rfl (by rw [losA, lks_k (by omega)]) rfl ?_
  refine p_callS C ((K_X7_ones (by omega))).cp sX7_116 rfl dX7_setsLost_25 (Nat.le_of_ble_eq_true rfl) ⟨by decide, by decide⟩ ?_
  refine f_iret C hr ?_ dX7_setsLost_28 ⟨?_, ?_⟩
  · rfl
  · first | with_reducible rfl | exact gl (by first | with_reducible rfl | (refine iF ?_; simp []; done) | (refine iT ?_; simp []; done) | (refine iB ?_; simp []; done) | (simp []; done) | (simp []; omega) | omega | rfl)
  · first | with_reducible rfl | exact wSet2 | rfl

set_option maxRecDepth 20000 in
set_option maxHeartbeats 4000000 in
theorem K_X7_doesTurn {w : Wd} {A : St} (hR : RR w A) (hA : AOK A) {k p : Nat} (hk : k < kN A) (hp : p < 6) : CF yX7_doesTurn cX7_doesTurn 5 (some .int) 5 108 [.ref 204, .int (nI k), .int (nI p)] w (fun r w' => r = some (.int (bI (opnA A (cN A k) p))) ∧ w' = wRow w 205 (turA A k p)) := by
  have zq_n := hA.n12
  have zq_c := hA.c81 (k := k) (by omega)
  have zq_o := hA.o4 (k := k) (by omega)
  have zq_ok4 := tu4_ok hA (k := k) (p := p) (by omega) hp
  have zq_ae := tu4_ae hA (k := k) (p := p) (by omega) hp
  have zq_b := beh_lt hA (k := k) (by omega)
  refine CF.of ok_X7_doesTurn (Nat.le_of_ble_eq_true rfl) (fun ex us G9 p9 l9 e9 s9 m9 ar9 be9 me9 co9 C hr => ?_)
  refine a_pad 2 ?_
  refine a_eq (L' := [some (.ref 204), some (.int (nI k)), some (.int (nI p)), none, none]) rfl rfl rfl ?_
  refine a_wd (RR_row hR) ?_
  have hR : RR (wRow w 205 A) A := RR_self
  refine a_aload_n C dX7_doesTurn_0 rfl rfl ?_
  refine a_iload_n C dX7_doesTurn_1 rfl rfl ?_
  refine a_iconst (v := nI 0) C dX7_doesTurn_2 (by decide) ?_
  refine p_callV C (KC_ofKey0 hR hA (by first | assumption | decide | omega)) vX7_85 rfl (by first | decide | omega) rfl rfl dX7_doesTurn_3 (Nat.le_of_ble_eq_true rfl) ⟨by decide, by decide⟩ ?_
  refine a_istore_n C dX7_doesTurn_6 rfl (by decide) ?_
  refine a_aload_n C dX7_doesTurn_7 rfl rfl ?_
  refine a_iload_n C dX7_doesTurn_8 rfl rfl ?_
  refine a_iload_n C dX7_doesTurn_9 rfl rfl ?_
  refine p_callV C (K_X7_opens hR hA (by first | assumption | decide | omega) (by first | assumption | decide | omega)) vX7_101 rfl (by first | decide | omega) rfl rfl dX7_doesTurn_10 (Nat.le_of_ble_eq_true rfl) ⟨by decide, by decide⟩ ?_
  first | refine b_if_ne (tgt := 45) C dX7_doesTurn_13 (by decide) (fun h_13 => ?_) (fun h_13 => ?_) | refine n_if_ne (tgt := 45) C dX7_doesTurn_13 (by decide) (by first | decide | omega) (fun h_13 => ?_) (fun h_13 => ?_) | refine a_if_ne (tgt := 45) C dX7_doesTurn_13 (by decide) (fun h_13 => ?_) (fun h_13 => ?_)
  · refine a_aload_n C dX7_doesTurn_45 rfl rfl ?_
    refine a_getfF C fX7_7 dX7_doesTurn_46 (show _ < 219 from (by first | decide | omega)) (by first | decide | omega) rfl rfl ?_
    refine a_bipush (v := nI 40) C dX7_doesTurn_49 (by decide) ?_
    refine a_bipush (v := nI 6) C dX7_doesTurn_51 (by decide) ?_
    refine a_iload_n C dX7_doesTurn_53 rfl rfl ?_
    first | refine n_imul C dX7_doesTurn_54 ?_ | refine a_imul C dX7_doesTurn_54 ?_
    first | refine n_iadd C dX7_doesTurn_55 ?_ | refine a_iadd C dX7_doesTurn_55 ?_
    refine a_iconst (v := nI 4) C dX7_doesTurn_56 (by decide) ?_
    first | refine n_iadd C dX7_doesTurn_57 ?_ | refine a_iadd C dX7_doesTurn_57 ?_
    refine a_dup2 C dX7_doesTurn_58 rfl rfl ?_
    refine n_iald C dX7_doesTurn_59 (show _ < 219 from (by first | decide | omega)) (by first | decide | omega) rfl rfl (by first | decide | omega) (by decide) (RR_self.at.trans (show _ = A (40 + 6 * k + 4) from by (repeat rw [upd_ne (by omega)]) <;> rfl)) ?_
    refine a_iconst (v := nI 1) C dX7_doesTurn_60 (by decide) ?_
    first | refine n_iadd C dX7_doesTurn_61 ?_ | refine a_iadd C dX7_doesTurn_61 ?_
    refine f_iast C dX7_doesTurn_62 (by first | decide | omega) rfl rfl (by first | decide | omega) (by decide)  rfl ?_
    refine a_wd wSet_row ?_
    refine a_aload_n C dX7_doesTurn_63 rfl rfl ?_
    refine a_getfF C fX7_7 dX7_doesTurn_64 (show _ < 219 from (by first | decide | omega)) (by first | decide | omega) rfl rfl ?_
    refine a_bipush (v := nI 12) C dX7_doesTurn_67 (by decide) ?_
    refine a_aload_n C dX7_doesTurn_69 rfl rfl ?_
    refine a_iload_n C dX7_doesTurn_70 rfl rfl ?_
    refine a_iconst (v := nI 1) C dX7_doesTurn_71 (by decide) ?_
    refine p_callV C (KV_ofKey (j := 1) (x := nI (oN A k)) RR_self (by omega) (by rw [upd_ne (by omega)]; exact hA.o (by omega))) vX7_85 rfl (by first | decide | omega) rfl rfl dX7_doesTurn_72 (Nat.le_of_ble_eq_true rfl) ⟨by decide, by decide⟩ ?_
    first | refine n_iadd C dX7_doesTurn_75 ?_ | refine a_iadd C dX7_doesTurn_75 ?_
    refine a_dup2 C dX7_doesTurn_76 rfl rfl ?_
    refine n_iald C dX7_doesTurn_77 (show _ < 219 from (by first | decide | omega)) (by first | decide | omega) rfl rfl (by first | decide | omega) (by decide) (RR_self.at.trans (show _ = A (12 + oN A k) from by (repeat rw [upd_ne (by omega)]) <;> rfl)) ?_
    refine a_iconst (v := nI 1) C dX7_doesTurn_78 (by decide) ?_
    first | refine n_iadd C dX7_doesTurn_79 ?_ | refine a_iadd C dX7_doesTurn_79 ?_
    refine f_iast C dX7_doesTurn_80 (by first | decide | omega) rfl rfl (by first | decide | omega) (by decide)  rfl ?_
    refine a_wd wSet_row ?_
    refine a_aload_n C dX7_doesTurn_81 rfl rfl ?_
    refine a_getfF C fX7_7 dX7_doesTurn_82 (show _ < 219 from (by first | decide | omega)) (by first | decide | omega) rfl rfl ?_
    refine a_bipush (v := nI 16) C dX7_doesTurn_85 (by decide) ?_
    refine a_iconst (v := nI 4) C dX7_doesTurn_87 (by decide) ?_
    refine a_iload_n C dX7_doesTurn_88 rfl rfl ?_
    first | refine n_imul C dX7_doesTurn_89 ?_ | refine a_imul C dX7_doesTurn_89 ?_
    first | refine n_iadd C dX7_doesTurn_90 ?_ | refine a_iadd C dX7_doesTurn_90 ?_
    refine a_iconst (v := nI 2) C dX7_doesTurn_91 (by decide) ?_
    first | refine n_iadd C dX7_doesTurn_92 ?_ | refine a_iadd C dX7_doesTurn_92 ?_
    refine a_dup2 C dX7_doesTurn_93 rfl rfl ?_
    refine n_iald C dX7_doesTurn_94 (show _ < 219 from (by first | decide | omega)) (by first | decide | omega) rfl rfl (by first | decide | omega) (by decide) (RR_self.at.trans (show _ = A (16 + 4 * p + 2) from by (repeat rw [upd_ne (by omega)]) <;> rfl)) ?_
    refine a_iconst (v := nI 1) C dX7_doesTurn_95 (by decide) ?_
    first | refine n_iadd C dX7_doesTurn_96 ?_ | refine a_iadd C dX7_doesTurn_96 ?_
    refine f_iast C dX7_doesTurn_97 (by first | decide | omega) rfl rfl (by first | decide | omega) (by decide)  rfl ?_
    refine a_wd wSet_row ?_
    refine a_aload_n C dX7_doesTurn_98 rfl rfl ?_
    refine a_getfF C fX7_7 dX7_doesTurn_99 (show _ < 219 from (by first | decide | omega)) (by first | decide | omega) rfl rfl ?_
    refine a_iconst (v := nI 2) C dX7_doesTurn_102 (by decide) ?_
    refine a_dup2 C dX7_doesTurn_103 rfl rfl ?_
    refine n_iald C dX7_doesTurn_104 (show _ < 219 from (by first | decide | omega)) (by first | decide | omega) rfl rfl (by first | decide | omega) (by decide) (RR_self.at.trans (show _ = A (2) from by (repeat rw [upd_ne (by omega)]) <;> rfl)) ?_
    refine a_iconst (v := nI 1) C dX7_doesTurn_105 (by decide) ?_
    first | refine n_iadd C dX7_doesTurn_106 ?_ | refine a_iadd C dX7_doesTurn_106 ?_
    refine f_iast C dX7_doesTurn_107 (by first | decide | omega) rfl rfl (by first | decide | omega) (by decide)  rfl ?_
    refine a_wd wSet_row ?_
    refine a_via 129 (nI (behA A k)) ?_ (fun zJ129 => ?_)
    · refine a_istore C dX7_doesTurn_129 (by decide) ?_
      refine a_iload C dX7_doesTurn_131 rfl ?_
      refine a_iload_n C dX7_doesTurn_133 rfl rfl ?_
      refine n_icmp_eq (tgt := 181) C dX7_doesTurn_134 (by decide) (by first | decide | omega) (by first | decide | omega) (fun h_134 => ?_) (fun h_134 => ?_)
      · refine a_iconst (v := nI 1) C dX7_doesTurn_181 (by decide) ?_
        refine f_iret C hr ?_ dX7_doesTurn_182 ⟨?_, ?_⟩
        · rfl
        · first | with_reducible rfl | exact gl (by first | with_reducible rfl | (refine iF ?_; simp [h_13, (eq_true h_134), (beq_iff_eq.mpr h_134), (bne_eq_false_iff_eq.mpr h_134)]; done) | (refine iT ?_; simp [h_13, (eq_true h_134), (beq_iff_eq.mpr h_134), (bne_eq_false_iff_eq.mpr h_134)]; done) | (refine iB ?_; simp [h_13, (eq_true h_134), (beq_iff_eq.mpr h_134), (bne_eq_false_iff_eq.mpr h_134)]; done) | (simp [h_13, (eq_true h_134), (beq_iff_eq.mpr h_134), (bne_eq_false_iff_eq.mpr h_134)]; done) | (simp [h_13, (eq_true h_134), (beq_iff_eq.mpr h_134), (bne_eq_false_iff_eq.mpr h_134)]; omega) | omega | rfl)
        · first | exact congrArg (wRow w 205) (tur_f h_13) | exact congrArg (wRow w 205) (tur_4 h_13 h_134) | exact congrArg (wRow w 205) (tur_7 h_13 h_134)
      · refine a_aload_n C dX7_doesTurn_137 rfl rfl ?_
        refine a_getfF C fX7_7 dX7_doesTurn_138 (show _ < 219 from (by first | decide | omega)) (by first | decide | omega) rfl rfl ?_
        refine a_bipush (v := nI 40) C dX7_doesTurn_141 (by decide) ?_
        refine a_bipush (v := nI 6) C dX7_doesTurn_143 (by decide) ?_
        refine a_iload_n C dX7_doesTurn_145 rfl rfl ?_
        first | refine n_imul C dX7_doesTurn_146 ?_ | refine a_imul C dX7_doesTurn_146 ?_
        first | refine n_iadd C dX7_doesTurn_147 ?_ | refine a_iadd C dX7_doesTurn_147 ?_
        refine a_iconst (v := nI 0) C dX7_doesTurn_148 (by decide) ?_
        first | refine n_iadd C dX7_doesTurn_149 ?_ | refine a_iadd C dX7_doesTurn_149 ?_
        refine a_iload C dX7_doesTurn_150 rfl ?_
        refine f_iast C dX7_doesTurn_152 (by first | decide | omega) rfl rfl (by first | decide | omega) (by decide)  rfl ?_
        refine a_wd wSet_row ?_
        refine a_aload_n C dX7_doesTurn_153 rfl rfl ?_
        refine a_getfF C fX7_7 dX7_doesTurn_154 (show _ < 219 from (by first | decide | omega)) (by first | decide | omega) rfl rfl ?_
        refine a_bipush (v := nI 40) C dX7_doesTurn_157 (by decide) ?_
        refine a_bipush (v := nI 6) C dX7_doesTurn_159 (by decide) ?_
        refine a_iload_n C dX7_doesTurn_161 rfl rfl ?_
        first | refine n_imul C dX7_doesTurn_162 ?_ | refine a_imul C dX7_doesTurn_162 ?_
        first | refine n_iadd C dX7_doesTurn_163 ?_ | refine a_iadd C dX7_doesTurn_163 ?_
        refine a_iconst (v := nI 5) C dX7_doesTurn_164 (by decide) ?_
        first | refine n_iadd C dX7_doesTurn_165 ?_ | refine a_iadd C dX7_doesTurn_165 ?_
        refine a_dup2 C dX7_doesTurn_166 rfl rfl ?_
        refine n_iald C dX7_doesTurn_167 (show _ < 219 from (by first | decide | omega)) (by first | decide | omega) rfl rfl (by first | decide | omega) (by decide) (RR_self.at.trans (show _ = A (40 + 6 * k + 5) from by (repeat rw [upd_ne (by omega)]) <;> rfl)) ?_
        refine a_iconst (v := nI 1) C dX7_doesTurn_168 (by decide) ?_
        first | refine n_iadd C dX7_doesTurn_169 ?_ | refine a_iadd C dX7_doesTurn_169 ?_
        refine f_iast C dX7_doesTurn_170 (by first | decide | omega) rfl rfl (by first | decide | omega) (by decide)  rfl ?_
        refine a_wd wSet_row ?_
        refine a_aload_n C dX7_doesTurn_171 rfl rfl ?_
        refine a_getfF C fX7_7 dX7_doesTurn_172 (show _ < 219 from (by first | decide | omega)) (by first | decide | omega) rfl rfl ?_
        refine a_iconst (v := nI 4) C dX7_doesTurn_175 (by decide) ?_
        refine a_dup2 C dX7_doesTurn_176 rfl rfl ?_
        refine n_iald C dX7_doesTurn_177 (show _ < 219 from (by first | decide | omega)) (by first | decide | omega) rfl rfl (by first | decide | omega) (by decide) (RR_self.at.trans (show _ = A (4) from by (repeat rw [upd_ne (by omega)]) <;> rfl)) ?_
        refine a_iconst (v := nI 1) C dX7_doesTurn_178 (by decide) ?_
        first | refine n_iadd C dX7_doesTurn_179 ?_ | refine a_iadd C dX7_doesTurn_179 ?_
        refine f_iast C dX7_doesTurn_180 (by first | decide | omega) rfl rfl (by first | decide | omega) (by decide)  rfl ?_
        refine a_wd wSet_row ?_
        refine a_iconst (v := nI 1) C dX7_doesTurn_181 (by decide) ?_
        refine f_iret C hr ?_ dX7_doesTurn_182 ⟨?_, ?_⟩
        · rfl
        · first | with_reducible rfl | exact gl (by first | with_reducible rfl | (refine iF ?_; simp [h_13, h_134, (beq_eq_false_iff_ne.mpr h_134), (bne_iff_ne.mpr h_134)]; done) | (refine iT ?_; simp [h_13, h_134, (beq_eq_false_iff_ne.mpr h_134), (bne_iff_ne.mpr h_134)]; done) | (refine iB ?_; simp [h_13, h_134, (beq_eq_false_iff_ne.mpr h_134), (bne_iff_ne.mpr h_134)]; done) | (simp [h_13, h_134, (beq_eq_false_iff_ne.mpr h_134), (bne_iff_ne.mpr h_134)]; done) | (simp [h_13, h_134, (beq_eq_false_iff_ne.mpr h_134), (bne_iff_ne.mpr h_134)]; omega) | omega | rfl)
        · first | exact congrArg (wRow w 205) (tur_f h_13) | exact congrArg (wRow w 205) (tur_4 h_13 h_134) | exact congrArg (wRow w 205) (tur_7 h_13 h_134)
    · refine a_aload_n C dX7_doesTurn_108 rfl rfl ?_
      refine a_aload_n C dX7_doesTurn_109 rfl rfl ?_
      refine a_iload_n C dX7_doesTurn_110 rfl rfl ?_
      refine a_iconst (v := nI 4) C dX7_doesTurn_111 (by decide) ?_
      refine p_callV C (KV_ofKey (j := 4) (x := A (40 + 6 * k + 4) + nI 1) RR_self (by omega) (by (repeat rw [upd_ne (by omega)]); rw [upd_at])) vX7_85 rfl (by first | decide | omega) rfl rfl dX7_doesTurn_112 (Nat.le_of_ble_eq_true rfl) ⟨by decide, by decide⟩ ?_
      refine p_callV C (K_X7_wears (w := wRow w 205 (tu4A A k p)) RR_self zq_ok4 (A (40 + 6 * k + 4) + nI 1)) vX7_107 rfl (by first | decide | omega) rfl rfl dX7_doesTurn_115 (Nat.le_of_ble_eq_true rfl) ⟨by decide, by decide⟩ ?_
      refine a_eq (st' := [.int (bI (wrA A (A (40 + 6 * k + 4) + nI 1)))]) rfl (by rw [zq_ae.wr]) rfl ?_
      first | refine b_if_eq (tgt := 128) C dX7_doesTurn_118 (by decide) (fun h_118 => ?_) (fun h_118 => ?_) | refine n_if_eq (tgt := 128) C dX7_doesTurn_118 (by decide) (by first | decide | omega) (fun h_118 => ?_) (fun h_118 => ?_) | refine a_if_eq (tgt := 128) C dX7_doesTurn_118 (by decide) (fun h_118 => ?_) (fun h_118 => ?_)
      · refine a_iload_n C dX7_doesTurn_128 rfl rfl ?_
        refine a_eq rfl (gl1 ?_) rfl zJ129
        · first | with_reducible rfl | (refine iF ?_; simp [behA, h_13, h_118]; done) | (refine iT ?_; simp [behA, h_13, h_118]; done) | (refine iB ?_; simp [behA, h_13, h_118]; done) | (simp [behA, h_13, h_118]; done) | (simp [behA, h_13, h_118]; omega) | omega
      · refine a_iload_n C dX7_doesTurn_121 rfl rfl ?_
        refine p_callS C ((K_X7_wornCode (by first | assumption | decide | omega))).cp sX7_110 rfl dX7_doesTurn_122 (Nat.le_of_ble_eq_true rfl) ⟨by decide, by decide⟩ ?_
        refine a_goto (tgt := 129) C dX7_doesTurn_125 (by decide) ?_
        refine a_eq rfl (gl1 ?_) rfl zJ129
        · first | with_reducible rfl | (refine iF ?_; simp [behA, h_13, h_118]; done) | (refine iT ?_; simp [behA, h_13, h_118]; done) | (refine iB ?_; simp [behA, h_13, h_118]; done) | (simp [behA, h_13, h_118]; done) | (simp [behA, h_13, h_118]; omega) | omega
  · refine a_aload_n C dX7_doesTurn_16 rfl rfl ?_
    refine a_getfF C fX7_7 dX7_doesTurn_17 (show _ < 219 from (by first | decide | omega)) (by first | decide | omega) rfl rfl ?_
    refine a_bipush (v := nI 16) C dX7_doesTurn_20 (by decide) ?_
    refine a_iconst (v := nI 4) C dX7_doesTurn_22 (by decide) ?_
    refine a_iload_n C dX7_doesTurn_23 rfl rfl ?_
    first | refine n_imul C dX7_doesTurn_24 ?_ | refine a_imul C dX7_doesTurn_24 ?_
    first | refine n_iadd C dX7_doesTurn_25 ?_ | refine a_iadd C dX7_doesTurn_25 ?_
    refine a_iconst (v := nI 3) C dX7_doesTurn_26 (by decide) ?_
    first | refine n_iadd C dX7_doesTurn_27 ?_ | refine a_iadd C dX7_doesTurn_27 ?_
    refine a_dup2 C dX7_doesTurn_28 rfl rfl ?_
    refine n_iald C dX7_doesTurn_29 (show _ < 219 from (by first | decide | omega)) (by first | decide | omega) rfl rfl (by first | decide | omega) (by decide) (RR_self.at.trans (show _ = A (16 + 4 * p + 3) from by (repeat rw [upd_ne (by omega)]) <;> rfl)) ?_
    refine a_iconst (v := nI 1) C dX7_doesTurn_30 (by decide) ?_
    first | refine n_iadd C dX7_doesTurn_31 ?_ | refine a_iadd C dX7_doesTurn_31 ?_
    refine f_iast C dX7_doesTurn_32 (by first | decide | omega) rfl rfl (by first | decide | omega) (by decide)  rfl ?_
    refine a_wd wSet_row ?_
    refine a_aload_n C dX7_doesTurn_33 rfl rfl ?_
    refine a_getfF C fX7_7 dX7_doesTurn_34 (show _ < 219 from (by first | decide | omega)) (by first | decide | omega) rfl rfl ?_
    refine a_iconst (v := nI 3) C dX7_doesTurn_37 (by decide) ?_
    refine a_dup2 C dX7_doesTurn_38 rfl rfl ?_
    refine n_iald C dX7_doesTurn_39 (show _ < 219 from (by first | decide | omega)) (by first | decide | omega) rfl rfl (by first | decide | omega) (by decide) (RR_self.at.trans (show _ = A (3) from by (repeat rw [upd_ne (by omega)]) <;> rfl)) ?_
    refine a_iconst (v := nI 1) C dX7_doesTurn_40 (by decide) ?_
    first | refine n_iadd C dX7_doesTurn_41 ?_ | refine a_iadd C dX7_doesTurn_41 ?_
    refine f_iast C dX7_doesTurn_42 (by first | decide | omega) rfl rfl (by first | decide | omega) (by decide)  rfl ?_
    refine a_wd wSet_row ?_
    refine a_iconst (v := nI 0) C dX7_doesTurn_43 (by decide) ?_
    refine f_iret C hr ?_ dX7_doesTurn_44 ⟨?_, ?_⟩
    · rfl
    · first | with_reducible rfl | exact gl (by first | with_reducible rfl | (refine iF ?_; simp [h_13]; done) | (refine iT ?_; simp [h_13]; done) | (refine iB ?_; simp [h_13]; done) | (simp [h_13]; done) | (simp [h_13]; omega) | omega | rfl)
    · first | exact congrArg (wRow w 205) (tur_f h_13) | exact congrArg (wRow w 205) (tur_4 h_13 h_134) | exact congrArg (wRow w 205) (tur_7 h_13 h_134)

end A18

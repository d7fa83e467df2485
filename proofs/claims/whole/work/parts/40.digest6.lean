section A40
/-! ### the digest, in words of its own -/
def mx (h v : Int64) : Int64 := 31 * h + v
def mi (h : Int64) (x : Int32) : Int64 := mx h x.toInt64
def fo (g : Int64 → Nat → Int64) (h : Int64) : Nat → Int64
  | 0 => h
  | k + 1 => g (fo g h k) k
theorem fo_0 (g : Int64 → Nat → Int64) (h : Int64) : fo g h 0 = h := rfl
theorem fo_s (g : Int64 → Nat → Int64) (h : Int64) (k : Nat) : fo g h (k + 1) = g (fo g h k) k := rfl
def dC1 (A : St) (sv : Int32) (h : Int64) : Nat → Int64 := fo (fun h j => mi h (tnA A sv j)) h
def dC2 (A : St) (h : Int64) : Nat → Int64 := fo (fun h j => mi h (nI (sN A j))) h
def dK1 (A : St) (k : Nat) (h : Int64) : Nat → Int64 := fo (fun h j => mi h (tkA A k j)) h
def dK2 (A : St) (k : Nat) (h : Int64) : Nat → Int64 := fo (fun h j => mi h (nI (wndA A k j))) h
def dK3 (A : St) (h : Int64) : Nat → Int64 := fo (fun h k => mi (dK2 A k (dK1 A k h 10) 4) (fcA A k)) h
def dL1 (A : St) (p : Nat) (h : Int64) : Nat → Int64 := fo (fun h j => mi h (tlA A p j)) h
def dL2 (A : St) (h : Int64) : Nat → Int64 := fo (fun h p => dL1 A p h 6) h
def dP1 (A : St) (q : Nat) (h : Int64) : Nat → Int64 := fo (fun h j => mi h (tpA A q j)) h
def dP2 (A : St) (h : Int64) : Nat → Int64 := fo (fun h q => dP1 A q h 3) h
def dO1 (A : St) (c : Nat) (h : Int64) : Nat → Int64 := fo (fun h j => mi h (tcA A c (j + 2))) h
def dO2 (A : St) (h : Int64) : Nat → Int64 := fo (fun h c => dO1 A c h 4) h
def dV1 (A : St) (v : Nat) (h : Int64) : Nat → Int64 := fo (fun h j => mi h (tvA A v j)) h
def dV2 (A : St) (h : Int64) : Nat → Int64 := fo (fun h v => dV1 A v h 4) h
def dCn (A : St) (sv : Int32) (h : Int64) : Int64 := dC2 A (dC1 A sv h 12) 4
def dKy (A : St) (h : Int64) : Int64 := dK3 A h (kN A)
def dPl (A : St) (h : Int64) : Int64 := dP2 A (dL2 A h 6) 4
def dCo (A : St) (h : Int64) : Int64 := dV2 A (dO2 A h 81) 9
def dBf (t : Nat → Nat) (h : Int64) : Nat → Int64 := fo (fun h j => mi h (nI (t j))) h
def hsL (b : Bool) : Int64 := if b = true then 1 else 0
noncomputable def dPk (A : St) (h : Int64) : Nat → Int64 := fo (fun h j => mi h (pckA A (nI j))) h
noncomputable def dMo (A : St) (h : Int64) : Int64 := dPk A (mi (mi h (nI (mstA A 0))) (nI (mstA A 1))) 3
def dSt (A : St) (h : Int64) : Int64 := mi (mi h (A (6 + 0))) (A (6 + 1))
noncomputable def dFp (A : St) (h : Int64) : Int64 := mi (mx (dMo A h) (shrA A).toInt64) (mnA A).toInt32
noncomputable def dHd (A : St) (sv : Int32) (hs : Bool) (ln : Nat) : Int64 := mi (mx (dFp A (dSt A (dCo A (dPl A (dKy A (dCn A sv 3613)))))) (hsL hs)) (nI ln)
noncomputable def dgA (A : St) (sv : Int32) (hs : Bool) (t : Nat → Nat) (ln : Nat) : Int64 := dBf t (dHd A sv hs ln) ln
theorem dC1_0 (A : St) (sv : Int32) (h : Int64) : dC1 A sv h 0 = h := by unfold dC1; exact fo_0 _ _
theorem dC1_s (A : St) (sv : Int32) (h : Int64) (k : Nat) : dC1 A sv h (k + 1) = mi (dC1 A sv h k) (tnA A sv k) := by unfold dC1; exact fo_s _ _ _
theorem dC2_0 (A : St) (h : Int64) : dC2 A h 0 = h := by unfold dC2; exact fo_0 _ _
theorem dC2_s (A : St) (h : Int64) (k : Nat) : dC2 A h (k + 1) = mi (dC2 A h k) (nI (sN A k)) := by unfold dC2; exact fo_s _ _ _
theorem dK1_0 (A : St) (q : Nat) (h : Int64) : dK1 A q h 0 = h := by unfold dK1; exact fo_0 _ _
theorem dK1_s (A : St) (q : Nat) (h : Int64) (k : Nat) : dK1 A q h (k + 1) = mi (dK1 A q h k) (tkA A q k) := by unfold dK1; exact fo_s _ _ _
theorem dK2_0 (A : St) (q : Nat) (h : Int64) : dK2 A q h 0 = h := by unfold dK2; exact fo_0 _ _
theorem dK2_s (A : St) (q : Nat) (h : Int64) (k : Nat) : dK2 A q h (k + 1) = mi (dK2 A q h k) (nI (wndA A q k)) := by unfold dK2; exact fo_s _ _ _
theorem dK3_0 (A : St) (h : Int64) : dK3 A h 0 = h := by unfold dK3; exact fo_0 _ _
theorem dK3_s (A : St) (h : Int64) (k : Nat) : dK3 A h (k + 1) = mi (dK2 A k (dK1 A k (dK3 A h k) 10) 4) (fcA A k) := by unfold dK3; exact fo_s _ _ _
theorem dL1_0 (A : St) (q : Nat) (h : Int64) : dL1 A q h 0 = h := by unfold dL1; exact fo_0 _ _
theorem dL1_s (A : St) (q : Nat) (h : Int64) (k : Nat) : dL1 A q h (k + 1) = mi (dL1 A q h k) (tlA A q k) := by unfold dL1; exact fo_s _ _ _
theorem dL2_0 (A : St) (h : Int64) : dL2 A h 0 = h := by unfold dL2; exact fo_0 _ _
theorem dL2_s (A : St) (h : Int64) (k : Nat) : dL2 A h (k + 1) = dL1 A k (dL2 A h k) 6 := by unfold dL2; exact fo_s _ _ _
theorem dP1_0 (A : St) (q : Nat) (h : Int64) : dP1 A q h 0 = h := by unfold dP1; exact fo_0 _ _
theorem dP1_s (A : St) (q : Nat) (h : Int64) (k : Nat) : dP1 A q h (k + 1) = mi (dP1 A q h k) (tpA A q k) := by unfold dP1; exact fo_s _ _ _
theorem dP2_0 (A : St) (h : Int64) : dP2 A h 0 = h := by unfold dP2; exact fo_0 _ _
theorem dP2_s (A : St) (h : Int64) (k : Nat) : dP2 A h (k + 1) = dP1 A k (dP2 A h k) 3 := by unfold dP2; exact fo_s _ _ _
theorem dO1_0 (A : St) (q : Nat) (h : Int64) : dO1 A q h 0 = h := by unfold dO1; exact fo_0 _ _
theorem dO1_s (A : St) (q : Nat) (h : Int64) (k : Nat) : dO1 A q h (k + 1) = mi (dO1 A q h k) (tcA A q (k + 2)) := by unfold dO1; exact fo_s _ _ _
theorem dO2_0 (A : St) (h : Int64) : dO2 A h 0 = h := by unfold dO2; exact fo_0 _ _
theorem dO2_s (A : St) (h : Int64) (k : Nat) : dO2 A h (k + 1) = dO1 A k (dO2 A h k) 4 := by unfold dO2; exact fo_s _ _ _
theorem dV1_0 (A : St) (q : Nat) (h : Int64) : dV1 A q h 0 = h := by unfold dV1; exact fo_0 _ _
theorem dV1_s (A : St) (q : Nat) (h : Int64) (k : Nat) : dV1 A q h (k + 1) = mi (dV1 A q h k) (tvA A q k) := by unfold dV1; exact fo_s _ _ _
theorem dV2_0 (A : St) (h : Int64) : dV2 A h 0 = h := by unfold dV2; exact fo_0 _ _
theorem dV2_s (A : St) (h : Int64) (k : Nat) : dV2 A h (k + 1) = dV1 A k (dV2 A h k) 4 := by unfold dV2; exact fo_s _ _ _
theorem dBf_0 (t : Nat → Nat) (h : Int64) : dBf t h 0 = h := by unfold dBf; exact fo_0 _ _
theorem dBf_s (t : Nat → Nat) (h : Int64) (k : Nat) : dBf t h (k + 1) = mi (dBf t h k) (nI (t k)) := by unfold dBf; exact fo_s _ _ _
theorem dPk_0 (A : St) (h : Int64) : dPk A h 0 = h := by unfold dPk; exact fo_0 _ _
theorem dPk_s (A : St) (h : Int64) (k : Nat) : dPk A h (k + 1) = mi (dPk A h k) (pckA A (nI k)) := by unfold dPk; exact fo_s _ _ _
theorem dCn_e (A : St) (sv : Int32) (h : Int64) : dCn A sv h = dC2 A (dC1 A sv h 12) 4 := by unfold dCn; exact Eq.refl _
theorem dKy_e (A : St) (h : Int64) : dKy A h = dK3 A h (kN A) := by unfold dKy; exact Eq.refl _
theorem dPl_e (A : St) (h : Int64) : dPl A h = dP2 A (dL2 A h 6) 4 := by unfold dPl; exact Eq.refl _
theorem dCo_e (A : St) (h : Int64) : dCo A h = dV2 A (dO2 A h 81) 9 := by unfold dCo; exact Eq.refl _
theorem mi_e (h : Int64) (x : Int32) : mx h x.toInt64 = mi h x := by unfold mi; exact Eq.refl _
set_option maxRecDepth 20000 in
set_option maxHeartbeats 4000000 in
theorem K_X6_mix (a b : Int64) : CS yX6_mix cX6_mix 4 (some .long) 0 0 [.long a, .long b] (.long (mx a b)) := by
  refine CS.of ok_X6_mix (Nat.le_of_ble_eq_true rfl) (fun M9 G9 p9 l9 e9 s9 m9 ar9 be9 me9 co9 C hr => ?_)
  refine a_ldcl C dX6_mix_0 wX6_483 ?_
  refine a_lload_n C dX6_mix_3 rfl rfl ?_
  refine a_lmul C dX6_mix_4 ?_
  refine a_lload_n C dX6_mix_5 rfl rfl ?_
  refine a_ladd C dX6_mix_6 ?_
  refine a_lret C hr dX6_mix_7 rfl rfl ⟨?_, rfl⟩
  · rfl

set_option maxRecDepth 20000 in
set_option maxHeartbeats 4000000 in
theorem K_X6_mixCounts {w : Wd} {A : St} (hD : DR w 3 A) (hA : AOK A) (h : Int64)  : CP yX6_mixCounts cX6_mixCounts 6 (some .long) 7 114 [.ref 0, .long h] w (.long (dCn A (w.1 0 8) h)) := by
  refine CF.of ok_X6_mixCounts (Nat.le_of_ble_eq_true rfl) (fun ex us G9 p9 l9 e9 s9 m9 ar9 be9 me9 co9 C hr => ?_)
  have ZL33 : ∀ (zd33 : Nat) (k : Nat), 4 + 1 ≤ k + zd33 → k ≤ 4 → WA G9 p9 l9 e9 (RM 7 114) s9 m9 ar9 be9 me9 co9 (QP G9 be9 ar9 s9 w ex us (.long (dCn A (w.1 0 8) h))) 6 (219 + ex) us 33 [some (.ref 0), none, none, some (.long (dC2 A (dC1 A (w.1 0 8) h 12) k)), none, some (.int (nI k))] [] (fzM w ex us) := by
    intro zd33
    induction zd33 with
    | zero => intro k zm33 zh33_0; exfalso; omega
    | succ zd33 zih33 =>
      intro k zm33 zh33_0
      refine a_iload C dX6_mixCounts_33 rfl ?_
      refine a_iconst (v := nI 4) C dX6_mixCounts_35 (by decide) ?_
      first | refine n_icmp_ge (tgt := 61) C dX6_mixCounts_36 (by decide) (by first | decide | omega) (by first | decide | omega) (fun h_36 => ?_) (fun h_36 => ?_) | refine a_icmp_ge (tgt := 61) C dX6_mixCounts_36 (by decide) (fun h_36 => ?_) (fun h_36 => ?_)
      · obtain rfl : k = 4 := by omega
        refine a_lload_n C dX6_mixCounts_61 rfl rfl ?_
        refine f_lret C hr dX6_mixCounts_62 ⟨?_, rfl⟩
        · exact gl_l (dCn_e _ _ _).symm
      · refine a_lload_n C dX6_mixCounts_39 rfl rfl ?_
        refine a_aload_n C dX6_mixCounts_40 rfl rfl ?_
        refine a_getfF C fX6_19 dX6_mixCounts_41 (show _ < 219 from (by first | decide | omega)) (by first | decide | omega) rfl rfl ?_
        refine a_getfF C fX6_194 dX6_mixCounts_44 (show _ < 219 from (by first | decide | omega)) (by first | decide | omega) rfl rfl ?_
        refine a_iload C dX6_mixCounts_47 rfl ?_
        refine n_iald C dX6_mixCounts_49 (show _ < 219 from (by first | decide | omega)) (by first | decide | omega) rfl rfl (by first | decide | omega) (by decide) (DR_s hD hA (by omega)) ?_
        refine a_i2l C dX6_mixCounts_50 ?_
        refine p_callS C ((K_X6_mix _ _)).cp sX6_383 rfl dX6_mixCounts_51 (Nat.le_of_ble_eq_true rfl) ⟨by decide, by decide⟩ ?_
        refine a_lstore_n C dX6_mixCounts_54 rfl (by decide) ?_
        refine n_iinc C dX6_mixCounts_55 rfl (by decide) ?_
        refine a_goto (tgt := 33) C dX6_mixCounts_58 (by decide) ?_
        refine a_join (aLe_s ?_ (aLe_n (aLe_n (aLe_s ?_ (aLe_n (aLe_s ?_ aLe_nil)))))) rfl rfl (zih33 (k + 1) (by omega) (by omega))
        · first | with_reducible rfl | exact gl (by first | with_reducible rfl | (refine iF ?_; simp [h_36]; done) | (refine iT ?_; simp [h_36]; done) | (refine iB ?_; simp [h_36]; done) | (simp [h_36]; done) | (simp [h_36]; omega) | omega)
        · exact gl_l (dC2_s _ _ _).symm
        · first | with_reducible rfl | exact gl (by first | with_reducible rfl | (refine iF ?_; simp [h_36]; done) | (refine iT ?_; simp [h_36]; done) | (refine iB ?_; simp [h_36]; done) | (simp [h_36]; done) | (simp [h_36]; omega) | omega)
  have ZL5 : ∀ (zd5 : Nat) (k : Nat), 12 + 1 ≤ k + zd5 → k ≤ 12 → WA G9 p9 l9 e9 (RM 7 114) s9 m9 ar9 be9 me9 co9 (QP G9 be9 ar9 s9 w ex us (.long (dCn A (w.1 0 8) h))) 6 (219 + ex) us 5 [some (.ref 0), none, none, some (.long (dC1 A (w.1 0 8) h k)), none, some (.int (nI k))] [] (fzM w ex us) := by
    intro zd5
    induction zd5 with
    | zero => intro k zm5 zh5_0; exfalso; omega
    | succ zd5 zih5 =>
      intro k zm5 zh5_0
      refine a_iload C dX6_mixCounts_5 rfl ?_
      refine a_bipush (v := nI 11) C dX6_mixCounts_7 (by decide) ?_
      first | refine n_icmp_gt (tgt := 30) C dX6_mixCounts_9 (by decide) (by first | decide | omega) (by first | decide | omega) (fun h_9 => ?_) (fun h_9 => ?_) | refine a_icmp_gt (tgt := 30) C dX6_mixCounts_9 (by decide) (fun h_9 => ?_) (fun h_9 => ?_)
      · obtain rfl : k = 12 := by omega
        refine a_iconst (v := nI 0) C dX6_mixCounts_30 (by decide) ?_
        refine a_istore C dX6_mixCounts_31 (by decide) ?_
        refine a_join (aLe_s ?_ (aLe_n (aLe_n (aLe_s ?_ (aLe_n (aLe_s ?_ aLe_nil)))))) rfl rfl (ZL33 (4 + 1) 0 (by omega) (by omega))
        · first | with_reducible rfl | exact gl (by first | with_reducible rfl | (refine iF ?_; simp [h_9]; done) | (refine iT ?_; simp [h_9]; done) | (refine iB ?_; simp [h_9]; done) | (simp [h_9]; done) | (simp [h_9]; omega) | omega | rfl)
        · exact gl_l (dC2_0 _ _).symm
        · first | with_reducible rfl | exact gl (by first | with_reducible rfl | (refine iF ?_; simp [h_9]; done) | (refine iT ?_; simp [h_9]; done) | (refine iB ?_; simp [h_9]; done) | (simp [h_9]; done) | (simp [h_9]; omega) | omega | rfl)
      · refine a_lload_n C dX6_mixCounts_12 rfl rfl ?_
        refine a_aload_n C dX6_mixCounts_13 rfl rfl ?_
        refine a_iload C dX6_mixCounts_14 rfl ?_
        refine p_callV C (K_X6_count hD hA (by first | assumption | decide | omega)) vX6_485 rfl (by first | decide | omega) rfl rfl dX6_mixCounts_16 (Nat.le_of_ble_eq_true rfl) ⟨by decide, by decide⟩ ?_
        refine a_i2l C dX6_mixCounts_19 ?_
        refine p_callS C ((K_X6_mix _ _)).cp sX6_383 rfl dX6_mixCounts_20 (Nat.le_of_ble_eq_true rfl) ⟨by decide, by decide⟩ ?_
        refine a_lstore_n C dX6_mixCounts_23 rfl (by decide) ?_
        refine n_iinc C dX6_mixCounts_24 rfl (by decide) ?_
        refine a_goto (tgt := 5) C dX6_mixCounts_27 (by decide) ?_
        refine a_join (aLe_s ?_ (aLe_n (aLe_n (aLe_s ?_ (aLe_n (aLe_s ?_ aLe_nil)))))) rfl rfl (zih5 (k + 1) (by omega) (by omega))
        · first | with_reducible rfl | exact gl (by first | with_reducible rfl | (refine iF ?_; simp [h_9]; done) | (refine iT ?_; simp [h_9]; done) | (refine iB ?_; simp [h_9]; done) | (simp [h_9]; done) | (simp [h_9]; omega) | omega)
        · exact gl_l (dC1_s _ _ _ _).symm
        · first | with_reducible rfl | exact gl (by first | with_reducible rfl | (refine iF ?_; simp [h_9]; done) | (refine iT ?_; simp [h_9]; done) | (refine iB ?_; simp [h_9]; done) | (simp [h_9]; done) | (simp [h_9]; omega) | omega)
  refine a_pad 3 ?_
  refine a_eq (L' := [some (.ref 0), some (.long h), none, none, none, none]) rfl rfl rfl ?_
  refine a_lload_n C dX6_mixCounts_0 rfl rfl ?_
  refine a_lstore_n C dX6_mixCounts_1 rfl (by decide) ?_
  refine a_iconst (v := nI 0) C dX6_mixCounts_2 (by decide) ?_
  refine a_istore C dX6_mixCounts_3 (by decide) ?_
  refine a_join (aLe_s ?_ (aLe_n (aLe_n (aLe_s ?_ (aLe_n (aLe_s ?_ aLe_nil)))))) rfl rfl (ZL5 (12 + 1) 0 (by omega) (by omega))
  · first | with_reducible rfl | exact gl (by first | with_reducible rfl | (refine iF ?_; simp []; done) | (refine iT ?_; simp []; done) | (refine iB ?_; simp []; done) | (simp []; done) | (simp []; omega) | omega | rfl)
  · exact gl_l (dC1_0 _ _ _).symm
  · first | with_reducible rfl | exact gl (by first | with_reducible rfl | (refine iF ?_; simp []; done) | (refine iT ?_; simp []; done) | (refine iB ?_; simp []; done) | (simp []; done) | (simp []; omega) | omega | rfl)

set_option maxRecDepth 20000 in
set_option maxHeartbeats 4000000 in
theorem K_X6_mixKeys {w : Wd} {A : St} (hD : DR w 3 A) (hA : AOK A) (h : Int64)  : CP yX6_mixKeys cX6_mixKeys 7 (some .long) 7 114 [.ref 0, .long h] w (.long (dKy A h)) := by
  have zq_n := hA.n12
  refine CF.of ok_X6_mixKeys (Nat.le_of_ble_eq_true rfl) (fun ex us G9 p9 l9 e9 s9 m9 ar9 be9 me9 co9 C hr => ?_)
  have ZL5 : ∀ (zd5 : Nat) (k : Nat), kN A + 1 ≤ k + zd5 → k ≤ kN A → WA G9 p9 l9 e9 (RM 7 114) s9 m9 ar9 be9 me9 co9 (QP G9 be9 ar9 s9 w ex us (.long (dKy A h))) 7 (219 + ex) us 5 [some (.ref 0), none, none, some (.long (dK3 A h k)), none, some (.int (nI k)), none] [] (fzM w ex us) := by
    intro zd5
    induction zd5 with
    | zero => intro k zm5 zh5_0; exfalso; omega
    | succ zd5 zih5 =>
      intro k zm5 zh5_0
      have ZL57 : ∀ (zd57 : Nat) (j : Nat), 4 + 1 ≤ j + zd57 → j ≤ 4 → k < kN A → WA G9 p9 l9 e9 (RM 7 114) s9 m9 ar9 be9 me9 co9 (QP G9 be9 ar9 s9 w ex us (.long (dKy A h))) 7 (219 + ex) us 57 [some (.ref 0), none, none, some (.long (dK2 A k (dK1 A k (dK3 A h k) 10) j)), none, some (.int (nI k)), some (.int (nI j))] [] (fzM w ex us) := by
        intro zd57
        induction zd57 with
        | zero => intro j zm57 zh57_0 zh57_1; exfalso; omega
        | succ zd57 zih57 =>
          intro j zm57 zh57_0 zh57_1
          refine a_iload C dX6_mixKeys_57 rfl ?_
          refine a_iconst (v := nI 4) C dX6_mixKeys_59 (by decide) ?_
          first | refine n_icmp_ge (tgt := 83) C dX6_mixKeys_60 (by decide) (by first | decide | omega) (by first | decide | omega) (fun h_60 => ?_) (fun h_60 => ?_) | refine a_icmp_ge (tgt := 83) C dX6_mixKeys_60 (by decide) (fun h_60 => ?_) (fun h_60 => ?_)
          · obtain rfl : j = 4 := by omega
            refine a_lload_n C dX6_mixKeys_83 rfl rfl ?_
            refine a_aload_n C dX6_mixKeys_84 rfl rfl ?_
            refine a_iload C dX6_mixKeys_85 rfl ?_
            refine p_callV C (K_X6_crossedIn hD hA (by first | assumption | decide | omega)) vX6_493 rfl (by first | decide | omega) rfl rfl dX6_mixKeys_87 (Nat.le_of_ble_eq_true rfl) ⟨by decide, by decide⟩ ?_
            refine a_i2l C dX6_mixKeys_90 ?_
            refine p_callS C ((K_X6_mix _ _)).cp sX6_383 rfl dX6_mixKeys_91 (Nat.le_of_ble_eq_true rfl) ⟨by decide, by decide⟩ ?_
            refine a_lstore_n C dX6_mixKeys_94 rfl (by decide) ?_
            refine n_iinc C dX6_mixKeys_95 rfl (by decide) ?_
            refine a_goto (tgt := 5) C dX6_mixKeys_98 (by decide) ?_
            refine a_join (aLe_s ?_ (aLe_n (aLe_n (aLe_s ?_ (aLe_n (aLe_s ?_ (aLe_n aLe_nil))))))) rfl rfl (zih5 (k + 1) (by omega) (by omega))
            · first | with_reducible rfl | exact gl (by first | with_reducible rfl | (refine iF ?_; simp [h_60]; done) | (refine iT ?_; simp [h_60]; done) | (refine iB ?_; simp [h_60]; done) | (simp [h_60]; done) | (simp [h_60]; omega) | omega)
            · exact gl_l (dK3_s _ _ _).symm
            · first | with_reducible rfl | exact gl (by first | with_reducible rfl | (refine iF ?_; simp [h_60]; done) | (refine iT ?_; simp [h_60]; done) | (refine iB ?_; simp [h_60]; done) | (simp [h_60]; done) | (simp [h_60]; omega) | omega)
          · refine a_lload_n C dX6_mixKeys_63 rfl rfl ?_
            refine a_aload_n C dX6_mixKeys_64 rfl rfl ?_
            refine a_iload C dX6_mixKeys_65 rfl ?_
            refine a_iload C dX6_mixKeys_67 rfl ?_
            refine p_callV C (K_X6_why hD hA (by first | assumption | decide | omega) (by first | assumption | decide | omega)) vX6_490 rfl (by first | decide | omega) rfl rfl dX6_mixKeys_69 (Nat.le_of_ble_eq_true rfl) ⟨by decide, by decide⟩ ?_
            refine a_i2l C dX6_mixKeys_72 ?_
            refine p_callS C ((K_X6_mix _ _)).cp sX6_383 rfl dX6_mixKeys_73 (Nat.le_of_ble_eq_true rfl) ⟨by decide, by decide⟩ ?_
            refine a_lstore_n C dX6_mixKeys_76 rfl (by decide) ?_
            refine n_iinc C dX6_mixKeys_77 rfl (by decide) ?_
            refine a_goto (tgt := 57) C dX6_mixKeys_80 (by decide) ?_
            refine a_join (aLe_s ?_ (aLe_n (aLe_n (aLe_s ?_ (aLe_n (aLe_s ?_ (aLe_s ?_ aLe_nil))))))) rfl rfl (zih57 (j + 1) (by omega) (by omega) (by omega))
            · first | with_reducible rfl | exact gl (by first | with_reducible rfl | (refine iF ?_; simp [h_60]; done) | (refine iT ?_; simp [h_60]; done) | (refine iB ?_; simp [h_60]; done) | (simp [h_60]; done) | (simp [h_60]; omega) | omega)
            · exact gl_l (dK2_s _ _ _ _).symm
            · first | with_reducible rfl | exact gl (by first | with_reducible rfl | (refine iF ?_; simp [h_60]; done) | (refine iT ?_; simp [h_60]; done) | (refine iB ?_; simp [h_60]; done) | (simp [h_60]; done) | (simp [h_60]; omega) | omega)
            · first | with_reducible rfl | exact gl (by first | with_reducible rfl | (refine iF ?_; simp [h_60]; done) | (refine iT ?_; simp [h_60]; done) | (refine iB ?_; simp [h_60]; done) | (simp [h_60]; done) | (simp [h_60]; omega) | omega)
      have ZL27 : ∀ (zd27 : Nat) (j : Nat), 10 + 1 ≤ j + zd27 → j ≤ 10 → k < kN A → WA G9 p9 l9 e9 (RM 7 114) s9 m9 ar9 be9 me9 co9 (QP G9 be9 ar9 s9 w ex us (.long (dKy A h))) 7 (219 + ex) us 27 [some (.ref 0), none, none, some (.long (dK1 A k (dK3 A h k) j)), none, some (.int (nI k)), some (.int (nI j))] [] (fzM w ex us) := by
        intro zd27
        induction zd27 with
        | zero => intro j zm27 zh27_0 zh27_1; exfalso; omega
        | succ zd27 zih27 =>
          intro j zm27 zh27_0 zh27_1
          refine a_iload C dX6_mixKeys_27 rfl ?_
          refine a_bipush (v := nI 9) C dX6_mixKeys_29 (by decide) ?_
          first | refine n_icmp_gt (tgt := 54) C dX6_mixKeys_31 (by decide) (by first | decide | omega) (by first | decide | omega) (fun h_31 => ?_) (fun h_31 => ?_) | refine a_icmp_gt (tgt := 54) C dX6_mixKeys_31 (by decide) (fun h_31 => ?_) (fun h_31 => ?_)
          · obtain rfl : j = 10 := by omega
            refine a_iconst (v := nI 0) C dX6_mixKeys_54 (by decide) ?_
            refine a_istore C dX6_mixKeys_55 (by decide) ?_
            refine a_join (aLe_s ?_ (aLe_n (aLe_n (aLe_s ?_ (aLe_n (aLe_s ?_ (aLe_s ?_ aLe_nil))))))) rfl rfl (ZL57 (4 + 1) 0 (by omega) (by omega) (by omega))
            · first | with_reducible rfl | exact gl (by first | with_reducible rfl | (refine iF ?_; simp [h_31]; done) | (refine iT ?_; simp [h_31]; done) | (refine iB ?_; simp [h_31]; done) | (simp [h_31]; done) | (simp [h_31]; omega) | omega | rfl)
            · exact gl_l (dK2_0 _ _ _).symm
            · first | with_reducible rfl | exact gl (by first | with_reducible rfl | (refine iF ?_; simp [h_31]; done) | (refine iT ?_; simp [h_31]; done) | (refine iB ?_; simp [h_31]; done) | (simp [h_31]; done) | (simp [h_31]; omega) | omega | rfl)
            · first | with_reducible rfl | exact gl (by first | with_reducible rfl | (refine iF ?_; simp [h_31]; done) | (refine iT ?_; simp [h_31]; done) | (refine iB ?_; simp [h_31]; done) | (simp [h_31]; done) | (simp [h_31]; omega) | omega | rfl)
          · refine a_lload_n C dX6_mixKeys_34 rfl rfl ?_
            refine a_aload_n C dX6_mixKeys_35 rfl rfl ?_
            refine a_iload C dX6_mixKeys_36 rfl ?_
            refine a_iload C dX6_mixKeys_38 rfl ?_
            refine p_callV C (K_X6_key hD hA (by first | assumption | decide | omega) (by first | assumption | decide | omega)) vX6_488 rfl (by first | decide | omega) rfl rfl dX6_mixKeys_40 (Nat.le_of_ble_eq_true rfl) ⟨by decide, by decide⟩ ?_
            refine a_i2l C dX6_mixKeys_43 ?_
            refine p_callS C ((K_X6_mix _ _)).cp sX6_383 rfl dX6_mixKeys_44 (Nat.le_of_ble_eq_true rfl) ⟨by decide, by decide⟩ ?_
            refine a_lstore_n C dX6_mixKeys_47 rfl (by decide) ?_
            refine n_iinc C dX6_mixKeys_48 rfl (by decide) ?_
            refine a_goto (tgt := 27) C dX6_mixKeys_51 (by decide) ?_
            refine a_join (aLe_s ?_ (aLe_n (aLe_n (aLe_s ?_ (aLe_n (aLe_s ?_ (aLe_s ?_ aLe_nil))))))) rfl rfl (zih27 (j + 1) (by omega) (by omega) (by omega))
            · first | with_reducible rfl | exact gl (by first | with_reducible rfl | (refine iF ?_; simp [h_31]; done) | (refine iT ?_; simp [h_31]; done) | (refine iB ?_; simp [h_31]; done) | (simp [h_31]; done) | (simp [h_31]; omega) | omega)
            · exact gl_l (dK1_s _ _ _ _).symm
            · first | with_reducible rfl | exact gl (by first | with_reducible rfl | (refine iF ?_; simp [h_31]; done) | (refine iT ?_; simp [h_31]; done) | (refine iB ?_; simp [h_31]; done) | (simp [h_31]; done) | (simp [h_31]; omega) | omega)
            · first | with_reducible rfl | exact gl (by first | with_reducible rfl | (refine iF ?_; simp [h_31]; done) | (refine iT ?_; simp [h_31]; done) | (refine iB ?_; simp [h_31]; done) | (simp [h_31]; done) | (simp [h_31]; omega) | omega)
      refine a_iload C dX6_mixKeys_5 rfl ?_
      refine a_aload_n C dX6_mixKeys_7 rfl rfl ?_
      refine a_getfF C fX6_19 dX6_mixKeys_8 (show _ < 219 from (by first | decide | omega)) (by first | decide | omega) rfl rfl ?_
      refine a_getf C fX6_80 dX6_mixKeys_11 (show _ < 219 from (by first | decide | omega)) (by first | decide | omega) rfl (gl (DR_n hD hA)) ?_
      first | refine n_icmp_ge (tgt := 101) C dX6_mixKeys_14 (by decide) (by first | decide | omega) (by first | decide | omega) (fun h_14 => ?_) (fun h_14 => ?_) | refine a_icmp_ge (tgt := 101) C dX6_mixKeys_14 (by decide) (fun h_14 => ?_) (fun h_14 => ?_)
      · obtain rfl : k = kN A := by omega
        refine a_lload_n C dX6_mixKeys_101 rfl rfl ?_
        refine f_lret C hr dX6_mixKeys_102 ⟨?_, rfl⟩
        · exact gl_l (dKy_e _ _).symm
      · refine a_iload C dX6_mixKeys_17 rfl ?_
        refine a_bipush (v := nI 12) C dX6_mixKeys_19 (by decide) ?_
        first | refine n_icmp_ge (tgt := 101) C dX6_mixKeys_21 (by decide) (by first | decide | omega) (by first | decide | omega) (fun h_21 => ?_) (fun h_21 => ?_) | refine a_icmp_ge (tgt := 101) C dX6_mixKeys_21 (by decide) (fun h_21 => ?_) (fun h_21 => ?_)
        · exfalso; omega
        · refine a_iconst (v := nI 0) C dX6_mixKeys_24 (by decide) ?_
          refine a_istore C dX6_mixKeys_25 (by decide) ?_
          refine a_join (aLe_s ?_ (aLe_n (aLe_n (aLe_s ?_ (aLe_n (aLe_s ?_ (aLe_s ?_ aLe_nil))))))) rfl rfl (ZL27 (10 + 1) 0 (by omega) (by omega) (by omega))
          · first | with_reducible rfl | exact gl (by first | with_reducible rfl | (refine iF ?_; simp [h_14, h_21]; done) | (refine iT ?_; simp [h_14, h_21]; done) | (refine iB ?_; simp [h_14, h_21]; done) | (simp [h_14, h_21]; done) | (simp [h_14, h_21]; omega) | omega | rfl)
          · exact gl_l (dK1_0 _ _ _).symm
          · first | with_reducible rfl | exact gl (by first | with_reducible rfl | (refine iF ?_; simp [h_14, h_21]; done) | (refine iT ?_; simp [h_14, h_21]; done) | (refine iB ?_; simp [h_14, h_21]; done) | (simp [h_14, h_21]; done) | (simp [h_14, h_21]; omega) | omega | rfl)
          · first | with_reducible rfl | exact gl (by first | with_reducible rfl | (refine iF ?_; simp [h_14, h_21]; done) | (refine iT ?_; simp [h_14, h_21]; done) | (refine iB ?_; simp [h_14, h_21]; done) | (simp [h_14, h_21]; done) | (simp [h_14, h_21]; omega) | omega | rfl)
  refine a_pad 4 ?_
  refine a_eq (L' := [some (.ref 0), some (.long h), none, none, none, none, none]) rfl rfl rfl ?_
  refine a_lload_n C dX6_mixKeys_0 rfl rfl ?_
  refine a_lstore_n C dX6_mixKeys_1 rfl (by decide) ?_
  refine a_iconst (v := nI 0) C dX6_mixKeys_2 (by decide) ?_
  refine a_istore C dX6_mixKeys_3 (by decide) ?_
  refine a_join (aLe_s ?_ (aLe_n (aLe_n (aLe_s ?_ (aLe_n (aLe_s ?_ (aLe_n aLe_nil))))))) rfl rfl (ZL5 (kN A + 1) 0 (by omega) (by omega))
  · first | with_reducible rfl | exact gl (by first | with_reducible rfl | (refine iF ?_; simp []; done) | (refine iT ?_; simp []; done) | (refine iB ?_; simp []; done) | (simp []; done) | (simp []; omega) | omega | rfl)
  · exact gl_l (dK3_0 _ _).symm
  · first | with_reducible rfl | exact gl (by first | with_reducible rfl | (refine iF ?_; simp []; done) | (refine iT ?_; simp []; done) | (refine iB ?_; simp []; done) | (simp []; done) | (simp []; omega) | omega | rfl)

set_option maxRecDepth 20000 in
set_option maxHeartbeats 4000000 in
theorem K_X6_mixLocksAndPersons {w : Wd} {A : St} (hD : DR w 3 A) (hA : AOK A) (h : Int64)  : CP yX6_mixLocksAndPersons cX6_mixLocksAndPersons 7 (some .long) 7 113 [.ref 0, .long h] w (.long (dPl A h)) := by
  refine CF.of ok_X6_mixLocksAndPersons (Nat.le_of_ble_eq_true rfl) (fun ex us G9 p9 l9 e9 s9 m9 ar9 be9 me9 co9 C hr => ?_)
  have ZL50 : ∀ (zd50 : Nat) (k : Nat), 4 + 1 ≤ k + zd50 → k ≤ 4 → WA G9 p9 l9 e9 (RM 7 113) s9 m9 ar9 be9 me9 co9 (QP G9 be9 ar9 s9 w ex us (.long (dPl A h))) 7 (219 + ex) us 50 [some (.ref 0), none, none, some (.long (dP2 A (dL2 A h 6) k)), none, some (.int (nI k)), none] [] (fzM w ex us) := by
    intro zd50
    induction zd50 with
    | zero => intro k zm50 zh50_0; exfalso; omega
    | succ zd50 zih50 =>
      intro k zm50 zh50_0
      have ZL59 : ∀ (zd59 : Nat) (j : Nat), 3 + 1 ≤ j + zd59 → j ≤ 3 → k < 4 → WA G9 p9 l9 e9 (RM 7 113) s9 m9 ar9 be9 me9 co9 (QP G9 be9 ar9 s9 w ex us (.long (dPl A h))) 7 (219 + ex) us 59 [some (.ref 0), none, none, some (.long (dP1 A k (dP2 A (dL2 A h 6) k) j)), none, some (.int (nI k)), some (.int (nI j))] [] (fzM w ex us) := by
        intro zd59
        induction zd59 with
        | zero => intro j zm59 zh59_0 zh59_1; exfalso; omega
        | succ zd59 zih59 =>
          intro j zm59 zh59_0 zh59_1
          refine a_iload C dX6_mixLocksAndPersons_59 rfl ?_
          refine a_iconst (v := nI 2) C dX6_mixLocksAndPersons_61 (by decide) ?_
          first | refine n_icmp_gt (tgt := 85) C dX6_mixLocksAndPersons_62 (by decide) (by first | decide | omega) (by first | decide | omega) (fun h_62 => ?_) (fun h_62 => ?_) | refine a_icmp_gt (tgt := 85) C dX6_mixLocksAndPersons_62 (by decide) (fun h_62 => ?_) (fun h_62 => ?_)
          · obtain rfl : j = 3 := by omega
            refine n_iinc C dX6_mixLocksAndPersons_85 rfl (by decide) ?_
            refine a_goto (tgt := 50) C dX6_mixLocksAndPersons_88 (by decide) ?_
            refine a_join (aLe_s ?_ (aLe_n (aLe_n (aLe_s ?_ (aLe_n (aLe_s ?_ (aLe_n aLe_nil))))))) rfl rfl (zih50 (k + 1) (by omega) (by omega))
            · first | with_reducible rfl | exact gl (by first | with_reducible rfl | (refine iF ?_; simp [h_62]; done) | (refine iT ?_; simp [h_62]; done) | (refine iB ?_; simp [h_62]; done) | (simp [h_62]; done) | (simp [h_62]; omega) | omega)
            · exact gl_l (dP2_s _ _ _).symm
            · first | with_reducible rfl | exact gl (by first | with_reducible rfl | (refine iF ?_; simp [h_62]; done) | (refine iT ?_; simp [h_62]; done) | (refine iB ?_; simp [h_62]; done) | (simp [h_62]; done) | (simp [h_62]; omega) | omega)
          · refine a_lload_n C dX6_mixLocksAndPersons_65 rfl rfl ?_
            refine a_aload_n C dX6_mixLocksAndPersons_66 rfl rfl ?_
            refine a_iload C dX6_mixLocksAndPersons_67 rfl ?_
            refine a_iload C dX6_mixLocksAndPersons_69 rfl ?_
            refine p_callV C (K_X6_person hD hA (by first | assumption | decide | omega) (by first | assumption | decide | omega)) vX6_499 rfl (by first | decide | omega) rfl rfl dX6_mixLocksAndPersons_71 (Nat.le_of_ble_eq_true rfl) ⟨by decide, by decide⟩ ?_
            refine a_i2l C dX6_mixLocksAndPersons_74 ?_
            refine p_callS C ((K_X6_mix _ _)).cp sX6_383 rfl dX6_mixLocksAndPersons_75 (Nat.le_of_ble_eq_true rfl) ⟨by decide, by decide⟩ ?_
            refine a_lstore_n C dX6_mixLocksAndPersons_78 rfl (by decide) ?_
            refine n_iinc C dX6_mixLocksAndPersons_79 rfl (by decide) ?_
            refine a_goto (tgt := 59) C dX6_mixLocksAndPersons_82 (by decide) ?_
            refine a_join (aLe_s ?_ (aLe_n (aLe_n (aLe_s ?_ (aLe_n (aLe_s ?_ (aLe_s ?_ aLe_nil))))))) rfl rfl (zih59 (j + 1) (by omega) (by omega) (by omega))
            · first | with_reducible rfl | exact gl (by first | with_reducible rfl | (refine iF ?_; simp [h_62]; done) | (refine iT ?_; simp [h_62]; done) | (refine iB ?_; simp [h_62]; done) | (simp [h_62]; done) | (simp [h_62]; omega) | omega)
            · exact gl_l (dP1_s _ _ _ _).symm
            · first | with_reducible rfl | exact gl (by first | with_reducible rfl | (refine iF ?_; simp [h_62]; done) | (refine iT ?_; simp [h_62]; done) | (refine iB ?_; simp [h_62]; done) | (simp [h_62]; done) | (simp [h_62]; omega) | omega)
            · first | with_reducible rfl | exact gl (by first | with_reducible rfl | (refine iF ?_; simp [h_62]; done) | (refine iT ?_; simp [h_62]; done) | (refine iB ?_; simp [h_62]; done) | (simp [h_62]; done) | (simp [h_62]; omega) | omega)
      refine a_iload C dX6_mixLocksAndPersons_50 rfl ?_
      refine a_iconst (v := nI 4) C dX6_mixLocksAndPersons_52 (by decide) ?_
      first | refine n_icmp_ge (tgt := 91) C dX6_mixLocksAndPersons_53 (by decide) (by first | decide | omega) (by first | decide | omega) (fun h_53 => ?_) (fun h_53 => ?_) | refine a_icmp_ge (tgt := 91) C dX6_mixLocksAndPersons_53 (by decide) (fun h_53 => ?_) (fun h_53 => ?_)
      · obtain rfl : k = 4 := by omega
        refine a_lload_n C dX6_mixLocksAndPersons_91 rfl rfl ?_
        refine f_lret C hr dX6_mixLocksAndPersons_92 ⟨?_, rfl⟩
        · exact gl_l (dPl_e _ _).symm
      · refine a_iconst (v := nI 0) C dX6_mixLocksAndPersons_56 (by decide) ?_
        refine a_istore C dX6_mixLocksAndPersons_57 (by decide) ?_
        refine a_join (aLe_s ?_ (aLe_n (aLe_n (aLe_s ?_ (aLe_n (aLe_s ?_ (aLe_s ?_ aLe_nil))))))) rfl rfl (ZL59 (3 + 1) 0 (by omega) (by omega) (by omega))
        · first | with_reducible rfl | exact gl (by first | with_reducible rfl | (refine iF ?_; simp [h_53]; done) | (refine iT ?_; simp [h_53]; done) | (refine iB ?_; simp [h_53]; done) | (simp [h_53]; done) | (simp [h_53]; omega) | omega | rfl)
        · exact gl_l (dP1_0 _ _ _).symm
        · first | with_reducible rfl | exact gl (by first | with_reducible rfl | (refine iF ?_; simp [h_53]; done) | (refine iT ?_; simp [h_53]; done) | (refine iB ?_; simp [h_53]; done) | (simp [h_53]; done) | (simp [h_53]; omega) | omega | rfl)
        · first | with_reducible rfl | exact gl (by first | with_reducible rfl | (refine iF ?_; simp [h_53]; done) | (refine iT ?_; simp [h_53]; done) | (refine iB ?_; simp [h_53]; done) | (simp [h_53]; done) | (simp [h_53]; omega) | omega | rfl)
  have ZL5 : ∀ (zd5 : Nat) (k : Nat), 6 + 1 ≤ k + zd5 → k ≤ 6 → WA G9 p9 l9 e9 (RM 7 113) s9 m9 ar9 be9 me9 co9 (QP G9 be9 ar9 s9 w ex us (.long (dPl A h))) 7 (219 + ex) us 5 [some (.ref 0), none, none, some (.long (dL2 A h k)), none, some (.int (nI k)), none] [] (fzM w ex us) := by
    intro zd5
    induction zd5 with
    | zero => intro k zm5 zh5_0; exfalso; omega
    | succ zd5 zih5 =>
      intro k zm5 zh5_0
      have ZL15 : ∀ (zd15 : Nat) (j : Nat), 6 + 1 ≤ j + zd15 → j ≤ 6 → k < 6 → WA G9 p9 l9 e9 (RM 7 113) s9 m9 ar9 be9 me9 co9 (QP G9 be9 ar9 s9 w ex us (.long (dPl A h))) 7 (219 + ex) us 15 [some (.ref 0), none, none, some (.long (dL1 A k (dL2 A h k) j)), none, some (.int (nI k)), some (.int (nI j))] [] (fzM w ex us) := by
        intro zd15
        induction zd15 with
        | zero => intro j zm15 zh15_0 zh15_1; exfalso; omega
        | succ zd15 zih15 =>
          intro j zm15 zh15_0 zh15_1
          refine a_iload C dX6_mixLocksAndPersons_15 rfl ?_
          refine a_iconst (v := nI 5) C dX6_mixLocksAndPersons_17 (by decide) ?_
          first | refine n_icmp_gt (tgt := 41) C dX6_mixLocksAndPersons_18 (by decide) (by first | decide | omega) (by first | decide | omega) (fun h_18 => ?_) (fun h_18 => ?_) | refine a_icmp_gt (tgt := 41) C dX6_mixLocksAndPersons_18 (by decide) (fun h_18 => ?_) (fun h_18 => ?_)
          · obtain rfl : j = 6 := by omega
            refine n_iinc C dX6_mixLocksAndPersons_41 rfl (by decide) ?_
            refine a_goto (tgt := 5) C dX6_mixLocksAndPersons_44 (by decide) ?_
            refine a_join (aLe_s ?_ (aLe_n (aLe_n (aLe_s ?_ (aLe_n (aLe_s ?_ (aLe_n aLe_nil))))))) rfl rfl (zih5 (k + 1) (by omega) (by omega))
            · first | with_reducible rfl | exact gl (by first | with_reducible rfl | (refine iF ?_; simp [h_18]; done) | (refine iT ?_; simp [h_18]; done) | (refine iB ?_; simp [h_18]; done) | (simp [h_18]; done) | (simp [h_18]; omega) | omega)
            · exact gl_l (dL2_s _ _ _).symm
            · first | with_reducible rfl | exact gl (by first | with_reducible rfl | (refine iF ?_; simp [h_18]; done) | (refine iT ?_; simp [h_18]; done) | (refine iB ?_; simp [h_18]; done) | (simp [h_18]; done) | (simp [h_18]; omega) | omega)
          · refine a_lload_n C dX6_mixLocksAndPersons_21 rfl rfl ?_
            refine a_aload_n C dX6_mixLocksAndPersons_22 rfl rfl ?_
            refine a_iload C dX6_mixLocksAndPersons_23 rfl ?_
            refine a_iload C dX6_mixLocksAndPersons_25 rfl ?_
            refine p_callV C (K_X6_lock hD hA (by first | assumption | decide | omega) (by first | assumption | decide | omega)) vX6_496 rfl (by first | decide | omega) rfl rfl dX6_mixLocksAndPersons_27 (Nat.le_of_ble_eq_true rfl) ⟨by decide, by decide⟩ ?_
            refine a_i2l C dX6_mixLocksAndPersons_30 ?_
            refine p_callS C ((K_X6_mix _ _)).cp sX6_383 rfl dX6_mixLocksAndPersons_31 (Nat.le_of_ble_eq_true rfl) ⟨by decide, by decide⟩ ?_
            refine a_lstore_n C dX6_mixLocksAndPersons_34 rfl (by decide) ?_
            refine n_iinc C dX6_mixLocksAndPersons_35 rfl (by decide) ?_
            refine a_goto (tgt := 15) C dX6_mixLocksAndPersons_38 (by decide) ?_
            refine a_join (aLe_s ?_ (aLe_n (aLe_n (aLe_s ?_ (aLe_n (aLe_s ?_ (aLe_s ?_ aLe_nil))))))) rfl rfl (zih15 (j + 1) (by omega) (by omega) (by omega))
            · first | with_reducible rfl | exact gl (by first | with_reducible rfl | (refine iF ?_; simp [h_18]; done) | (refine iT ?_; simp [h_18]; done) | (refine iB ?_; simp [h_18]; done) | (simp [h_18]; done) | (simp [h_18]; omega) | omega)
            · exact gl_l (dL1_s _ _ _ _).symm
            · first | with_reducible rfl | exact gl (by first | with_reducible rfl | (refine iF ?_; simp [h_18]; done) | (refine iT ?_; simp [h_18]; done) | (refine iB ?_; simp [h_18]; done) | (simp [h_18]; done) | (simp [h_18]; omega) | omega)
            · first | with_reducible rfl | exact gl (by first | with_reducible rfl | (refine iF ?_; simp [h_18]; done) | (refine iT ?_; simp [h_18]; done) | (refine iB ?_; simp [h_18]; done) | (simp [h_18]; done) | (simp [h_18]; omega) | omega)
      refine a_iload C dX6_mixLocksAndPersons_5 rfl ?_
      refine a_bipush (v := nI 6) C dX6_mixLocksAndPersons_7 (by decide) ?_
      first | refine n_icmp_ge (tgt := 47) C dX6_mixLocksAndPersons_9 (by decide) (by first | decide | omega) (by first | decide | omega) (fun h_9 => ?_) (fun h_9 => ?_) | refine a_icmp_ge (tgt := 47) C dX6_mixLocksAndPersons_9 (by decide) (fun h_9 => ?_) (fun h_9 => ?_)
      · obtain rfl : k = 6 := by omega
        refine a_iconst (v := nI 0) C dX6_mixLocksAndPersons_47 (by decide) ?_
        refine a_istore C dX6_mixLocksAndPersons_48 (by decide) ?_
        refine a_join (aLe_s ?_ (aLe_n (aLe_n (aLe_s ?_ (aLe_n (aLe_s ?_ (aLe_n aLe_nil))))))) rfl rfl (ZL50 (4 + 1) 0 (by omega) (by omega))
        · first | with_reducible rfl | exact gl (by first | with_reducible rfl | (refine iF ?_; simp [h_9]; done) | (refine iT ?_; simp [h_9]; done) | (refine iB ?_; simp [h_9]; done) | (simp [h_9]; done) | (simp [h_9]; omega) | omega | rfl)
        · exact gl_l (dP2_0 _ _).symm
        · first | with_reducible rfl | exact gl (by first | with_reducible rfl | (refine iF ?_; simp [h_9]; done) | (refine iT ?_; simp [h_9]; done) | (refine iB ?_; simp [h_9]; done) | (simp [h_9]; done) | (simp [h_9]; omega) | omega | rfl)
      · refine a_iconst (v := nI 0) C dX6_mixLocksAndPersons_12 (by decide) ?_
        refine a_istore C dX6_mixLocksAndPersons_13 (by decide) ?_
        refine a_join (aLe_s ?_ (aLe_n (aLe_n (aLe_s ?_ (aLe_n (aLe_s ?_ (aLe_s ?_ aLe_nil))))))) rfl rfl (ZL15 (6 + 1) 0 (by omega) (by omega) (by omega))
        · first | with_reducible rfl | exact gl (by first | with_reducible rfl | (refine iF ?_; simp [h_9]; done) | (refine iT ?_; simp [h_9]; done) | (refine iB ?_; simp [h_9]; done) | (simp [h_9]; done) | (simp [h_9]; omega) | omega | rfl)
        · exact gl_l (dL1_0 _ _ _).symm
        · first | with_reducible rfl | exact gl (by first | with_reducible rfl | (refine iF ?_; simp [h_9]; done) | (refine iT ?_; simp [h_9]; done) | (refine iB ?_; simp [h_9]; done) | (simp [h_9]; done) | (simp [h_9]; omega) | omega | rfl)
        · first | with_reducible rfl | exact gl (by first | with_reducible rfl | (refine iF ?_; simp [h_9]; done) | (refine iT ?_; simp [h_9]; done) | (refine iB ?_; simp [h_9]; done) | (simp [h_9]; done) | (simp [h_9]; omega) | omega | rfl)
  refine a_pad 4 ?_
  refine a_eq (L' := [some (.ref 0), some (.long h), none, none, none, none, none]) rfl rfl rfl ?_
  refine a_lload_n C dX6_mixLocksAndPersons_0 rfl rfl ?_
  refine a_lstore_n C dX6_mixLocksAndPersons_1 rfl (by decide) ?_
  refine a_iconst (v := nI 0) C dX6_mixLocksAndPersons_2 (by decide) ?_
  refine a_istore C dX6_mixLocksAndPersons_3 (by decide) ?_
  refine a_join (aLe_s ?_ (aLe_n (aLe_n (aLe_s ?_ (aLe_n (aLe_s ?_ (aLe_n aLe_nil))))))) rfl rfl (ZL5 (6 + 1) 0 (by omega) (by omega))
  · first | with_reducible rfl | exact gl (by first | with_reducible rfl | (refine iF ?_; simp []; done) | (refine iT ?_; simp []; done) | (refine iB ?_; simp []; done) | (simp []; done) | (simp []; omega) | omega | rfl)
  · exact gl_l (dL2_0 _ _).symm
  · first | with_reducible rfl | exact gl (by first | with_reducible rfl | (refine iF ?_; simp []; done) | (refine iT ?_; simp []; done) | (refine iB ?_; simp []; done) | (simp []; done) | (simp []; omega) | omega | rfl)

set_option maxRecDepth 20000 in
set_option maxHeartbeats 4000000 in
theorem K_X6_mixCodesAndLevels {w : Wd} {A : St} (hD : DR w 3 A) (hA : AOK A) (h : Int64)  : CP yX6_mixCodesAndLevels cX6_mixCodesAndLevels 7 (some .long) 7 116 [.ref 0, .long h] w (.long (dCo A h)) := by
  refine CF.of ok_X6_mixCodesAndLevels (Nat.le_of_ble_eq_true rfl) (fun ex us G9 p9 l9 e9 s9 m9 ar9 be9 me9 co9 C hr => ?_)
  have ZL50 : ∀ (zd50 : Nat) (k : Nat), 9 + 1 ≤ k + zd50 → k ≤ 9 → WA G9 p9 l9 e9 (RM 7 116) s9 m9 ar9 be9 me9 co9 (QP G9 be9 ar9 s9 w ex us (.long (dCo A h))) 7 (219 + ex) us 50 [some (.ref 0), none, none, some (.long (dV2 A (dO2 A h 81) k)), none, some (.int (nI k)), none] [] (fzM w ex us) := by
    intro zd50
    induction zd50 with
    | zero => intro k zm50 zh50_0; exfalso; omega
    | succ zd50 zih50 =>
      intro k zm50 zh50_0
      have ZL60 : ∀ (zd60 : Nat) (j : Nat), 4 + 1 ≤ j + zd60 → j ≤ 4 → k < 9 → WA G9 p9 l9 e9 (RM 7 116) s9 m9 ar9 be9 me9 co9 (QP G9 be9 ar9 s9 w ex us (.long (dCo A h))) 7 (219 + ex) us 60 [some (.ref 0), none, none, some (.long (dV1 A k (dV2 A (dO2 A h 81) k) j)), none, some (.int (nI k)), some (.int (nI j))] [] (fzM w ex us) := by
        intro zd60
        induction zd60 with
        | zero => intro j zm60 zh60_0 zh60_1; exfalso; omega
        | succ zd60 zih60 =>
          intro j zm60 zh60_0 zh60_1
          refine a_iload C dX6_mixCodesAndLevels_60 rfl ?_
          refine a_iconst (v := nI 3) C dX6_mixCodesAndLevels_62 (by decide) ?_
          first | refine n_icmp_gt (tgt := 86) C dX6_mixCodesAndLevels_63 (by decide) (by first | decide | omega) (by first | decide | omega) (fun h_63 => ?_) (fun h_63 => ?_) | refine a_icmp_gt (tgt := 86) C dX6_mixCodesAndLevels_63 (by decide) (fun h_63 => ?_) (fun h_63 => ?_)
          · obtain rfl : j = 4 := by omega
            refine n_iinc C dX6_mixCodesAndLevels_86 rfl (by decide) ?_
            refine a_goto (tgt := 50) C dX6_mixCodesAndLevels_89 (by decide) ?_
            refine a_join (aLe_s ?_ (aLe_n (aLe_n (aLe_s ?_ (aLe_n (aLe_s ?_ (aLe_n aLe_nil))))))) rfl rfl (zih50 (k + 1) (by omega) (by omega))
            · first | with_reducible rfl | exact gl (by first | with_reducible rfl | (refine iF ?_; simp [h_63]; done) | (refine iT ?_; simp [h_63]; done) | (refine iB ?_; simp [h_63]; done) | (simp [h_63]; done) | (simp [h_63]; omega) | omega)
            · exact gl_l (dV2_s _ _ _).symm
            · first | with_reducible rfl | exact gl (by first | with_reducible rfl | (refine iF ?_; simp [h_63]; done) | (refine iT ?_; simp [h_63]; done) | (refine iB ?_; simp [h_63]; done) | (simp [h_63]; done) | (simp [h_63]; omega) | omega)
          · refine a_lload_n C dX6_mixCodesAndLevels_66 rfl rfl ?_
            refine a_aload_n C dX6_mixCodesAndLevels_67 rfl rfl ?_
            refine a_iload C dX6_mixCodesAndLevels_68 rfl ?_
            refine a_iload C dX6_mixCodesAndLevels_70 rfl ?_
            refine p_callV C (K_X6_level hD hA (by first | assumption | decide | omega) (by first | assumption | decide | omega)) vX6_504 rfl (by first | decide | omega) rfl rfl dX6_mixCodesAndLevels_72 (Nat.le_of_ble_eq_true rfl) ⟨by decide, by decide⟩ ?_
            refine a_i2l C dX6_mixCodesAndLevels_75 ?_
            refine p_callS C ((K_X6_mix _ _)).cp sX6_383 rfl dX6_mixCodesAndLevels_76 (Nat.le_of_ble_eq_true rfl) ⟨by decide, by decide⟩ ?_
            refine a_lstore_n C dX6_mixCodesAndLevels_79 rfl (by decide) ?_
            refine n_iinc C dX6_mixCodesAndLevels_80 rfl (by decide) ?_
            refine a_goto (tgt := 60) C dX6_mixCodesAndLevels_83 (by decide) ?_
            refine a_join (aLe_s ?_ (aLe_n (aLe_n (aLe_s ?_ (aLe_n (aLe_s ?_ (aLe_s ?_ aLe_nil))))))) rfl rfl (zih60 (j + 1) (by omega) (by omega) (by omega))
            · first | with_reducible rfl | exact gl (by first | with_reducible rfl | (refine iF ?_; simp [h_63]; done) | (refine iT ?_; simp [h_63]; done) | (refine iB ?_; simp [h_63]; done) | (simp [h_63]; done) | (simp [h_63]; omega) | omega)
            · exact gl_l (dV1_s _ _ _ _).symm
            · first | with_reducible rfl | exact gl (by first | with_reducible rfl | (refine iF ?_; simp [h_63]; done) | (refine iT ?_; simp [h_63]; done) | (refine iB ?_; simp [h_63]; done) | (simp [h_63]; done) | (simp [h_63]; omega) | omega)
            · first | with_reducible rfl | exact gl (by first | with_reducible rfl | (refine iF ?_; simp [h_63]; done) | (refine iT ?_; simp [h_63]; done) | (refine iB ?_; simp [h_63]; done) | (simp [h_63]; done) | (simp [h_63]; omega) | omega)
      refine a_iload C dX6_mixCodesAndLevels_50 rfl ?_
      refine a_bipush (v := nI 9) C dX6_mixCodesAndLevels_52 (by decide) ?_
      first | refine n_icmp_ge (tgt := 92) C dX6_mixCodesAndLevels_54 (by decide) (by first | decide | omega) (by first | decide | omega) (fun h_54 => ?_) (fun h_54 => ?_) | refine a_icmp_ge (tgt := 92) C dX6_mixCodesAndLevels_54 (by decide) (fun h_54 => ?_) (fun h_54 => ?_)
      · obtain rfl : k = 9 := by omega
        refine a_lload_n C dX6_mixCodesAndLevels_92 rfl rfl ?_
        refine f_lret C hr dX6_mixCodesAndLevels_93 ⟨?_, rfl⟩
        · exact gl_l (dCo_e _ _).symm
      · refine a_iconst (v := nI 0) C dX6_mixCodesAndLevels_57 (by decide) ?_
        refine a_istore C dX6_mixCodesAndLevels_58 (by decide) ?_
        refine a_join (aLe_s ?_ (aLe_n (aLe_n (aLe_s ?_ (aLe_n (aLe_s ?_ (aLe_s ?_ aLe_nil))))))) rfl rfl (ZL60 (4 + 1) 0 (by omega) (by omega) (by omega))
        · first | with_reducible rfl | exact gl (by first | with_reducible rfl | (refine iF ?_; simp [h_54]; done) | (refine iT ?_; simp [h_54]; done) | (refine iB ?_; simp [h_54]; done) | (simp [h_54]; done) | (simp [h_54]; omega) | omega | rfl)
        · exact gl_l (dV1_0 _ _ _).symm
        · first | with_reducible rfl | exact gl (by first | with_reducible rfl | (refine iF ?_; simp [h_54]; done) | (refine iT ?_; simp [h_54]; done) | (refine iB ?_; simp [h_54]; done) | (simp [h_54]; done) | (simp [h_54]; omega) | omega | rfl)
        · first | with_reducible rfl | exact gl (by first | with_reducible rfl | (refine iF ?_; simp [h_54]; done) | (refine iT ?_; simp [h_54]; done) | (refine iB ?_; simp [h_54]; done) | (simp [h_54]; done) | (simp [h_54]; omega) | omega | rfl)
  have ZL5 : ∀ (zd5 : Nat) (k : Nat), 81 + 1 ≤ k + zd5 → k ≤ 81 → WA G9 p9 l9 e9 (RM 7 116) s9 m9 ar9 be9 me9 co9 (QP G9 be9 ar9 s9 w ex us (.long (dCo A h))) 7 (219 + ex) us 5 [some (.ref 0), none, none, some (.long (dO2 A h k)), none, some (.int (nI k)), none] [] (fzM w ex us) := by
    intro zd5
    induction zd5 with
    | zero => intro k zm5 zh5_0; exfalso; omega
    | succ zd5 zih5 =>
      intro k zm5 zh5_0
      have ZL15 : ∀ (zd15 : Nat) (j : Nat), 4 + 1 ≤ j + zd15 → j ≤ 4 → k < 81 → WA G9 p9 l9 e9 (RM 7 116) s9 m9 ar9 be9 me9 co9 (QP G9 be9 ar9 s9 w ex us (.long (dCo A h))) 7 (219 + ex) us 15 [some (.ref 0), none, none, some (.long (dO1 A k (dO2 A h k) j)), none, some (.int (nI k)), some (.int (nI (j + 2)))] [] (fzM w ex us) := by
        intro zd15
        induction zd15 with
        | zero => intro j zm15 zh15_0 zh15_1; exfalso; omega
        | succ zd15 zih15 =>
          intro j zm15 zh15_0 zh15_1
          refine a_iload C dX6_mixCodesAndLevels_15 rfl ?_
          refine a_iconst (v := nI 5) C dX6_mixCodesAndLevels_17 (by decide) ?_
          first | refine n_icmp_gt (tgt := 41) C dX6_mixCodesAndLevels_18 (by decide) (by first | decide | omega) (by first | decide | omega) (fun h_18 => ?_) (fun h_18 => ?_) | refine a_icmp_gt (tgt := 41) C dX6_mixCodesAndLevels_18 (by decide) (fun h_18 => ?_) (fun h_18 => ?_)
          · obtain rfl : j = 4 := by omega
            refine n_iinc C dX6_mixCodesAndLevels_41 rfl (by decide) ?_
            refine a_goto (tgt := 5) C dX6_mixCodesAndLevels_44 (by decide) ?_
            refine a_join (aLe_s ?_ (aLe_n (aLe_n (aLe_s ?_ (aLe_n (aLe_s ?_ (aLe_n aLe_nil))))))) rfl rfl (zih5 (k + 1) (by omega) (by omega))
            · first | with_reducible rfl | exact gl (by first | with_reducible rfl | (refine iF ?_; simp [h_18]; done) | (refine iT ?_; simp [h_18]; done) | (refine iB ?_; simp [h_18]; done) | (simp [h_18]; done) | (simp [h_18]; omega) | omega)
            · exact gl_l (dO2_s _ _ _).symm
            · first | with_reducible rfl | exact gl (by first | with_reducible rfl | (refine iF ?_; simp [h_18]; done) | (refine iT ?_; simp [h_18]; done) | (refine iB ?_; simp [h_18]; done) | (simp [h_18]; done) | (simp [h_18]; omega) | omega)
          · refine a_lload_n C dX6_mixCodesAndLevels_21 rfl rfl ?_
            refine a_aload_n C dX6_mixCodesAndLevels_22 rfl rfl ?_
            refine a_iload C dX6_mixCodesAndLevels_23 rfl ?_
            refine a_iload C dX6_mixCodesAndLevels_25 rfl ?_
            refine p_callV C (K_X6_code hD hA (by first | assumption | decide | omega) (by first | assumption | decide | omega)) vX6_502 rfl (by first | decide | omega) rfl rfl dX6_mixCodesAndLevels_27 (Nat.le_of_ble_eq_true rfl) ⟨by decide, by decide⟩ ?_
            refine a_i2l C dX6_mixCodesAndLevels_30 ?_
            refine p_callS C ((K_X6_mix _ _)).cp sX6_383 rfl dX6_mixCodesAndLevels_31 (Nat.le_of_ble_eq_true rfl) ⟨by decide, by decide⟩ ?_
            refine a_lstore_n C dX6_mixCodesAndLevels_34 rfl (by decide) ?_
            refine n_iinc C dX6_mixCodesAndLevels_35 rfl (by decide) ?_
            refine a_goto (tgt := 15) C dX6_mixCodesAndLevels_38 (by decide) ?_
            refine a_join (aLe_s ?_ (aLe_n (aLe_n (aLe_s ?_ (aLe_n (aLe_s ?_ (aLe_s ?_ aLe_nil))))))) rfl rfl (zih15 (j + 1) (by omega) (by omega) (by omega))
            · first | with_reducible rfl | exact gl (by first | with_reducible rfl | (refine iF ?_; simp [h_18]; done) | (refine iT ?_; simp [h_18]; done) | (refine iB ?_; simp [h_18]; done) | (simp [h_18]; done) | (simp [h_18]; omega) | omega)
            · exact gl_l (dO1_s _ _ _ _).symm
            · first | with_reducible rfl | exact gl (by first | with_reducible rfl | (refine iF ?_; simp [h_18]; done) | (refine iT ?_; simp [h_18]; done) | (refine iB ?_; simp [h_18]; done) | (simp [h_18]; done) | (simp [h_18]; omega) | omega)
            · first | with_reducible rfl | exact gl (by first | with_reducible rfl | (refine iF ?_; simp [h_18]; done) | (refine iT ?_; simp [h_18]; done) | (refine iB ?_; simp [h_18]; done) | (simp [h_18]; done) | (simp [h_18]; omega) | omega)
      refine a_iload C dX6_mixCodesAndLevels_5 rfl ?_
      refine a_bipush (v := nI 81) C dX6_mixCodesAndLevels_7 (by decide) ?_
      first | refine n_icmp_ge (tgt := 47) C dX6_mixCodesAndLevels_9 (by decide) (by first | decide | omega) (by first | decide | omega) (fun h_9 => ?_) (fun h_9 => ?_) | refine a_icmp_ge (tgt := 47) C dX6_mixCodesAndLevels_9 (by decide) (fun h_9 => ?_) (fun h_9 => ?_)
      · obtain rfl : k = 81 := by omega
        refine a_iconst (v := nI 0) C dX6_mixCodesAndLevels_47 (by decide) ?_
        refine a_istore C dX6_mixCodesAndLevels_48 (by decide) ?_
        refine a_join (aLe_s ?_ (aLe_n (aLe_n (aLe_s ?_ (aLe_n (aLe_s ?_ (aLe_n aLe_nil))))))) rfl rfl (ZL50 (9 + 1) 0 (by omega) (by omega))
        · first | with_reducible rfl | exact gl (by first | with_reducible rfl | (refine iF ?_; simp [h_9]; done) | (refine iT ?_; simp [h_9]; done) | (refine iB ?_; simp [h_9]; done) | (simp [h_9]; done) | (simp [h_9]; omega) | omega | rfl)
        · exact gl_l (dV2_0 _ _).symm
        · first | with_reducible rfl | exact gl (by first | with_reducible rfl | (refine iF ?_; simp [h_9]; done) | (refine iT ?_; simp [h_9]; done) | (refine iB ?_; simp [h_9]; done) | (simp [h_9]; done) | (simp [h_9]; omega) | omega | rfl)
      · refine a_iconst (v := nI 2) C dX6_mixCodesAndLevels_12 (by decide) ?_
        refine a_istore C dX6_mixCodesAndLevels_13 (by decide) ?_
        refine a_join (aLe_s ?_ (aLe_n (aLe_n (aLe_s ?_ (aLe_n (aLe_s ?_ (aLe_s ?_ aLe_nil))))))) rfl rfl (ZL15 (4 + 1) 0 (by omega) (by omega) (by omega))
        · first | with_reducible rfl | exact gl (by first | with_reducible rfl | (refine iF ?_; simp [h_9]; done) | (refine iT ?_; simp [h_9]; done) | (refine iB ?_; simp [h_9]; done) | (simp [h_9]; done) | (simp [h_9]; omega) | omega | rfl)
        · exact gl_l (dO1_0 _ _ _).symm
        · first | with_reducible rfl | exact gl (by first | with_reducible rfl | (refine iF ?_; simp [h_9]; done) | (refine iT ?_; simp [h_9]; done) | (refine iB ?_; simp [h_9]; done) | (simp [h_9]; done) | (simp [h_9]; omega) | omega | rfl)
        · first | with_reducible rfl | exact gl (by first | with_reducible rfl | (refine iF ?_; simp [h_9]; done) | (refine iT ?_; simp [h_9]; done) | (refine iB ?_; simp [h_9]; done) | (simp [h_9]; done) | (simp [h_9]; omega) | omega | rfl)
  refine a_pad 4 ?_
  refine a_eq (L' := [some (.ref 0), some (.long h), none, none, none, none, none]) rfl rfl rfl ?_
  refine a_lload_n C dX6_mixCodesAndLevels_0 rfl rfl ?_
  refine a_lstore_n C dX6_mixCodesAndLevels_1 rfl (by decide) ?_
  refine a_iconst (v := nI 0) C dX6_mixCodesAndLevels_2 (by decide) ?_
  refine a_istore C dX6_mixCodesAndLevels_3 (by decide) ?_
  refine a_join (aLe_s ?_ (aLe_n (aLe_n (aLe_s ?_ (aLe_n (aLe_s ?_ (aLe_n aLe_nil))))))) rfl rfl (ZL5 (81 + 1) 0 (by omega) (by omega))
  · first | with_reducible rfl | exact gl (by first | with_reducible rfl | (refine iF ?_; simp []; done) | (refine iT ?_; simp []; done) | (refine iB ?_; simp []; done) | (simp []; done) | (simp []; omega) | omega | rfl)
  · exact gl_l (dO2_0 _ _).symm
  · first | with_reducible rfl | exact gl (by first | with_reducible rfl | (refine iF ?_; simp []; done) | (refine iT ?_; simp []; done) | (refine iB ?_; simp []; done) | (simp []; done) | (simp []; omega) | omega | rfl)

theorem dg_head {A : St} {sv : Int32} {hs : Bool} {v : Int64} {t : Nat → Nat} {ln : Nat} (h : v = hsL hs) : mx (mx (mx (mx (mx (mx (mx (mx (mx (mx (mx (dCo A (dPl A (dKy A (dCn A sv 3613)))) (A (6 + 0)).toInt64) (A (6 + 1)).toInt64) (nI (mstA A 0)).toInt64) (nI (mstA A 1)).toInt64) (pckA A (nI 0)).toInt64) (pckA A (nI 1)).toInt64) (pckA A (nI 2)).toInt64) (shrA A).toInt64) (mnA A).toInt32.toInt64) v) (nI ln).toInt64 = dBf t (dHd A sv hs ln) 0 := by
  rw [dBf_0]
  unfold dHd dFp dMo dSt
  rw [show (3 : Nat) = 2 + 1 from rfl, dPk_s, show (2 : Nat) = 1 + 1 from rfl, dPk_s, show (1 : Nat) = 0 + 1 from rfl, dPk_s, dPk_0, h]
  unfold mi
  rfl
theorem KS_X6_freeShare {w : Wd} {A : St} (hD : DR w 3 A) (hA : AOK A) : CP yX6_freeShare cX6_freeShare 2 (some .double) 4 93 [.ref 0] w (.double (shrA A)) := by
  unfold shrA
  exact K_X6_freeShare hD hA
set_option maxRecDepth 20000 in
set_option maxHeartbeats 4000000 in
theorem K_X6_digest {w : Wd} {A : St} {F : Nat → Bool} (hD : DR w 3 A) (hA : AOK A) (hM : Mo w F) {hs : Bool} (hh : w.1 0 5 = bI hs) {t : Nat → Nat} {ln : Nat} (hT : Tx w t ln) : CF yX6_digest cX6_digest 4 (some .long) 8 142 [.ref 0] w (fun r w' => r = some (.long (dgA A (w.1 0 8) hs t ln)) ∧ Mo w' (fS A) ∧ Frm [55, 56, 57, 58, 59, 60, 61, 62, 63, 64, 65] w w') := by
  have zq_l := hT.2.1
  refine CF.of ok_X6_digest (Nat.le_of_ble_eq_true rfl) (fun ex us G9 p9 l9 e9 s9 m9 ar9 be9 me9 co9 C hr => ?_)
  have ZL154 : ∀ (zd154 : Nat) (k : Nat) (z : Wd), ln + 1 ≤ k + zd154 → k ≤ ln → Mo z (fS A) → Frm [55, 56, 57, 58, 59, 60, 61, 62, 63, 64, 65] w z → WA G9 p9 l9 e9 (RM 8 142) s9 m9 ar9 be9 me9 co9 (QF G9 be9 ar9 s9 w ex us (fun r w' => r = some (.long (dgA A (w.1 0 8) hs t ln)) ∧ Mo w' (fS A) ∧ Frm [55, 56, 57, 58, 59, 60, 61, 62, 63, 64, 65] w w')) 4 (219 + ex) us 154 [some (.ref 0), some (.long (dBf t (dHd A (w.1 0 8) hs ln) k)), none, some (.int (nI k))] [] (fzM z ex us) := by
    intro zd154
    induction zd154 with
    | zero => intro k z zm154 zh_k zh_M zh_F; exfalso; omega
    | succ zd154 zih154 =>
      intro k z zm154 zh_k zh_M zh_F
      have zh_T : Tx z t ln := hT.eq (by rw [zh_F.at 1 (by decide)]) (zh_F.at 2 (by decide))
      refine a_iload_n C dX6_digest_154 rfl rfl ?_
      refine a_aload_n C dX6_digest_155 rfl rfl ?_
      refine a_getfF C fX6_10 dX6_digest_156 (show _ < 219 from (by first | decide | omega)) (by first | decide | omega) rfl rfl ?_
      refine a_getf C fX6_199 dX6_digest_159 (show _ < 219 from (by first | decide | omega)) (by first | decide | omega) rfl (gl zh_T.1) ?_
      refine n_icmp_ge (tgt := 192) C dX6_digest_162 (by decide) (by first | decide | omega) (by first | decide | omega) (fun h_162 => ?_) (fun h_162 => ?_)
      · refine a_lload_n C dX6_digest_192 rfl rfl ?_
        refine f_lret C hr dX6_digest_193 ?_
        · obtain rfl : k = ln := by omega
          exact ⟨rfl, zh_M, zh_F⟩
      · refine a_iload_n C dX6_digest_165 rfl rfl ?_
        refine a_bipush (v := nI 60) C dX6_digest_166 (by decide) ?_
        first | refine n_icmp_ge (tgt := 192) C dX6_digest_168 (by decide) (by first | decide | omega) (by first | decide | omega) (fun h_168 => ?_) (fun h_168 => ?_) | refine a_icmp_ge (tgt := 192) C dX6_digest_168 (by decide) (fun h_168 => ?_) (fun h_168 => ?_)
        · exfalso; omega
        · refine a_lload_n C dX6_digest_171 rfl rfl ?_
          refine a_aload_n C dX6_digest_172 rfl rfl ?_
          refine a_getfF C fX6_10 dX6_digest_173 (show _ < 219 from (by first | decide | omega)) (by first | decide | omega) rfl rfl ?_
          refine a_getfF C fX6_204 dX6_digest_176 (show _ < 219 from (by first | decide | omega)) (by first | decide | omega) rfl rfl ?_
          refine a_iload_n C dX6_digest_179 rfl rfl ?_
          refine n_cald C dX6_digest_180 (show _ < 219 from (by first | decide | omega)) (by first | decide | omega) rfl rfl (by first | decide | omega) (by decide) (zh_T.2.2 k (by omega)).1 ?_
          refine a_i2l C dX6_digest_181 ?_
          refine p_callS C ((K_X6_mix _ _)).cp sX6_383 rfl dX6_digest_182 (Nat.le_of_ble_eq_true rfl) ⟨by decide, by decide⟩ ?_
          refine a_lstore_n C dX6_digest_185 rfl (by decide) ?_
          refine n_iinc C dX6_digest_186 rfl (by decide) ?_
          refine a_goto (tgt := 154) C dX6_digest_189 (by decide) ?_
          refine a_join (aLe_s ?_ (aLe_s ?_ (aLe_n (aLe_s ?_ aLe_nil)))) rfl rfl (zih154 (k + 1) z (by omega) (by omega) zh_M zh_F)
          · first | with_reducible rfl | exact gl (by first | with_reducible rfl | (refine iF ?_; simp [h_162, h_168]; done) | (refine iT ?_; simp [h_162, h_168]; done) | (refine iB ?_; simp [h_162, h_168]; done) | (simp [h_162, h_168]; done) | (simp [h_162, h_168]; omega) | omega)
          · exact gl_l (dBf_s _ _ _).symm
          · first | with_reducible rfl | exact gl (by first | with_reducible rfl | (refine iF ?_; simp [h_162, h_168]; done) | (refine iT ?_; simp [h_162, h_168]; done) | (refine iB ?_; simp [h_162, h_168]; done) | (simp [h_162, h_168]; done) | (simp [h_162, h_168]; omega) | omega)
  refine a_pad 3 ?_
  refine a_eq (L' := [some (.ref 0), none, none, none]) rfl rfl rfl ?_
  refine a_ldcl C dX6_digest_0 wX6_365 ?_
  refine a_lstore_n C dX6_digest_3 rfl (by decide) ?_
  refine a_aload_n C dX6_digest_4 rfl rfl ?_
  refine a_lload_n C dX6_digest_5 rfl rfl ?_
  refine p_callV C (K_X6_mixCounts hD hA _) vX6_367 rfl (by first | decide | omega) rfl rfl dX6_digest_6 (Nat.le_of_ble_eq_true rfl) ⟨by decide, by decide⟩ ?_
  refine a_lstore_n C dX6_digest_9 rfl (by decide) ?_
  refine a_eq (L' := [some (.ref 0), some (.long _), none, none]) rfl rfl rfl ?_
  refine a_aload_n C dX6_digest_10 rfl rfl ?_
  refine a_lload_n C dX6_digest_11 rfl rfl ?_
  refine p_callV C (K_X6_mixKeys hD hA _) vX6_371 rfl (by first | decide | omega) rfl rfl dX6_digest_12 (Nat.le_of_ble_eq_true rfl) ⟨by decide, by decide⟩ ?_
  refine a_lstore_n C dX6_digest_15 rfl (by decide) ?_
  refine a_eq (L' := [some (.ref 0), some (.long _), none, none]) rfl rfl rfl ?_
  refine a_aload_n C dX6_digest_16 rfl rfl ?_
  refine a_lload_n C dX6_digest_17 rfl rfl ?_
  refine p_callV C (K_X6_mixLocksAndPersons hD hA _) vX6_374 rfl (by first | decide | omega) rfl rfl dX6_digest_18 (Nat.le_of_ble_eq_true rfl) ⟨by decide, by decide⟩ ?_
  refine a_lstore_n C dX6_digest_21 rfl (by decide) ?_
  refine a_eq (L' := [some (.ref 0), some (.long _), none, none]) rfl rfl rfl ?_
  refine a_aload_n C dX6_digest_22 rfl rfl ?_
  refine a_lload_n C dX6_digest_23 rfl rfl ?_
  refine p_callV C (K_X6_mixCodesAndLevels hD hA _) vX6_377 rfl (by first | decide | omega) rfl rfl dX6_digest_24 (Nat.le_of_ble_eq_true rfl) ⟨by decide, by decide⟩ ?_
  refine a_lstore_n C dX6_digest_27 rfl (by decide) ?_
  refine a_eq (L' := [some (.ref 0), some (.long _), none, none]) rfl rfl rfl ?_
  refine a_lload_n C dX6_digest_28 rfl rfl ?_
  refine a_aload_n C dX6_digest_29 rfl rfl ?_
  refine a_iconst (v := nI 0) C dX6_digest_30 (by decide) ?_
  refine p_callV C (K_X6_stopped hD hA (by first | assumption | decide | omega)) vX6_380 rfl (by first | decide | omega) rfl rfl dX6_digest_31 (Nat.le_of_ble_eq_true rfl) ⟨by decide, by decide⟩ ?_
  refine a_i2l C dX6_digest_34 ?_
  refine p_callS C ((K_X6_mix _ _)).cp sX6_383 rfl dX6_digest_35 (Nat.le_of_ble_eq_true rfl) ⟨by decide, by decide⟩ ?_
  refine a_aload_n C dX6_digest_38 rfl rfl ?_
  refine a_iconst (v := nI 1) C dX6_digest_39 (by decide) ?_
  refine p_callV C (K_X6_stopped hD hA (by first | assumption | decide | omega)) vX6_380 rfl (by first | decide | omega) rfl rfl dX6_digest_40 (Nat.le_of_ble_eq_true rfl) ⟨by decide, by decide⟩ ?_
  refine a_i2l C dX6_digest_43 ?_
  refine p_callS C ((K_X6_mix _ _)).cp sX6_383 rfl dX6_digest_44 (Nat.le_of_ble_eq_true rfl) ⟨by decide, by decide⟩ ?_
  refine a_lstore_n C dX6_digest_47 rfl (by decide) ?_
  refine a_eq (L' := [some (.ref 0), some (.long _), none, none]) rfl rfl rfl ?_
  refine a_lload_n C dX6_digest_48 rfl rfl ?_
  refine a_aload_n C dX6_digest_49 rfl rfl ?_
  refine a_iconst (v := nI 0) C dX6_digest_50 (by decide) ?_
  refine f_callV C _ _ (K_X6_most hD hA hM (by decide)) vX6_387 (by first | decide | omega) rfl rfl dX6_digest_51 rfl (Nat.le_of_ble_eq_true rfl) ⟨by decide, by decide⟩ (fun zr51 zw51 zp51 => ?_)
  obtain ⟨rfl, zM51, zy_51⟩ := zp51
  have zF51 : Frm [55, 56, 57, 58, 59, 60, 61, 62, 63, 64, 65] w zw51 := zy_51
  have zD51 := hD.x0 hA zF51 (by decide)
  refine a_i2l C dX6_digest_54 ?_
  refine p_callS C ((K_X6_mix _ _)).cp sX6_383 rfl dX6_digest_55 (Nat.le_of_ble_eq_true rfl) ⟨by decide, by decide⟩ ?_
  refine a_aload_n C dX6_digest_58 rfl rfl ?_
  refine a_iconst (v := nI 1) C dX6_digest_59 (by decide) ?_
  refine f_callV C _ _ (K_X6_most zD51 hA zM51 (by decide)) vX6_387 (by first | decide | omega) rfl rfl dX6_digest_60 rfl (Nat.le_of_ble_eq_true rfl) ⟨by decide, by decide⟩ (fun zr60 zw60 zp60 => ?_)
  obtain ⟨rfl, zM60, zy_60⟩ := zp60
  have zF60 : Frm [55, 56, 57, 58, 59, 60, 61, 62, 63, 64, 65] w zw60 := zF51.tr zy_60
  have zD60 := hD.x0 hA zF60 (by decide)
  refine a_i2l C dX6_digest_63 ?_
  refine p_callS C ((K_X6_mix _ _)).cp sX6_383 rfl dX6_digest_64 (Nat.le_of_ble_eq_true rfl) ⟨by decide, by decide⟩ ?_
  refine a_lstore_n C dX6_digest_67 rfl (by decide) ?_
  refine a_eq (L' := [some (.ref 0), some (.long _), none, none]) rfl rfl rfl ?_
  refine a_lload_n C dX6_digest_68 rfl rfl ?_
  refine a_aload_n C dX6_digest_69 rfl rfl ?_
  refine a_iconst (v := nI 0) C dX6_digest_70 (by decide) ?_
  refine f_callV C _ _ (K_X6_pick zD60 hA zM60 (nI 0) (by decide)) vX6_390 (by first | decide | omega) rfl rfl dX6_digest_71 rfl (Nat.le_of_ble_eq_true rfl) ⟨by decide, by decide⟩ (fun zr71 zw71 zp71 => ?_)
  obtain ⟨rfl, zM71, zy_71⟩ := zp71
  have zF71 : Frm [55, 56, 57, 58, 59, 60, 61, 62, 63, 64, 65] w zw71 := zF60.tr zy_71
  have zD71 := hD.x0 hA zF71 (by decide)
  refine a_i2l C dX6_digest_74 ?_
  refine p_callS C ((K_X6_mix _ _)).cp sX6_383 rfl dX6_digest_75 (Nat.le_of_ble_eq_true rfl) ⟨by decide, by decide⟩ ?_
  refine a_aload_n C dX6_digest_78 rfl rfl ?_
  refine a_iconst (v := nI 1) C dX6_digest_79 (by decide) ?_
  refine f_callV C _ _ (K_X6_pick zD71 hA zM71 (nI 1) (by decide)) vX6_390 (by first | decide | omega) rfl rfl dX6_digest_80 rfl (Nat.le_of_ble_eq_true rfl) ⟨by decide, by decide⟩ (fun zr80 zw80 zp80 => ?_)
  obtain ⟨rfl, zM80, zy_80⟩ := zp80
  have zF80 : Frm [55, 56, 57, 58, 59, 60, 61, 62, 63, 64, 65] w zw80 := zF71.tr zy_80
  have zD80 := hD.x0 hA zF80 (by decide)
  refine a_i2l C dX6_digest_83 ?_
  refine p_callS C ((K_X6_mix _ _)).cp sX6_383 rfl dX6_digest_84 (Nat.le_of_ble_eq_true rfl) ⟨by decide, by decide⟩ ?_
  refine a_aload_n C dX6_digest_87 rfl rfl ?_
  refine a_iconst (v := nI 2) C dX6_digest_88 (by decide) ?_
  refine f_callV C _ _ (K_X6_pick zD80 hA zM80 (nI 2) (by decide)) vX6_390 (by first | decide | omega) rfl rfl dX6_digest_89 rfl (Nat.le_of_ble_eq_true rfl) ⟨by decide, by decide⟩ (fun zr89 zw89 zp89 => ?_)
  obtain ⟨rfl, zM89, zy_89⟩ := zp89
  have zF89 : Frm [55, 56, 57, 58, 59, 60, 61, 62, 63, 64, 65] w zw89 := zF80.tr zy_89
  have zD89 := hD.x0 hA zF89 (by decide)
  refine a_i2l C dX6_digest_92 ?_
  refine p_callS C ((K_X6_mix _ _)).cp sX6_383 rfl dX6_digest_93 (Nat.le_of_ble_eq_true rfl) ⟨by decide, by decide⟩ ?_
  refine a_lstore_n C dX6_digest_96 rfl (by decide) ?_
  refine a_eq (L' := [some (.ref 0), some (.long _), none, none]) rfl rfl rfl ?_
  refine a_lload_n C dX6_digest_97 rfl rfl ?_
  refine a_aload_n C dX6_digest_98 rfl rfl ?_
  refine p_callV C (KS_X6_freeShare zD89 hA) vX6_393 rfl (by first | decide | omega) rfl rfl dX6_digest_99 (Nat.le_of_ble_eq_true rfl) ⟨by decide, by decide⟩ ?_
  refine p_callS C ((K_X6_doubleBits (x := shrA A) (shr_ok hA))).cp sX6_397 rfl dX6_digest_102 (Nat.le_of_ble_eq_true rfl) ⟨by decide, by decide⟩ ?_
  refine p_callS C ((K_X6_mix _ _)).cp sX6_383 rfl dX6_digest_105 (Nat.le_of_ble_eq_true rfl) ⟨by decide, by decide⟩ ?_
  refine a_lstore_n C dX6_digest_108 rfl (by decide) ?_
  refine a_eq (L' := [some (.ref 0), some (.long _), none, none]) rfl rfl rfl ?_
  refine a_lload_n C dX6_digest_109 rfl rfl ?_
  refine a_aload_n C dX6_digest_110 rfl rfl ?_
  refine p_callV C (K_X6_meanLevel zD89 hA) vX6_401 rfl (by first | decide | omega) rfl rfl dX6_digest_111 (Nat.le_of_ble_eq_true rfl) ⟨by decide, by decide⟩ ?_
  refine p_callS C ((K_X6_floatBits (mn_ok hA))).cp sX6_405 rfl dX6_digest_114 (Nat.le_of_ble_eq_true rfl) ⟨by decide, by decide⟩ ?_
  refine a_i2l C dX6_digest_117 ?_
  refine p_callS C ((K_X6_mix _ _)).cp sX6_383 rfl dX6_digest_118 (Nat.le_of_ble_eq_true rfl) ⟨by decide, by decide⟩ ?_
  refine a_lstore_n C dX6_digest_121 rfl (by decide) ?_
  refine a_eq (L' := [some (.ref 0), some (.long _), none, none]) rfl rfl rfl ?_
  refine a_lload_n C dX6_digest_122 rfl rfl ?_
  refine a_aload_n C dX6_digest_123 rfl rfl ?_
  refine a_getf C fX6_230 dX6_digest_124 (show _ < 219 from (by first | decide | omega)) (by first | decide | omega) rfl (gl (show _ = bI hs from by rw [zF89.at 0 (by decide)]; exact hh)) ?_
  first | refine b_if_eq (tgt := 134) C dX6_digest_127 (by decide) (fun h_127 => ?_) (fun h_127 => ?_) | refine n_if_eq (tgt := 134) C dX6_digest_127 (by decide) (by first | decide | omega) (fun h_127 => ?_) (fun h_127 => ?_) | refine a_if_eq (tgt := 134) C dX6_digest_127 (by decide) (fun h_127 => ?_) (fun h_127 => ?_)
  · refine a_lconst (v := 0) C dX6_digest_134 (by decide) ?_
    refine p_callS C ((K_X6_mix _ _)).cp sX6_383 rfl dX6_digest_135 (Nat.le_of_ble_eq_true rfl) ⟨by decide, by decide⟩ ?_
    refine a_lstore_n C dX6_digest_138 rfl (by decide) ?_
    refine a_eq (L' := [some (.ref 0), some (.long _), none, none]) rfl rfl rfl ?_
    refine a_lload_n C dX6_digest_139 rfl rfl ?_
    refine a_aload_n C dX6_digest_140 rfl rfl ?_
    refine a_getfF C fX6_10 dX6_digest_141 (show _ < 219 from (by first | decide | omega)) (by first | decide | omega) rfl rfl ?_
    refine a_getf C fX6_199 dX6_digest_144 (show _ < 219 from (by first | decide | omega)) (by first | decide | omega) rfl (gl (show _ = nI ln from by rw [zF89.at 1 (by decide)]; exact hT.1)) ?_
    refine a_i2l C dX6_digest_147 ?_
    refine p_callS C ((K_X6_mix _ _)).cp sX6_383 rfl dX6_digest_148 (Nat.le_of_ble_eq_true rfl) ⟨by decide, by decide⟩ ?_
    refine a_lstore_n C dX6_digest_151 rfl (by decide) ?_
    refine a_eq (L' := [some (.ref 0), some (.long _), none, none]) rfl rfl rfl ?_
    refine a_iconst (v := nI 0) C dX6_digest_152 (by decide) ?_
    refine a_istore_n C dX6_digest_153 rfl (by decide) ?_
    refine a_join (aLe_s ?_ (aLe_s ?_ (aLe_n (aLe_s ?_ aLe_nil)))) rfl rfl (ZL154 (ln + 1) 0 zw89 (by omega) (by omega) zM89 zF89)
    · first | with_reducible rfl | exact gl (by first | with_reducible rfl | (refine iF ?_; simp [h_127]; done) | (refine iT ?_; simp [h_127]; done) | (refine iB ?_; simp [h_127]; done) | (simp [h_127]; done) | (simp [h_127]; omega) | omega | rfl)
    · exact gl_l (dg_head (by rw [h_127]; rfl))
    · first | with_reducible rfl | exact gl (by first | with_reducible rfl | (refine iF ?_; simp [h_127]; done) | (refine iT ?_; simp [h_127]; done) | (refine iB ?_; simp [h_127]; done) | (simp [h_127]; done) | (simp [h_127]; omega) | omega | rfl)
  · refine a_lconst (v := 1) C dX6_digest_130 (by decide) ?_
    refine a_goto (tgt := 135) C dX6_digest_131 (by decide) ?_
    refine p_callS C ((K_X6_mix _ _)).cp sX6_383 rfl dX6_digest_135 (Nat.le_of_ble_eq_true rfl) ⟨by decide, by decide⟩ ?_
    refine a_lstore_n C dX6_digest_138 rfl (by decide) ?_
    refine a_eq (L' := [some (.ref 0), some (.long _), none, none]) rfl rfl rfl ?_
    refine a_lload_n C dX6_digest_139 rfl rfl ?_
    refine a_aload_n C dX6_digest_140 rfl rfl ?_
    refine a_getfF C fX6_10 dX6_digest_141 (show _ < 219 from (by first | decide | omega)) (by first | decide | omega) rfl rfl ?_
    refine a_getf C fX6_199 dX6_digest_144 (show _ < 219 from (by first | decide | omega)) (by first | decide | omega) rfl (gl (show _ = nI ln from by rw [zF89.at 1 (by decide)]; exact hT.1)) ?_
    refine a_i2l C dX6_digest_147 ?_
    refine p_callS C ((K_X6_mix _ _)).cp sX6_383 rfl dX6_digest_148 (Nat.le_of_ble_eq_true rfl) ⟨by decide, by decide⟩ ?_
    refine a_lstore_n C dX6_digest_151 rfl (by decide) ?_
    refine a_eq (L' := [some (.ref 0), some (.long _), none, none]) rfl rfl rfl ?_
    refine a_iconst (v := nI 0) C dX6_digest_152 (by decide) ?_
    refine a_istore_n C dX6_digest_153 rfl (by decide) ?_
    refine a_join (aLe_s ?_ (aLe_s ?_ (aLe_n (aLe_s ?_ aLe_nil)))) rfl rfl (ZL154 (ln + 1) 0 zw89 (by omega) (by omega) zM89 zF89)
    · first | with_reducible rfl | exact gl (by first | with_reducible rfl | (refine iF ?_; simp [h_127]; done) | (refine iT ?_; simp [h_127]; done) | (refine iB ?_; simp [h_127]; done) | (simp [h_127]; done) | (simp [h_127]; omega) | omega | rfl)
    · exact gl_l (dg_head (by rw [h_127]; rfl))
    · first | with_reducible rfl | exact gl (by first | with_reducible rfl | (refine iF ?_; simp [h_127]; done) | (refine iT ?_; simp [h_127]; done) | (refine iB ?_; simp [h_127]; done) | (simp [h_127]; done) | (simp [h_127]; omega) | omega | rfl)

end A40

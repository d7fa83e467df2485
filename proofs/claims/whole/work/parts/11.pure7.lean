section A11
set_option maxRecDepth 20000 in
set_option maxHeartbeats 4000000 in
theorem K_X7_isOwner (v : Int32) : CS yX7_isOwner cX7_isOwner 1 (some .boolean) 1 22 [.int v] (.int (bI (inR v 4))) := by
  refine CS.of ok_X7_isOwner (Nat.le_of_ble_eq_true rfl) (fun M9 G9 p9 l9 e9 s9 m9 ar9 be9 me9 co9 C hr => ?_)
  refine a_iload_n C dX7_isOwner_0 rfl rfl ?_
  refine a_iconst (v := nI 0) C dX7_isOwner_1 (by decide) ?_
  refine a_iconst (v := nI 3) C dX7_isOwner_2 (by decide) ?_
  refine s_callS C (K_X7_within _ _ _) sX7_57 rfl dX7_isOwner_3 (Nat.le_of_ble_eq_true rfl) ⟨by decide, by decide⟩ ⟨Nat.le_refl _, Nat.le_refl _⟩ ?_
  refine a_iret C hr ?_ dX7_isOwner_6 rfl rfl ⟨?_, rfl⟩
  · first | exact bI_narrow _ | rfl
  · have zq_1 : (nI 0 ≤ v ∧ v ≤ nI 3) ↔ (0 ≤ v.toInt ∧ v.toInt < 4) := by simp only [Int32.le_iff_toInt_le]; rw [nI_toInt (by decide), nI_toInt (by decide)]; omega
    simp only [inR, zq_1]; rfl

set_option maxRecDepth 20000 in
set_option maxHeartbeats 4000000 in
theorem K_X7_isNotch (v : Int32) : CS yX7_isNotch cX7_isNotch 1 (some .boolean) 1 22 [.int v] (.int (bI (inR v 4))) := by
  refine CS.of ok_X7_isNotch (Nat.le_of_ble_eq_true rfl) (fun M9 G9 p9 l9 e9 s9 m9 ar9 be9 me9 co9 C hr => ?_)
  refine a_iload_n C dX7_isNotch_0 rfl rfl ?_
  refine a_iconst (v := nI 0) C dX7_isNotch_1 (by decide) ?_
  refine a_iconst (v := nI 3) C dX7_isNotch_2 (by decide) ?_
  refine s_callS C (K_X7_within _ _ _) sX7_57 rfl dX7_isNotch_3 (Nat.le_of_ble_eq_true rfl) ⟨by decide, by decide⟩ ⟨Nat.le_refl _, Nat.le_refl _⟩ ?_
  refine a_iret C hr ?_ dX7_isNotch_6 rfl rfl ⟨?_, rfl⟩
  · first | exact bI_narrow _ | rfl
  · have zq_1 : (nI 0 ≤ v ∧ v ≤ nI 3) ↔ (0 ≤ v.toInt ∧ v.toInt < 4) := by simp only [Int32.le_iff_toInt_le]; rw [nI_toInt (by decide), nI_toInt (by decide)]; omega
    simp only [inR, zq_1]; rfl

set_option maxRecDepth 20000 in
set_option maxHeartbeats 4000000 in
theorem K_X7_isPlace (v : Int32) : CS yX7_isPlace cX7_isPlace 1 (some .boolean) 1 22 [.int v] (.int (bI (inR v 6))) := by
  refine CS.of ok_X7_isPlace (Nat.le_of_ble_eq_true rfl) (fun M9 G9 p9 l9 e9 s9 m9 ar9 be9 me9 co9 C hr => ?_)
  refine a_iload_n C dX7_isPlace_0 rfl rfl ?_
  refine a_iconst (v := nI 0) C dX7_isPlace_1 (by decide) ?_
  refine a_iconst (v := nI 5) C dX7_isPlace_2 (by decide) ?_
  refine s_callS C (K_X7_within _ _ _) sX7_57 rfl dX7_isPlace_3 (Nat.le_of_ble_eq_true rfl) ⟨by decide, by decide⟩ ⟨Nat.le_refl _, Nat.le_refl _⟩ ?_
  refine a_iret C hr ?_ dX7_isPlace_6 rfl rfl ⟨?_, rfl⟩
  · first | exact bI_narrow _ | rfl
  · have zq_1 : (nI 0 ≤ v ∧ v ≤ nI 5) ↔ (0 ≤ v.toInt ∧ v.toInt < 6) := by simp only [Int32.le_iff_toInt_le]; rw [nI_toInt (by decide), nI_toInt (by decide)]; omega
    simp only [inR, zq_1]; rfl

theorem nI_prd {n : Nat} (hn : n ≤ 12) : (nI n - nI 1).toInt = (n : Int) - 1 := by
  have : (List.range 13).all (fun n => decide ((nI n - nI 1).toInt = (n : Int) - 1)) = true := by decide +kernel
  exact of_decide_eq_true (List.all_eq_true.mp this n (List.mem_range.mpr (by omega)))
theorem inR_key {x : Int32} {n : Nat} (hn : n ≤ 12) : decide (nI 0 ≤ x ∧ x ≤ nI n - nI 1) = inR x n := by
  unfold inR
  have : (nI 0 ≤ x ∧ x ≤ nI n - nI 1) ↔ (0 ≤ x.toInt ∧ x.toInt < n) := by
    simp only [Int32.le_iff_toInt_le]
    rw [nI_toInt (by decide), nI_prd hn]
    omega
  simp only [this]
set_option maxRecDepth 20000 in
set_option maxHeartbeats 4000000 in
theorem K_X7_isKey {w : Wd} {A : St} (hR : RR w A) (hA : AOK A) (x : Int32) : CP yX7_isKey cX7_isKey 2 (some .boolean) 1 22 [.ref 204, .int x] w (.int (bI (inR x (kN A)))) := by
  have zq_n := hA.n12
  refine CF.of ok_X7_isKey (Nat.le_of_ble_eq_true rfl) (fun ex us G9 p9 l9 e9 s9 m9 ar9 be9 me9 co9 C hr => ?_)
  refine a_iload_n C dX7_isKey_0 rfl rfl ?_
  refine a_iconst (v := nI 0) C dX7_isKey_1 (by decide) ?_
  refine a_aload_n C dX7_isKey_2 rfl rfl ?_
  refine a_getfF C fX7_7 dX7_isKey_3 (show _ < 219 from (by first | decide | omega)) (by first | decide | omega) rfl rfl ?_
  refine a_iconst (v := nI 0) C dX7_isKey_6 (by decide) ?_
  refine n_iald C dX7_isKey_7 (show _ < 219 from (by first | decide | omega)) (by first | decide | omega) rfl rfl (by first | decide | omega) (by decide) (RR_n hR hA) ?_
  refine a_iconst (v := nI 1) C dX7_isKey_8 (by decide) ?_
  refine a_isub C dX7_isKey_9 ?_
  refine p_callS C ((K_X7_within _ _ _)).cp sX7_57 rfl dX7_isKey_10 (Nat.le_of_ble_eq_true rfl) ⟨by decide, by decide⟩ ?_
  refine f_iret C hr ?_ dX7_isKey_13 ⟨?_, rfl⟩
  · first | exact bI_narrow _ | rfl
  · rw [inR_key zq_n]

set_option maxRecDepth 20000 in
set_option maxHeartbeats 4000000 in
theorem K_X7_ofKey {w : Wd} {A : St} (hR : RR w A) {k j : Nat} (hk : 40 + 6 * k + j < 112) : CP yX7_ofKey cX7_ofKey 3 (some .int) 0 0 [.ref 204, .int (nI k), .int (nI j)] w (.int (A (40 + 6 * k + j))) := by
  refine CF.of ok_X7_ofKey (Nat.le_of_ble_eq_true rfl) (fun ex us G9 p9 l9 e9 s9 m9 ar9 be9 me9 co9 C hr => ?_)
  refine a_aload_n C dX7_ofKey_0 rfl rfl ?_
  refine a_getfF C fX7_7 dX7_ofKey_1 (show _ < 219 from (by first | decide | omega)) (by first | decide | omega) rfl rfl ?_
  refine a_bipush (v := nI 40) C dX7_ofKey_4 (by decide) ?_
  refine a_bipush (v := nI 6) C dX7_ofKey_6 (by decide) ?_
  refine a_iload_n C dX7_ofKey_8 rfl rfl ?_
  first | refine n_imul C dX7_ofKey_9 ?_ | refine a_imul C dX7_ofKey_9 ?_
  first | refine n_iadd C dX7_ofKey_10 ?_ | refine a_iadd C dX7_ofKey_10 ?_
  refine a_iload_n C dX7_ofKey_11 rfl rfl ?_
  first | refine n_iadd C dX7_ofKey_12 ?_ | refine a_iadd C dX7_ofKey_12 ?_
  refine n_iald C dX7_ofKey_13 (show _ < 219 from (by first | decide | omega)) (by first | decide | omega) rfl rfl (by first | decide | omega) (by decide) hR.at ?_
  refine f_iret C hr ?_ dX7_ofKey_14 ⟨?_, rfl⟩
  · rfl
  · first | with_reducible rfl | exact gl (by first | with_reducible rfl | (refine iF ?_; simp []; done) | (refine iT ?_; simp []; done) | (refine iB ?_; simp []; done) | (simp []; done) | (simp []; omega) | omega)

set_option maxRecDepth 20000 in
set_option maxHeartbeats 4000000 in
theorem K_X7_ofLock {w : Wd} {A : St} (hR : RR w A) {k j : Nat} (hk : 16 + 4 * k + j < 112) : CP yX7_ofLock cX7_ofLock 3 (some .int) 0 0 [.ref 204, .int (nI k), .int (nI j)] w (.int (A (16 + 4 * k + j))) := by
  refine CF.of ok_X7_ofLock (Nat.le_of_ble_eq_true rfl) (fun ex us G9 p9 l9 e9 s9 m9 ar9 be9 me9 co9 C hr => ?_)
  refine a_aload_n C dX7_ofLock_0 rfl rfl ?_
  refine a_getfF C fX7_7 dX7_ofLock_1 (show _ < 219 from (by first | decide | omega)) (by first | decide | omega) rfl rfl ?_
  refine a_bipush (v := nI 16) C dX7_ofLock_4 (by decide) ?_
  refine a_iconst (v := nI 4) C dX7_ofLock_6 (by decide) ?_
  refine a_iload_n C dX7_ofLock_7 rfl rfl ?_
  first | refine n_imul C dX7_ofLock_8 ?_ | refine a_imul C dX7_ofLock_8 ?_
  first | refine n_iadd C dX7_ofLock_9 ?_ | refine a_iadd C dX7_ofLock_9 ?_
  refine a_iload_n C dX7_ofLock_10 rfl rfl ?_
  first | refine n_iadd C dX7_ofLock_11 ?_ | refine a_iadd C dX7_ofLock_11 ?_
  refine n_iald C dX7_ofLock_12 (show _ < 219 from (by first | decide | omega)) (by first | decide | omega) rfl rfl (by first | decide | omega) (by decide) hR.at ?_
  refine f_iret C hr ?_ dX7_ofLock_13 ⟨?_, rfl⟩
  · rfl
  · first | with_reducible rfl | exact gl (by first | with_reducible rfl | (refine iF ?_; simp []; done) | (refine iT ?_; simp []; done) | (refine iB ?_; simp []; done) | (simp []; done) | (simp []; omega) | omega)

theorem KC_ofKey0 {w : Wd} {A : St} (hR : RR w A) (hA : AOK A) {k : Nat} (hk : k < 12) : CP yX7_ofKey cX7_ofKey 3 (some .int) 0 0 [.ref 204, .int (nI k), .int (nI 0)] w (.int (nI (cN A k))) := by
  have zq_1 := K_X7_ofKey (k := k) (j := 0) hR (by omega)
  rw [hA.c hk] at zq_1
  exact zq_1
theorem KC_ofKey1 {w : Wd} {A : St} (hR : RR w A) (hA : AOK A) {k : Nat} (hk : k < 12) : CP yX7_ofKey cX7_ofKey 3 (some .int) 0 0 [.ref 204, .int (nI k), .int (nI 1)] w (.int (nI (oN A k))) := by
  have zq_1 := K_X7_ofKey (k := k) (j := 1) hR (by omega)
  rw [hA.o hk] at zq_1
  exact zq_1
theorem KC_ofKey2 {w : Wd} {A : St} (hR : RR w A) (hA : AOK A) {k : Nat} (hk : k < 12) : CP yX7_ofKey cX7_ofKey 3 (some .int) 0 0 [.ref 204, .int (nI k), .int (nI 2)] w (.int (bI (lsA A k))) := by
  have zq_1 := K_X7_ofKey (k := k) (j := 2) hR (by omega)
  rw [hA.ls hk] at zq_1
  exact zq_1
theorem KC_ofLock0 {w : Wd} {A : St} (hR : RR w A) (hA : AOK A) {k : Nat} (hk : k < 6) (hw : wdA A k = true) : CP yX7_ofLock cX7_ofLock 3 (some .int) 0 0 [.ref 204, .int (nI k), .int (nI 0)] w (.int (nI (wN A k))) := by
  have zq_1 := K_X7_ofLock (k := k) (j := 0) hR (by omega)
  rw [hA.w hk hw] at zq_1
  exact zq_1
theorem KC_ofLock1 {w : Wd} {A : St} (hR : RR w A) (hA : AOK A) {k : Nat} (hk : k < 6) (hw : gdA A k = true) : CP yX7_ofLock cX7_ofLock 3 (some .int) 0 0 [.ref 204, .int (nI k), .int (nI 1)] w (.int (nI (gN A k))) := by
  have zq_1 := K_X7_ofLock (k := k) (j := 1) hR (by omega)
  rw [hA.g hk hw] at zq_1
  exact zq_1
set_option maxRecDepth 20000 in
set_option maxHeartbeats 4000000 in
theorem K_X7_isLock {w : Wd} {A : St} (hR : RR w A) (hA : AOK A) {p : Nat} (hp : p < 6) : CP yX7_isLock cX7_isLock 2 (some .boolean) 1 22 [.ref 204, .int (nI p)] w (.int (bI (wdA A p))) := by
  have zq_n := hA.n12
  refine CF.of ok_X7_isLock (Nat.le_of_ble_eq_true rfl) (fun ex us G9 p9 l9 e9 s9 m9 ar9 be9 me9 co9 C hr => ?_)
  refine a_aload_n C dX7_isLock_0 rfl rfl ?_
  refine a_iload_n C dX7_isLock_1 rfl rfl ?_
  refine a_iconst (v := nI 0) C dX7_isLock_2 (by decide) ?_
  refine p_callV C (K_X7_ofLock (j := 0) hR (by first | assumption | decide | omega)) vX7_61 rfl (by first | decide | omega) rfl rfl dX7_isLock_3 (Nat.le_of_ble_eq_true rfl) ⟨by decide, by decide⟩ ?_
  refine a_iconst (v := (-1)) C dX7_isLock_6 (by decide) ?_
  first | refine n_icmp_eq (tgt := 14) C dX7_isLock_7 (by decide) (by first | decide | omega) (by first | decide | omega) (fun h_7 => ?_) (fun h_7 => ?_) | refine a_icmp_eq (tgt := 14) C dX7_isLock_7 (by decide) (fun h_7 => ?_) (fun h_7 => ?_)
  · refine a_iconst (v := nI 0) C dX7_isLock_14 (by decide) ?_
    refine f_iret C hr ?_ dX7_isLock_15 ⟨?_, rfl⟩
    · first | exact bI_narrow _ | rfl
    · first | exact bI_fal (wdA_n h_7) | exact bI_tru (wdA_t h_7)
  · refine a_iconst (v := nI 1) C dX7_isLock_10 (by decide) ?_
    refine a_goto (tgt := 15) C dX7_isLock_11 (by decide) ?_
    refine f_iret C hr ?_ dX7_isLock_15 ⟨?_, rfl⟩
    · first | exact bI_narrow _ | rfl
    · first | exact bI_fal (wdA_n h_7) | exact bI_tru (wdA_t h_7)

theorem wth3 {a b s : Nat} (ha : a < 3) (hb : b < 3) (hs : s ≤ 2) : decide (-(nI s) ≤ nI a - nI b ∧ nI a - nI b ≤ nI s) = decide (dfN a b ≤ s) := by
  have : (List.range 3).all (fun a => (List.range 3).all fun b => (List.range 3).all fun s => decide (-(nI s) ≤ nI a - nI b ∧ nI a - nI b ≤ nI s) == decide (dfN a b ≤ s)) = true := by decide +kernel
  have h1 := List.all_eq_true.mp this a (List.mem_range.mpr ha)
  have h2 := List.all_eq_true.mp h1 b (List.mem_range.mpr hb)
  have h3 := List.all_eq_true.mp h2 s (List.mem_range.mpr (by omega))
  exact eq_of_beq h3
theorem KC_snd {a b s : Nat} (ha : a < 3) (hb : b < 3) (hs : s ≤ 2) : CS yX7_within cX7_within 3 (some .boolean) 0 0 [.int (nI a - nI b), .int (-(nI s)), .int (nI s)] (.int (bI (decide (dfN a b ≤ s)))) := by
  have zq_1 := K_X7_within (nI a - nI b) (-(nI s)) (nI s)
  rw [wth3 ha hb hs] at zq_1
  exact zq_1
/-- sound, by the notches ahead of k alone -/
def sdQ (A : St) (c n : Nat) : Bool := n == 0 || decide (dfN (dep c n) (dep c (n - 1)) ≤ sN A 0)
def sndP (A : St) (c k : Nat) : Bool := allN (sdQ A c) k
theorem sndP_s (A : St) (c k : Nat) : sndP A c (k + 1) = (sndP A c k && sdQ A c k) := rfl
theorem sndP_4 (A : St) (c : Nat) : sndP A c 4 = sndA A c := by
  have h : sndP A c 4 = (decide (dfN (dep c 1) (dep c 0) ≤ sN A 0) && decide (dfN (dep c 2) (dep c 1) ≤ sN A 0) && decide (dfN (dep c 3) (dep c 2) ≤ sN A 0)) := by
    simp [sndP, allN, sdQ]
  rw [h, sndA, spN, ← Bool.decide_and, ← Bool.decide_and]
  exact decide_eq_decide.mpr (by omega)
set_option maxRecDepth 20000 in
set_option maxHeartbeats 4000000 in
theorem K_X7_isSound {w : Wd} {A : St} (hR : RR w A) (hA : AOK A) {c : Nat} (hc : c < 81) : CP yX7_isSound cX7_isSound 5 (some .boolean) 2 41 [.ref 204, .int (nI c)] w (.int (bI (sndA A c))) := by
  have zq_n := hA.n12
  refine CF.of ok_X7_isSound (Nat.le_of_ble_eq_true rfl) (fun ex us G9 p9 l9 e9 s9 m9 ar9 be9 me9 co9 C hr => ?_)
  have ZL4 : ∀ (zd4 : Nat) (k : Nat), 4 + 1 ≤ k + zd4 → k ≤ 4 → 1 ≤ k → WA G9 p9 l9 e9 (RM 2 41) s9 m9 ar9 be9 me9 co9 (QP G9 be9 ar9 s9 w ex us (.int (bI (sndA A c)))) 5 (219 + ex) us 4 [some (.ref 204), some (.int (nI c)), some (.int (bI (sndP A c k))), some (.int (nI k)), none] [] (fzM w ex us) := by
    intro zd4
    induction zd4 with
    | zero => intro k zm4 zh4_0 zh4_1; exfalso; omega
    | succ zd4 zih4 =>
      intro k zm4 zh4_0 zh4_1
      refine a_iload_n C dX7_isSound_4 rfl rfl ?_
      refine a_iconst (v := nI 4) C dX7_isSound_5 (by decide) ?_
      first | refine n_icmp_ge (tgt := 63) C dX7_isSound_6 (by decide) (by first | decide | omega) (by first | decide | omega) (fun h_6 => ?_) (fun h_6 => ?_) | refine a_icmp_ge (tgt := 63) C dX7_isSound_6 (by decide) (fun h_6 => ?_) (fun h_6 => ?_)
      · obtain rfl : k = 4 := by omega
        refine a_iload_n C dX7_isSound_63 rfl rfl ?_
        refine f_iret C hr ?_ dX7_isSound_64 ⟨?_, rfl⟩
        · first | exact bI_narrow _ | rfl
        · rw [sndP_4]
      · refine a_iload_n C dX7_isSound_9 rfl rfl ?_
        refine a_iload_n C dX7_isSound_10 rfl rfl ?_
        refine p_callS C ((K_X7_depth (by first | assumption | decide | omega) (by first | assumption | decide | omega))).cp sX7_82 rfl dX7_isSound_11 (Nat.le_of_ble_eq_true rfl) ⟨by decide, by decide⟩ ?_
        refine a_iload_n C dX7_isSound_14 rfl rfl ?_
        refine a_iload_n C dX7_isSound_15 rfl rfl ?_
        refine a_iconst (v := nI 1) C dX7_isSound_16 (by decide) ?_
        refine n_isub C dX7_isSound_17 (by first | decide | omega) ?_
        refine p_callS C ((K_X7_depth (by first | assumption | decide | omega) (by first | assumption | decide | omega))).cp sX7_82 rfl dX7_isSound_18 (Nat.le_of_ble_eq_true rfl) ⟨by decide, by decide⟩ ?_
        refine a_isub C dX7_isSound_21 ?_
        refine a_istore C dX7_isSound_22 (by decide) ?_
        refine a_via 56 (bI (sndP A c (k + 1))) ?_ (fun zJ56 => ?_)
        · refine a_istore_n C dX7_isSound_56 rfl (by decide) ?_
          refine n_iinc C dX7_isSound_57 rfl (by decide) ?_
          refine a_goto (tgt := 4) C dX7_isSound_60 (by decide) ?_
          refine a_join (aLe_s ?_ (aLe_s ?_ (aLe_s ?_ (aLe_s ?_ (aLe_n aLe_nil))))) rfl rfl (zih4 (k + 1) (by omega) (by omega) (by omega))
          · first | with_reducible rfl | exact gl (by first | with_reducible rfl | (refine iF ?_; simp [h_6]; done) | (refine iT ?_; simp [h_6]; done) | (refine iB ?_; simp [h_6]; done) | (simp [h_6]; done) | (simp [h_6]; omega) | omega)
          · first | with_reducible rfl | exact gl (by first | with_reducible rfl | (refine iF ?_; simp [h_6]; done) | (refine iT ?_; simp [h_6]; done) | (refine iB ?_; simp [h_6]; done) | (simp [h_6]; done) | (simp [h_6]; omega) | omega)
          · first | with_reducible rfl | exact gl (by first | with_reducible rfl | (refine iF ?_; simp [h_6]; done) | (refine iT ?_; simp [h_6]; done) | (refine iB ?_; simp [h_6]; done) | (simp [h_6]; done) | (simp [h_6]; omega) | omega)
          · first | with_reducible rfl | exact gl (by first | with_reducible rfl | (refine iF ?_; simp [h_6]; done) | (refine iT ?_; simp [h_6]; done) | (refine iB ?_; simp [h_6]; done) | (simp [h_6]; done) | (simp [h_6]; omega) | omega)
        · refine a_iload_n C dX7_isSound_24 rfl rfl ?_
          first | refine b_if_eq (tgt := 55) C dX7_isSound_25 (by decide) (fun h_25 => ?_) (fun h_25 => ?_) | refine n_if_eq (tgt := 55) C dX7_isSound_25 (by decide) (by first | decide | omega) (fun h_25 => ?_) (fun h_25 => ?_) | refine a_if_eq (tgt := 55) C dX7_isSound_25 (by decide) (fun h_25 => ?_) (fun h_25 => ?_)
          · refine a_iconst (v := nI 0) C dX7_isSound_55 (by decide) ?_
            refine a_eq rfl (gl1 ?_) rfl zJ56
            · first | with_reducible rfl | (refine iF ?_; simp [sndP_s, h_6, h_25]; done) | (refine iT ?_; simp [sndP_s, h_6, h_25]; done) | (refine iB ?_; simp [sndP_s, h_6, h_25]; done) | (simp [sndP_s, h_6, h_25]; done) | (simp [sndP_s, h_6, h_25]; omega) | omega
          · refine a_iload C dX7_isSound_28 rfl ?_
            refine a_aload_n C dX7_isSound_30 rfl rfl ?_
            refine a_getfF C fX7_7 dX7_isSound_31 (show _ < 219 from (by first | decide | omega)) (by first | decide | omega) rfl rfl ?_
            refine a_bipush (v := nI 8) C dX7_isSound_34 (by decide) ?_
            refine n_iald C dX7_isSound_36 (show _ < 219 from (by first | decide | omega)) (by first | decide | omega) rfl rfl (by first | decide | omega) (by decide) (RR_s hR hA (j := 0) (by decide)) ?_
            refine a_ineg C dX7_isSound_37 ?_
            refine a_aload_n C dX7_isSound_38 rfl rfl ?_
            refine a_getfF C fX7_7 dX7_isSound_39 (show _ < 219 from (by first | decide | omega)) (by first | decide | omega) rfl rfl ?_
            refine a_bipush (v := nI 8) C dX7_isSound_42 (by decide) ?_
            refine n_iald C dX7_isSound_44 (show _ < 219 from (by first | decide | omega)) (by first | decide | omega) rfl rfl (by first | decide | omega) (by decide) (RR_s hR hA (j := 0) (by decide)) ?_
            refine p_callS C ((KC_snd (dep_lt c k) (dep_lt c (k - 1)) hA.s0.2)).cp sX7_57 rfl dX7_isSound_45 (Nat.le_of_ble_eq_true rfl) ⟨by decide, by decide⟩ ?_
            first | refine b_if_eq (tgt := 55) C dX7_isSound_48 (by decide) (fun h_48 => ?_) (fun h_48 => ?_) | refine n_if_eq (tgt := 55) C dX7_isSound_48 (by decide) (by first | decide | omega) (fun h_48 => ?_) (fun h_48 => ?_) | refine a_if_eq (tgt := 55) C dX7_isSound_48 (by decide) (fun h_48 => ?_) (fun h_48 => ?_)
            · have zq_e : sdQ A c k = false := by unfold sdQ; rw [h_48, Bool.or_false]; exact beq_eq_false_iff_ne.mpr (by omega)
              refine a_iconst (v := nI 0) C dX7_isSound_55 (by decide) ?_
              refine a_eq rfl (gl1 ?_) rfl zJ56
              · first | with_reducible rfl | (refine iF ?_; simp [sndP_s, h_6, h_25, zq_e]; done) | (refine iT ?_; simp [sndP_s, h_6, h_25, zq_e]; done) | (refine iB ?_; simp [sndP_s, h_6, h_25, zq_e]; done) | (simp [sndP_s, h_6, h_25, zq_e]; done) | (simp [sndP_s, h_6, h_25, zq_e]; omega) | omega
            · have zq_e : sdQ A c k = true := by unfold sdQ; rw [h_48, Bool.or_true]
              refine a_iconst (v := nI 1) C dX7_isSound_51 (by decide) ?_
              refine a_goto (tgt := 56) C dX7_isSound_52 (by decide) ?_
              refine a_eq rfl (gl1 ?_) rfl zJ56
              · first | with_reducible rfl | (refine iF ?_; simp [sndP_s, h_6, h_25, zq_e]; done) | (refine iT ?_; simp [sndP_s, h_6, h_25, zq_e]; done) | (refine iB ?_; simp [sndP_s, h_6, h_25, zq_e]; done) | (simp [sndP_s, h_6, h_25, zq_e]; done) | (simp [sndP_s, h_6, h_25, zq_e]; omega) | omega
  refine a_pad 3 ?_
  refine a_eq (L' := [some (.ref 204), some (.int (nI c)), none, none, none]) rfl rfl rfl ?_
  refine a_iconst (v := nI 1) C dX7_isSound_0 (by decide) ?_
  refine a_istore_n C dX7_isSound_1 rfl (by decide) ?_
  refine a_iconst (v := nI 1) C dX7_isSound_2 (by decide) ?_
  refine a_istore_n C dX7_isSound_3 rfl (by decide) ?_
  refine a_join (aLe_s ?_ (aLe_s ?_ (aLe_s ?_ (aLe_s ?_ (aLe_n aLe_nil))))) rfl rfl (ZL4 (4 + 1) 1 (by omega) (by omega) (by omega))
  · first | with_reducible rfl | exact gl (by first | with_reducible rfl | (refine iF ?_; simp []; done) | (refine iT ?_; simp []; done) | (refine iB ?_; simp []; done) | (simp []; done) | (simp []; omega) | omega | rfl)
  · first | with_reducible rfl | exact gl (by first | with_reducible rfl | (refine iF ?_; simp []; done) | (refine iT ?_; simp []; done) | (refine iB ?_; simp []; done) | (simp []; done) | (simp []; omega) | omega | rfl)
  · first | with_reducible rfl | exact gl (by first | with_reducible rfl | (refine iF ?_; simp []; done) | (refine iT ?_; simp []; done) | (refine iB ?_; simp []; done) | (simp []; done) | (simp []; omega) | omega | rfl)
  · first | with_reducible rfl | exact gl (by first | with_reducible rfl | (refine iF ?_; simp []; done) | (refine iT ?_; simp []; done) | (refine iB ?_; simp []; done) | (simp []; done) | (simp []; omega) | omega | rfl)

theorem fndA_lt (A : St) (c : Nat) (ex : Int32) (k : Nat) : fndA A c ex k ≤ 5 := by
  unfold fndA
  repeat' split
  all_goals decide
theorem clsA_lt (A : St) (c : Nat) (ex : Int32) : ∀ k, clsA A c ex k ≤ 5
  | 0 => Nat.zero_le 5
  | k + 1 => by
    have h1 := clsA_lt A c ex k
    have h2 := fndA_lt A c ex k
    show mrgN _ _ ≤ 5
    unfold mrgN
    split <;> omega
set_option maxRecDepth 20000 in
set_option maxHeartbeats 4000000 in
theorem K_X7_clash {w : Wd} {A : St} (hR : RR w A) (hA : AOK A) {c : Nat} (xk : Int32) (hc : c < 81) : CP yX7_clash cX7_clash 8 (some .int) 3 64 [.ref 204, .int (nI c), .int xk] w (.int (nI (clA A c xk))) := by
  have zq_n := hA.n12
  refine CF.of ok_X7_clash (Nat.le_of_ble_eq_true rfl) (fun ex us G9 p9 l9 e9 s9 m9 ar9 be9 me9 co9 C hr => ?_)
  have ZL5 : ∀ (zd5 : Nat) (k : Nat), kN A + 1 ≤ k + zd5 → k ≤ kN A → WA G9 p9 l9 e9 (RM 3 64) s9 m9 ar9 be9 me9 co9 (QP G9 be9 ar9 s9 w ex us (.int (nI (clA A c xk)))) 8 (219 + ex) us 5 [some (.ref 204), some (.int (nI c)), some (.int xk), some (.int (nI (clsA A c xk k))), some (.int (nI k)), none, none, none] [] (fzM w ex us) := by
    intro zd5
    induction zd5 with
    | zero => intro k zm5 zh5_0; exfalso; omega
    | succ zd5 zih5 =>
      intro k zm5 zh5_0
      have zq_f : fndA A c xk k < 2 ^ 31 := Nat.lt_of_le_of_lt (fndA_lt A c xk k) (by decide)
      have zq_c : clsA A c xk k < 2 ^ 31 := Nat.lt_of_le_of_lt (clsA_lt A c xk k) (by decide)
      refine a_iload C dX7_clash_5 rfl ?_
      refine a_aload_n C dX7_clash_7 rfl rfl ?_
      refine a_getfF C fX7_7 dX7_clash_8 (show _ < 219 from (by first | decide | omega)) (by first | decide | omega) rfl rfl ?_
      refine a_iconst (v := nI 0) C dX7_clash_11 (by decide) ?_
      refine n_iald C dX7_clash_12 (show _ < 219 from (by first | decide | omega)) (by first | decide | omega) rfl rfl (by first | decide | omega) (by decide) (RR_n hR hA) ?_
      first | refine n_icmp_ge (tgt := 135) C dX7_clash_13 (by decide) (by first | decide | omega) (by first | decide | omega) (fun h_13 => ?_) (fun h_13 => ?_) | refine a_icmp_ge (tgt := 135) C dX7_clash_13 (by decide) (fun h_13 => ?_) (fun h_13 => ?_)
      · obtain rfl : k = kN A := by omega
        refine a_iload_n C dX7_clash_135 rfl rfl ?_
        refine f_iret C hr ?_ dX7_clash_136 ⟨?_, rfl⟩
        · rfl
        · rfl
      · refine a_via 48 (bI (ctsA A xk k)) ?_ (fun zJ48 => ?_)
        · refine a_istore C dX7_clash_48 (by decide) ?_
          have zq_k := hA.c81 (k := k) (by omega)
          refine a_aload_n C dX7_clash_50 rfl rfl ?_
          refine a_iload C dX7_clash_51 rfl ?_
          refine a_iconst (v := nI 0) C dX7_clash_53 (by decide) ?_
          refine p_callV C (KC_ofKey0 hR hA (by first | assumption | decide | omega)) vX7_85 rfl (by first | decide | omega) rfl rfl dX7_clash_54 (Nat.le_of_ble_eq_true rfl) ⟨by decide, by decide⟩ ?_
          refine a_istore C dX7_clash_57 (by decide) ?_
          refine a_via 105 (nI (fndA A c xk k)) ?_ (fun zJ105 => ?_)
          · refine a_istore C dX7_clash_105 (by decide) ?_
            refine a_via 128 (nI (clsA A c xk (k + 1))) ?_ (fun zJ128 => ?_)
            · refine a_istore_n C dX7_clash_128 rfl (by decide) ?_
              refine n_iinc C dX7_clash_129 rfl (by decide) ?_
              refine a_goto (tgt := 5) C dX7_clash_132 (by decide) ?_
              refine a_join (aLe_s ?_ (aLe_s ?_ (aLe_s ?_ (aLe_s ?_ (aLe_s ?_ (aLe_n (aLe_n (aLe_n aLe_nil)))))))) rfl rfl (zih5 (k + 1) (by omega) (by omega))
              · first | with_reducible rfl | exact gl (by first | with_reducible rfl | (refine iF ?_; simp [ctsA, fndA, h_13]; done) | (refine iT ?_; simp [ctsA, fndA, h_13]; done) | (refine iB ?_; simp [ctsA, fndA, h_13]; done) | (simp [ctsA, fndA, h_13]; done) | (simp [ctsA, fndA, h_13]; omega) | omega)
              · first | with_reducible rfl | exact gl (by first | with_reducible rfl | (refine iF ?_; simp [ctsA, fndA, h_13]; done) | (refine iT ?_; simp [ctsA, fndA, h_13]; done) | (refine iB ?_; simp [ctsA, fndA, h_13]; done) | (simp [ctsA, fndA, h_13]; done) | (simp [ctsA, fndA, h_13]; omega) | omega)
              · first | with_reducible rfl | exact gl (by first | with_reducible rfl | (refine iF ?_; simp [ctsA, fndA, h_13]; done) | (refine iT ?_; simp [ctsA, fndA, h_13]; done) | (refine iB ?_; simp [ctsA, fndA, h_13]; done) | (simp [ctsA, fndA, h_13]; done) | (simp [ctsA, fndA, h_13]; omega) | omega)
              · first | with_reducible rfl | exact gl (by first | with_reducible rfl | (refine iF ?_; simp [ctsA, fndA, h_13]; done) | (refine iT ?_; simp [ctsA, fndA, h_13]; done) | (refine iB ?_; simp [ctsA, fndA, h_13]; done) | (simp [ctsA, fndA, h_13]; done) | (simp [ctsA, fndA, h_13]; omega) | omega)
              · first | with_reducible rfl | exact gl (by first | with_reducible rfl | (refine iF ?_; simp [ctsA, fndA, h_13]; done) | (refine iT ?_; simp [ctsA, fndA, h_13]; done) | (refine iB ?_; simp [ctsA, fndA, h_13]; done) | (simp [ctsA, fndA, h_13]; done) | (simp [ctsA, fndA, h_13]; omega) | omega)
            · refine a_iload C dX7_clash_107 rfl ?_
              refine n_if_le (tgt := 127) C dX7_clash_109 (by decide) zq_f  (fun h_109 => ?_) (fun h_109 => ?_)
              · refine a_iload_n C dX7_clash_127 rfl rfl ?_
                refine a_eq rfl (gl1 ?_) rfl zJ128
                · show nI _ = nI (mrgN (clsA A c xk k) (fndA A c xk k))
                  unfold mrgN
                  first | rw [if_pos (by omega)] | rw [if_neg (by omega)]
              · refine a_iload_n C dX7_clash_112 rfl rfl ?_
                refine n_if_eq (tgt := 122) C dX7_clash_113 (by decide) zq_c  (fun h_113 => ?_) (fun h_113 => ?_)
                · refine a_iload C dX7_clash_122 rfl ?_
                  refine a_goto (tgt := 128) C dX7_clash_124 (by decide) ?_
                  refine a_eq rfl (gl1 ?_) rfl zJ128
                  · show nI _ = nI (mrgN (clsA A c xk k) (fndA A c xk k))
                    unfold mrgN
                    first | rw [if_pos (by omega)] | rw [if_neg (by omega)]
                · refine a_iload C dX7_clash_116 rfl ?_
                  refine a_iload_n C dX7_clash_118 rfl rfl ?_
                  refine n_icmp_ge (tgt := 127) C dX7_clash_119 (by decide) zq_f zq_c (fun h_119 => ?_) (fun h_119 => ?_)
                  · refine a_iload_n C dX7_clash_127 rfl rfl ?_
                    refine a_eq rfl (gl1 ?_) rfl zJ128
                    · show nI _ = nI (mrgN (clsA A c xk k) (fndA A c xk k))
                      unfold mrgN
                      first | rw [if_pos (by omega)] | rw [if_neg (by omega)]
                  · refine a_iload C dX7_clash_122 rfl ?_
                    refine a_goto (tgt := 128) C dX7_clash_124 (by decide) ?_
                    refine a_eq rfl (gl1 ?_) rfl zJ128
                    · show nI _ = nI (mrgN (clsA A c xk k) (fndA A c xk k))
                      unfold mrgN
                      first | rw [if_pos (by omega)] | rw [if_neg (by omega)]
          · refine a_iload C dX7_clash_59 rfl ?_
            first | refine b_if_ne (tgt := 68) C dX7_clash_61 (by decide) (fun h_61 => ?_) (fun h_61 => ?_) | refine n_if_ne (tgt := 68) C dX7_clash_61 (by decide) (by first | decide | omega) (fun h_61 => ?_) (fun h_61 => ?_) | refine a_if_ne (tgt := 68) C dX7_clash_61 (by decide) (fun h_61 => ?_) (fun h_61 => ?_)
            · refine a_iload C dX7_clash_68 rfl ?_
              refine a_iload_n C dX7_clash_70 rfl rfl ?_
              first | refine n_icmp_ne (tgt := 78) C dX7_clash_71 (by decide) (by first | decide | omega) (by first | decide | omega) (fun h_71 => ?_) (fun h_71 => ?_) | refine a_icmp_ne (tgt := 78) C dX7_clash_71 (by decide) (fun h_71 => ?_) (fun h_71 => ?_)
              · refine a_iload_n C dX7_clash_78 rfl rfl ?_
                refine a_iload C dX7_clash_79 rfl ?_
                refine p_callS C ((K_X7_liesUnder (by first | assumption | decide | omega) (by first | assumption | decide | omega))).cp sX7_49 rfl dX7_clash_81 (Nat.le_of_ble_eq_true rfl) ⟨by decide, by decide⟩ ?_
                first | refine b_if_eq (tgt := 91) C dX7_clash_84 (by decide) (fun h_84 => ?_) (fun h_84 => ?_) | refine n_if_eq (tgt := 91) C dX7_clash_84 (by decide) (by first | decide | omega) (fun h_84 => ?_) (fun h_84 => ?_) | refine a_if_eq (tgt := 91) C dX7_clash_84 (by decide) (fun h_84 => ?_) (fun h_84 => ?_)
                · refine a_iload C dX7_clash_91 rfl ?_
                  refine a_iload_n C dX7_clash_93 rfl rfl ?_
                  refine p_callS C ((K_X7_liesUnder (by first | assumption | decide | omega) (by first | assumption | decide | omega))).cp sX7_49 rfl dX7_clash_94 (Nat.le_of_ble_eq_true rfl) ⟨by decide, by decide⟩ ?_
                  first | refine b_if_eq (tgt := 104) C dX7_clash_97 (by decide) (fun h_97 => ?_) (fun h_97 => ?_) | refine n_if_eq (tgt := 104) C dX7_clash_97 (by decide) (by first | decide | omega) (fun h_97 => ?_) (fun h_97 => ?_) | refine a_if_eq (tgt := 104) C dX7_clash_97 (by decide) (fun h_97 => ?_) (fun h_97 => ?_)
                  · refine a_iconst (v := nI 0) C dX7_clash_104 (by decide) ?_
                    refine a_eq rfl (gl1 ?_) rfl zJ105
                    · first | with_reducible rfl | (refine iF ?_; simp [fndA, h_13, h_61, h_71, (beq_eq_false_iff_ne.mpr h_71), (bne_iff_ne.mpr h_71), h_84, h_97]; done) | (refine iT ?_; simp [fndA, h_13, h_61, h_71, (beq_eq_false_iff_ne.mpr h_71), (bne_iff_ne.mpr h_71), h_84, h_97]; done) | (refine iB ?_; simp [fndA, h_13, h_61, h_71, (beq_eq_false_iff_ne.mpr h_71), (bne_iff_ne.mpr h_71), h_84, h_97]; done) | (simp [fndA, h_13, h_61, h_71, (beq_eq_false_iff_ne.mpr h_71), (bne_iff_ne.mpr h_71), h_84, h_97]; done) | (simp [fndA, h_13, h_61, h_71, (beq_eq_false_iff_ne.mpr h_71), (bne_iff_ne.mpr h_71), h_84, h_97]; omega) | omega
                  · refine a_iconst (v := nI 5) C dX7_clash_100 (by decide) ?_
                    refine a_goto (tgt := 105) C dX7_clash_101 (by decide) ?_
                    refine a_eq rfl (gl1 ?_) rfl zJ105
                    · first | with_reducible rfl | (refine iF ?_; simp [fndA, h_13, h_61, h_71, (beq_eq_false_iff_ne.mpr h_71), (bne_iff_ne.mpr h_71), h_84, h_97]; done) | (refine iT ?_; simp [fndA, h_13, h_61, h_71, (beq_eq_false_iff_ne.mpr h_71), (bne_iff_ne.mpr h_71), h_84, h_97]; done) | (refine iB ?_; simp [fndA, h_13, h_61, h_71, (beq_eq_false_iff_ne.mpr h_71), (bne_iff_ne.mpr h_71), h_84, h_97]; done) | (simp [fndA, h_13, h_61, h_71, (beq_eq_false_iff_ne.mpr h_71), (bne_iff_ne.mpr h_71), h_84, h_97]; done) | (simp [fndA, h_13, h_61, h_71, (beq_eq_false_iff_ne.mpr h_71), (bne_iff_ne.mpr h_71), h_84, h_97]; omega) | omega
                · refine a_iconst (v := nI 4) C dX7_clash_87 (by decide) ?_
                  refine a_goto (tgt := 105) C dX7_clash_88 (by decide) ?_
                  refine a_eq rfl (gl1 ?_) rfl zJ105
                  · first | with_reducible rfl | (refine iF ?_; simp [fndA, h_13, h_61, h_71, (beq_eq_false_iff_ne.mpr h_71), (bne_iff_ne.mpr h_71), h_84]; done) | (refine iT ?_; simp [fndA, h_13, h_61, h_71, (beq_eq_false_iff_ne.mpr h_71), (bne_iff_ne.mpr h_71), h_84]; done) | (refine iB ?_; simp [fndA, h_13, h_61, h_71, (beq_eq_false_iff_ne.mpr h_71), (bne_iff_ne.mpr h_71), h_84]; done) | (simp [fndA, h_13, h_61, h_71, (beq_eq_false_iff_ne.mpr h_71), (bne_iff_ne.mpr h_71), h_84]; done) | (simp [fndA, h_13, h_61, h_71, (beq_eq_false_iff_ne.mpr h_71), (bne_iff_ne.mpr h_71), h_84]; omega) | omega
              · refine a_iconst (v := nI 3) C dX7_clash_74 (by decide) ?_
                refine a_goto (tgt := 105) C dX7_clash_75 (by decide) ?_
                refine a_eq rfl (gl1 ?_) rfl zJ105
                · first | with_reducible rfl | (refine iF ?_; simp [fndA, h_13, h_61, (eq_true h_71), (beq_iff_eq.mpr h_71), (bne_eq_false_iff_eq.mpr h_71)]; done) | (refine iT ?_; simp [fndA, h_13, h_61, (eq_true h_71), (beq_iff_eq.mpr h_71), (bne_eq_false_iff_eq.mpr h_71)]; done) | (refine iB ?_; simp [fndA, h_13, h_61, (eq_true h_71), (beq_iff_eq.mpr h_71), (bne_eq_false_iff_eq.mpr h_71)]; done) | (simp [fndA, h_13, h_61, (eq_true h_71), (beq_iff_eq.mpr h_71), (bne_eq_false_iff_eq.mpr h_71)]; done) | (simp [fndA, h_13, h_61, (eq_true h_71), (beq_iff_eq.mpr h_71), (bne_eq_false_iff_eq.mpr h_71)]; omega) | omega
            · refine a_iconst (v := nI 0) C dX7_clash_64 (by decide) ?_
              refine a_goto (tgt := 105) C dX7_clash_65 (by decide) ?_
              refine a_eq rfl (gl1 ?_) rfl zJ105
              · first | with_reducible rfl | (refine iF ?_; simp [fndA, h_13, h_61]; done) | (refine iT ?_; simp [fndA, h_13, h_61]; done) | (refine iB ?_; simp [fndA, h_13, h_61]; done) | (simp [fndA, h_13, h_61]; done) | (simp [fndA, h_13, h_61]; omega) | omega
        · refine a_iload C dX7_clash_16 rfl ?_
          refine a_iload_n C dX7_clash_18 rfl rfl ?_
          refine a_icmp_eq (tgt := 47) C dX7_clash_19 (by decide) (fun h_19 => ?_) (fun h_19 => ?_)
          · refine a_iconst (v := nI 0) C dX7_clash_47 (by decide) ?_
            refine a_eq rfl (gl1 ?_) rfl zJ48
            · first | with_reducible rfl | (refine iF ?_; simp [ctsA, fndA, h_13, h_19]; done) | (refine iT ?_; simp [ctsA, fndA, h_13, h_19]; done) | (refine iB ?_; simp [ctsA, fndA, h_13, h_19]; done) | (simp [ctsA, fndA, h_13, h_19]; done) | (simp [ctsA, fndA, h_13, h_19]; omega) | omega
          · have zq_x : (nI k != xk) = true := bne_iff_ne.mpr h_19
            refine a_aload_n C dX7_clash_22 rfl rfl ?_
            refine a_iload C dX7_clash_23 rfl ?_
            refine a_iconst (v := nI 2) C dX7_clash_25 (by decide) ?_
            refine p_callV C (KC_ofKey2 hR hA (by first | assumption | decide | omega)) vX7_85 rfl (by first | decide | omega) rfl rfl dX7_clash_26 (Nat.le_of_ble_eq_true rfl) ⟨by decide, by decide⟩ ?_
            first | refine b_if_eq (tgt := 43) C dX7_clash_29 (by decide) (fun h_29 => ?_) (fun h_29 => ?_) | refine n_if_eq (tgt := 43) C dX7_clash_29 (by decide) (by first | decide | omega) (fun h_29 => ?_) (fun h_29 => ?_) | refine a_if_eq (tgt := 43) C dX7_clash_29 (by decide) (fun h_29 => ?_) (fun h_29 => ?_)
            · refine a_iconst (v := nI 1) C dX7_clash_43 (by decide) ?_
              refine a_goto (tgt := 48) C dX7_clash_44 (by decide) ?_
              refine a_eq rfl (gl1 ?_) rfl zJ48
              · first | with_reducible rfl | (refine iF ?_; simp [ctsA, fndA, h_13, zq_x, h_29]; done) | (refine iT ?_; simp [ctsA, fndA, h_13, zq_x, h_29]; done) | (refine iB ?_; simp [ctsA, fndA, h_13, zq_x, h_29]; done) | (simp [ctsA, fndA, h_13, zq_x, h_29]; done) | (simp [ctsA, fndA, h_13, zq_x, h_29]; omega) | omega
            · refine a_aload_n C dX7_clash_32 rfl rfl ?_
              refine a_getfF C fX7_7 dX7_clash_33 (show _ < 219 from (by first | decide | omega)) (by first | decide | omega) rfl rfl ?_
              refine a_bipush (v := nI 11) C dX7_clash_36 (by decide) ?_
              refine n_iald C dX7_clash_38 (show _ < 219 from (by first | decide | omega)) (by first | decide | omega) rfl rfl (by first | decide | omega) (by decide) (RR_s hR hA (j := 3) (by decide)) ?_
              refine a_iconst (v := nI 1) C dX7_clash_39 (by decide) ?_
              refine n_icmp_ne (tgt := 47) C dX7_clash_40 (by decide) (by have := hA.s3; omega) (by first | decide | omega) (fun h_40 => ?_) (fun h_40 => ?_)
              · have zq_y : (sN A 3 == 1) = false := beq_eq_false_iff_ne.mpr h_40
                refine a_iconst (v := nI 0) C dX7_clash_47 (by decide) ?_
                refine a_eq rfl (gl1 ?_) rfl zJ48
                · first | with_reducible rfl | (refine iF ?_; simp [ctsA, fndA, h_13, zq_x, h_29, zq_y]; done) | (refine iT ?_; simp [ctsA, fndA, h_13, zq_x, h_29, zq_y]; done) | (refine iB ?_; simp [ctsA, fndA, h_13, zq_x, h_29, zq_y]; done) | (simp [ctsA, fndA, h_13, zq_x, h_29, zq_y]; done) | (simp [ctsA, fndA, h_13, zq_x, h_29, zq_y]; omega) | omega
              · have zq_y : (sN A 3 == 1) = true := beq_iff_eq.mpr h_40
                refine a_iconst (v := nI 1) C dX7_clash_43 (by decide) ?_
                refine a_goto (tgt := 48) C dX7_clash_44 (by decide) ?_
                refine a_eq rfl (gl1 ?_) rfl zJ48
                · first | with_reducible rfl | (refine iF ?_; simp [ctsA, fndA, h_13, zq_x, h_29, zq_y]; done) | (refine iT ?_; simp [ctsA, fndA, h_13, zq_x, h_29, zq_y]; done) | (refine iB ?_; simp [ctsA, fndA, h_13, zq_x, h_29, zq_y]; done) | (simp [ctsA, fndA, h_13, zq_x, h_29, zq_y]; done) | (simp [ctsA, fndA, h_13, zq_x, h_29, zq_y]; omega) | omega
  refine a_pad 5 ?_
  refine a_eq (L' := [some (.ref 204), some (.int (nI c)), some (.int xk), none, none, none, none, none]) rfl rfl rfl ?_
  refine a_iconst (v := nI 0) C dX7_clash_0 (by decide) ?_
  refine a_istore_n C dX7_clash_1 rfl (by decide) ?_
  refine a_iconst (v := nI 0) C dX7_clash_2 (by decide) ?_
  refine a_istore C dX7_clash_3 (by decide) ?_
  refine a_join (aLe_s ?_ (aLe_s ?_ (aLe_s ?_ (aLe_s ?_ (aLe_s ?_ (aLe_n (aLe_n (aLe_n aLe_nil)))))))) rfl rfl (ZL5 (kN A + 1) 0 (by omega) (by omega))
  · first | with_reducible rfl | exact gl (by first | with_reducible rfl | (refine iF ?_; simp [ctsA, fndA]; done) | (refine iT ?_; simp [ctsA, fndA]; done) | (refine iB ?_; simp [ctsA, fndA]; done) | (simp [ctsA, fndA]; done) | (simp [ctsA, fndA]; omega) | omega | rfl)
  · first | with_reducible rfl | exact gl (by first | with_reducible rfl | (refine iF ?_; simp [ctsA, fndA]; done) | (refine iT ?_; simp [ctsA, fndA]; done) | (refine iB ?_; simp [ctsA, fndA]; done) | (simp [ctsA, fndA]; done) | (simp [ctsA, fndA]; omega) | omega | rfl)
  · first | with_reducible rfl | exact gl (by first | with_reducible rfl | (refine iF ?_; simp [ctsA, fndA]; done) | (refine iT ?_; simp [ctsA, fndA]; done) | (refine iB ?_; simp [ctsA, fndA]; done) | (simp [ctsA, fndA]; done) | (simp [ctsA, fndA]; omega) | omega | rfl)
  · first | with_reducible rfl | exact gl (by first | with_reducible rfl | (refine iF ?_; simp [ctsA, fndA]; done) | (refine iT ?_; simp [ctsA, fndA]; done) | (refine iB ?_; simp [ctsA, fndA]; done) | (simp [ctsA, fndA]; done) | (simp [ctsA, fndA]; omega) | omega | rfl)
  · first | with_reducible rfl | exact gl (by first | with_reducible rfl | (refine iF ?_; simp [ctsA, fndA]; done) | (refine iT ?_; simp [ctsA, fndA]; done) | (refine iB ?_; simp [ctsA, fndA]; done) | (simp [ctsA, fndA]; done) | (simp [ctsA, fndA]; omega) | omega | rfl)

set_option maxRecDepth 20000 in
set_option maxHeartbeats 4000000 in
theorem K_X7_whyNotCut {w : Wd} {A : St} (hR : RR w A) (hA : AOK A) {c : Nat} (hc : c < 81) : CP yX7_whyNotCut cX7_whyNotCut 2 (some .int) 4 91 [.ref 204, .int (nI c)] w (.int (nI (wncA A c))) := by
  have zq_n := hA.n12
  refine CF.of ok_X7_whyNotCut (Nat.le_of_ble_eq_true rfl) (fun ex us G9 p9 l9 e9 s9 m9 ar9 be9 me9 co9 C hr => ?_)
  refine a_aload_n C dX7_whyNotCut_0 rfl rfl ?_
  refine a_iload_n C dX7_whyNotCut_1 rfl rfl ?_
  refine p_callV C (K_X7_isSound hR hA (by first | assumption | decide | omega)) vX7_88 rfl (by first | decide | omega) rfl rfl dX7_whyNotCut_2 (Nat.le_of_ble_eq_true rfl) ⟨by decide, by decide⟩ ?_
  first | refine b_if_ne (tgt := 12) C dX7_whyNotCut_5 (by decide) (fun h_5 => ?_) (fun h_5 => ?_) | refine n_if_ne (tgt := 12) C dX7_whyNotCut_5 (by decide) (by first | decide | omega) (fun h_5 => ?_) (fun h_5 => ?_) | refine a_if_ne (tgt := 12) C dX7_whyNotCut_5 (by decide) (fun h_5 => ?_) (fun h_5 => ?_)
  · refine a_aload_n C dX7_whyNotCut_12 rfl rfl ?_
    refine a_getfF C fX7_7 dX7_whyNotCut_13 (show _ < 219 from (by first | decide | omega)) (by first | decide | omega) rfl rfl ?_
    refine a_iconst (v := nI 0) C dX7_whyNotCut_16 (by decide) ?_
    refine n_iald C dX7_whyNotCut_17 (show _ < 219 from (by first | decide | omega)) (by first | decide | omega) rfl rfl (by first | decide | omega) (by decide) (RR_n hR hA) ?_
    refine a_bipush (v := nI 12) C dX7_whyNotCut_18 (by decide) ?_
    refine n_icmp_ne (tgt := 27) C dX7_whyNotCut_20 (by decide) (by first | decide | omega) (by first | decide | omega) (fun h_20 => ?_) (fun h_20 => ?_)
    · refine a_aload_n C dX7_whyNotCut_27 rfl rfl ?_
      refine a_iload_n C dX7_whyNotCut_28 rfl rfl ?_
      refine a_iconst (v := (-1)) C dX7_whyNotCut_29 (by decide) ?_
      refine p_callV C (K_X7_clash hR hA _ (by first | assumption | decide | omega)) vX7_92 rfl (by first | decide | omega) rfl rfl dX7_whyNotCut_30 (Nat.le_of_ble_eq_true rfl) ⟨by decide, by decide⟩ ?_
      refine f_iret C hr ?_ dX7_whyNotCut_33 ⟨?_, rfl⟩
      · rfl
      · first | with_reducible rfl | exact gl (by first | with_reducible rfl | (refine iF ?_; simp [wncA, h_5, h_20, (beq_eq_false_iff_ne.mpr h_20), (bne_iff_ne.mpr h_20)]; done) | (refine iT ?_; simp [wncA, h_5, h_20, (beq_eq_false_iff_ne.mpr h_20), (bne_iff_ne.mpr h_20)]; done) | (refine iB ?_; simp [wncA, h_5, h_20, (beq_eq_false_iff_ne.mpr h_20), (bne_iff_ne.mpr h_20)]; done) | (simp [wncA, h_5, h_20, (beq_eq_false_iff_ne.mpr h_20), (bne_iff_ne.mpr h_20)]; done) | (simp [wncA, h_5, h_20, (beq_eq_false_iff_ne.mpr h_20), (bne_iff_ne.mpr h_20)]; omega) | omega)
    · refine a_iconst (v := nI 2) C dX7_whyNotCut_23 (by decide) ?_
      refine a_goto (tgt := 33) C dX7_whyNotCut_24 (by decide) ?_
      refine f_iret C hr ?_ dX7_whyNotCut_33 ⟨?_, rfl⟩
      · rfl
      · first | with_reducible rfl | exact gl (by first | with_reducible rfl | (refine iF ?_; simp [wncA, h_5, (eq_true h_20), (beq_iff_eq.mpr h_20), (bne_eq_false_iff_eq.mpr h_20)]; done) | (refine iT ?_; simp [wncA, h_5, (eq_true h_20), (beq_iff_eq.mpr h_20), (bne_eq_false_iff_eq.mpr h_20)]; done) | (refine iB ?_; simp [wncA, h_5, (eq_true h_20), (beq_iff_eq.mpr h_20), (bne_eq_false_iff_eq.mpr h_20)]; done) | (simp [wncA, h_5, (eq_true h_20), (beq_iff_eq.mpr h_20), (bne_eq_false_iff_eq.mpr h_20)]; done) | (simp [wncA, h_5, (eq_true h_20), (beq_iff_eq.mpr h_20), (bne_eq_false_iff_eq.mpr h_20)]; omega) | omega)
  · refine a_iconst (v := nI 1) C dX7_whyNotCut_8 (by decide) ?_
    refine a_goto (tgt := 33) C dX7_whyNotCut_9 (by decide) ?_
    refine f_iret C hr ?_ dX7_whyNotCut_33 ⟨?_, rfl⟩
    · rfl
    · first | with_reducible rfl | exact gl (by first | with_reducible rfl | (refine iF ?_; simp [wncA, h_5]; done) | (refine iT ?_; simp [wncA, h_5]; done) | (refine iB ?_; simp [wncA, h_5]; done) | (simp [wncA, h_5]; done) | (simp [wncA, h_5]; omega) | omega)

set_option maxRecDepth 20000 in
set_option maxHeartbeats 4000000 in
theorem K_X7_isFreeCode {w : Wd} {A : St} (hR : RR w A) (hA : AOK A) {c : Nat} (hc : c < 81) : CP yX7_isFreeCode cX7_isFreeCode 2 (some .boolean) 4 91 [.ref 204, .int (nI c)] w (.int (bI (freA A c))) := by
  have zq_n := hA.n12
  have zq_c : clA A c (-1) < 2 ^ 31 := Nat.lt_of_le_of_lt (clsA_lt A c (-1) _) (by decide)
  refine CF.of ok_X7_isFreeCode (Nat.le_of_ble_eq_true rfl) (fun ex us G9 p9 l9 e9 s9 m9 ar9 be9 me9 co9 C hr => ?_)
  refine a_aload_n C dX7_isFreeCode_0 rfl rfl ?_
  refine a_iload_n C dX7_isFreeCode_1 rfl rfl ?_
  refine p_callV C (K_X7_isSound hR hA (by first | assumption | decide | omega)) vX7_88 rfl (by first | decide | omega) rfl rfl dX7_isFreeCode_2 (Nat.le_of_ble_eq_true rfl) ⟨by decide, by decide⟩ ?_
  first | refine b_if_eq (tgt := 21) C dX7_isFreeCode_5 (by decide) (fun h_5 => ?_) (fun h_5 => ?_) | refine n_if_eq (tgt := 21) C dX7_isFreeCode_5 (by decide) (by first | decide | omega) (fun h_5 => ?_) (fun h_5 => ?_) | refine a_if_eq (tgt := 21) C dX7_isFreeCode_5 (by decide) (fun h_5 => ?_) (fun h_5 => ?_)
  · refine a_iconst (v := nI 0) C dX7_isFreeCode_21 (by decide) ?_
    refine f_iret C hr ?_ dX7_isFreeCode_22 ⟨?_, rfl⟩
    · first | exact bI_narrow _ | rfl
    · first | with_reducible rfl | exact gl (by first | with_reducible rfl | (refine iF ?_; simp [freA, h_5]; done) | (refine iT ?_; simp [freA, h_5]; done) | (refine iB ?_; simp [freA, h_5]; done) | (simp [freA, h_5]; done) | (simp [freA, h_5]; omega) | omega)
  · refine a_aload_n C dX7_isFreeCode_8 rfl rfl ?_
    refine a_iload_n C dX7_isFreeCode_9 rfl rfl ?_
    refine a_iconst (v := (-1)) C dX7_isFreeCode_10 (by decide) ?_
    refine p_callV C (K_X7_clash hR hA _ (by first | assumption | decide | omega)) vX7_92 rfl (by first | decide | omega) rfl rfl dX7_isFreeCode_11 (Nat.le_of_ble_eq_true rfl) ⟨by decide, by decide⟩ ?_
    refine n_if_ne (tgt := 21) C dX7_isFreeCode_14 (by decide) zq_c  (fun h_14 => ?_) (fun h_14 => ?_)
    · have zq_e : (clA A c (-1) == 0) = false := beq_eq_false_iff_ne.mpr h_14
      refine a_iconst (v := nI 0) C dX7_isFreeCode_21 (by decide) ?_
      refine f_iret C hr ?_ dX7_isFreeCode_22 ⟨?_, rfl⟩
      · first | exact bI_narrow _ | rfl
      · first | with_reducible rfl | exact gl (by first | with_reducible rfl | (refine iF ?_; simp [freA, h_5, zq_e]; done) | (refine iT ?_; simp [freA, h_5, zq_e]; done) | (refine iB ?_; simp [freA, h_5, zq_e]; done) | (simp [freA, h_5, zq_e]; done) | (simp [freA, h_5, zq_e]; omega) | omega)
    · have zq_e : (clA A c (-1) == 0) = true := beq_iff_eq.mpr h_14
      refine a_iconst (v := nI 1) C dX7_isFreeCode_17 (by decide) ?_
      refine a_goto (tgt := 22) C dX7_isFreeCode_18 (by decide) ?_
      refine f_iret C hr ?_ dX7_isFreeCode_22 ⟨?_, rfl⟩
      · first | exact bI_narrow _ | rfl
      · first | with_reducible rfl | exact gl (by first | with_reducible rfl | (refine iF ?_; simp [freA, h_5, zq_e]; done) | (refine iT ?_; simp [freA, h_5, zq_e]; done) | (refine iB ?_; simp [freA, h_5, zq_e]; done) | (simp [freA, h_5, zq_e]; done) | (simp [freA, h_5, zq_e]; omega) | omega)

set_option maxRecDepth 20000 in
set_option maxHeartbeats 4000000 in
theorem K_X7_whyNotDeeper {w : Wd} {A : St} (hR : RR w A) (hA : AOK A) {k j : Nat} (hk : k < kN A) (hj : j < 4) : CP yX7_whyNotDeeper cX7_whyNotDeeper 5 (some .int) 4 91 [.ref 204, .int (nI k), .int (nI j)] w (.int (nI (wndA A k j))) := by
  have zq_n := hA.n12
  have zq_c := hA.c81 (k := k) (by omega)
  refine CF.of ok_X7_whyNotDeeper (Nat.le_of_ble_eq_true rfl) (fun ex us G9 p9 l9 e9 s9 m9 ar9 be9 me9 co9 C hr => ?_)
  refine a_pad 2 ?_
  refine a_eq (L' := [some (.ref 204), some (.int (nI k)), some (.int (nI j)), none, none]) rfl rfl rfl ?_
  refine a_aload_n C dX7_whyNotDeeper_0 rfl rfl ?_
  refine a_iload_n C dX7_whyNotDeeper_1 rfl rfl ?_
  refine a_iconst (v := nI 0) C dX7_whyNotDeeper_2 (by decide) ?_
  refine p_callV C (KC_ofKey0 hR hA (by first | assumption | decide | omega)) vX7_85 rfl (by first | decide | omega) rfl rfl dX7_whyNotDeeper_3 (Nat.le_of_ble_eq_true rfl) ⟨by decide, by decide⟩ ?_
  refine a_istore_n C dX7_whyNotDeeper_6 rfl (by decide) ?_
  refine a_iload_n C dX7_whyNotDeeper_7 rfl rfl ?_
  refine a_iload_n C dX7_whyNotDeeper_8 rfl rfl ?_
  refine p_callS C ((K_X7_depth (by first | assumption | decide | omega) (by first | assumption | decide | omega))).cp sX7_82 rfl dX7_whyNotDeeper_9 (Nat.le_of_ble_eq_true rfl) ⟨by decide, by decide⟩ ?_
  refine a_iconst (v := nI 2) C dX7_whyNotDeeper_12 (by decide) ?_
  refine n_icmp_ne (tgt := 19) C dX7_whyNotDeeper_13 (by decide) (by have := dep_lt (cN A k) j; omega) (by first | decide | omega) (fun h_13 => ?_) (fun h_13 => ?_)
  · have zq_d : cN A k + wtN j < 81 := wt81 zq_c hj (by have := dep_lt (cN A k) j; omega)
    refine a_iload_n C dX7_whyNotDeeper_19 rfl rfl ?_
    refine a_iload_n C dX7_whyNotDeeper_20 rfl rfl ?_
    refine p_callS C ((K_X7_worth (by first | assumption | decide | omega))).cp sX7_79 rfl dX7_whyNotDeeper_21 (Nat.le_of_ble_eq_true rfl) ⟨by decide, by decide⟩ ?_
    first | refine n_iadd C dX7_whyNotDeeper_24 ?_ | refine a_iadd C dX7_whyNotDeeper_24 ?_
    refine a_istore C dX7_whyNotDeeper_25 (by decide) ?_
    refine a_aload_n C dX7_whyNotDeeper_27 rfl rfl ?_
    refine a_iload C dX7_whyNotDeeper_28 rfl ?_
    refine p_callV C (K_X7_isSound hR hA (by first | assumption | decide | omega)) vX7_88 rfl (by first | decide | omega) rfl rfl dX7_whyNotDeeper_30 (Nat.le_of_ble_eq_true rfl) ⟨by decide, by decide⟩ ?_
    first | refine b_if_ne (tgt := 40) C dX7_whyNotDeeper_33 (by decide) (fun h_33 => ?_) (fun h_33 => ?_) | refine n_if_ne (tgt := 40) C dX7_whyNotDeeper_33 (by decide) (by first | decide | omega) (fun h_33 => ?_) (fun h_33 => ?_) | refine a_if_ne (tgt := 40) C dX7_whyNotDeeper_33 (by decide) (fun h_33 => ?_) (fun h_33 => ?_)
    · refine a_aload_n C dX7_whyNotDeeper_40 rfl rfl ?_
      refine a_iload C dX7_whyNotDeeper_41 rfl ?_
      refine a_iload_n C dX7_whyNotDeeper_43 rfl rfl ?_
      refine p_callV C (K_X7_clash hR hA _ (by first | assumption | decide | omega)) vX7_92 rfl (by first | decide | omega) rfl rfl dX7_whyNotDeeper_44 (Nat.le_of_ble_eq_true rfl) ⟨by decide, by decide⟩ ?_
      refine f_iret C hr ?_ dX7_whyNotDeeper_47 ⟨?_, rfl⟩
      · rfl
      · first | with_reducible rfl | exact gl (by first | with_reducible rfl | (refine iF ?_; simp [wndA, h_13, (beq_eq_false_iff_ne.mpr h_13), (bne_iff_ne.mpr h_13), h_33]; done) | (refine iT ?_; simp [wndA, h_13, (beq_eq_false_iff_ne.mpr h_13), (bne_iff_ne.mpr h_13), h_33]; done) | (refine iB ?_; simp [wndA, h_13, (beq_eq_false_iff_ne.mpr h_13), (bne_iff_ne.mpr h_13), h_33]; done) | (simp [wndA, h_13, (beq_eq_false_iff_ne.mpr h_13), (bne_iff_ne.mpr h_13), h_33]; done) | (simp [wndA, h_13, (beq_eq_false_iff_ne.mpr h_13), (bne_iff_ne.mpr h_13), h_33]; omega) | omega)
    · refine a_iconst (v := nI 1) C dX7_whyNotDeeper_36 (by decide) ?_
      refine a_goto (tgt := 47) C dX7_whyNotDeeper_37 (by decide) ?_
      refine f_iret C hr ?_ dX7_whyNotDeeper_47 ⟨?_, rfl⟩
      · rfl
      · first | with_reducible rfl | exact gl (by first | with_reducible rfl | (refine iF ?_; simp [wndA, h_13, (beq_eq_false_iff_ne.mpr h_13), (bne_iff_ne.mpr h_13), h_33]; done) | (refine iT ?_; simp [wndA, h_13, (beq_eq_false_iff_ne.mpr h_13), (bne_iff_ne.mpr h_13), h_33]; done) | (refine iB ?_; simp [wndA, h_13, (beq_eq_false_iff_ne.mpr h_13), (bne_iff_ne.mpr h_13), h_33]; done) | (simp [wndA, h_13, (beq_eq_false_iff_ne.mpr h_13), (bne_iff_ne.mpr h_13), h_33]; done) | (simp [wndA, h_13, (beq_eq_false_iff_ne.mpr h_13), (bne_iff_ne.mpr h_13), h_33]; omega) | omega)
  · refine a_bipush (v := nI 6) C dX7_whyNotDeeper_16 (by decide) ?_
    refine f_iret C hr ?_ dX7_whyNotDeeper_18 ⟨?_, rfl⟩
    · rfl
    · first | with_reducible rfl | exact gl (by first | with_reducible rfl | (refine iF ?_; simp [wndA, (eq_true h_13), (beq_iff_eq.mpr h_13), (bne_eq_false_iff_eq.mpr h_13)]; done) | (refine iT ?_; simp [wndA, (eq_true h_13), (beq_iff_eq.mpr h_13), (bne_eq_false_iff_eq.mpr h_13)]; done) | (refine iB ?_; simp [wndA, (eq_true h_13), (beq_iff_eq.mpr h_13), (bne_eq_false_iff_eq.mpr h_13)]; done) | (simp [wndA, (eq_true h_13), (beq_iff_eq.mpr h_13), (bne_eq_false_iff_eq.mpr h_13)]; done) | (simp [wndA, (eq_true h_13), (beq_iff_eq.mpr h_13), (bne_eq_false_iff_eq.mpr h_13)]; omega) | omega)

theorem KC_isCrossed {c d : Nat} (hc : c < 81) (hd : d < 81) : CS yX7_isCrossed cX7_isCrossed 2 (some .boolean) 3 64 [.int (nI c), .int (nI d)] (.int (bI (crs c d))) := K_X7_isCrossed hc hd
theorem KC_reaches {c d : Nat} {x : Int32} (hx : x = nI d) (hc : c < 81) (hd : d < 81) : CS yX7_reaches cX7_reaches 2 (some .boolean) 3 64 [.int (nI c), .int x] (.int (bI (rch c d))) := by
  rw [hx]
  exact K_X7_reaches hc hd
set_option maxRecDepth 20000 in
set_option maxHeartbeats 4000000 in
theorem K_X7_opens {w : Wd} {A : St} (hR : RR w A) (hA : AOK A) {c p : Nat} (hc : c < 81) (hp : p < 6) : CP yX7_opens cX7_opens 4 (some .boolean) 4 85 [.ref 204, .int (nI c), .int (nI p)] w (.int (bI (opnA A c p))) := by
  have zq_n := hA.n12
  refine CF.of ok_X7_opens (Nat.le_of_ble_eq_true rfl) (fun ex us G9 p9 l9 e9 s9 m9 ar9 be9 me9 co9 C hr => ?_)
  refine a_pad 1 ?_
  refine a_eq (L' := [some (.ref 204), some (.int (nI c)), some (.int (nI p)), none]) rfl rfl rfl ?_
  refine a_aload_n C dX7_opens_0 rfl rfl ?_
  refine a_iload_n C dX7_opens_1 rfl rfl ?_
  refine p_callV C (K_X7_isLock hR hA (by first | assumption | decide | omega)) vX7_95 rfl (by first | decide | omega) rfl rfl dX7_opens_2 (Nat.le_of_ble_eq_true rfl) ⟨by decide, by decide⟩ ?_
  first | refine b_if_ne (tgt := 10) C dX7_opens_5 (by decide) (fun h_5 => ?_) (fun h_5 => ?_) | refine n_if_ne (tgt := 10) C dX7_opens_5 (by decide) (by first | decide | omega) (fun h_5 => ?_) (fun h_5 => ?_) | refine a_if_ne (tgt := 10) C dX7_opens_5 (by decide) (fun h_5 => ?_) (fun h_5 => ?_)
  · refine a_aload_n C dX7_opens_10 rfl rfl ?_
    refine a_iload_n C dX7_opens_11 rfl rfl ?_
    refine a_iconst (v := nI 1) C dX7_opens_12 (by decide) ?_
    refine p_callV C (K_X7_ofLock (j := 1) hR (by first | assumption | decide | omega)) vX7_61 rfl (by first | decide | omega) rfl rfl dX7_opens_13 (Nat.le_of_ble_eq_true rfl) ⟨by decide, by decide⟩ ?_
    refine a_istore_n C dX7_opens_16 rfl (by decide) ?_
    refine a_iload_n C dX7_opens_17 rfl rfl ?_
    refine a_aload_n C dX7_opens_18 rfl rfl ?_
    refine a_iload_n C dX7_opens_19 rfl rfl ?_
    refine a_iconst (v := nI 0) C dX7_opens_20 (by decide) ?_
    refine p_callV C (KC_ofLock0 hR hA hp h_5) vX7_61 rfl (by first | decide | omega) rfl rfl dX7_opens_21 (Nat.le_of_ble_eq_true rfl) ⟨by decide, by decide⟩ ?_
    refine p_callS C (KC_reaches rfl hc (hA.w81 hp h_5)).cp sX7_98 rfl dX7_opens_24 (Nat.le_of_ble_eq_true rfl) ⟨by decide, by decide⟩ ?_
    first | refine b_if_ne (tgt := 43) C dX7_opens_27 (by decide) (fun h_27 => ?_) (fun h_27 => ?_) | refine n_if_ne (tgt := 43) C dX7_opens_27 (by decide) (by first | decide | omega) (fun h_27 => ?_) (fun h_27 => ?_) | refine a_if_ne (tgt := 43) C dX7_opens_27 (by decide) (fun h_27 => ?_) (fun h_27 => ?_)
    · refine a_iconst (v := nI 1) C dX7_opens_43 (by decide) ?_
      refine a_goto (tgt := 48) C dX7_opens_44 (by decide) ?_
      refine f_iret C hr ?_ dX7_opens_48 ⟨?_, rfl⟩
      · first | exact bI_narrow _ | rfl
      · first | with_reducible rfl | exact gl (by first | with_reducible rfl | (refine iF ?_; simp [opnA, h_5, h_27]; done) | (refine iT ?_; simp [opnA, h_5, h_27]; done) | (refine iB ?_; simp [opnA, h_5, h_27]; done) | (simp [opnA, h_5, h_27]; done) | (simp [opnA, h_5, h_27]; omega) | omega)
    · refine a_iload_n C dX7_opens_30 rfl rfl ?_
      refine a_iconst (v := (-1)) C dX7_opens_31 (by decide) ?_
      refine a_icmp_eq (tgt := 47) C dX7_opens_32 (by decide) (fun h_32 => ?_) (fun h_32 => ?_)
      · have zq_g := gdA_n h_32
        refine a_iconst (v := nI 0) C dX7_opens_47 (by decide) ?_
        refine f_iret C hr ?_ dX7_opens_48 ⟨?_, rfl⟩
        · first | exact bI_narrow _ | rfl
        · first | with_reducible rfl | exact gl (by first | with_reducible rfl | (refine iF ?_; simp [opnA, h_5, h_27, zq_g]; done) | (refine iT ?_; simp [opnA, h_5, h_27, zq_g]; done) | (refine iB ?_; simp [opnA, h_5, h_27, zq_g]; done) | (simp [opnA, h_5, h_27, zq_g]; done) | (simp [opnA, h_5, h_27, zq_g]; omega) | omega)
      · have zq_g := gdA_t h_32
        refine a_iload_n C dX7_opens_35 rfl rfl ?_
        refine a_iload_n C dX7_opens_36 rfl rfl ?_
        refine p_callS C (KC_reaches (hA.g hp zq_g) hc (hA.g81 hp zq_g)).cp sX7_98 rfl dX7_opens_37 (Nat.le_of_ble_eq_true rfl) ⟨by decide, by decide⟩ ?_
        first | refine b_if_eq (tgt := 47) C dX7_opens_40 (by decide) (fun h_40 => ?_) (fun h_40 => ?_) | refine n_if_eq (tgt := 47) C dX7_opens_40 (by decide) (by first | decide | omega) (fun h_40 => ?_) (fun h_40 => ?_) | refine a_if_eq (tgt := 47) C dX7_opens_40 (by decide) (fun h_40 => ?_) (fun h_40 => ?_)
        · refine a_iconst (v := nI 0) C dX7_opens_47 (by decide) ?_
          refine f_iret C hr ?_ dX7_opens_48 ⟨?_, rfl⟩
          · first | exact bI_narrow _ | rfl
          · first | with_reducible rfl | exact gl (by first | with_reducible rfl | (refine iF ?_; simp [opnA, h_5, h_27, zq_g, h_40]; done) | (refine iT ?_; simp [opnA, h_5, h_27, zq_g, h_40]; done) | (refine iB ?_; simp [opnA, h_5, h_27, zq_g, h_40]; done) | (simp [opnA, h_5, h_27, zq_g, h_40]; done) | (simp [opnA, h_5, h_27, zq_g, h_40]; omega) | omega)
        · refine a_iconst (v := nI 1) C dX7_opens_43 (by decide) ?_
          refine a_goto (tgt := 48) C dX7_opens_44 (by decide) ?_
          refine f_iret C hr ?_ dX7_opens_48 ⟨?_, rfl⟩
          · first | exact bI_narrow _ | rfl
          · first | with_reducible rfl | exact gl (by first | with_reducible rfl | (refine iF ?_; simp [opnA, h_5, h_27, zq_g, h_40]; done) | (refine iT ?_; simp [opnA, h_5, h_27, zq_g, h_40]; done) | (refine iB ?_; simp [opnA, h_5, h_27, zq_g, h_40]; done) | (simp [opnA, h_5, h_27, zq_g, h_40]; done) | (simp [opnA, h_5, h_27, zq_g, h_40]; omega) | omega)
  · refine a_iconst (v := nI 0) C dX7_opens_8 (by decide) ?_
    refine f_iret C hr ?_ dX7_opens_9 ⟨?_, rfl⟩
    · first | exact bI_narrow _ | rfl
    · first | with_reducible rfl | exact gl (by first | with_reducible rfl | (refine iF ?_; simp [opnA, h_5]; done) | (refine iT ?_; simp [opnA, h_5]; done) | (refine iB ?_; simp [opnA, h_5]; done) | (simp [opnA, h_5]; done) | (simp [opnA, h_5]; omega) | omega)

set_option maxRecDepth 20000 in
set_option maxHeartbeats 4000000 in
theorem K_X7_locksOf {w : Wd} {A : St} (hR : RR w A) (hA : AOK A) {c : Nat} (hc : c < 81) : CP yX7_locksOf cX7_locksOf 4 (some .int) 5 108 [.ref 204, .int (nI c)] w (.int (nI (lksA A c))) := by
  have zq_n := hA.n12
  refine CF.of ok_X7_locksOf (Nat.le_of_ble_eq_true rfl) (fun ex us G9 p9 l9 e9 s9 m9 ar9 be9 me9 co9 C hr => ?_)
  have ZL4 : ∀ (zd4 : Nat) (k : Nat), 6 + 1 ≤ k + zd4 → k ≤ 6 → WA G9 p9 l9 e9 (RM 5 108) s9 m9 ar9 be9 me9 co9 (QP G9 be9 ar9 s9 w ex us (.int (nI (lksA A c)))) 4 (219 + ex) us 4 [some (.ref 204), some (.int (nI c)), some (.int (nI (mskN (opnA A c) k))), some (.int (nI k))] [] (fzM w ex us) := by
    intro zd4
    induction zd4 with
    | zero => intro k zm4 zh4_0; exfalso; omega
    | succ zd4 zih4 =>
      intro k zm4 zh4_0
      refine a_iload_n C dX7_locksOf_4 rfl rfl ?_
      refine a_bipush (v := nI 6) C dX7_locksOf_5 (by decide) ?_
      first | refine n_icmp_ge (tgt := 35) C dX7_locksOf_7 (by decide) (by first | decide | omega) (by first | decide | omega) (fun h_7 => ?_) (fun h_7 => ?_) | refine a_icmp_ge (tgt := 35) C dX7_locksOf_7 (by decide) (fun h_7 => ?_) (fun h_7 => ?_)
      · obtain rfl : k = 6 := by omega
        refine a_iload_n C dX7_locksOf_35 rfl rfl ?_
        refine f_iret C hr ?_ dX7_locksOf_36 ⟨?_, rfl⟩
        · rfl
        · rfl
      · refine a_iload_n C dX7_locksOf_10 rfl rfl ?_
        refine a_via 27 (nI (if opnA A c k then 2 ^ k else 0)) ?_ (fun zJ27 => ?_)
        · first | refine n_ior C dX7_locksOf_27 ?_ | refine a_ior C dX7_locksOf_27 ?_
          refine a_istore_n C dX7_locksOf_28 rfl (by decide) ?_
          refine n_iinc C dX7_locksOf_29 rfl (by decide) ?_
          refine a_goto (tgt := 4) C dX7_locksOf_32 (by decide) ?_
          refine a_join (aLe_s ?_ (aLe_s ?_ (aLe_s ?_ (aLe_s ?_ aLe_nil)))) rfl rfl (zih4 (k + 1) (by omega) (by omega))
          · first | with_reducible rfl | exact gl (by first | with_reducible rfl | (refine iF ?_; simp [mskN, h_7]; done) | (refine iT ?_; simp [mskN, h_7]; done) | (refine iB ?_; simp [mskN, h_7]; done) | (simp [mskN, h_7]; done) | (simp [mskN, h_7]; omega) | omega)
          · first | with_reducible rfl | exact gl (by first | with_reducible rfl | (refine iF ?_; simp [mskN, h_7]; done) | (refine iT ?_; simp [mskN, h_7]; done) | (refine iB ?_; simp [mskN, h_7]; done) | (simp [mskN, h_7]; done) | (simp [mskN, h_7]; omega) | omega)
          · first | with_reducible rfl | exact gl (by first | with_reducible rfl | (refine iF ?_; simp [mskN, h_7]; done) | (refine iT ?_; simp [mskN, h_7]; done) | (refine iB ?_; simp [mskN, h_7]; done) | (simp [mskN, h_7]; done) | (simp [mskN, h_7]; omega) | omega)
          · first | with_reducible rfl | exact gl (by first | with_reducible rfl | (refine iF ?_; simp [mskN, h_7]; done) | (refine iT ?_; simp [mskN, h_7]; done) | (refine iB ?_; simp [mskN, h_7]; done) | (simp [mskN, h_7]; done) | (simp [mskN, h_7]; omega) | omega)
        · refine a_aload_n C dX7_locksOf_11 rfl rfl ?_
          refine a_iload_n C dX7_locksOf_12 rfl rfl ?_
          refine a_iload_n C dX7_locksOf_13 rfl rfl ?_
          refine p_callV C (K_X7_opens hR hA (by first | assumption | decide | omega) (by first | assumption | decide | omega)) vX7_101 rfl (by first | decide | omega) rfl rfl dX7_locksOf_14 (Nat.le_of_ble_eq_true rfl) ⟨by decide, by decide⟩ ?_
          first | refine b_if_eq (tgt := 26) C dX7_locksOf_17 (by decide) (fun h_17 => ?_) (fun h_17 => ?_) | refine n_if_eq (tgt := 26) C dX7_locksOf_17 (by decide) (by first | decide | omega) (fun h_17 => ?_) (fun h_17 => ?_) | refine a_if_eq (tgt := 26) C dX7_locksOf_17 (by decide) (fun h_17 => ?_) (fun h_17 => ?_)
          · refine a_iconst (v := nI 0) C dX7_locksOf_26 (by decide) ?_
            refine a_eq rfl (gl1 ?_) rfl zJ27
            · first | with_reducible rfl | (refine iF ?_; simp [mskN, h_7, h_17]; done) | (refine iT ?_; simp [mskN, h_7, h_17]; done) | (refine iB ?_; simp [mskN, h_7, h_17]; done) | (simp [mskN, h_7, h_17]; done) | (simp [mskN, h_7, h_17]; omega) | omega
          · refine a_iconst (v := nI 1) C dX7_locksOf_20 (by decide) ?_
            refine a_iload_n C dX7_locksOf_21 rfl rfl ?_
            refine n_ishl C dX7_locksOf_22 (by omega) (by have := Nat.pow_le_pow_right (show 0 < 2 by decide) (show k ≤ 6 by omega); omega) ?_
            refine a_goto (tgt := 27) C dX7_locksOf_23 (by decide) ?_
            refine a_eq rfl (gl1 ?_) rfl zJ27
            · first | with_reducible rfl | (refine iF ?_; simp [mskN, h_7, h_17]; done) | (refine iT ?_; simp [mskN, h_7, h_17]; done) | (refine iB ?_; simp [mskN, h_7, h_17]; done) | (simp [mskN, h_7, h_17]; done) | (simp [mskN, h_7, h_17]; omega) | omega
  refine a_pad 2 ?_
  refine a_eq (L' := [some (.ref 204), some (.int (nI c)), none, none]) rfl rfl rfl ?_
  refine a_iconst (v := nI 0) C dX7_locksOf_0 (by decide) ?_
  refine a_istore_n C dX7_locksOf_1 rfl (by decide) ?_
  refine a_iconst (v := nI 0) C dX7_locksOf_2 (by decide) ?_
  refine a_istore_n C dX7_locksOf_3 rfl (by decide) ?_
  refine a_join (aLe_s ?_ (aLe_s ?_ (aLe_s ?_ (aLe_s ?_ aLe_nil)))) rfl rfl (ZL4 (6 + 1) 0 (by omega) (by omega))
  · first | with_reducible rfl | exact gl (by first | with_reducible rfl | (refine iF ?_; simp [mskN]; done) | (refine iT ?_; simp [mskN]; done) | (refine iB ?_; simp [mskN]; done) | (simp [mskN]; done) | (simp [mskN]; omega) | omega | rfl)
  · first | with_reducible rfl | exact gl (by first | with_reducible rfl | (refine iF ?_; simp [mskN]; done) | (refine iT ?_; simp [mskN]; done) | (refine iB ?_; simp [mskN]; done) | (simp [mskN]; done) | (simp [mskN]; omega) | omega | rfl)
  · first | with_reducible rfl | exact gl (by first | with_reducible rfl | (refine iF ?_; simp [mskN]; done) | (refine iT ?_; simp [mskN]; done) | (refine iB ?_; simp [mskN]; done) | (simp [mskN]; done) | (simp [mskN]; omega) | omega | rfl)
  · first | with_reducible rfl | exact gl (by first | with_reducible rfl | (refine iF ?_; simp [mskN]; done) | (refine iT ?_; simp [mskN]; done) | (refine iB ?_; simp [mskN]; done) | (simp [mskN]; done) | (simp [mskN]; omega) | omega | rfl)

end A11

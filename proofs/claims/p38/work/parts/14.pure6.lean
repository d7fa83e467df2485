section A14
theorem inR_f {x : Int32} {N n : Nat} (hn : n ≤ N) (hN : N < 2 ^ 31) (h : nI N ≤ x) : inR x n = false := inR_le hn (inR_f2 hN h)
theorem and1 (x : Nat) : x &&& 1 = 0 ∨ x &&& 1 = 1 := by
  rw [Nat.and_one_is_mod]
  omega
theorem allN_f {P : Nat → Bool} {j : Nat} (h : P j = false) : ∀ k, j < k → allN P k = false
  | 0, hj => absurd hj (Nat.not_lt_zero j)
  | k + 1, hj => by
    show (allN P k && P k) = false
    by_cases zq_1 : j = k
    · subst zq_1
      rw [h, Bool.and_false]
    · rw [allN_f h k (by omega), Bool.false_and]
theorem anyN_t {P : Nat → Bool} {j : Nat} (h : P j = true) : ∀ k, j < k → anyN P k = true
  | 0, hj => absurd hj (Nat.not_lt_zero j)
  | k + 1, hj => by
    show (anyN P k || P k) = true
    by_cases zq_1 : j = k
    · subst zq_1
      rw [h, Bool.or_true]
    · rw [anyN_t h k (by omega), Bool.true_or]
theorem lstI_keep {P : Nat → Bool} {j i : Nat} (hi : i < 2 ^ 31) (h : lstI P j = nI i) : ∀ k, j ≤ k → lstI P k = nI i
  | 0, hj => by
    obtain rfl : j = 0 := by omega
    exact h
  | k + 1, hj => by
    by_cases zq_1 : j = k + 1
    · subst zq_1
      exact h
    · have zq_2 := lstI_keep hi h k (by omega)
      have zq_3 : (lstI P k == -1) = false := by
        rw [zq_2]
        exact beq_eq_false_iff_ne.mpr (nI_m1 hi)
      show (if P k && lstI P k == -1 then nI k else lstI P k) = nI i
      rw [zq_3, Bool.and_false]
      exact zq_2

set_option maxRecDepth 20000 in
set_option maxHeartbeats 4000000 in
theorem K_X6_isKey {w : Wd} {A : St} (hD : DR w 3 A) (hA : AOK A) (x : Int32) : CP yX6_isKey cX6_isKey 2 (some .boolean) 0 0 [.ref 0, .int x] w (.int (bI (inR x (kN A)))) := by
  have zq_n := hA.n12
  refine CF.of ok_X6_isKey (Nat.le_of_ble_eq_true rfl) (fun ex us G9 p9 l9 e9 s9 m9 ar9 be9 me9 co9 C hr => ?_)
  refine a_iload_n C dX6_isKey_0 rfl rfl ?_
  refine a_if_lt (tgt := 25) C dX6_isKey_1 (by decide) (fun h_1 => ?_) (fun h_1 => ?_)
  · refine a_iconst (v := nI 0) C dX6_isKey_25 (by decide) ?_
    refine f_iret C hr ?_ dX6_isKey_26 ⟨?_, rfl⟩
    · first | exact bI_narrow _ | rfl
    · first | exact bI_fal (inR_f1 h_1) | exact bI_fal (inR_f (Nat.le_refl _) (by omega) h_12) | exact bI_fal (inR_f zq_n (by decide) h_18) | exact bI_tru (inR_t (by omega) h_1 h_12)
  · refine a_iload_n C dX6_isKey_4 rfl rfl ?_
    refine a_aload_n C dX6_isKey_5 rfl rfl ?_
    refine a_getfF C fX6_19 dX6_isKey_6 (tw (by first | decide | omega)) (by first | decide | omega) rfl rfl ?_
    refine a_getf C fX6_80 dX6_isKey_9 (tw (by first | decide | omega)) (by first | decide | omega) rfl (gl (DR_n hD hA)) ?_
    refine a_icmp_ge (tgt := 25) C dX6_isKey_12 (by decide) (fun h_12 => ?_) (fun h_12 => ?_)
    · refine a_iconst (v := nI 0) C dX6_isKey_25 (by decide) ?_
      refine f_iret C hr ?_ dX6_isKey_26 ⟨?_, rfl⟩
      · first | exact bI_narrow _ | rfl
      · first | exact bI_fal (inR_f1 h_1) | exact bI_fal (inR_f (Nat.le_refl _) (by omega) h_12) | exact bI_fal (inR_f zq_n (by decide) h_18) | exact bI_tru (inR_t (by omega) h_1 h_12)
    · refine a_iload_n C dX6_isKey_15 rfl rfl ?_
      refine a_bipush (v := nI 12) C dX6_isKey_16 (by decide) ?_
      refine a_icmp_ge (tgt := 25) C dX6_isKey_18 (by decide) (fun h_18 => ?_) (fun h_18 => ?_)
      · refine a_iconst (v := nI 0) C dX6_isKey_25 (by decide) ?_
        refine f_iret C hr ?_ dX6_isKey_26 ⟨?_, rfl⟩
        · first | exact bI_narrow _ | rfl
        · first | exact bI_fal (inR_f1 h_1) | exact bI_fal (inR_f (Nat.le_refl _) (by omega) h_12) | exact bI_fal (inR_f zq_n (by decide) h_18) | exact bI_tru (inR_t (by omega) h_1 h_12)
      · refine a_iconst (v := nI 1) C dX6_isKey_21 (by decide) ?_
        refine a_goto (tgt := 26) C dX6_isKey_22 (by decide) ?_
        refine f_iret C hr ?_ dX6_isKey_26 ⟨?_, rfl⟩
        · first | exact bI_narrow _ | rfl
        · first | exact bI_fal (inR_f1 h_1) | exact bI_fal (inR_f (Nat.le_refl _) (by omega) h_12) | exact bI_fal (inR_f zq_n (by decide) h_18) | exact bI_tru (inR_t (by omega) h_1 h_12)

set_option maxRecDepth 20000 in
set_option maxHeartbeats 4000000 in
theorem K_X6_isLock {w : Wd} {A : St} (hD : DR w 3 A) (hA : AOK A) {p : Nat} (hp : p < 6) : CP yX6_isLock cX6_isLock 2 (some .boolean) 1 20 [.ref 0, .int (nI p)] w (.int (bI (wdA A p))) := by
  have zq_n := hA.n12
  refine CF.of ok_X6_isLock (Nat.le_of_ble_eq_true rfl) (fun ex us G9 p9 l9 e9 s9 m9 ar9 be9 me9 co9 C hr => ?_)
  refine a_iload_n C dX6_isLock_0 rfl rfl ?_
  refine p_callS C ((K_X6_isPlace _)).cp sX6_142 rfl dX6_isLock_1 (Nat.le_of_ble_eq_true rfl) ⟨by decide, by decide⟩ ?_
  refine b_if_eq (tgt := 27) C dX6_isLock_4 (by decide) (fun h_4 => ?_) (fun h_4 => ?_)
  · exact absurd h_4 (by rw [inR_nI (by omega), decide_eq_true hp]; decide)
  · refine a_aload_n C dX6_isLock_7 rfl rfl ?_
    refine a_getfF C fX6_19 dX6_isLock_8 (tw (by first | decide | omega)) (by first | decide | omega) rfl rfl ?_
    refine a_getfF C fX6_149 dX6_isLock_11 (tw (by first | decide | omega)) (by first | decide | omega) rfl rfl ?_
    refine a_iload_n C dX6_isLock_14 rfl rfl ?_
    refine a_aaldL C dX6_isLock_15 (tw (by first | decide | omega)) (by first | decide | omega) rfl rfl (by first | decide | omega) (by decide) rfl ?_
    refine a_getf C fX6_153 dX6_isLock_16 (tw (by first | decide | omega)) (by first | decide | omega) (fz_lock (j := 0) (by decide) (by omega)) (gl (DR_lw hD (by omega))) ?_
    refine a_iconst (v := (-1)) C dX6_isLock_19 (by decide) ?_
    refine a_icmp_eq (tgt := 27) C dX6_isLock_20 (by decide) (fun h_20 => ?_) (fun h_20 => ?_)
    · refine a_iconst (v := nI 0) C dX6_isLock_27 (by decide) ?_
      refine f_iret C hr ?_ dX6_isLock_28 ⟨?_, rfl⟩
      · first | exact bI_narrow _ | rfl
      · first | exact bI_fal (wdA_n h_20) | exact bI_tru (wdA_t h_20)
    · refine a_iconst (v := nI 1) C dX6_isLock_23 (by decide) ?_
      refine a_goto (tgt := 28) C dX6_isLock_24 (by decide) ?_
      refine f_iret C hr ?_ dX6_isLock_28 ⟨?_, rfl⟩
      · first | exact bI_narrow _ | rfl
      · first | exact bI_fal (wdA_n h_20) | exact bI_tru (wdA_t h_20)

set_option maxRecDepth 20000 in
set_option maxHeartbeats 4000000 in
theorem K_X6_isSound {w : Wd} {A : St} (hD : DR w 3 A) (hA : AOK A) {c : Nat} (hc : c < 81) : CP yX6_isSound cX6_isSound 2 (some .boolean) 0 0 [.ref 0, .int (nI c)] w (.int (bI (sndA A c))) := by
  have zq_s := hA.s0
  have zq_p := spN_le c
  refine CF.of ok_X6_isSound (Nat.le_of_ble_eq_true rfl) (fun ex us G9 p9 l9 e9 s9 m9 ar9 be9 me9 co9 C hr => ?_)
  refine a_aload_n C dX6_isSound_0 rfl rfl ?_
  refine a_getfF C fX6_37 dX6_isSound_1 (tw (by first | decide | omega)) (by first | decide | omega) rfl rfl ?_
  refine a_getfF C fX6_455 dX6_isSound_4 (tw (by first | decide | omega)) (by first | decide | omega) rfl rfl ?_
  refine a_iload_n C dX6_isSound_7 rfl rfl ?_
  refine n_iald C dX6_isSound_8 (tw (by first | decide | omega)) (by first | decide | omega) rfl rfl (by first | decide | omega) (by decide) rfl ?_
  refine a_aload_n C dX6_isSound_9 rfl rfl ?_
  refine a_getfF C fX6_19 dX6_isSound_10 (tw (by first | decide | omega)) (by first | decide | omega) rfl rfl ?_
  refine a_getfF C fX6_194 dX6_isSound_13 (tw (by first | decide | omega)) (by first | decide | omega) rfl rfl ?_
  refine a_iconst (v := nI 0) C dX6_isSound_16 (by decide) ?_
  refine n_iald C dX6_isSound_17 (tw (by first | decide | omega)) (by first | decide | omega) rfl rfl (by first | decide | omega) (by decide) (DR_s hD hA (j := 0) (by decide)) ?_
  refine n_icmp_gt (tgt := 25) C dX6_isSound_18 (by decide) (by first | decide | omega) (by first | decide | omega) (fun h_18 => ?_) (fun h_18 => ?_)
  · refine a_iconst (v := nI 0) C dX6_isSound_25 (by decide) ?_
    refine f_iret C hr ?_ dX6_isSound_26 ⟨?_, rfl⟩
    · first | exact bI_narrow _ | rfl
    · first | exact bI_fal (decide_eq_false (by omega)) | exact bI_tru (decide_eq_true (by omega))
  · refine a_iconst (v := nI 1) C dX6_isSound_21 (by decide) ?_
    refine a_goto (tgt := 26) C dX6_isSound_22 (by decide) ?_
    refine f_iret C hr ?_ dX6_isSound_26 ⟨?_, rfl⟩
    · first | exact bI_narrow _ | rfl
    · first | exact bI_fal (decide_eq_false (by omega)) | exact bI_tru (decide_eq_true (by omega))

def rkA (A : St) (c : Nat) (ex : Int32) (k : Nat) : Bool := ctsA A ex k && c == cN A k
def rkU (A : St) (c : Nat) (ex : Int32) (k : Nat) : Bool := ctsA A ex k && und c (cN A k)
def rkO (A : St) (c : Nat) (ex : Int32) (k : Nat) : Bool := ctsA A ex k && und (cN A k) c
theorem cls_any (A : St) (c : Nat) (ex : Int32) : ∀ k, clsA A c ex k = if anyN (rkA A c ex) k then 3 else if anyN (rkU A c ex) k then 4 else if anyN (rkO A c ex) k then 5 else 0
  | 0 => rfl
  | k + 1 => by
    show mrgN (clsA A c ex k) (fndA A c ex k) = if (anyN (rkA A c ex) k || rkA A c ex k) then 3 else if (anyN (rkU A c ex) k || rkU A c ex k) then 4 else if (anyN (rkO A c ex) k || rkO A c ex k) then 5 else 0
    rw [cls_any A c ex k]
    have zq_1 : fndA A c ex k = if rkA A c ex k then 3 else if rkU A c ex k then 4 else if rkO A c ex k then 5 else 0 := by
      unfold fndA rkA rkU rkO
      by_cases q1 : ctsA A ex k = true
      · by_cases q2 : cN A k = c
        · have q3 : (c == cN A k) = true := beq_iff_eq.mpr q2.symm
          simp [q1, q2, q3]
        · have q3 : (c == cN A k) = false := beq_eq_false_iff_ne.mpr (fun z => q2 z.symm)
          simp [q1, q2, q3]
      · simp [Bool.eq_false_iff.mpr q1]
    rw [zq_1]
    cases anyN (rkA A c ex) k <;> cases anyN (rkU A c ex) k <;> cases anyN (rkO A c ex) k <;> cases rkA A c ex k <;> cases rkU A c ex k <;> cases rkO A c ex k <;> decide
theorem cts_no {A : St} {ex : Int32} {k : Nat} (h : nI k = ex) : ctsA A ex k = false := by simp [ctsA, h]
theorem cts_lost {A : St} {ex : Int32} {k : Nat} (h1 : (sN A 3 == 1) = false) (h2 : lsA A k = true) : ctsA A ex k = false := by simp [ctsA, h1, h2]
theorem cts_yes1 {A : St} {ex : Int32} {k : Nat} (h : ¬ nI k = ex) (h1 : (sN A 3 == 1) = true) : ctsA A ex k = true := by simp [ctsA, h, h1]
theorem cts_yes2 {A : St} {ex : Int32} {k : Nat} (h : ¬ nI k = ex) (h2 : lsA A k = false) : ctsA A ex k = true := by simp [ctsA, h, h2]
theorem rk_no {A : St} {c : Nat} {ex : Int32} {k : Nat} (h : ctsA A ex k = false) : rkA A c ex k = false ∧ rkU A c ex k = false ∧ rkO A c ex k = false := by simp [rkA, rkU, rkO, h]
theorem rk_yes {A : St} {c : Nat} {ex : Int32} {k : Nat} (h : ctsA A ex k = true) : rkA A c ex k = (c == cN A k) ∧ rkU A c ex k = und c (cN A k) ∧ rkO A c ex k = und (cN A k) c := by simp [rkA, rkU, rkO, h]
theorem any_no {P : Nat → Bool} {k : Nat} (h : P k = false) : some (Value.int (bI (anyN P k))) = some (Value.int (bI (anyN P (k + 1)))) := by
  show _ = some (Value.int (bI (anyN P k || P k)))
  rw [h, Bool.or_false]
set_option maxRecDepth 20000 in
set_option maxHeartbeats 4000000 in
theorem K_X6_reasonByKeys {w : Wd} {A : St} (hD : DR w 3 A) (hA : AOK A) {c : Nat} (xk : Int32) (hc : c < 81) : CP yX6_reasonByKeys cX6_reasonByKeys 9 (some .int) 1 22 [.ref 0, .int (nI c), .int xk] w (.int (nI (clA A c xk))) := by
  have zq_n := hA.n12
  have zq_s := hA.s3
  refine CF.of ok_X6_reasonByKeys (Nat.le_of_ble_eq_true rfl) (fun ex us G9 p9 l9 e9 s9 m9 ar9 be9 me9 co9 C hr => ?_)
  have ZL30 : ∀ (zd30 : Nat) (k : Nat), kN A + 1 ≤ k + zd30 → k ≤ kN A → WA G9 p9 l9 e9 (RM 1 22) s9 m9 ar9 be9 me9 co9 (QP G9 be9 ar9 s9 w ex us (.int (nI (clA A c xk)))) 9 (207 + ex.1 + ex.2) us 30 [some (.ref 0), some (.int (nI c)), some (.int xk), some (.int (bI (sN A 3 == 1))), some (.int (bI (anyN (rkA A c xk) k))), some (.int (bI (anyN (rkU A c xk) k))), some (.int (bI (anyN (rkO A c xk) k))), some (.int (nI k)), none] [] (fzM w ex us) := by
    intro zd30
    induction zd30 with
    | zero => intro k zm30 zh30_0; exfalso; omega
    | succ zd30 zih30 =>
      intro k zm30 zh30_0
      have ZL79 : ctsA A xk k = true → k < kN A → WA G9 p9 l9 e9 (RM 1 22) s9 m9 ar9 be9 me9 co9 (QP G9 be9 ar9 s9 w ex us (.int (nI (clA A c xk)))) 9 (207 + ex.1 + ex.2) us 79 [some (.ref 0), some (.int (nI c)), some (.int xk), some (.int (bI (sN A 3 == 1))), some (.int (bI (anyN (rkA A c xk) k))), some (.int (bI (anyN (rkU A c xk) k))), some (.int (bI (anyN (rkO A c xk) k))), some (.int (nI k)), some (.ref (3 + 5 + k))] [] (fzM w ex us) := by
        intro  zq_t zq_lt
        have zq_ra := (rk_yes (c := c) zq_t).1
        have zq_ru := (rk_yes (c := c) zq_t).2.1
        have zq_ro := (rk_yes (c := c) zq_t).2.2
        have zq_c := hA.c81 (k := k) (by omega)
        refine a_via 98 (bI (anyN (rkA A c xk) (k + 1))) ?_ (fun zJ98 => ?_)
        · refine a_istore C dX6_reasonByKeys_98 (by decide) ?_
          refine a_via 126 (bI (anyN (rkU A c xk) (k + 1))) ?_ (fun zJ126 => ?_)
          · refine a_istore C dX6_reasonByKeys_126 (by decide) ?_
            refine a_via 154 (bI (anyN (rkO A c xk) (k + 1))) ?_ (fun zJ154 => ?_)
            · refine a_istore C dX6_reasonByKeys_154 (by decide) ?_
              refine n_iinc C dX6_reasonByKeys_156 rfl (by decide) ?_
              refine a_goto (tgt := 30) C dX6_reasonByKeys_159 (by decide) ?_
              refine a_join (aLe_s ?_ (aLe_s ?_ (aLe_s ?_ (aLe_s ?_ (aLe_s ?_ (aLe_s ?_ (aLe_s ?_ (aLe_s ?_ (aLe_n aLe_nil))))))))) rfl rfl (zih30 (k + 1) (by omega) (by omega))
              · first | with_reducible rfl | exact gl (by first | with_reducible rfl | (refine iF ?_; simp [anyN, zq_ra, zq_ru, zq_ro]; done) | (refine iT ?_; simp [anyN, zq_ra, zq_ru, zq_ro]; done) | (refine iB ?_; simp [anyN, zq_ra, zq_ru, zq_ro]; done) | (simp [anyN, zq_ra, zq_ru, zq_ro]; done) | (simp [anyN, zq_ra, zq_ru, zq_ro]; omega) | omega)
              · first | with_reducible rfl | exact gl (by first | with_reducible rfl | (refine iF ?_; simp [anyN, zq_ra, zq_ru, zq_ro]; done) | (refine iT ?_; simp [anyN, zq_ra, zq_ru, zq_ro]; done) | (refine iB ?_; simp [anyN, zq_ra, zq_ru, zq_ro]; done) | (simp [anyN, zq_ra, zq_ru, zq_ro]; done) | (simp [anyN, zq_ra, zq_ru, zq_ro]; omega) | omega)
              · first | with_reducible rfl | exact gl (by first | with_reducible rfl | (refine iF ?_; simp [anyN, zq_ra, zq_ru, zq_ro]; done) | (refine iT ?_; simp [anyN, zq_ra, zq_ru, zq_ro]; done) | (refine iB ?_; simp [anyN, zq_ra, zq_ru, zq_ro]; done) | (simp [anyN, zq_ra, zq_ru, zq_ro]; done) | (simp [anyN, zq_ra, zq_ru, zq_ro]; omega) | omega)
              · first | with_reducible rfl | exact gl (by first | with_reducible rfl | (refine iF ?_; simp [anyN, zq_ra, zq_ru, zq_ro]; done) | (refine iT ?_; simp [anyN, zq_ra, zq_ru, zq_ro]; done) | (refine iB ?_; simp [anyN, zq_ra, zq_ru, zq_ro]; done) | (simp [anyN, zq_ra, zq_ru, zq_ro]; done) | (simp [anyN, zq_ra, zq_ru, zq_ro]; omega) | omega)
              · first | with_reducible rfl | exact gl (by first | with_reducible rfl | (refine iF ?_; simp [anyN, zq_ra, zq_ru, zq_ro]; done) | (refine iT ?_; simp [anyN, zq_ra, zq_ru, zq_ro]; done) | (refine iB ?_; simp [anyN, zq_ra, zq_ru, zq_ro]; done) | (simp [anyN, zq_ra, zq_ru, zq_ro]; done) | (simp [anyN, zq_ra, zq_ru, zq_ro]; omega) | omega)
              · first | with_reducible rfl | exact gl (by first | with_reducible rfl | (refine iF ?_; simp [anyN, zq_ra, zq_ru, zq_ro]; done) | (refine iT ?_; simp [anyN, zq_ra, zq_ru, zq_ro]; done) | (refine iB ?_; simp [anyN, zq_ra, zq_ru, zq_ro]; done) | (simp [anyN, zq_ra, zq_ru, zq_ro]; done) | (simp [anyN, zq_ra, zq_ru, zq_ro]; omega) | omega)
              · first | with_reducible rfl | exact gl (by first | with_reducible rfl | (refine iF ?_; simp [anyN, zq_ra, zq_ru, zq_ro]; done) | (refine iT ?_; simp [anyN, zq_ra, zq_ru, zq_ro]; done) | (refine iB ?_; simp [anyN, zq_ra, zq_ru, zq_ro]; done) | (simp [anyN, zq_ra, zq_ru, zq_ro]; done) | (simp [anyN, zq_ra, zq_ru, zq_ro]; omega) | omega)
              · first | with_reducible rfl | exact gl (by first | with_reducible rfl | (refine iF ?_; simp [anyN, zq_ra, zq_ru, zq_ro]; done) | (refine iT ?_; simp [anyN, zq_ra, zq_ru, zq_ro]; done) | (refine iB ?_; simp [anyN, zq_ra, zq_ru, zq_ro]; done) | (simp [anyN, zq_ra, zq_ru, zq_ro]; done) | (simp [anyN, zq_ra, zq_ru, zq_ro]; omega) | omega)
            · refine a_iload C dX6_reasonByKeys_128 rfl ?_
              first | refine b_if_ne (tgt := 149) C dX6_reasonByKeys_130 (by decide) (fun h_130 => ?_) (fun h_130 => ?_) | refine n_if_ne (tgt := 149) C dX6_reasonByKeys_130 (by decide) (by first | decide | omega) (fun h_130 => ?_) (fun h_130 => ?_) | refine a_if_ne (tgt := 149) C dX6_reasonByKeys_130 (by decide) (fun h_130 => ?_) (fun h_130 => ?_)
              · refine a_iconst (v := nI 1) C dX6_reasonByKeys_149 (by decide) ?_
                refine a_goto (tgt := 154) C dX6_reasonByKeys_150 (by decide) ?_
                refine a_eq rfl (gl1 ?_) rfl zJ154
                · first | with_reducible rfl | (refine iF ?_; simp [anyN, zq_ra, zq_ru, zq_ro, h_130]; done) | (refine iT ?_; simp [anyN, zq_ra, zq_ru, zq_ro, h_130]; done) | (refine iB ?_; simp [anyN, zq_ra, zq_ru, zq_ro, h_130]; done) | (simp [anyN, zq_ra, zq_ru, zq_ro, h_130]; done) | (simp [anyN, zq_ra, zq_ru, zq_ro, h_130]; omega) | omega
              · refine a_aload_n C dX6_reasonByKeys_133 rfl rfl ?_
                refine a_getfF C fX6_37 dX6_reasonByKeys_134 (tw (by first | decide | omega)) (by first | decide | omega) rfl rfl ?_
                refine a_aload C dX6_reasonByKeys_137 rfl ?_
                refine a_getf C fX6_107 dX6_reasonByKeys_139 (tw (by first | decide | omega)) (by first | decide | omega) (fz_key (j := 0) (by decide) (by omega)) (gl (DR_kc hD hA (by omega))) ?_
                refine a_iload_n C dX6_reasonByKeys_142 rfl rfl ?_
                refine p_callV C (K_X1_liesUnder (by first | assumption | decide | omega) (by first | assumption | decide | omega)) vX6_464 rfl (by first | decide | omega) rfl rfl dX6_reasonByKeys_143 (Nat.le_of_ble_eq_true rfl) ⟨by decide, by decide⟩ ?_
                first | refine b_if_eq (tgt := 153) C dX6_reasonByKeys_146 (by decide) (fun h_146 => ?_) (fun h_146 => ?_) | refine n_if_eq (tgt := 153) C dX6_reasonByKeys_146 (by decide) (by first | decide | omega) (fun h_146 => ?_) (fun h_146 => ?_) | refine a_if_eq (tgt := 153) C dX6_reasonByKeys_146 (by decide) (fun h_146 => ?_) (fun h_146 => ?_)
                · refine a_iconst (v := nI 0) C dX6_reasonByKeys_153 (by decide) ?_
                  refine a_eq rfl (gl1 ?_) rfl zJ154
                  · first | with_reducible rfl | (refine iF ?_; simp [anyN, zq_ra, zq_ru, zq_ro, h_130, h_146]; done) | (refine iT ?_; simp [anyN, zq_ra, zq_ru, zq_ro, h_130, h_146]; done) | (refine iB ?_; simp [anyN, zq_ra, zq_ru, zq_ro, h_130, h_146]; done) | (simp [anyN, zq_ra, zq_ru, zq_ro, h_130, h_146]; done) | (simp [anyN, zq_ra, zq_ru, zq_ro, h_130, h_146]; omega) | omega
                · refine a_iconst (v := nI 1) C dX6_reasonByKeys_149 (by decide) ?_
                  refine a_goto (tgt := 154) C dX6_reasonByKeys_150 (by decide) ?_
                  refine a_eq rfl (gl1 ?_) rfl zJ154
                  · first | with_reducible rfl | (refine iF ?_; simp [anyN, zq_ra, zq_ru, zq_ro, h_130, h_146]; done) | (refine iT ?_; simp [anyN, zq_ra, zq_ru, zq_ro, h_130, h_146]; done) | (refine iB ?_; simp [anyN, zq_ra, zq_ru, zq_ro, h_130, h_146]; done) | (simp [anyN, zq_ra, zq_ru, zq_ro, h_130, h_146]; done) | (simp [anyN, zq_ra, zq_ru, zq_ro, h_130, h_146]; omega) | omega
          · refine a_iload C dX6_reasonByKeys_100 rfl ?_
            first | refine b_if_ne (tgt := 121) C dX6_reasonByKeys_102 (by decide) (fun h_102 => ?_) (fun h_102 => ?_) | refine n_if_ne (tgt := 121) C dX6_reasonByKeys_102 (by decide) (by first | decide | omega) (fun h_102 => ?_) (fun h_102 => ?_) | refine a_if_ne (tgt := 121) C dX6_reasonByKeys_102 (by decide) (fun h_102 => ?_) (fun h_102 => ?_)
            · refine a_iconst (v := nI 1) C dX6_reasonByKeys_121 (by decide) ?_
              refine a_goto (tgt := 126) C dX6_reasonByKeys_122 (by decide) ?_
              refine a_eq rfl (gl1 ?_) rfl zJ126
              · first | with_reducible rfl | (refine iF ?_; simp [anyN, zq_ra, zq_ru, zq_ro, h_102]; done) | (refine iT ?_; simp [anyN, zq_ra, zq_ru, zq_ro, h_102]; done) | (refine iB ?_; simp [anyN, zq_ra, zq_ru, zq_ro, h_102]; done) | (simp [anyN, zq_ra, zq_ru, zq_ro, h_102]; done) | (simp [anyN, zq_ra, zq_ru, zq_ro, h_102]; omega) | omega
            · refine a_aload_n C dX6_reasonByKeys_105 rfl rfl ?_
              refine a_getfF C fX6_37 dX6_reasonByKeys_106 (tw (by first | decide | omega)) (by first | decide | omega) rfl rfl ?_
              refine a_iload_n C dX6_reasonByKeys_109 rfl rfl ?_
              refine a_aload C dX6_reasonByKeys_110 rfl ?_
              refine a_getf C fX6_107 dX6_reasonByKeys_112 (tw (by first | decide | omega)) (by first | decide | omega) (fz_key (j := 0) (by decide) (by omega)) (gl (DR_kc hD hA (by omega))) ?_
              refine p_callV C (K_X1_liesUnder (by first | assumption | decide | omega) (by first | assumption | decide | omega)) vX6_464 rfl (by first | decide | omega) rfl rfl dX6_reasonByKeys_115 (Nat.le_of_ble_eq_true rfl) ⟨by decide, by decide⟩ ?_
              first | refine b_if_eq (tgt := 125) C dX6_reasonByKeys_118 (by decide) (fun h_118 => ?_) (fun h_118 => ?_) | refine n_if_eq (tgt := 125) C dX6_reasonByKeys_118 (by decide) (by first | decide | omega) (fun h_118 => ?_) (fun h_118 => ?_) | refine a_if_eq (tgt := 125) C dX6_reasonByKeys_118 (by decide) (fun h_118 => ?_) (fun h_118 => ?_)
              · refine a_iconst (v := nI 0) C dX6_reasonByKeys_125 (by decide) ?_
                refine a_eq rfl (gl1 ?_) rfl zJ126
                · first | with_reducible rfl | (refine iF ?_; simp [anyN, zq_ra, zq_ru, zq_ro, h_102, h_118]; done) | (refine iT ?_; simp [anyN, zq_ra, zq_ru, zq_ro, h_102, h_118]; done) | (refine iB ?_; simp [anyN, zq_ra, zq_ru, zq_ro, h_102, h_118]; done) | (simp [anyN, zq_ra, zq_ru, zq_ro, h_102, h_118]; done) | (simp [anyN, zq_ra, zq_ru, zq_ro, h_102, h_118]; omega) | omega
              · refine a_iconst (v := nI 1) C dX6_reasonByKeys_121 (by decide) ?_
                refine a_goto (tgt := 126) C dX6_reasonByKeys_122 (by decide) ?_
                refine a_eq rfl (gl1 ?_) rfl zJ126
                · first | with_reducible rfl | (refine iF ?_; simp [anyN, zq_ra, zq_ru, zq_ro, h_102, h_118]; done) | (refine iT ?_; simp [anyN, zq_ra, zq_ru, zq_ro, h_102, h_118]; done) | (refine iB ?_; simp [anyN, zq_ra, zq_ru, zq_ro, h_102, h_118]; done) | (simp [anyN, zq_ra, zq_ru, zq_ro, h_102, h_118]; done) | (simp [anyN, zq_ra, zq_ru, zq_ro, h_102, h_118]; omega) | omega
        · refine a_iload C dX6_reasonByKeys_79 rfl ?_
          first | refine b_if_ne (tgt := 93) C dX6_reasonByKeys_81 (by decide) (fun h_81 => ?_) (fun h_81 => ?_) | refine n_if_ne (tgt := 93) C dX6_reasonByKeys_81 (by decide) (by first | decide | omega) (fun h_81 => ?_) (fun h_81 => ?_) | refine a_if_ne (tgt := 93) C dX6_reasonByKeys_81 (by decide) (fun h_81 => ?_) (fun h_81 => ?_)
          · refine a_iconst (v := nI 1) C dX6_reasonByKeys_93 (by decide) ?_
            refine a_goto (tgt := 98) C dX6_reasonByKeys_94 (by decide) ?_
            refine a_eq rfl (gl1 ?_) rfl zJ98
            · first | with_reducible rfl | (refine iF ?_; simp [anyN, zq_ra, zq_ru, zq_ro, h_81]; done) | (refine iT ?_; simp [anyN, zq_ra, zq_ru, zq_ro, h_81]; done) | (refine iB ?_; simp [anyN, zq_ra, zq_ru, zq_ro, h_81]; done) | (simp [anyN, zq_ra, zq_ru, zq_ro, h_81]; done) | (simp [anyN, zq_ra, zq_ru, zq_ro, h_81]; omega) | omega
          · refine a_iload_n C dX6_reasonByKeys_84 rfl rfl ?_
            refine a_aload C dX6_reasonByKeys_85 rfl ?_
            refine a_getf C fX6_107 dX6_reasonByKeys_87 (tw (by first | decide | omega)) (by first | decide | omega) (fz_key (j := 0) (by decide) (by omega)) (gl (DR_kc hD hA (by omega))) ?_
            refine n_icmp_ne (tgt := 97) C dX6_reasonByKeys_90 (by decide) (by first | decide | omega) (by first | decide | omega) (fun h_90 => ?_) (fun h_90 => ?_)
            · have zq_e : (c == cN A k) = false := beq_eq_false_iff_ne.mpr h_90
              refine a_iconst (v := nI 0) C dX6_reasonByKeys_97 (by decide) ?_
              refine a_eq rfl (gl1 ?_) rfl zJ98
              · first | with_reducible rfl | (refine iF ?_; simp [anyN, zq_ra, zq_ru, zq_ro, h_81, zq_e]; done) | (refine iT ?_; simp [anyN, zq_ra, zq_ru, zq_ro, h_81, zq_e]; done) | (refine iB ?_; simp [anyN, zq_ra, zq_ru, zq_ro, h_81, zq_e]; done) | (simp [anyN, zq_ra, zq_ru, zq_ro, h_81, zq_e]; done) | (simp [anyN, zq_ra, zq_ru, zq_ro, h_81, zq_e]; omega) | omega
            · have zq_e : (c == cN A k) = true := beq_iff_eq.mpr h_90
              refine a_iconst (v := nI 1) C dX6_reasonByKeys_93 (by decide) ?_
              refine a_goto (tgt := 98) C dX6_reasonByKeys_94 (by decide) ?_
              refine a_eq rfl (gl1 ?_) rfl zJ98
              · first | with_reducible rfl | (refine iF ?_; simp [anyN, zq_ra, zq_ru, zq_ro, h_81, zq_e]; done) | (refine iT ?_; simp [anyN, zq_ra, zq_ru, zq_ro, h_81, zq_e]; done) | (refine iB ?_; simp [anyN, zq_ra, zq_ru, zq_ro, h_81, zq_e]; done) | (simp [anyN, zq_ra, zq_ru, zq_ro, h_81, zq_e]; done) | (simp [anyN, zq_ra, zq_ru, zq_ro, h_81, zq_e]; omega) | omega
      refine a_iload C dX6_reasonByKeys_30 rfl ?_
      refine a_aload_n C dX6_reasonByKeys_32 rfl rfl ?_
      refine a_getfF C fX6_19 dX6_reasonByKeys_33 (tw (by first | decide | omega)) (by first | decide | omega) rfl rfl ?_
      refine a_getf C fX6_80 dX6_reasonByKeys_36 (tw (by first | decide | omega)) (by first | decide | omega) rfl (gl (DR_n hD hA)) ?_
      first | refine n_icmp_ge (tgt := 162) C dX6_reasonByKeys_39 (by decide) (by first | decide | omega) (by first | decide | omega) (fun h_39 => ?_) (fun h_39 => ?_) | refine a_icmp_ge (tgt := 162) C dX6_reasonByKeys_39 (by decide) (fun h_39 => ?_) (fun h_39 => ?_)
      · obtain rfl : k = kN A := by omega
        refine a_iload C dX6_reasonByKeys_162 rfl ?_
        first | refine b_if_eq (tgt := 169) C dX6_reasonByKeys_164 (by decide) (fun h_164 => ?_) (fun h_164 => ?_) | refine n_if_eq (tgt := 169) C dX6_reasonByKeys_164 (by decide) (by first | decide | omega) (fun h_164 => ?_) (fun h_164 => ?_) | refine a_if_eq (tgt := 169) C dX6_reasonByKeys_164 (by decide) (fun h_164 => ?_) (fun h_164 => ?_)
        · refine a_iload C dX6_reasonByKeys_169 rfl ?_
          first | refine b_if_eq (tgt := 176) C dX6_reasonByKeys_171 (by decide) (fun h_171 => ?_) (fun h_171 => ?_) | refine n_if_eq (tgt := 176) C dX6_reasonByKeys_171 (by decide) (by first | decide | omega) (fun h_171 => ?_) (fun h_171 => ?_) | refine a_if_eq (tgt := 176) C dX6_reasonByKeys_171 (by decide) (fun h_171 => ?_) (fun h_171 => ?_)
          · refine a_iload C dX6_reasonByKeys_176 rfl ?_
            first | refine b_if_eq (tgt := 185) C dX6_reasonByKeys_178 (by decide) (fun h_178 => ?_) (fun h_178 => ?_) | refine n_if_eq (tgt := 185) C dX6_reasonByKeys_178 (by decide) (by first | decide | omega) (fun h_178 => ?_) (fun h_178 => ?_) | refine a_if_eq (tgt := 185) C dX6_reasonByKeys_178 (by decide) (fun h_178 => ?_) (fun h_178 => ?_)
            · refine a_iconst (v := nI 0) C dX6_reasonByKeys_185 (by decide) ?_
              refine f_iret C hr ?_ dX6_reasonByKeys_186 ⟨?_, rfl⟩
              · rfl
              · exact gl (by rw [clA, cls_any, h_164, h_171, h_178]; rfl)
            · refine a_iconst (v := nI 5) C dX6_reasonByKeys_181 (by decide) ?_
              refine a_goto (tgt := 186) C dX6_reasonByKeys_182 (by decide) ?_
              refine f_iret C hr ?_ dX6_reasonByKeys_186 ⟨?_, rfl⟩
              · rfl
              · exact gl (by rw [clA, cls_any, h_164, h_171, h_178]; rfl)
          · refine a_iconst (v := nI 4) C dX6_reasonByKeys_174 (by decide) ?_
            refine f_iret C hr ?_ dX6_reasonByKeys_175 ⟨?_, rfl⟩
            · rfl
            · exact gl (by rw [clA, cls_any, h_164, h_171]; rfl)
        · refine a_iconst (v := nI 3) C dX6_reasonByKeys_167 (by decide) ?_
          refine f_iret C hr ?_ dX6_reasonByKeys_168 ⟨?_, rfl⟩
          · rfl
          · exact gl (by rw [clA, cls_any, if_pos h_164])
      · refine a_iload C dX6_reasonByKeys_42 rfl ?_
        refine a_bipush (v := nI 12) C dX6_reasonByKeys_44 (by decide) ?_
        first | refine n_icmp_ge (tgt := 162) C dX6_reasonByKeys_46 (by decide) (by first | decide | omega) (by first | decide | omega) (fun h_46 => ?_) (fun h_46 => ?_) | refine a_icmp_ge (tgt := 162) C dX6_reasonByKeys_46 (by decide) (fun h_46 => ?_) (fun h_46 => ?_)
        · exfalso; omega
        · refine a_aload_n C dX6_reasonByKeys_49 rfl rfl ?_
          refine a_getfF C fX6_19 dX6_reasonByKeys_50 (tw (by first | decide | omega)) (by first | decide | omega) rfl rfl ?_
          refine a_getfF C fX6_103 dX6_reasonByKeys_53 (tw (by first | decide | omega)) (by first | decide | omega) rfl rfl ?_
          refine a_iload C dX6_reasonByKeys_56 rfl ?_
          refine a_aaldK C dX6_reasonByKeys_58 (tw (by first | decide | omega)) (by first | decide | omega) rfl rfl (by first | decide | omega) (by decide) rfl ?_
          refine a_astore C dX6_reasonByKeys_59 (by decide) ?_
          refine a_iload C dX6_reasonByKeys_61 rfl ?_
          refine a_iload_n C dX6_reasonByKeys_63 rfl rfl ?_
          refine a_icmp_eq (tgt := 156) C dX6_reasonByKeys_64 (by decide) (fun h_64 => ?_) (fun h_64 => ?_)
          · refine n_iinc C dX6_reasonByKeys_156 rfl (by decide) ?_
            refine a_goto (tgt := 30) C dX6_reasonByKeys_159 (by decide) ?_
            refine a_join (aLe_s ?_ (aLe_s ?_ (aLe_s ?_ (aLe_s ?_ (aLe_s ?_ (aLe_s ?_ (aLe_s ?_ (aLe_s ?_ (aLe_n aLe_nil))))))))) rfl rfl (zih30 (k + 1) (by omega) (by omega))
            · first | with_reducible rfl | exact gl (by first | with_reducible rfl | (refine iF ?_; simp [anyN, h_39, h_46, (eq_true h_64), (beq_iff_eq.mpr h_64), (bne_eq_false_iff_eq.mpr h_64)]; done) | (refine iT ?_; simp [anyN, h_39, h_46, (eq_true h_64), (beq_iff_eq.mpr h_64), (bne_eq_false_iff_eq.mpr h_64)]; done) | (refine iB ?_; simp [anyN, h_39, h_46, (eq_true h_64), (beq_iff_eq.mpr h_64), (bne_eq_false_iff_eq.mpr h_64)]; done) | (simp [anyN, h_39, h_46, (eq_true h_64), (beq_iff_eq.mpr h_64), (bne_eq_false_iff_eq.mpr h_64)]; done) | (simp [anyN, h_39, h_46, (eq_true h_64), (beq_iff_eq.mpr h_64), (bne_eq_false_iff_eq.mpr h_64)]; omega) | omega)
            · first | with_reducible rfl | exact gl (by first | with_reducible rfl | (refine iF ?_; simp [anyN, h_39, h_46, (eq_true h_64), (beq_iff_eq.mpr h_64), (bne_eq_false_iff_eq.mpr h_64)]; done) | (refine iT ?_; simp [anyN, h_39, h_46, (eq_true h_64), (beq_iff_eq.mpr h_64), (bne_eq_false_iff_eq.mpr h_64)]; done) | (refine iB ?_; simp [anyN, h_39, h_46, (eq_true h_64), (beq_iff_eq.mpr h_64), (bne_eq_false_iff_eq.mpr h_64)]; done) | (simp [anyN, h_39, h_46, (eq_true h_64), (beq_iff_eq.mpr h_64), (bne_eq_false_iff_eq.mpr h_64)]; done) | (simp [anyN, h_39, h_46, (eq_true h_64), (beq_iff_eq.mpr h_64), (bne_eq_false_iff_eq.mpr h_64)]; omega) | omega)
            · first | with_reducible rfl | exact gl (by first | with_reducible rfl | (refine iF ?_; simp [anyN, h_39, h_46, (eq_true h_64), (beq_iff_eq.mpr h_64), (bne_eq_false_iff_eq.mpr h_64)]; done) | (refine iT ?_; simp [anyN, h_39, h_46, (eq_true h_64), (beq_iff_eq.mpr h_64), (bne_eq_false_iff_eq.mpr h_64)]; done) | (refine iB ?_; simp [anyN, h_39, h_46, (eq_true h_64), (beq_iff_eq.mpr h_64), (bne_eq_false_iff_eq.mpr h_64)]; done) | (simp [anyN, h_39, h_46, (eq_true h_64), (beq_iff_eq.mpr h_64), (bne_eq_false_iff_eq.mpr h_64)]; done) | (simp [anyN, h_39, h_46, (eq_true h_64), (beq_iff_eq.mpr h_64), (bne_eq_false_iff_eq.mpr h_64)]; omega) | omega)
            · first | with_reducible rfl | exact gl (by first | with_reducible rfl | (refine iF ?_; simp [anyN, h_39, h_46, (eq_true h_64), (beq_iff_eq.mpr h_64), (bne_eq_false_iff_eq.mpr h_64)]; done) | (refine iT ?_; simp [anyN, h_39, h_46, (eq_true h_64), (beq_iff_eq.mpr h_64), (bne_eq_false_iff_eq.mpr h_64)]; done) | (refine iB ?_; simp [anyN, h_39, h_46, (eq_true h_64), (beq_iff_eq.mpr h_64), (bne_eq_false_iff_eq.mpr h_64)]; done) | (simp [anyN, h_39, h_46, (eq_true h_64), (beq_iff_eq.mpr h_64), (bne_eq_false_iff_eq.mpr h_64)]; done) | (simp [anyN, h_39, h_46, (eq_true h_64), (beq_iff_eq.mpr h_64), (bne_eq_false_iff_eq.mpr h_64)]; omega) | omega)
            · exact any_no (rk_no (cts_no h_64)).1
            · exact any_no (rk_no (cts_no h_64)).2.1
            · exact any_no (rk_no (cts_no h_64)).2.2
            · first | with_reducible rfl | exact gl (by first | with_reducible rfl | (refine iF ?_; simp [anyN, h_39, h_46, (eq_true h_64), (beq_iff_eq.mpr h_64), (bne_eq_false_iff_eq.mpr h_64)]; done) | (refine iT ?_; simp [anyN, h_39, h_46, (eq_true h_64), (beq_iff_eq.mpr h_64), (bne_eq_false_iff_eq.mpr h_64)]; done) | (refine iB ?_; simp [anyN, h_39, h_46, (eq_true h_64), (beq_iff_eq.mpr h_64), (bne_eq_false_iff_eq.mpr h_64)]; done) | (simp [anyN, h_39, h_46, (eq_true h_64), (beq_iff_eq.mpr h_64), (bne_eq_false_iff_eq.mpr h_64)]; done) | (simp [anyN, h_39, h_46, (eq_true h_64), (beq_iff_eq.mpr h_64), (bne_eq_false_iff_eq.mpr h_64)]; omega) | omega)
          · refine a_iload_n C dX6_reasonByKeys_67 rfl rfl ?_
            first | refine b_if_ne (tgt := 79) C dX6_reasonByKeys_68 (by decide) (fun h_68 => ?_) (fun h_68 => ?_) | refine n_if_ne (tgt := 79) C dX6_reasonByKeys_68 (by decide) (by first | decide | omega) (fun h_68 => ?_) (fun h_68 => ?_) | refine a_if_ne (tgt := 79) C dX6_reasonByKeys_68 (by decide) (fun h_68 => ?_) (fun h_68 => ?_)
            · refine a_join (aLe_s ?_ (aLe_s ?_ (aLe_s ?_ (aLe_s ?_ (aLe_s ?_ (aLe_s ?_ (aLe_s ?_ (aLe_s ?_ (aLe_s ?_ aLe_nil))))))))) rfl rfl (ZL79 (cts_yes1 h_64 h_68) (by omega))
              · first | with_reducible rfl | exact gl (by first | with_reducible rfl | (refine iF ?_; simp [anyN, h_39, h_46, h_64, (beq_eq_false_iff_ne.mpr h_64), (bne_iff_ne.mpr h_64), h_68]; done) | (refine iT ?_; simp [anyN, h_39, h_46, h_64, (beq_eq_false_iff_ne.mpr h_64), (bne_iff_ne.mpr h_64), h_68]; done) | (refine iB ?_; simp [anyN, h_39, h_46, h_64, (beq_eq_false_iff_ne.mpr h_64), (bne_iff_ne.mpr h_64), h_68]; done) | (simp [anyN, h_39, h_46, h_64, (beq_eq_false_iff_ne.mpr h_64), (bne_iff_ne.mpr h_64), h_68]; done) | (simp [anyN, h_39, h_46, h_64, (beq_eq_false_iff_ne.mpr h_64), (bne_iff_ne.mpr h_64), h_68]; omega) | omega | rfl)
              · first | with_reducible rfl | exact gl (by first | with_reducible rfl | (refine iF ?_; simp [anyN, h_39, h_46, h_64, (beq_eq_false_iff_ne.mpr h_64), (bne_iff_ne.mpr h_64), h_68]; done) | (refine iT ?_; simp [anyN, h_39, h_46, h_64, (beq_eq_false_iff_ne.mpr h_64), (bne_iff_ne.mpr h_64), h_68]; done) | (refine iB ?_; simp [anyN, h_39, h_46, h_64, (beq_eq_false_iff_ne.mpr h_64), (bne_iff_ne.mpr h_64), h_68]; done) | (simp [anyN, h_39, h_46, h_64, (beq_eq_false_iff_ne.mpr h_64), (bne_iff_ne.mpr h_64), h_68]; done) | (simp [anyN, h_39, h_46, h_64, (beq_eq_false_iff_ne.mpr h_64), (bne_iff_ne.mpr h_64), h_68]; omega) | omega | rfl)
              · first | with_reducible rfl | exact gl (by first | with_reducible rfl | (refine iF ?_; simp [anyN, h_39, h_46, h_64, (beq_eq_false_iff_ne.mpr h_64), (bne_iff_ne.mpr h_64), h_68]; done) | (refine iT ?_; simp [anyN, h_39, h_46, h_64, (beq_eq_false_iff_ne.mpr h_64), (bne_iff_ne.mpr h_64), h_68]; done) | (refine iB ?_; simp [anyN, h_39, h_46, h_64, (beq_eq_false_iff_ne.mpr h_64), (bne_iff_ne.mpr h_64), h_68]; done) | (simp [anyN, h_39, h_46, h_64, (beq_eq_false_iff_ne.mpr h_64), (bne_iff_ne.mpr h_64), h_68]; done) | (simp [anyN, h_39, h_46, h_64, (beq_eq_false_iff_ne.mpr h_64), (bne_iff_ne.mpr h_64), h_68]; omega) | omega | rfl)
              · first | with_reducible rfl | exact gl (by first | with_reducible rfl | (refine iF ?_; simp [anyN, h_39, h_46, h_64, (beq_eq_false_iff_ne.mpr h_64), (bne_iff_ne.mpr h_64), h_68]; done) | (refine iT ?_; simp [anyN, h_39, h_46, h_64, (beq_eq_false_iff_ne.mpr h_64), (bne_iff_ne.mpr h_64), h_68]; done) | (refine iB ?_; simp [anyN, h_39, h_46, h_64, (beq_eq_false_iff_ne.mpr h_64), (bne_iff_ne.mpr h_64), h_68]; done) | (simp [anyN, h_39, h_46, h_64, (beq_eq_false_iff_ne.mpr h_64), (bne_iff_ne.mpr h_64), h_68]; done) | (simp [anyN, h_39, h_46, h_64, (beq_eq_false_iff_ne.mpr h_64), (bne_iff_ne.mpr h_64), h_68]; omega) | omega | rfl)
              · first | with_reducible rfl | exact gl (by first | with_reducible rfl | (refine iF ?_; simp [anyN, h_39, h_46, h_64, (beq_eq_false_iff_ne.mpr h_64), (bne_iff_ne.mpr h_64), h_68]; done) | (refine iT ?_; simp [anyN, h_39, h_46, h_64, (beq_eq_false_iff_ne.mpr h_64), (bne_iff_ne.mpr h_64), h_68]; done) | (refine iB ?_; simp [anyN, h_39, h_46, h_64, (beq_eq_false_iff_ne.mpr h_64), (bne_iff_ne.mpr h_64), h_68]; done) | (simp [anyN, h_39, h_46, h_64, (beq_eq_false_iff_ne.mpr h_64), (bne_iff_ne.mpr h_64), h_68]; done) | (simp [anyN, h_39, h_46, h_64, (beq_eq_false_iff_ne.mpr h_64), (bne_iff_ne.mpr h_64), h_68]; omega) | omega | rfl)
              · first | with_reducible rfl | exact gl (by first | with_reducible rfl | (refine iF ?_; simp [anyN, h_39, h_46, h_64, (beq_eq_false_iff_ne.mpr h_64), (bne_iff_ne.mpr h_64), h_68]; done) | (refine iT ?_; simp [anyN, h_39, h_46, h_64, (beq_eq_false_iff_ne.mpr h_64), (bne_iff_ne.mpr h_64), h_68]; done) | (refine iB ?_; simp [anyN, h_39, h_46, h_64, (beq_eq_false_iff_ne.mpr h_64), (bne_iff_ne.mpr h_64), h_68]; done) | (simp [anyN, h_39, h_46, h_64, (beq_eq_false_iff_ne.mpr h_64), (bne_iff_ne.mpr h_64), h_68]; done) | (simp [anyN, h_39, h_46, h_64, (beq_eq_false_iff_ne.mpr h_64), (bne_iff_ne.mpr h_64), h_68]; omega) | omega | rfl)
              · first | with_reducible rfl | exact gl (by first | with_reducible rfl | (refine iF ?_; simp [anyN, h_39, h_46, h_64, (beq_eq_false_iff_ne.mpr h_64), (bne_iff_ne.mpr h_64), h_68]; done) | (refine iT ?_; simp [anyN, h_39, h_46, h_64, (beq_eq_false_iff_ne.mpr h_64), (bne_iff_ne.mpr h_64), h_68]; done) | (refine iB ?_; simp [anyN, h_39, h_46, h_64, (beq_eq_false_iff_ne.mpr h_64), (bne_iff_ne.mpr h_64), h_68]; done) | (simp [anyN, h_39, h_46, h_64, (beq_eq_false_iff_ne.mpr h_64), (bne_iff_ne.mpr h_64), h_68]; done) | (simp [anyN, h_39, h_46, h_64, (beq_eq_false_iff_ne.mpr h_64), (bne_iff_ne.mpr h_64), h_68]; omega) | omega | rfl)
              · first | with_reducible rfl | exact gl (by first | with_reducible rfl | (refine iF ?_; simp [anyN, h_39, h_46, h_64, (beq_eq_false_iff_ne.mpr h_64), (bne_iff_ne.mpr h_64), h_68]; done) | (refine iT ?_; simp [anyN, h_39, h_46, h_64, (beq_eq_false_iff_ne.mpr h_64), (bne_iff_ne.mpr h_64), h_68]; done) | (refine iB ?_; simp [anyN, h_39, h_46, h_64, (beq_eq_false_iff_ne.mpr h_64), (bne_iff_ne.mpr h_64), h_68]; done) | (simp [anyN, h_39, h_46, h_64, (beq_eq_false_iff_ne.mpr h_64), (bne_iff_ne.mpr h_64), h_68]; done) | (simp [anyN, h_39, h_46, h_64, (beq_eq_false_iff_ne.mpr h_64), (bne_iff_ne.mpr h_64), h_68]; omega) | omega | rfl)
              · first | with_reducible rfl | exact gl (by first | with_reducible rfl | (refine iF ?_; simp [anyN, h_39, h_46, h_64, (beq_eq_false_iff_ne.mpr h_64), (bne_iff_ne.mpr h_64), h_68]; done) | (refine iT ?_; simp [anyN, h_39, h_46, h_64, (beq_eq_false_iff_ne.mpr h_64), (bne_iff_ne.mpr h_64), h_68]; done) | (refine iB ?_; simp [anyN, h_39, h_46, h_64, (beq_eq_false_iff_ne.mpr h_64), (bne_iff_ne.mpr h_64), h_68]; done) | (simp [anyN, h_39, h_46, h_64, (beq_eq_false_iff_ne.mpr h_64), (bne_iff_ne.mpr h_64), h_68]; done) | (simp [anyN, h_39, h_46, h_64, (beq_eq_false_iff_ne.mpr h_64), (bne_iff_ne.mpr h_64), h_68]; omega) | omega | rfl)
            · refine a_aload C dX6_reasonByKeys_71 rfl ?_
              refine a_getf C fX6_126 dX6_reasonByKeys_73 (tw (by first | decide | omega)) (by first | decide | omega) (fz_key (j := 0) (by decide) (by omega)) (gl (DR_kl hD hA (by omega))) ?_
              first | refine b_if_ne (tgt := 156) C dX6_reasonByKeys_76 (by decide) (fun h_76 => ?_) (fun h_76 => ?_) | refine n_if_ne (tgt := 156) C dX6_reasonByKeys_76 (by decide) (by first | decide | omega) (fun h_76 => ?_) (fun h_76 => ?_) | refine a_if_ne (tgt := 156) C dX6_reasonByKeys_76 (by decide) (fun h_76 => ?_) (fun h_76 => ?_)
              · refine n_iinc C dX6_reasonByKeys_156 rfl (by decide) ?_
                refine a_goto (tgt := 30) C dX6_reasonByKeys_159 (by decide) ?_
                refine a_join (aLe_s ?_ (aLe_s ?_ (aLe_s ?_ (aLe_s ?_ (aLe_s ?_ (aLe_s ?_ (aLe_s ?_ (aLe_s ?_ (aLe_n aLe_nil))))))))) rfl rfl (zih30 (k + 1) (by omega) (by omega))
                · first | with_reducible rfl | exact gl (by first | with_reducible rfl | (refine iF ?_; simp [anyN, h_39, h_46, h_64, (beq_eq_false_iff_ne.mpr h_64), (bne_iff_ne.mpr h_64), h_68, h_76]; done) | (refine iT ?_; simp [anyN, h_39, h_46, h_64, (beq_eq_false_iff_ne.mpr h_64), (bne_iff_ne.mpr h_64), h_68, h_76]; done) | (refine iB ?_; simp [anyN, h_39, h_46, h_64, (beq_eq_false_iff_ne.mpr h_64), (bne_iff_ne.mpr h_64), h_68, h_76]; done) | (simp [anyN, h_39, h_46, h_64, (beq_eq_false_iff_ne.mpr h_64), (bne_iff_ne.mpr h_64), h_68, h_76]; done) | (simp [anyN, h_39, h_46, h_64, (beq_eq_false_iff_ne.mpr h_64), (bne_iff_ne.mpr h_64), h_68, h_76]; omega) | omega)
                · first | with_reducible rfl | exact gl (by first | with_reducible rfl | (refine iF ?_; simp [anyN, h_39, h_46, h_64, (beq_eq_false_iff_ne.mpr h_64), (bne_iff_ne.mpr h_64), h_68, h_76]; done) | (refine iT ?_; simp [anyN, h_39, h_46, h_64, (beq_eq_false_iff_ne.mpr h_64), (bne_iff_ne.mpr h_64), h_68, h_76]; done) | (refine iB ?_; simp [anyN, h_39, h_46, h_64, (beq_eq_false_iff_ne.mpr h_64), (bne_iff_ne.mpr h_64), h_68, h_76]; done) | (simp [anyN, h_39, h_46, h_64, (beq_eq_false_iff_ne.mpr h_64), (bne_iff_ne.mpr h_64), h_68, h_76]; done) | (simp [anyN, h_39, h_46, h_64, (beq_eq_false_iff_ne.mpr h_64), (bne_iff_ne.mpr h_64), h_68, h_76]; omega) | omega)
                · first | with_reducible rfl | exact gl (by first | with_reducible rfl | (refine iF ?_; simp [anyN, h_39, h_46, h_64, (beq_eq_false_iff_ne.mpr h_64), (bne_iff_ne.mpr h_64), h_68, h_76]; done) | (refine iT ?_; simp [anyN, h_39, h_46, h_64, (beq_eq_false_iff_ne.mpr h_64), (bne_iff_ne.mpr h_64), h_68, h_76]; done) | (refine iB ?_; simp [anyN, h_39, h_46, h_64, (beq_eq_false_iff_ne.mpr h_64), (bne_iff_ne.mpr h_64), h_68, h_76]; done) | (simp [anyN, h_39, h_46, h_64, (beq_eq_false_iff_ne.mpr h_64), (bne_iff_ne.mpr h_64), h_68, h_76]; done) | (simp [anyN, h_39, h_46, h_64, (beq_eq_false_iff_ne.mpr h_64), (bne_iff_ne.mpr h_64), h_68, h_76]; omega) | omega)
                · first | with_reducible rfl | exact gl (by first | with_reducible rfl | (refine iF ?_; simp [anyN, h_39, h_46, h_64, (beq_eq_false_iff_ne.mpr h_64), (bne_iff_ne.mpr h_64), h_68, h_76]; done) | (refine iT ?_; simp [anyN, h_39, h_46, h_64, (beq_eq_false_iff_ne.mpr h_64), (bne_iff_ne.mpr h_64), h_68, h_76]; done) | (refine iB ?_; simp [anyN, h_39, h_46, h_64, (beq_eq_false_iff_ne.mpr h_64), (bne_iff_ne.mpr h_64), h_68, h_76]; done) | (simp [anyN, h_39, h_46, h_64, (beq_eq_false_iff_ne.mpr h_64), (bne_iff_ne.mpr h_64), h_68, h_76]; done) | (simp [anyN, h_39, h_46, h_64, (beq_eq_false_iff_ne.mpr h_64), (bne_iff_ne.mpr h_64), h_68, h_76]; omega) | omega)
                · exact any_no (rk_no (cts_lost h_68 h_76)).1
                · exact any_no (rk_no (cts_lost h_68 h_76)).2.1
                · exact any_no (rk_no (cts_lost h_68 h_76)).2.2
                · first | with_reducible rfl | exact gl (by first | with_reducible rfl | (refine iF ?_; simp [anyN, h_39, h_46, h_64, (beq_eq_false_iff_ne.mpr h_64), (bne_iff_ne.mpr h_64), h_68, h_76]; done) | (refine iT ?_; simp [anyN, h_39, h_46, h_64, (beq_eq_false_iff_ne.mpr h_64), (bne_iff_ne.mpr h_64), h_68, h_76]; done) | (refine iB ?_; simp [anyN, h_39, h_46, h_64, (beq_eq_false_iff_ne.mpr h_64), (bne_iff_ne.mpr h_64), h_68, h_76]; done) | (simp [anyN, h_39, h_46, h_64, (beq_eq_false_iff_ne.mpr h_64), (bne_iff_ne.mpr h_64), h_68, h_76]; done) | (simp [anyN, h_39, h_46, h_64, (beq_eq_false_iff_ne.mpr h_64), (bne_iff_ne.mpr h_64), h_68, h_76]; omega) | omega)
              · refine a_join (aLe_s ?_ (aLe_s ?_ (aLe_s ?_ (aLe_s ?_ (aLe_s ?_ (aLe_s ?_ (aLe_s ?_ (aLe_s ?_ (aLe_s ?_ aLe_nil))))))))) rfl rfl (ZL79 (cts_yes2 h_64 h_76) (by omega))
                · first | with_reducible rfl | exact gl (by first | with_reducible rfl | (refine iF ?_; simp [anyN, h_39, h_46, h_64, (beq_eq_false_iff_ne.mpr h_64), (bne_iff_ne.mpr h_64), h_68, h_76]; done) | (refine iT ?_; simp [anyN, h_39, h_46, h_64, (beq_eq_false_iff_ne.mpr h_64), (bne_iff_ne.mpr h_64), h_68, h_76]; done) | (refine iB ?_; simp [anyN, h_39, h_46, h_64, (beq_eq_false_iff_ne.mpr h_64), (bne_iff_ne.mpr h_64), h_68, h_76]; done) | (simp [anyN, h_39, h_46, h_64, (beq_eq_false_iff_ne.mpr h_64), (bne_iff_ne.mpr h_64), h_68, h_76]; done) | (simp [anyN, h_39, h_46, h_64, (beq_eq_false_iff_ne.mpr h_64), (bne_iff_ne.mpr h_64), h_68, h_76]; omega) | omega | rfl)
                · first | with_reducible rfl | exact gl (by first | with_reducible rfl | (refine iF ?_; simp [anyN, h_39, h_46, h_64, (beq_eq_false_iff_ne.mpr h_64), (bne_iff_ne.mpr h_64), h_68, h_76]; done) | (refine iT ?_; simp [anyN, h_39, h_46, h_64, (beq_eq_false_iff_ne.mpr h_64), (bne_iff_ne.mpr h_64), h_68, h_76]; done) | (refine iB ?_; simp [anyN, h_39, h_46, h_64, (beq_eq_false_iff_ne.mpr h_64), (bne_iff_ne.mpr h_64), h_68, h_76]; done) | (simp [anyN, h_39, h_46, h_64, (beq_eq_false_iff_ne.mpr h_64), (bne_iff_ne.mpr h_64), h_68, h_76]; done) | (simp [anyN, h_39, h_46, h_64, (beq_eq_false_iff_ne.mpr h_64), (bne_iff_ne.mpr h_64), h_68, h_76]; omega) | omega | rfl)
                · first | with_reducible rfl | exact gl (by first | with_reducible rfl | (refine iF ?_; simp [anyN, h_39, h_46, h_64, (beq_eq_false_iff_ne.mpr h_64), (bne_iff_ne.mpr h_64), h_68, h_76]; done) | (refine iT ?_; simp [anyN, h_39, h_46, h_64, (beq_eq_false_iff_ne.mpr h_64), (bne_iff_ne.mpr h_64), h_68, h_76]; done) | (refine iB ?_; simp [anyN, h_39, h_46, h_64, (beq_eq_false_iff_ne.mpr h_64), (bne_iff_ne.mpr h_64), h_68, h_76]; done) | (simp [anyN, h_39, h_46, h_64, (beq_eq_false_iff_ne.mpr h_64), (bne_iff_ne.mpr h_64), h_68, h_76]; done) | (simp [anyN, h_39, h_46, h_64, (beq_eq_false_iff_ne.mpr h_64), (bne_iff_ne.mpr h_64), h_68, h_76]; omega) | omega | rfl)
                · first | with_reducible rfl | exact gl (by first | with_reducible rfl | (refine iF ?_; simp [anyN, h_39, h_46, h_64, (beq_eq_false_iff_ne.mpr h_64), (bne_iff_ne.mpr h_64), h_68, h_76]; done) | (refine iT ?_; simp [anyN, h_39, h_46, h_64, (beq_eq_false_iff_ne.mpr h_64), (bne_iff_ne.mpr h_64), h_68, h_76]; done) | (refine iB ?_; simp [anyN, h_39, h_46, h_64, (beq_eq_false_iff_ne.mpr h_64), (bne_iff_ne.mpr h_64), h_68, h_76]; done) | (simp [anyN, h_39, h_46, h_64, (beq_eq_false_iff_ne.mpr h_64), (bne_iff_ne.mpr h_64), h_68, h_76]; done) | (simp [anyN, h_39, h_46, h_64, (beq_eq_false_iff_ne.mpr h_64), (bne_iff_ne.mpr h_64), h_68, h_76]; omega) | omega | rfl)
                · first | with_reducible rfl | exact gl (by first | with_reducible rfl | (refine iF ?_; simp [anyN, h_39, h_46, h_64, (beq_eq_false_iff_ne.mpr h_64), (bne_iff_ne.mpr h_64), h_68, h_76]; done) | (refine iT ?_; simp [anyN, h_39, h_46, h_64, (beq_eq_false_iff_ne.mpr h_64), (bne_iff_ne.mpr h_64), h_68, h_76]; done) | (refine iB ?_; simp [anyN, h_39, h_46, h_64, (beq_eq_false_iff_ne.mpr h_64), (bne_iff_ne.mpr h_64), h_68, h_76]; done) | (simp [anyN, h_39, h_46, h_64, (beq_eq_false_iff_ne.mpr h_64), (bne_iff_ne.mpr h_64), h_68, h_76]; done) | (simp [anyN, h_39, h_46, h_64, (beq_eq_false_iff_ne.mpr h_64), (bne_iff_ne.mpr h_64), h_68, h_76]; omega) | omega | rfl)
                · first | with_reducible rfl | exact gl (by first | with_reducible rfl | (refine iF ?_; simp [anyN, h_39, h_46, h_64, (beq_eq_false_iff_ne.mpr h_64), (bne_iff_ne.mpr h_64), h_68, h_76]; done) | (refine iT ?_; simp [anyN, h_39, h_46, h_64, (beq_eq_false_iff_ne.mpr h_64), (bne_iff_ne.mpr h_64), h_68, h_76]; done) | (refine iB ?_; simp [anyN, h_39, h_46, h_64, (beq_eq_false_iff_ne.mpr h_64), (bne_iff_ne.mpr h_64), h_68, h_76]; done) | (simp [anyN, h_39, h_46, h_64, (beq_eq_false_iff_ne.mpr h_64), (bne_iff_ne.mpr h_64), h_68, h_76]; done) | (simp [anyN, h_39, h_46, h_64, (beq_eq_false_iff_ne.mpr h_64), (bne_iff_ne.mpr h_64), h_68, h_76]; omega) | omega | rfl)
                · first | with_reducible rfl | exact gl (by first | with_reducible rfl | (refine iF ?_; simp [anyN, h_39, h_46, h_64, (beq_eq_false_iff_ne.mpr h_64), (bne_iff_ne.mpr h_64), h_68, h_76]; done) | (refine iT ?_; simp [anyN, h_39, h_46, h_64, (beq_eq_false_iff_ne.mpr h_64), (bne_iff_ne.mpr h_64), h_68, h_76]; done) | (refine iB ?_; simp [anyN, h_39, h_46, h_64, (beq_eq_false_iff_ne.mpr h_64), (bne_iff_ne.mpr h_64), h_68, h_76]; done) | (simp [anyN, h_39, h_46, h_64, (beq_eq_false_iff_ne.mpr h_64), (bne_iff_ne.mpr h_64), h_68, h_76]; done) | (simp [anyN, h_39, h_46, h_64, (beq_eq_false_iff_ne.mpr h_64), (bne_iff_ne.mpr h_64), h_68, h_76]; omega) | omega | rfl)
                · first | with_reducible rfl | exact gl (by first | with_reducible rfl | (refine iF ?_; simp [anyN, h_39, h_46, h_64, (beq_eq_false_iff_ne.mpr h_64), (bne_iff_ne.mpr h_64), h_68, h_76]; done) | (refine iT ?_; simp [anyN, h_39, h_46, h_64, (beq_eq_false_iff_ne.mpr h_64), (bne_iff_ne.mpr h_64), h_68, h_76]; done) | (refine iB ?_; simp [anyN, h_39, h_46, h_64, (beq_eq_false_iff_ne.mpr h_64), (bne_iff_ne.mpr h_64), h_68, h_76]; done) | (simp [anyN, h_39, h_46, h_64, (beq_eq_false_iff_ne.mpr h_64), (bne_iff_ne.mpr h_64), h_68, h_76]; done) | (simp [anyN, h_39, h_46, h_64, (beq_eq_false_iff_ne.mpr h_64), (bne_iff_ne.mpr h_64), h_68, h_76]; omega) | omega | rfl)
                · first | with_reducible rfl | exact gl (by first | with_reducible rfl | (refine iF ?_; simp [anyN, h_39, h_46, h_64, (beq_eq_false_iff_ne.mpr h_64), (bne_iff_ne.mpr h_64), h_68, h_76]; done) | (refine iT ?_; simp [anyN, h_39, h_46, h_64, (beq_eq_false_iff_ne.mpr h_64), (bne_iff_ne.mpr h_64), h_68, h_76]; done) | (refine iB ?_; simp [anyN, h_39, h_46, h_64, (beq_eq_false_iff_ne.mpr h_64), (bne_iff_ne.mpr h_64), h_68, h_76]; done) | (simp [anyN, h_39, h_46, h_64, (beq_eq_false_iff_ne.mpr h_64), (bne_iff_ne.mpr h_64), h_68, h_76]; done) | (simp [anyN, h_39, h_46, h_64, (beq_eq_false_iff_ne.mpr h_64), (bne_iff_ne.mpr h_64), h_68, h_76]; omega) | omega | rfl)
  refine a_pad 6 ?_
  refine a_eq (L' := [some (.ref 0), some (.int (nI c)), some (.int xk), none, none, none, none, none, none]) rfl rfl rfl ?_
  refine a_via 17 (bI (sN A 3 == 1)) ?_ (fun zJ17 => ?_)
  · refine a_istore_n C dX6_reasonByKeys_17 rfl (by decide) ?_
    refine a_iconst (v := nI 0) C dX6_reasonByKeys_18 (by decide) ?_
    refine a_istore C dX6_reasonByKeys_19 (by decide) ?_
    refine a_iconst (v := nI 0) C dX6_reasonByKeys_21 (by decide) ?_
    refine a_istore C dX6_reasonByKeys_22 (by decide) ?_
    refine a_iconst (v := nI 0) C dX6_reasonByKeys_24 (by decide) ?_
    refine a_istore C dX6_reasonByKeys_25 (by decide) ?_
    refine a_iconst (v := nI 0) C dX6_reasonByKeys_27 (by decide) ?_
    refine a_istore C dX6_reasonByKeys_28 (by decide) ?_
    refine a_join (aLe_s ?_ (aLe_s ?_ (aLe_s ?_ (aLe_s ?_ (aLe_s ?_ (aLe_s ?_ (aLe_s ?_ (aLe_s ?_ (aLe_n aLe_nil))))))))) rfl rfl (ZL30 (kN A + 1) 0 (by omega) (by omega))
    · first | with_reducible rfl | exact gl (by first | with_reducible rfl | (refine iF ?_; simp [anyN]; done) | (refine iT ?_; simp [anyN]; done) | (refine iB ?_; simp [anyN]; done) | (simp [anyN]; done) | (simp [anyN]; omega) | omega | rfl)
    · first | with_reducible rfl | exact gl (by first | with_reducible rfl | (refine iF ?_; simp [anyN]; done) | (refine iT ?_; simp [anyN]; done) | (refine iB ?_; simp [anyN]; done) | (simp [anyN]; done) | (simp [anyN]; omega) | omega | rfl)
    · first | with_reducible rfl | exact gl (by first | with_reducible rfl | (refine iF ?_; simp [anyN]; done) | (refine iT ?_; simp [anyN]; done) | (refine iB ?_; simp [anyN]; done) | (simp [anyN]; done) | (simp [anyN]; omega) | omega | rfl)
    · first | with_reducible rfl | exact gl (by first | with_reducible rfl | (refine iF ?_; simp [anyN]; done) | (refine iT ?_; simp [anyN]; done) | (refine iB ?_; simp [anyN]; done) | (simp [anyN]; done) | (simp [anyN]; omega) | omega | rfl)
    · first | with_reducible rfl | exact gl (by first | with_reducible rfl | (refine iF ?_; simp [anyN]; done) | (refine iT ?_; simp [anyN]; done) | (refine iB ?_; simp [anyN]; done) | (simp [anyN]; done) | (simp [anyN]; omega) | omega | rfl)
    · first | with_reducible rfl | exact gl (by first | with_reducible rfl | (refine iF ?_; simp [anyN]; done) | (refine iT ?_; simp [anyN]; done) | (refine iB ?_; simp [anyN]; done) | (simp [anyN]; done) | (simp [anyN]; omega) | omega | rfl)
    · first | with_reducible rfl | exact gl (by first | with_reducible rfl | (refine iF ?_; simp [anyN]; done) | (refine iT ?_; simp [anyN]; done) | (refine iB ?_; simp [anyN]; done) | (simp [anyN]; done) | (simp [anyN]; omega) | omega | rfl)
    · first | with_reducible rfl | exact gl (by first | with_reducible rfl | (refine iF ?_; simp [anyN]; done) | (refine iT ?_; simp [anyN]; done) | (refine iB ?_; simp [anyN]; done) | (simp [anyN]; done) | (simp [anyN]; omega) | omega | rfl)
  · refine a_aload_n C dX6_reasonByKeys_0 rfl rfl ?_
    refine a_getfF C fX6_19 dX6_reasonByKeys_1 (tw (by first | decide | omega)) (by first | decide | omega) rfl rfl ?_
    refine a_getfF C fX6_194 dX6_reasonByKeys_4 (tw (by first | decide | omega)) (by first | decide | omega) rfl rfl ?_
    refine a_iconst (v := nI 3) C dX6_reasonByKeys_7 (by decide) ?_
    refine n_iald C dX6_reasonByKeys_8 (tw (by first | decide | omega)) (by first | decide | omega) rfl rfl (by first | decide | omega) (by decide) (DR_s hD hA (j := 3) (by decide)) ?_
    refine n_if_eq (tgt := 16) C dX6_reasonByKeys_9 (by decide) (by first | decide | omega)  (fun h_9 => ?_) (fun h_9 => ?_)
    · refine a_iconst (v := nI 0) C dX6_reasonByKeys_16 (by decide) ?_
      refine a_eq rfl (gl1 ?_) rfl zJ17
      · first | with_reducible rfl | (refine iF ?_; simp [anyN, h_9]; done) | (refine iT ?_; simp [anyN, h_9]; done) | (refine iB ?_; simp [anyN, h_9]; done) | (simp [anyN, h_9]; done) | (simp [anyN, h_9]; omega) | omega
    · have zq_1 : sN A 3 = 1 := by omega
      refine a_iconst (v := nI 1) C dX6_reasonByKeys_12 (by decide) ?_
      refine a_goto (tgt := 17) C dX6_reasonByKeys_13 (by decide) ?_
      refine a_eq rfl (gl1 ?_) rfl zJ17
      · first | with_reducible rfl | (refine iF ?_; simp [anyN, zq_1]; done) | (refine iT ?_; simp [anyN, zq_1]; done) | (refine iB ?_; simp [anyN, zq_1]; done) | (simp [anyN, zq_1]; done) | (simp [anyN, zq_1]; omega) | omega

set_option maxRecDepth 20000 in
set_option maxHeartbeats 4000000 in
theorem K_X6_reasonAgainstCut {w : Wd} {A : St} (hD : DR w 3 A) (hA : AOK A) {c : Nat} (hc : c < 81) : CP yX6_reasonAgainstCut cX6_reasonAgainstCut 2 (some .int) 2 50 [.ref 0, .int (nI c)] w (.int (nI (wncA A c))) := by
  have zq_n := hA.n12
  refine CF.of ok_X6_reasonAgainstCut (Nat.le_of_ble_eq_true rfl) (fun ex us G9 p9 l9 e9 s9 m9 ar9 be9 me9 co9 C hr => ?_)
  refine a_aload_n C dX6_reasonAgainstCut_0 rfl rfl ?_
  refine a_iload_n C dX6_reasonAgainstCut_1 rfl rfl ?_
  refine p_callV C (K_X6_isSound hD hA (by first | assumption | decide | omega)) vX6_282 rfl (by first | decide | omega) rfl rfl dX6_reasonAgainstCut_2 (Nat.le_of_ble_eq_true rfl) ⟨by decide, by decide⟩ ?_
  first | refine b_if_ne (tgt := 10) C dX6_reasonAgainstCut_5 (by decide) (fun h_5 => ?_) (fun h_5 => ?_) | refine n_if_ne (tgt := 10) C dX6_reasonAgainstCut_5 (by decide) (by first | decide | omega) (fun h_5 => ?_) (fun h_5 => ?_) | refine a_if_ne (tgt := 10) C dX6_reasonAgainstCut_5 (by decide) (fun h_5 => ?_) (fun h_5 => ?_)
  · refine a_aload_n C dX6_reasonAgainstCut_10 rfl rfl ?_
    refine a_getfF C fX6_19 dX6_reasonAgainstCut_11 (tw (by first | decide | omega)) (by first | decide | omega) rfl rfl ?_
    refine a_getf C fX6_80 dX6_reasonAgainstCut_14 (tw (by first | decide | omega)) (by first | decide | omega) rfl (gl (DR_n hD hA)) ?_
    refine a_bipush (v := nI 12) C dX6_reasonAgainstCut_17 (by decide) ?_
    first | refine n_icmp_lt (tgt := 24) C dX6_reasonAgainstCut_19 (by decide) (by first | decide | omega) (by first | decide | omega) (fun h_19 => ?_) (fun h_19 => ?_) | refine a_icmp_lt (tgt := 24) C dX6_reasonAgainstCut_19 (by decide) (fun h_19 => ?_) (fun h_19 => ?_)
    · refine a_aload_n C dX6_reasonAgainstCut_24 rfl rfl ?_
      refine a_iload_n C dX6_reasonAgainstCut_25 rfl rfl ?_
      refine a_iconst (v := (-1)) C dX6_reasonAgainstCut_26 (by decide) ?_
      refine p_callV C (K_X6_reasonByKeys hD hA _ (by first | assumption | decide | omega)) vX6_458 rfl (by first | decide | omega) rfl rfl dX6_reasonAgainstCut_27 (Nat.le_of_ble_eq_true rfl) ⟨by decide, by decide⟩ ?_
      refine f_iret C hr ?_ dX6_reasonAgainstCut_30 ⟨?_, rfl⟩
      · rfl
      · exact gl (by have zq_k : kN A ≠ 12 := (by omega); simp [wncA, h_5, zq_k])
    · refine a_iconst (v := nI 2) C dX6_reasonAgainstCut_22 (by decide) ?_
      refine f_iret C hr ?_ dX6_reasonAgainstCut_23 ⟨?_, rfl⟩
      · rfl
      · exact gl (by have zq_k : kN A = 12 := (by omega); simp [wncA, h_5, zq_k])
  · refine a_iconst (v := nI 1) C dX6_reasonAgainstCut_8 (by decide) ?_
    refine f_iret C hr ?_ dX6_reasonAgainstCut_9 ⟨?_, rfl⟩
    · rfl
    · first | with_reducible rfl | exact gl (by first | with_reducible rfl | (refine iF ?_; simp [wncA, h_5]; done) | (refine iT ?_; simp [wncA, h_5]; done) | (refine iB ?_; simp [wncA, h_5]; done) | (simp [wncA, h_5]; done) | (simp [wncA, h_5]; omega) | omega)

set_option maxRecDepth 20000 in
set_option maxHeartbeats 4000000 in
theorem K_X6_reasonAgainstDeeper {w : Wd} {A : St} (hD : DR w 3 A) (hA : AOK A) {k j : Nat} (hk : k < kN A) (hj : j < 4) : CP yX6_reasonAgainstDeeper cX6_reasonAgainstDeeper 5 (some .int) 2 50 [.ref 0, .int (nI k), .int (nI j)] w (.int (nI (wndA A k j))) := by
  have zq_n := hA.n12
  have zq_c := hA.c81 (k := k) (by omega)
  have zq_d3 := dep_lt (cN A k) j
  refine CF.of ok_X6_reasonAgainstDeeper (Nat.le_of_ble_eq_true rfl) (fun ex us G9 p9 l9 e9 s9 m9 ar9 be9 me9 co9 C hr => ?_)
  refine a_pad 2 ?_
  refine a_eq (L' := [some (.ref 0), some (.int (nI k)), some (.int (nI j)), none, none]) rfl rfl rfl ?_
  refine a_aload_n C dX6_reasonAgainstDeeper_0 rfl rfl ?_
  refine a_getfF C fX6_19 dX6_reasonAgainstDeeper_1 (tw (by first | decide | omega)) (by first | decide | omega) rfl rfl ?_
  refine a_getfF C fX6_103 dX6_reasonAgainstDeeper_4 (tw (by first | decide | omega)) (by first | decide | omega) rfl rfl ?_
  refine a_iload_n C dX6_reasonAgainstDeeper_7 rfl rfl ?_
  refine a_aaldK C dX6_reasonAgainstDeeper_8 (tw (by first | decide | omega)) (by first | decide | omega) rfl rfl (by first | decide | omega) (by decide) rfl ?_
  refine a_getf C fX6_107 dX6_reasonAgainstDeeper_9 (tw (by first | decide | omega)) (by first | decide | omega) (fz_key (j := 0) (by decide) (by omega)) (gl (DR_kc hD hA (by omega))) ?_
  refine a_istore_n C dX6_reasonAgainstDeeper_12 rfl (by decide) ?_
  refine a_iload_n C dX6_reasonAgainstDeeper_13 rfl rfl ?_
  refine a_iload_n C dX6_reasonAgainstDeeper_14 rfl rfl ?_
  refine p_callS C ((K_X1_depthOf (by first | assumption | decide | omega) (by first | assumption | decide | omega))).cp sX6_461 rfl dX6_reasonAgainstDeeper_15 (Nat.le_of_ble_eq_true rfl) ⟨by decide, by decide⟩ ?_
  refine a_iconst (v := nI 2) C dX6_reasonAgainstDeeper_18 (by decide) ?_
  refine n_icmp_lt (tgt := 25) C dX6_reasonAgainstDeeper_19 (by decide) (by first | decide | omega) (by first | decide | omega) (fun h_19 => ?_) (fun h_19 => ?_)
  · have zq_d : cN A k + wtN j < 81 := wt81 zq_c hj (by omega)
    refine a_iload_n C dX6_reasonAgainstDeeper_25 rfl rfl ?_
    refine a_gets0 C gX6_412 dX6_reasonAgainstDeeper_26 ?_
    refine a_iload_n C dX6_reasonAgainstDeeper_29 rfl rfl ?_
    refine a_sald0 C dX6_reasonAgainstDeeper_30 rfl (by first | decide | omega) nwv_eq ?_
    first | refine n_iadd C dX6_reasonAgainstDeeper_31 ?_ | refine a_iadd C dX6_reasonAgainstDeeper_31 ?_
    refine a_istore C dX6_reasonAgainstDeeper_32 (by decide) ?_
    refine a_aload_n C dX6_reasonAgainstDeeper_34 rfl rfl ?_
    refine a_iload C dX6_reasonAgainstDeeper_35 rfl ?_
    refine p_callV C (K_X6_isSound hD hA (by first | assumption | decide | omega)) vX6_282 rfl (by first | decide | omega) rfl rfl dX6_reasonAgainstDeeper_37 (Nat.le_of_ble_eq_true rfl) ⟨by decide, by decide⟩ ?_
    first | refine b_if_ne (tgt := 45) C dX6_reasonAgainstDeeper_40 (by decide) (fun h_40 => ?_) (fun h_40 => ?_) | refine n_if_ne (tgt := 45) C dX6_reasonAgainstDeeper_40 (by decide) (by first | decide | omega) (fun h_40 => ?_) (fun h_40 => ?_) | refine a_if_ne (tgt := 45) C dX6_reasonAgainstDeeper_40 (by decide) (fun h_40 => ?_) (fun h_40 => ?_)
    · refine a_aload_n C dX6_reasonAgainstDeeper_45 rfl rfl ?_
      refine a_iload C dX6_reasonAgainstDeeper_46 rfl ?_
      refine a_iload_n C dX6_reasonAgainstDeeper_48 rfl rfl ?_
      refine p_callV C (K_X6_reasonByKeys hD hA _ (by first | assumption | decide | omega)) vX6_458 rfl (by first | decide | omega) rfl rfl dX6_reasonAgainstDeeper_49 (Nat.le_of_ble_eq_true rfl) ⟨by decide, by decide⟩ ?_
      refine f_iret C hr ?_ dX6_reasonAgainstDeeper_52 ⟨?_, rfl⟩
      · rfl
      · exact gl (by have zq_2 : dep (cN A k) j ≠ 2 := (by omega); simp [wndA, zq_2, h_40])
    · refine a_iconst (v := nI 1) C dX6_reasonAgainstDeeper_43 (by decide) ?_
      refine f_iret C hr ?_ dX6_reasonAgainstDeeper_44 ⟨?_, rfl⟩
      · rfl
      · exact gl (by have zq_2 : dep (cN A k) j ≠ 2 := (by omega); simp [wndA, zq_2, h_40])
  · refine a_bipush (v := nI 6) C dX6_reasonAgainstDeeper_22 (by decide) ?_
    refine f_iret C hr ?_ dX6_reasonAgainstDeeper_24 ⟨?_, rfl⟩
    · rfl
    · exact gl (by have zq_2 : dep (cN A k) j = 2 := (by omega); simp [wndA, zq_2])

set_option maxRecDepth 20000 in
set_option maxHeartbeats 4000000 in
theorem K_X6_isFree {w : Wd} {A : St} (hD : DR w 3 A) (hA : AOK A) {c : Nat} (hc : c < 81) : CP yX6_isFree cX6_isFree 2 (some .boolean) 2 50 [.ref 0, .int (nI c)] w (.int (bI (freA A c))) := by
  have zq_c : clA A c (-1) < 2 ^ 31 := Nat.lt_of_le_of_lt (clsA_lt A c (-1) _) (by decide)
  refine CF.of ok_X6_isFree (Nat.le_of_ble_eq_true rfl) (fun ex us G9 p9 l9 e9 s9 m9 ar9 be9 me9 co9 C hr => ?_)
  refine a_aload_n C dX6_isFree_0 rfl rfl ?_
  refine a_iload_n C dX6_isFree_1 rfl rfl ?_
  refine p_callV C (K_X6_isSound hD hA (by first | assumption | decide | omega)) vX6_282 rfl (by first | decide | omega) rfl rfl dX6_isFree_2 (Nat.le_of_ble_eq_true rfl) ⟨by decide, by decide⟩ ?_
  first | refine b_if_eq (tgt := 21) C dX6_isFree_5 (by decide) (fun h_5 => ?_) (fun h_5 => ?_) | refine n_if_eq (tgt := 21) C dX6_isFree_5 (by decide) (by first | decide | omega) (fun h_5 => ?_) (fun h_5 => ?_) | refine a_if_eq (tgt := 21) C dX6_isFree_5 (by decide) (fun h_5 => ?_) (fun h_5 => ?_)
  · refine a_iconst (v := nI 0) C dX6_isFree_21 (by decide) ?_
    refine f_iret C hr ?_ dX6_isFree_22 ⟨?_, rfl⟩
    · first | exact bI_narrow _ | rfl
    · first | with_reducible rfl | exact gl (by first | with_reducible rfl | (refine iF ?_; simp [freA, h_5]; done) | (refine iT ?_; simp [freA, h_5]; done) | (refine iB ?_; simp [freA, h_5]; done) | (simp [freA, h_5]; done) | (simp [freA, h_5]; omega) | omega)
  · refine a_aload_n C dX6_isFree_8 rfl rfl ?_
    refine a_iload_n C dX6_isFree_9 rfl rfl ?_
    refine a_iconst (v := (-1)) C dX6_isFree_10 (by decide) ?_
    refine p_callV C (K_X6_reasonByKeys hD hA _ (by first | assumption | decide | omega)) vX6_458 rfl (by first | decide | omega) rfl rfl dX6_isFree_11 (Nat.le_of_ble_eq_true rfl) ⟨by decide, by decide⟩ ?_
    refine n_if_ne (tgt := 21) C dX6_isFree_14 (by decide) zq_c  (fun h_14 => ?_) (fun h_14 => ?_)
    · refine a_iconst (v := nI 0) C dX6_isFree_21 (by decide) ?_
      refine f_iret C hr ?_ dX6_isFree_22 ⟨?_, rfl⟩
      · first | exact bI_narrow _ | rfl
      · first | with_reducible rfl | exact gl (by first | with_reducible rfl | (refine iF ?_; simp [freA, h_5, h_14, (beq_eq_false_iff_ne.mpr h_14), (bne_iff_ne.mpr h_14)]; done) | (refine iT ?_; simp [freA, h_5, h_14, (beq_eq_false_iff_ne.mpr h_14), (bne_iff_ne.mpr h_14)]; done) | (refine iB ?_; simp [freA, h_5, h_14, (beq_eq_false_iff_ne.mpr h_14), (bne_iff_ne.mpr h_14)]; done) | (simp [freA, h_5, h_14, (beq_eq_false_iff_ne.mpr h_14), (bne_iff_ne.mpr h_14)]; done) | (simp [freA, h_5, h_14, (beq_eq_false_iff_ne.mpr h_14), (bne_iff_ne.mpr h_14)]; omega) | omega)
    · refine a_iconst (v := nI 1) C dX6_isFree_17 (by decide) ?_
      refine a_goto (tgt := 22) C dX6_isFree_18 (by decide) ?_
      refine f_iret C hr ?_ dX6_isFree_22 ⟨?_, rfl⟩
      · first | exact bI_narrow _ | rfl
      · first | with_reducible rfl | exact gl (by first | with_reducible rfl | (refine iF ?_; simp [freA, h_5, (eq_true h_14), (beq_iff_eq.mpr h_14), (bne_eq_false_iff_eq.mpr h_14)]; done) | (refine iT ?_; simp [freA, h_5, (eq_true h_14), (beq_iff_eq.mpr h_14), (bne_eq_false_iff_eq.mpr h_14)]; done) | (refine iB ?_; simp [freA, h_5, (eq_true h_14), (beq_iff_eq.mpr h_14), (bne_eq_false_iff_eq.mpr h_14)]; done) | (simp [freA, h_5, (eq_true h_14), (beq_iff_eq.mpr h_14), (bne_eq_false_iff_eq.mpr h_14)]; done) | (simp [freA, h_5, (eq_true h_14), (beq_iff_eq.mpr h_14), (bne_eq_false_iff_eq.mpr h_14)]; omega) | omega)

set_option maxRecDepth 20000 in
set_option maxHeartbeats 4000000 in
theorem K_X6_opens {w : Wd} {A : St} (hD : DR w 3 A) (hA : AOK A) {c p : Nat} (hc : c < 81) (hp : p < 6) : CP yX6_opens cX6_opens 4 (some .boolean) 1 22 [.ref 0, .int (nI c), .int (nI p)] w (.int (bI (opnA A c p))) := by
  have zq_n := hA.n12
  refine CF.of ok_X6_opens (Nat.le_of_ble_eq_true rfl) (fun ex us G9 p9 l9 e9 s9 m9 ar9 be9 me9 co9 C hr => ?_)
  refine a_pad 1 ?_
  refine a_eq (L' := [some (.ref 0), some (.int (nI c)), some (.int (nI p)), none]) rfl rfl rfl ?_
  refine a_aload_n C dX6_opens_0 rfl rfl ?_
  refine a_getfF C fX6_19 dX6_opens_1 (tw (by first | decide | omega)) (by first | decide | omega) rfl rfl ?_
  refine a_getfF C fX6_149 dX6_opens_4 (tw (by first | decide | omega)) (by first | decide | omega) rfl rfl ?_
  refine a_iload_n C dX6_opens_7 rfl rfl ?_
  refine a_aaldL C dX6_opens_8 (tw (by first | decide | omega)) (by first | decide | omega) rfl rfl (by first | decide | omega) (by decide) rfl ?_
  refine a_astore_n C dX6_opens_9 rfl (by decide) ?_
  refine a_aload_n C dX6_opens_10 rfl rfl ?_
  refine a_getf C fX6_153 dX6_opens_11 (tw (by first | decide | omega)) (by first | decide | omega) (fz_lock (j := 0) (by decide) (by omega)) (gl (DR_lw hD (by omega))) ?_
  refine a_iconst (v := (-1)) C dX6_opens_14 (by decide) ?_
  refine a_icmp_eq (tgt := 33) C dX6_opens_15 (by decide) (fun h_15 => ?_) (fun h_15 => ?_)
  · have zq_w := wdA_n h_15
    have zq_g := hA.gw hp zq_w
    refine a_aload_n C dX6_opens_33 rfl rfl ?_
    refine a_getf C fX6_163 dX6_opens_34 (tw (by first | decide | omega)) (by first | decide | omega) (fz_lock (j := 0) (by decide) (by omega)) (gl (DR_lg hD (by omega))) ?_
    refine a_iconst (v := (-1)) C dX6_opens_37 (by decide) ?_
    refine a_icmp_eq (tgt := 60) C dX6_opens_38 (by decide) (fun h_38 => ?_) (fun h_38 => ?_)
    · have zq_g := gdA_n h_38
      refine a_iconst (v := nI 0) C dX6_opens_60 (by decide) ?_
      refine f_iret C hr ?_ dX6_opens_61 ⟨?_, rfl⟩
      · first | exact bI_narrow _ | rfl
      · first | with_reducible rfl | exact gl (by first | with_reducible rfl | exact absurd zq_g (by rw [hA.gw hp zq_w]; decide) | (refine iF ?_; simp [opnA, (eq_true h_15), (beq_iff_eq.mpr h_15), (bne_eq_false_iff_eq.mpr h_15), zq_w, zq_g, zq_g]; done) | (refine iT ?_; simp [opnA, (eq_true h_15), (beq_iff_eq.mpr h_15), (bne_eq_false_iff_eq.mpr h_15), zq_w, zq_g, zq_g]; done) | (refine iB ?_; simp [opnA, (eq_true h_15), (beq_iff_eq.mpr h_15), (bne_eq_false_iff_eq.mpr h_15), zq_w, zq_g, zq_g]; done) | (simp [opnA, (eq_true h_15), (beq_iff_eq.mpr h_15), (bne_eq_false_iff_eq.mpr h_15), zq_w, zq_g, zq_g]; done) | (simp [opnA, (eq_true h_15), (beq_iff_eq.mpr h_15), (bne_eq_false_iff_eq.mpr h_15), zq_w, zq_g, zq_g]; omega) | omega)
    · have zq_g := gdA_t h_38
      refine a_aload_n C dX6_opens_41 rfl rfl ?_
      refine a_getfF C fX6_37 dX6_opens_42 (tw (by first | decide | omega)) (by first | decide | omega) rfl rfl ?_
      refine a_aload_n C dX6_opens_45 rfl rfl ?_
      refine a_getf C fX6_163 dX6_opens_46 (tw (by first | decide | omega)) (by first | decide | omega) (fz_lock (j := 0) (by decide) (by omega)) (gl (DR_lg hD (by omega))) ?_
      refine a_iload_n C dX6_opens_49 rfl rfl ?_
      refine p_callV C (KC_iul (hA.g hp zq_g) (hA.g81 hp zq_g) hc) vX6_467 rfl (by first | decide | omega) rfl rfl dX6_opens_50 (Nat.le_of_ble_eq_true rfl) ⟨by decide, by decide⟩ ?_
      first | refine b_if_eq (tgt := 60) C dX6_opens_53 (by decide) (fun h_53 => ?_) (fun h_53 => ?_) | refine n_if_eq (tgt := 60) C dX6_opens_53 (by decide) (by first | decide | omega) (fun h_53 => ?_) (fun h_53 => ?_) | refine a_if_eq (tgt := 60) C dX6_opens_53 (by decide) (fun h_53 => ?_) (fun h_53 => ?_)
      · refine a_iconst (v := nI 0) C dX6_opens_60 (by decide) ?_
        refine f_iret C hr ?_ dX6_opens_61 ⟨?_, rfl⟩
        · first | exact bI_narrow _ | rfl
        · first | with_reducible rfl | exact gl (by first | with_reducible rfl | exact absurd zq_g (by rw [hA.gw hp zq_w]; decide) | (refine iF ?_; simp [opnA, (eq_true h_15), (beq_iff_eq.mpr h_15), (bne_eq_false_iff_eq.mpr h_15), zq_w, zq_g, zq_g, h_53]; done) | (refine iT ?_; simp [opnA, (eq_true h_15), (beq_iff_eq.mpr h_15), (bne_eq_false_iff_eq.mpr h_15), zq_w, zq_g, zq_g, h_53]; done) | (refine iB ?_; simp [opnA, (eq_true h_15), (beq_iff_eq.mpr h_15), (bne_eq_false_iff_eq.mpr h_15), zq_w, zq_g, zq_g, h_53]; done) | (simp [opnA, (eq_true h_15), (beq_iff_eq.mpr h_15), (bne_eq_false_iff_eq.mpr h_15), zq_w, zq_g, zq_g, h_53]; done) | (simp [opnA, (eq_true h_15), (beq_iff_eq.mpr h_15), (bne_eq_false_iff_eq.mpr h_15), zq_w, zq_g, zq_g, h_53]; omega) | omega)
      · refine a_iconst (v := nI 1) C dX6_opens_56 (by decide) ?_
        refine a_goto (tgt := 61) C dX6_opens_57 (by decide) ?_
        refine f_iret C hr ?_ dX6_opens_61 ⟨?_, rfl⟩
        · first | exact bI_narrow _ | rfl
        · first | with_reducible rfl | exact gl (by first | with_reducible rfl | exact absurd zq_g (by rw [hA.gw hp zq_w]; decide) | (refine iF ?_; simp [opnA, (eq_true h_15), (beq_iff_eq.mpr h_15), (bne_eq_false_iff_eq.mpr h_15), zq_w, zq_g, zq_g, h_53]; done) | (refine iT ?_; simp [opnA, (eq_true h_15), (beq_iff_eq.mpr h_15), (bne_eq_false_iff_eq.mpr h_15), zq_w, zq_g, zq_g, h_53]; done) | (refine iB ?_; simp [opnA, (eq_true h_15), (beq_iff_eq.mpr h_15), (bne_eq_false_iff_eq.mpr h_15), zq_w, zq_g, zq_g, h_53]; done) | (simp [opnA, (eq_true h_15), (beq_iff_eq.mpr h_15), (bne_eq_false_iff_eq.mpr h_15), zq_w, zq_g, zq_g, h_53]; done) | (simp [opnA, (eq_true h_15), (beq_iff_eq.mpr h_15), (bne_eq_false_iff_eq.mpr h_15), zq_w, zq_g, zq_g, h_53]; omega) | omega)
  · have zq_w := wdA_t h_15
    refine a_aload_n C dX6_opens_18 rfl rfl ?_
    refine a_getfF C fX6_37 dX6_opens_19 (tw (by first | decide | omega)) (by first | decide | omega) rfl rfl ?_
    refine a_aload_n C dX6_opens_22 rfl rfl ?_
    refine a_getf C fX6_153 dX6_opens_23 (tw (by first | decide | omega)) (by first | decide | omega) (fz_lock (j := 0) (by decide) (by omega)) (gl (DR_lw hD (by omega))) ?_
    refine a_iload_n C dX6_opens_26 rfl rfl ?_
    refine p_callV C (KC_iul (hA.w hp zq_w) (hA.w81 hp zq_w) hc) vX6_467 rfl (by first | decide | omega) rfl rfl dX6_opens_27 (Nat.le_of_ble_eq_true rfl) ⟨by decide, by decide⟩ ?_
    first | refine b_if_ne (tgt := 56) C dX6_opens_30 (by decide) (fun h_30 => ?_) (fun h_30 => ?_) | refine n_if_ne (tgt := 56) C dX6_opens_30 (by decide) (by first | decide | omega) (fun h_30 => ?_) (fun h_30 => ?_) | refine a_if_ne (tgt := 56) C dX6_opens_30 (by decide) (fun h_30 => ?_) (fun h_30 => ?_)
    · refine a_iconst (v := nI 1) C dX6_opens_56 (by decide) ?_
      refine a_goto (tgt := 61) C dX6_opens_57 (by decide) ?_
      refine f_iret C hr ?_ dX6_opens_61 ⟨?_, rfl⟩
      · first | exact bI_narrow _ | rfl
      · first | with_reducible rfl | exact gl (by first | with_reducible rfl | exact absurd zq_g (by rw [hA.gw hp zq_w]; decide) | (refine iF ?_; simp [opnA, h_15, (beq_eq_false_iff_ne.mpr h_15), (bne_iff_ne.mpr h_15), zq_w, h_30]; done) | (refine iT ?_; simp [opnA, h_15, (beq_eq_false_iff_ne.mpr h_15), (bne_iff_ne.mpr h_15), zq_w, h_30]; done) | (refine iB ?_; simp [opnA, h_15, (beq_eq_false_iff_ne.mpr h_15), (bne_iff_ne.mpr h_15), zq_w, h_30]; done) | (simp [opnA, h_15, (beq_eq_false_iff_ne.mpr h_15), (bne_iff_ne.mpr h_15), zq_w, h_30]; done) | (simp [opnA, h_15, (beq_eq_false_iff_ne.mpr h_15), (bne_iff_ne.mpr h_15), zq_w, h_30]; omega) | omega)
    · refine a_aload_n C dX6_opens_33 rfl rfl ?_
      refine a_getf C fX6_163 dX6_opens_34 (tw (by first | decide | omega)) (by first | decide | omega) (fz_lock (j := 0) (by decide) (by omega)) (gl (DR_lg hD (by omega))) ?_
      refine a_iconst (v := (-1)) C dX6_opens_37 (by decide) ?_
      refine a_icmp_eq (tgt := 60) C dX6_opens_38 (by decide) (fun h_38 => ?_) (fun h_38 => ?_)
      · have zq_g := gdA_n h_38
        refine a_iconst (v := nI 0) C dX6_opens_60 (by decide) ?_
        refine f_iret C hr ?_ dX6_opens_61 ⟨?_, rfl⟩
        · first | exact bI_narrow _ | rfl
        · first | with_reducible rfl | exact gl (by first | with_reducible rfl | exact absurd zq_g (by rw [hA.gw hp zq_w]; decide) | (refine iF ?_; simp [opnA, h_15, (beq_eq_false_iff_ne.mpr h_15), (bne_iff_ne.mpr h_15), zq_w, h_30, zq_g]; done) | (refine iT ?_; simp [opnA, h_15, (beq_eq_false_iff_ne.mpr h_15), (bne_iff_ne.mpr h_15), zq_w, h_30, zq_g]; done) | (refine iB ?_; simp [opnA, h_15, (beq_eq_false_iff_ne.mpr h_15), (bne_iff_ne.mpr h_15), zq_w, h_30, zq_g]; done) | (simp [opnA, h_15, (beq_eq_false_iff_ne.mpr h_15), (bne_iff_ne.mpr h_15), zq_w, h_30, zq_g]; done) | (simp [opnA, h_15, (beq_eq_false_iff_ne.mpr h_15), (bne_iff_ne.mpr h_15), zq_w, h_30, zq_g]; omega) | omega)
      · have zq_g := gdA_t h_38
        refine a_aload_n C dX6_opens_41 rfl rfl ?_
        refine a_getfF C fX6_37 dX6_opens_42 (tw (by first | decide | omega)) (by first | decide | omega) rfl rfl ?_
        refine a_aload_n C dX6_opens_45 rfl rfl ?_
        refine a_getf C fX6_163 dX6_opens_46 (tw (by first | decide | omega)) (by first | decide | omega) (fz_lock (j := 0) (by decide) (by omega)) (gl (DR_lg hD (by omega))) ?_
        refine a_iload_n C dX6_opens_49 rfl rfl ?_
        refine p_callV C (KC_iul (hA.g hp zq_g) (hA.g81 hp zq_g) hc) vX6_467 rfl (by first | decide | omega) rfl rfl dX6_opens_50 (Nat.le_of_ble_eq_true rfl) ⟨by decide, by decide⟩ ?_
        first | refine b_if_eq (tgt := 60) C dX6_opens_53 (by decide) (fun h_53 => ?_) (fun h_53 => ?_) | refine n_if_eq (tgt := 60) C dX6_opens_53 (by decide) (by first | decide | omega) (fun h_53 => ?_) (fun h_53 => ?_) | refine a_if_eq (tgt := 60) C dX6_opens_53 (by decide) (fun h_53 => ?_) (fun h_53 => ?_)
        · refine a_iconst (v := nI 0) C dX6_opens_60 (by decide) ?_
          refine f_iret C hr ?_ dX6_opens_61 ⟨?_, rfl⟩
          · first | exact bI_narrow _ | rfl
          · first | with_reducible rfl | exact gl (by first | with_reducible rfl | exact absurd zq_g (by rw [hA.gw hp zq_w]; decide) | (refine iF ?_; simp [opnA, h_15, (beq_eq_false_iff_ne.mpr h_15), (bne_iff_ne.mpr h_15), zq_w, h_30, zq_g, h_53]; done) | (refine iT ?_; simp [opnA, h_15, (beq_eq_false_iff_ne.mpr h_15), (bne_iff_ne.mpr h_15), zq_w, h_30, zq_g, h_53]; done) | (refine iB ?_; simp [opnA, h_15, (beq_eq_false_iff_ne.mpr h_15), (bne_iff_ne.mpr h_15), zq_w, h_30, zq_g, h_53]; done) | (simp [opnA, h_15, (beq_eq_false_iff_ne.mpr h_15), (bne_iff_ne.mpr h_15), zq_w, h_30, zq_g, h_53]; done) | (simp [opnA, h_15, (beq_eq_false_iff_ne.mpr h_15), (bne_iff_ne.mpr h_15), zq_w, h_30, zq_g, h_53]; omega) | omega)
        · refine a_iconst (v := nI 1) C dX6_opens_56 (by decide) ?_
          refine a_goto (tgt := 61) C dX6_opens_57 (by decide) ?_
          refine f_iret C hr ?_ dX6_opens_61 ⟨?_, rfl⟩
          · first | exact bI_narrow _ | rfl
          · first | with_reducible rfl | exact gl (by first | with_reducible rfl | exact absurd zq_g (by rw [hA.gw hp zq_w]; decide) | (refine iF ?_; simp [opnA, h_15, (beq_eq_false_iff_ne.mpr h_15), (bne_iff_ne.mpr h_15), zq_w, h_30, zq_g, h_53]; done) | (refine iT ?_; simp [opnA, h_15, (beq_eq_false_iff_ne.mpr h_15), (bne_iff_ne.mpr h_15), zq_w, h_30, zq_g, h_53]; done) | (refine iB ?_; simp [opnA, h_15, (beq_eq_false_iff_ne.mpr h_15), (bne_iff_ne.mpr h_15), zq_w, h_30, zq_g, h_53]; done) | (simp [opnA, h_15, (beq_eq_false_iff_ne.mpr h_15), (bne_iff_ne.mpr h_15), zq_w, h_30, zq_g, h_53]; done) | (simp [opnA, h_15, (beq_eq_false_iff_ne.mpr h_15), (bne_iff_ne.mpr h_15), zq_w, h_30, zq_g, h_53]; omega) | omega)

def oaP (A : St) (c x p : Nat) : Bool := (x / 2 ^ p &&& 1) == 0 || opnA A c p
theorem tb_msk (P : Nat → Bool) (p : Nat) : ∀ k, (mskN P k).testBit p = (decide (p < k) && P p)
  | 0 => by simp [mskN]
  | k + 1 => by
    show (mskN P k ||| (if P k then 2 ^ k else 0)).testBit p = _
    rw [Nat.testBit_or, tb_msk P p k]
    by_cases zq_1 : p = k
    · subst zq_1
      cases P p <;> simp
    · have zq_2 : decide (p < k + 1) = decide (p < k) := decide_eq_decide.mpr (by omega)
      rw [zq_2]
      have zq_3 : (if P k then 2 ^ k else 0).testBit p = false := by
        split
        · rw [Nat.testBit_two_pow]
          exact decide_eq_false (fun z => zq_1 z.symm)
        · exact Nat.zero_testBit p
      rw [zq_3, Bool.or_false]
set_option maxRecDepth 20000 in
theorem oa_all : (List.range 64).all (fun m => (List.range 64).all fun x => (allN (fun p => (x / 2 ^ p &&& 1) == 0 || m.testBit p) 6) == (m &&& x == x)) = true := by decide +kernel
theorem allN_congr {P P' : Nat → Bool} : ∀ k, (∀ j, j < k → P j = P' j) → allN P k = allN P' k
  | 0, _ => rfl
  | k + 1, h => by
    show (allN P k && P k) = (allN P' k && P' k)
    rw [allN_congr k (fun j hj => h j (by omega)), h k (by omega)]
theorem oa_eq {A : St} {c x : Nat} (hx : x < 64) : allN (oaP A c x) 6 = (lksA A c &&& x == x) := by
  have zq_1 := List.all_eq_true.mp oa_all (lksA A c) (List.mem_range.mpr (mskN_lt _ 6))
  have zq_2 := eq_of_beq (List.all_eq_true.mp zq_1 x (List.mem_range.mpr hx))
  rw [← zq_2]
  refine allN_congr 6 (fun j hj => ?_)
  show ((x / 2 ^ j &&& 1) == 0 || opnA A c j) = ((x / 2 ^ j &&& 1) == 0 || (mskN (opnA A c) 6).testBit j)
  rw [tb_msk, decide_eq_true hj, Bool.true_and]
set_option maxRecDepth 20000 in
set_option maxHeartbeats 4000000 in
theorem K_X6_opensAll {w : Wd} {A : St} (hD : DR w 3 A) (hA : AOK A) {c x : Nat} (hc : c < 81) (hx : x < 64) : CP yX6_opensAll cX6_opensAll 4 (some .boolean) 2 45 [.ref 0, .int (nI c), .int (nI x)] w (.int (bI (lksA A c &&& x == x))) := by
  have zq_n := hA.n12
  refine CF.of ok_X6_opensAll (Nat.le_of_ble_eq_true rfl) (fun ex us G9 p9 l9 e9 s9 m9 ar9 be9 me9 co9 C hr => ?_)
  have ZL2 : ∀ (zd2 : Nat) (p : Nat), 6 + 1 ≤ p + zd2 → p ≤ 6 → allN (oaP A c x) p = true → WA G9 p9 l9 e9 (RM 2 45) s9 m9 ar9 be9 me9 co9 (QP G9 be9 ar9 s9 w ex us (.int (bI (lksA A c &&& x == x)))) 4 (207 + ex.1 + ex.2) us 2 [some (.ref 0), some (.int (nI c)), some (.int (nI x)), some (.int (nI p))] [] (fzM w ex us) := by
    intro zd2
    induction zd2 with
    | zero => intro p zm2 zh2_0 zh2_1; exfalso; omega
    | succ zd2 zih2 =>
      intro p zm2 zh2_0 zh2_1
      refine a_iload_n C dX6_opensAll_2 rfl rfl ?_
      refine a_bipush (v := nI 6) C dX6_opensAll_3 (by decide) ?_
      first | refine n_icmp_ge (tgt := 34) C dX6_opensAll_5 (by decide) (by first | decide | omega) (by first | decide | omega) (fun h_5 => ?_) (fun h_5 => ?_) | refine a_icmp_ge (tgt := 34) C dX6_opensAll_5 (by decide) (fun h_5 => ?_) (fun h_5 => ?_)
      · obtain rfl : p = 6 := by omega
        refine a_iconst (v := nI 1) C dX6_opensAll_34 (by decide) ?_
        refine f_iret C hr ?_ dX6_opensAll_35 ⟨?_, rfl⟩
        · first | exact bI_narrow _ | rfl
        · exact bI_tru (by rw [← oa_eq hx]; exact zh2_1)
      · refine a_iload_n C dX6_opensAll_8 rfl rfl ?_
        refine a_iload_n C dX6_opensAll_9 rfl rfl ?_
        refine n_ishr C dX6_opensAll_10 (by first | decide | omega) (by omega) ?_
        refine a_iconst (v := nI 1) C dX6_opensAll_11 (by decide) ?_
        first | refine n_iand C dX6_opensAll_12 ?_ | refine a_iand C dX6_opensAll_12 ?_
        refine a_iconst (v := nI 1) C dX6_opensAll_13 (by decide) ?_
        refine n_icmp_ne (tgt := 28) C dX6_opensAll_14 (by decide) (Nat.lt_of_le_of_lt Nat.and_le_right (by decide)) (by first | decide | omega) (fun h_14 => ?_) (fun h_14 => ?_)
        · refine n_iinc C dX6_opensAll_28 rfl (by decide) ?_
          refine a_goto (tgt := 2) C dX6_opensAll_31 (by decide) ?_
          refine a_join (aLe_s ?_ (aLe_s ?_ (aLe_s ?_ (aLe_s ?_ aLe_nil)))) rfl rfl (zih2 (p + 1) (by omega) (by omega) (by show (allN (oaP A c x) p && oaP A c x p) = true; rw [zh2_1]; first | (have zq_z : (x / 2 ^ p &&& 1) = 0 := ((and1 _).resolve_right h_14); simp [oaP, zq_z]; done) | (simp [oaP, h_23]; done)))
          · first | with_reducible rfl | exact gl (by first | with_reducible rfl | (refine iF ?_; simp [h_5, h_14, (beq_eq_false_iff_ne.mpr h_14), (bne_iff_ne.mpr h_14)]; done) | (refine iT ?_; simp [h_5, h_14, (beq_eq_false_iff_ne.mpr h_14), (bne_iff_ne.mpr h_14)]; done) | (refine iB ?_; simp [h_5, h_14, (beq_eq_false_iff_ne.mpr h_14), (bne_iff_ne.mpr h_14)]; done) | (simp [h_5, h_14, (beq_eq_false_iff_ne.mpr h_14), (bne_iff_ne.mpr h_14)]; done) | (simp [h_5, h_14, (beq_eq_false_iff_ne.mpr h_14), (bne_iff_ne.mpr h_14)]; omega) | omega)
          · first | with_reducible rfl | exact gl (by first | with_reducible rfl | (refine iF ?_; simp [h_5, h_14, (beq_eq_false_iff_ne.mpr h_14), (bne_iff_ne.mpr h_14)]; done) | (refine iT ?_; simp [h_5, h_14, (beq_eq_false_iff_ne.mpr h_14), (bne_iff_ne.mpr h_14)]; done) | (refine iB ?_; simp [h_5, h_14, (beq_eq_false_iff_ne.mpr h_14), (bne_iff_ne.mpr h_14)]; done) | (simp [h_5, h_14, (beq_eq_false_iff_ne.mpr h_14), (bne_iff_ne.mpr h_14)]; done) | (simp [h_5, h_14, (beq_eq_false_iff_ne.mpr h_14), (bne_iff_ne.mpr h_14)]; omega) | omega)
          · first | with_reducible rfl | exact gl (by first | with_reducible rfl | (refine iF ?_; simp [h_5, h_14, (beq_eq_false_iff_ne.mpr h_14), (bne_iff_ne.mpr h_14)]; done) | (refine iT ?_; simp [h_5, h_14, (beq_eq_false_iff_ne.mpr h_14), (bne_iff_ne.mpr h_14)]; done) | (refine iB ?_; simp [h_5, h_14, (beq_eq_false_iff_ne.mpr h_14), (bne_iff_ne.mpr h_14)]; done) | (simp [h_5, h_14, (beq_eq_false_iff_ne.mpr h_14), (bne_iff_ne.mpr h_14)]; done) | (simp [h_5, h_14, (beq_eq_false_iff_ne.mpr h_14), (bne_iff_ne.mpr h_14)]; omega) | omega)
          · first | with_reducible rfl | exact gl (by first | with_reducible rfl | (refine iF ?_; simp [h_5, h_14, (beq_eq_false_iff_ne.mpr h_14), (bne_iff_ne.mpr h_14)]; done) | (refine iT ?_; simp [h_5, h_14, (beq_eq_false_iff_ne.mpr h_14), (bne_iff_ne.mpr h_14)]; done) | (refine iB ?_; simp [h_5, h_14, (beq_eq_false_iff_ne.mpr h_14), (bne_iff_ne.mpr h_14)]; done) | (simp [h_5, h_14, (beq_eq_false_iff_ne.mpr h_14), (bne_iff_ne.mpr h_14)]; done) | (simp [h_5, h_14, (beq_eq_false_iff_ne.mpr h_14), (bne_iff_ne.mpr h_14)]; omega) | omega)
        · refine a_aload_n C dX6_opensAll_17 rfl rfl ?_
          refine a_iload_n C dX6_opensAll_18 rfl rfl ?_
          refine a_iload_n C dX6_opensAll_19 rfl rfl ?_
          refine p_callV C (K_X6_opens hD hA (by first | assumption | decide | omega) (by first | assumption | decide | omega)) vX6_415 rfl (by first | decide | omega) rfl rfl dX6_opensAll_20 (Nat.le_of_ble_eq_true rfl) ⟨by decide, by decide⟩ ?_
          first | refine b_if_ne (tgt := 28) C dX6_opensAll_23 (by decide) (fun h_23 => ?_) (fun h_23 => ?_) | refine n_if_ne (tgt := 28) C dX6_opensAll_23 (by decide) (by first | decide | omega) (fun h_23 => ?_) (fun h_23 => ?_) | refine a_if_ne (tgt := 28) C dX6_opensAll_23 (by decide) (fun h_23 => ?_) (fun h_23 => ?_)
          · refine n_iinc C dX6_opensAll_28 rfl (by decide) ?_
            refine a_goto (tgt := 2) C dX6_opensAll_31 (by decide) ?_
            refine a_join (aLe_s ?_ (aLe_s ?_ (aLe_s ?_ (aLe_s ?_ aLe_nil)))) rfl rfl (zih2 (p + 1) (by omega) (by omega) (by show (allN (oaP A c x) p && oaP A c x p) = true; rw [zh2_1]; first | (have zq_z : (x / 2 ^ p &&& 1) = 0 := ((and1 _).resolve_right h_14); simp [oaP, zq_z]; done) | (simp [oaP, h_23]; done)))
            · first | with_reducible rfl | exact gl (by first | with_reducible rfl | (refine iF ?_; simp [h_5, (eq_true h_14), (beq_iff_eq.mpr h_14), (bne_eq_false_iff_eq.mpr h_14), h_23]; done) | (refine iT ?_; simp [h_5, (eq_true h_14), (beq_iff_eq.mpr h_14), (bne_eq_false_iff_eq.mpr h_14), h_23]; done) | (refine iB ?_; simp [h_5, (eq_true h_14), (beq_iff_eq.mpr h_14), (bne_eq_false_iff_eq.mpr h_14), h_23]; done) | (simp [h_5, (eq_true h_14), (beq_iff_eq.mpr h_14), (bne_eq_false_iff_eq.mpr h_14), h_23]; done) | (simp [h_5, (eq_true h_14), (beq_iff_eq.mpr h_14), (bne_eq_false_iff_eq.mpr h_14), h_23]; omega) | omega)
            · first | with_reducible rfl | exact gl (by first | with_reducible rfl | (refine iF ?_; simp [h_5, (eq_true h_14), (beq_iff_eq.mpr h_14), (bne_eq_false_iff_eq.mpr h_14), h_23]; done) | (refine iT ?_; simp [h_5, (eq_true h_14), (beq_iff_eq.mpr h_14), (bne_eq_false_iff_eq.mpr h_14), h_23]; done) | (refine iB ?_; simp [h_5, (eq_true h_14), (beq_iff_eq.mpr h_14), (bne_eq_false_iff_eq.mpr h_14), h_23]; done) | (simp [h_5, (eq_true h_14), (beq_iff_eq.mpr h_14), (bne_eq_false_iff_eq.mpr h_14), h_23]; done) | (simp [h_5, (eq_true h_14), (beq_iff_eq.mpr h_14), (bne_eq_false_iff_eq.mpr h_14), h_23]; omega) | omega)
            · first | with_reducible rfl | exact gl (by first | with_reducible rfl | (refine iF ?_; simp [h_5, (eq_true h_14), (beq_iff_eq.mpr h_14), (bne_eq_false_iff_eq.mpr h_14), h_23]; done) | (refine iT ?_; simp [h_5, (eq_true h_14), (beq_iff_eq.mpr h_14), (bne_eq_false_iff_eq.mpr h_14), h_23]; done) | (refine iB ?_; simp [h_5, (eq_true h_14), (beq_iff_eq.mpr h_14), (bne_eq_false_iff_eq.mpr h_14), h_23]; done) | (simp [h_5, (eq_true h_14), (beq_iff_eq.mpr h_14), (bne_eq_false_iff_eq.mpr h_14), h_23]; done) | (simp [h_5, (eq_true h_14), (beq_iff_eq.mpr h_14), (bne_eq_false_iff_eq.mpr h_14), h_23]; omega) | omega)
            · first | with_reducible rfl | exact gl (by first | with_reducible rfl | (refine iF ?_; simp [h_5, (eq_true h_14), (beq_iff_eq.mpr h_14), (bne_eq_false_iff_eq.mpr h_14), h_23]; done) | (refine iT ?_; simp [h_5, (eq_true h_14), (beq_iff_eq.mpr h_14), (bne_eq_false_iff_eq.mpr h_14), h_23]; done) | (refine iB ?_; simp [h_5, (eq_true h_14), (beq_iff_eq.mpr h_14), (bne_eq_false_iff_eq.mpr h_14), h_23]; done) | (simp [h_5, (eq_true h_14), (beq_iff_eq.mpr h_14), (bne_eq_false_iff_eq.mpr h_14), h_23]; done) | (simp [h_5, (eq_true h_14), (beq_iff_eq.mpr h_14), (bne_eq_false_iff_eq.mpr h_14), h_23]; omega) | omega)
          · refine a_iconst (v := nI 0) C dX6_opensAll_26 (by decide) ?_
            refine f_iret C hr ?_ dX6_opensAll_27 ⟨?_, rfl⟩
            · first | exact bI_narrow _ | rfl
            · exact bI_fal (by rw [← oa_eq hx]; exact allN_f (j := p) (by simp [oaP, h_14, h_23]) 6 (by omega))
  refine a_pad 1 ?_
  refine a_eq (L' := [some (.ref 0), some (.int (nI c)), some (.int (nI x)), none]) rfl rfl rfl ?_
  refine a_iconst (v := nI 0) C dX6_opensAll_0 (by decide) ?_
  refine a_istore_n C dX6_opensAll_1 rfl (by decide) ?_
  refine a_join (aLe_s ?_ (aLe_s ?_ (aLe_s ?_ (aLe_s ?_ aLe_nil)))) rfl rfl (ZL2 (6 + 1) 0 (by omega) (by omega) rfl)
  · first | with_reducible rfl | exact gl (by first | with_reducible rfl | (refine iF ?_; simp []; done) | (refine iT ?_; simp []; done) | (refine iB ?_; simp []; done) | (simp []; done) | (simp []; omega) | omega | rfl)
  · first | with_reducible rfl | exact gl (by first | with_reducible rfl | (refine iF ?_; simp []; done) | (refine iT ?_; simp []; done) | (refine iB ?_; simp []; done) | (simp []; done) | (simp []; omega) | omega | rfl)
  · first | with_reducible rfl | exact gl (by first | with_reducible rfl | (refine iF ?_; simp []; done) | (refine iT ?_; simp []; done) | (refine iB ?_; simp []; done) | (simp []; done) | (simp []; omega) | omega | rfl)
  · first | with_reducible rfl | exact gl (by first | with_reducible rfl | (refine iF ?_; simp []; done) | (refine iT ?_; simp []; done) | (refine iB ?_; simp []; done) | (simp []; done) | (simp []; omega) | omega | rfl)

set_option maxRecDepth 20000 in
set_option maxHeartbeats 4000000 in
theorem K_X6_hasAllLocks {w : Wd} {A : St} (hD : DR w 3 A) (hA : AOK A) {x : Nat} (hx : x < 64) : CP yX6_hasAllLocks cX6_hasAllLocks 3 (some .boolean) 2 41 [.ref 0, .int (nI x)] w (.int (bI (allN (alP A x) 6))) := by
  have zq_n := hA.n12
  refine CF.of ok_X6_hasAllLocks (Nat.le_of_ble_eq_true rfl) (fun ex us G9 p9 l9 e9 s9 m9 ar9 be9 me9 co9 C hr => ?_)
  have ZL2 : ∀ (zd2 : Nat) (p : Nat), 6 + 1 ≤ p + zd2 → p ≤ 6 → allN (alP A x) p = true → WA G9 p9 l9 e9 (RM 2 41) s9 m9 ar9 be9 me9 co9 (QP G9 be9 ar9 s9 w ex us (.int (bI (allN (alP A x) 6)))) 3 (207 + ex.1 + ex.2) us 2 [some (.ref 0), some (.int (nI x)), some (.int (nI p))] [] (fzM w ex us) := by
    intro zd2
    induction zd2 with
    | zero => intro p zm2 zh2_0 zh2_1; exfalso; omega
    | succ zd2 zih2 =>
      intro p zm2 zh2_0 zh2_1
      refine a_iload_n C dX6_hasAllLocks_2 rfl rfl ?_
      refine a_bipush (v := nI 6) C dX6_hasAllLocks_3 (by decide) ?_
      first | refine n_icmp_ge (tgt := 33) C dX6_hasAllLocks_5 (by decide) (by first | decide | omega) (by first | decide | omega) (fun h_5 => ?_) (fun h_5 => ?_) | refine a_icmp_ge (tgt := 33) C dX6_hasAllLocks_5 (by decide) (fun h_5 => ?_) (fun h_5 => ?_)
      · obtain rfl : p = 6 := by omega
        refine a_iconst (v := nI 1) C dX6_hasAllLocks_33 (by decide) ?_
        refine f_iret C hr ?_ dX6_hasAllLocks_34 ⟨?_, rfl⟩
        · first | exact bI_narrow _ | rfl
        · exact bI_tru zh2_1
      · refine a_iload_n C dX6_hasAllLocks_8 rfl rfl ?_
        refine a_iload_n C dX6_hasAllLocks_9 rfl rfl ?_
        refine n_ishr C dX6_hasAllLocks_10 (by first | decide | omega) (by omega) ?_
        refine a_iconst (v := nI 1) C dX6_hasAllLocks_11 (by decide) ?_
        first | refine n_iand C dX6_hasAllLocks_12 ?_ | refine a_iand C dX6_hasAllLocks_12 ?_
        refine a_iconst (v := nI 1) C dX6_hasAllLocks_13 (by decide) ?_
        refine n_icmp_ne (tgt := 27) C dX6_hasAllLocks_14 (by decide) (Nat.lt_of_le_of_lt Nat.and_le_right (by decide)) (by first | decide | omega) (fun h_14 => ?_) (fun h_14 => ?_)
        · refine n_iinc C dX6_hasAllLocks_27 rfl (by decide) ?_
          refine a_goto (tgt := 2) C dX6_hasAllLocks_30 (by decide) ?_
          refine a_join (aLe_s ?_ (aLe_s ?_ (aLe_s ?_ aLe_nil))) rfl rfl (zih2 (p + 1) (by omega) (by omega) (by show (allN (alP A x) p && alP A x p) = true; rw [zh2_1]; first | (have zq_z : (x / 2 ^ p &&& 1) = 0 := ((and1 _).resolve_right h_14); simp [alP, zq_z]) | simp [alP, h_22]))
          · first | with_reducible rfl | exact gl (by first | with_reducible rfl | (refine iF ?_; simp [h_5, h_14, (beq_eq_false_iff_ne.mpr h_14), (bne_iff_ne.mpr h_14)]; done) | (refine iT ?_; simp [h_5, h_14, (beq_eq_false_iff_ne.mpr h_14), (bne_iff_ne.mpr h_14)]; done) | (refine iB ?_; simp [h_5, h_14, (beq_eq_false_iff_ne.mpr h_14), (bne_iff_ne.mpr h_14)]; done) | (simp [h_5, h_14, (beq_eq_false_iff_ne.mpr h_14), (bne_iff_ne.mpr h_14)]; done) | (simp [h_5, h_14, (beq_eq_false_iff_ne.mpr h_14), (bne_iff_ne.mpr h_14)]; omega) | omega)
          · first | with_reducible rfl | exact gl (by first | with_reducible rfl | (refine iF ?_; simp [h_5, h_14, (beq_eq_false_iff_ne.mpr h_14), (bne_iff_ne.mpr h_14)]; done) | (refine iT ?_; simp [h_5, h_14, (beq_eq_false_iff_ne.mpr h_14), (bne_iff_ne.mpr h_14)]; done) | (refine iB ?_; simp [h_5, h_14, (beq_eq_false_iff_ne.mpr h_14), (bne_iff_ne.mpr h_14)]; done) | (simp [h_5, h_14, (beq_eq_false_iff_ne.mpr h_14), (bne_iff_ne.mpr h_14)]; done) | (simp [h_5, h_14, (beq_eq_false_iff_ne.mpr h_14), (bne_iff_ne.mpr h_14)]; omega) | omega)
          · first | with_reducible rfl | exact gl (by first | with_reducible rfl | (refine iF ?_; simp [h_5, h_14, (beq_eq_false_iff_ne.mpr h_14), (bne_iff_ne.mpr h_14)]; done) | (refine iT ?_; simp [h_5, h_14, (beq_eq_false_iff_ne.mpr h_14), (bne_iff_ne.mpr h_14)]; done) | (refine iB ?_; simp [h_5, h_14, (beq_eq_false_iff_ne.mpr h_14), (bne_iff_ne.mpr h_14)]; done) | (simp [h_5, h_14, (beq_eq_false_iff_ne.mpr h_14), (bne_iff_ne.mpr h_14)]; done) | (simp [h_5, h_14, (beq_eq_false_iff_ne.mpr h_14), (bne_iff_ne.mpr h_14)]; omega) | omega)
        · refine a_aload_n C dX6_hasAllLocks_17 rfl rfl ?_
          refine a_iload_n C dX6_hasAllLocks_18 rfl rfl ?_
          refine p_callV C (K_X6_isLock hD hA (by first | assumption | decide | omega)) vX6_158 rfl (by first | decide | omega) rfl rfl dX6_hasAllLocks_19 (Nat.le_of_ble_eq_true rfl) ⟨by decide, by decide⟩ ?_
          first | refine b_if_ne (tgt := 27) C dX6_hasAllLocks_22 (by decide) (fun h_22 => ?_) (fun h_22 => ?_) | refine n_if_ne (tgt := 27) C dX6_hasAllLocks_22 (by decide) (by first | decide | omega) (fun h_22 => ?_) (fun h_22 => ?_) | refine a_if_ne (tgt := 27) C dX6_hasAllLocks_22 (by decide) (fun h_22 => ?_) (fun h_22 => ?_)
          · refine n_iinc C dX6_hasAllLocks_27 rfl (by decide) ?_
            refine a_goto (tgt := 2) C dX6_hasAllLocks_30 (by decide) ?_
            refine a_join (aLe_s ?_ (aLe_s ?_ (aLe_s ?_ aLe_nil))) rfl rfl (zih2 (p + 1) (by omega) (by omega) (by show (allN (alP A x) p && alP A x p) = true; rw [zh2_1]; first | (have zq_z : (x / 2 ^ p &&& 1) = 0 := ((and1 _).resolve_right h_14); simp [alP, zq_z]) | simp [alP, h_22]))
            · first | with_reducible rfl | exact gl (by first | with_reducible rfl | (refine iF ?_; simp [h_5, (eq_true h_14), (beq_iff_eq.mpr h_14), (bne_eq_false_iff_eq.mpr h_14), h_22]; done) | (refine iT ?_; simp [h_5, (eq_true h_14), (beq_iff_eq.mpr h_14), (bne_eq_false_iff_eq.mpr h_14), h_22]; done) | (refine iB ?_; simp [h_5, (eq_true h_14), (beq_iff_eq.mpr h_14), (bne_eq_false_iff_eq.mpr h_14), h_22]; done) | (simp [h_5, (eq_true h_14), (beq_iff_eq.mpr h_14), (bne_eq_false_iff_eq.mpr h_14), h_22]; done) | (simp [h_5, (eq_true h_14), (beq_iff_eq.mpr h_14), (bne_eq_false_iff_eq.mpr h_14), h_22]; omega) | omega)
            · first | with_reducible rfl | exact gl (by first | with_reducible rfl | (refine iF ?_; simp [h_5, (eq_true h_14), (beq_iff_eq.mpr h_14), (bne_eq_false_iff_eq.mpr h_14), h_22]; done) | (refine iT ?_; simp [h_5, (eq_true h_14), (beq_iff_eq.mpr h_14), (bne_eq_false_iff_eq.mpr h_14), h_22]; done) | (refine iB ?_; simp [h_5, (eq_true h_14), (beq_iff_eq.mpr h_14), (bne_eq_false_iff_eq.mpr h_14), h_22]; done) | (simp [h_5, (eq_true h_14), (beq_iff_eq.mpr h_14), (bne_eq_false_iff_eq.mpr h_14), h_22]; done) | (simp [h_5, (eq_true h_14), (beq_iff_eq.mpr h_14), (bne_eq_false_iff_eq.mpr h_14), h_22]; omega) | omega)
            · first | with_reducible rfl | exact gl (by first | with_reducible rfl | (refine iF ?_; simp [h_5, (eq_true h_14), (beq_iff_eq.mpr h_14), (bne_eq_false_iff_eq.mpr h_14), h_22]; done) | (refine iT ?_; simp [h_5, (eq_true h_14), (beq_iff_eq.mpr h_14), (bne_eq_false_iff_eq.mpr h_14), h_22]; done) | (refine iB ?_; simp [h_5, (eq_true h_14), (beq_iff_eq.mpr h_14), (bne_eq_false_iff_eq.mpr h_14), h_22]; done) | (simp [h_5, (eq_true h_14), (beq_iff_eq.mpr h_14), (bne_eq_false_iff_eq.mpr h_14), h_22]; done) | (simp [h_5, (eq_true h_14), (beq_iff_eq.mpr h_14), (bne_eq_false_iff_eq.mpr h_14), h_22]; omega) | omega)
          · refine a_iconst (v := nI 0) C dX6_hasAllLocks_25 (by decide) ?_
            refine f_iret C hr ?_ dX6_hasAllLocks_26 ⟨?_, rfl⟩
            · first | exact bI_narrow _ | rfl
            · exact bI_fal (allN_f (j := p) (by simp [alP, h_14, h_22]) 6 (by omega))
  refine a_pad 1 ?_
  refine a_eq (L' := [some (.ref 0), some (.int (nI x)), none]) rfl rfl rfl ?_
  refine a_iconst (v := nI 0) C dX6_hasAllLocks_0 (by decide) ?_
  refine a_istore_n C dX6_hasAllLocks_1 rfl (by decide) ?_
  refine a_join (aLe_s ?_ (aLe_s ?_ (aLe_s ?_ aLe_nil))) rfl rfl (ZL2 (6 + 1) 0 (by omega) (by omega) rfl)
  · first | with_reducible rfl | exact gl (by first | with_reducible rfl | (refine iF ?_; simp []; done) | (refine iT ?_; simp []; done) | (refine iB ?_; simp []; done) | (simp []; done) | (simp []; omega) | omega | rfl)
  · first | with_reducible rfl | exact gl (by first | with_reducible rfl | (refine iF ?_; simp []; done) | (refine iT ?_; simp []; done) | (refine iB ?_; simp []; done) | (simp []; done) | (simp []; omega) | omega | rfl)
  · first | with_reducible rfl | exact gl (by first | with_reducible rfl | (refine iF ?_; simp []; done) | (refine iT ?_; simp []; done) | (refine iB ?_; simp []; done) | (simp []; done) | (simp []; omega) | omega | rfl)

set_option maxRecDepth 20000 in
set_option maxHeartbeats 4000000 in
theorem K_X6_locksOpenedBy {w : Wd} {A : St} (hD : DR w 3 A) (hA : AOK A) {k : Nat} (hk : k < kN A) : CP yX6_locksOpenedBy cX6_locksOpenedBy 4 (some .int) 2 45 [.ref 0, .int (nI k)] w (.int (nI (lksA A (cN A k)))) := by
  have zq_n := hA.n12
  have zq_c := hA.c81 (k := k) (by omega)
  refine CF.of ok_X6_locksOpenedBy (Nat.le_of_ble_eq_true rfl) (fun ex us G9 p9 l9 e9 s9 m9 ar9 be9 me9 co9 C hr => ?_)
  have ZL4 : ∀ (zd4 : Nat) (p : Nat), 6 + 1 ≤ p + zd4 → p ≤ 6 → WA G9 p9 l9 e9 (RM 2 45) s9 m9 ar9 be9 me9 co9 (QP G9 be9 ar9 s9 w ex us (.int (nI (lksA A (cN A k))))) 4 (207 + ex.1 + ex.2) us 4 [some (.ref 0), some (.int (nI k)), some (.int (nI (mskN (opnA A (cN A k)) p))), some (.int (nI p))] [] (fzM w ex us) := by
    intro zd4
    induction zd4 with
    | zero => intro p zm4 zh4_0; exfalso; omega
    | succ zd4 zih4 =>
      intro p zm4 zh4_0
      refine a_iload_n C dX6_locksOpenedBy_4 rfl rfl ?_
      refine a_bipush (v := nI 6) C dX6_locksOpenedBy_5 (by decide) ?_
      first | refine n_icmp_ge (tgt := 42) C dX6_locksOpenedBy_7 (by decide) (by first | decide | omega) (by first | decide | omega) (fun h_7 => ?_) (fun h_7 => ?_) | refine a_icmp_ge (tgt := 42) C dX6_locksOpenedBy_7 (by decide) (fun h_7 => ?_) (fun h_7 => ?_)
      · obtain rfl : p = 6 := by omega
        refine a_iload_n C dX6_locksOpenedBy_42 rfl rfl ?_
        refine f_iret C hr ?_ dX6_locksOpenedBy_43 ⟨?_, rfl⟩
        · rfl
        · rfl
      · refine a_aload_n C dX6_locksOpenedBy_10 rfl rfl ?_
        refine a_aload_n C dX6_locksOpenedBy_11 rfl rfl ?_
        refine a_getfF C fX6_19 dX6_locksOpenedBy_12 (tw (by first | decide | omega)) (by first | decide | omega) rfl rfl ?_
        refine a_getfF C fX6_103 dX6_locksOpenedBy_15 (tw (by first | decide | omega)) (by first | decide | omega) rfl rfl ?_
        refine a_iload_n C dX6_locksOpenedBy_18 rfl rfl ?_
        refine a_aaldK C dX6_locksOpenedBy_19 (tw (by first | decide | omega)) (by first | decide | omega) rfl rfl (by first | decide | omega) (by decide) rfl ?_
        refine a_getf C fX6_107 dX6_locksOpenedBy_20 (tw (by first | decide | omega)) (by first | decide | omega) (fz_key (j := 0) (by decide) (by omega)) (gl (DR_kc hD hA (by omega))) ?_
        refine a_iload_n C dX6_locksOpenedBy_23 rfl rfl ?_
        refine p_callV C (K_X6_opens hD hA (by first | assumption | decide | omega) (by first | assumption | decide | omega)) vX6_415 rfl (by first | decide | omega) rfl rfl dX6_locksOpenedBy_24 (Nat.le_of_ble_eq_true rfl) ⟨by decide, by decide⟩ ?_
        first | refine b_if_eq (tgt := 36) C dX6_locksOpenedBy_27 (by decide) (fun h_27 => ?_) (fun h_27 => ?_) | refine n_if_eq (tgt := 36) C dX6_locksOpenedBy_27 (by decide) (by first | decide | omega) (fun h_27 => ?_) (fun h_27 => ?_) | refine a_if_eq (tgt := 36) C dX6_locksOpenedBy_27 (by decide) (fun h_27 => ?_) (fun h_27 => ?_)
        · refine n_iinc C dX6_locksOpenedBy_36 rfl (by decide) ?_
          refine a_goto (tgt := 4) C dX6_locksOpenedBy_39 (by decide) ?_
          refine a_join (aLe_s ?_ (aLe_s ?_ (aLe_s ?_ (aLe_s ?_ aLe_nil)))) rfl rfl (zih4 (p + 1) (by omega) (by omega))
          · first | with_reducible rfl | exact gl (by first | with_reducible rfl | (refine iF ?_; simp [mskN, h_7, h_27]; done) | (refine iT ?_; simp [mskN, h_7, h_27]; done) | (refine iB ?_; simp [mskN, h_7, h_27]; done) | (simp [mskN, h_7, h_27]; done) | (simp [mskN, h_7, h_27]; omega) | omega)
          · first | with_reducible rfl | exact gl (by first | with_reducible rfl | (refine iF ?_; simp [mskN, h_7, h_27]; done) | (refine iT ?_; simp [mskN, h_7, h_27]; done) | (refine iB ?_; simp [mskN, h_7, h_27]; done) | (simp [mskN, h_7, h_27]; done) | (simp [mskN, h_7, h_27]; omega) | omega)
          · first | with_reducible rfl | exact gl (by first | with_reducible rfl | (refine iF ?_; simp [mskN, h_7, h_27]; done) | (refine iT ?_; simp [mskN, h_7, h_27]; done) | (refine iB ?_; simp [mskN, h_7, h_27]; done) | (simp [mskN, h_7, h_27]; done) | (simp [mskN, h_7, h_27]; omega) | omega)
          · first | with_reducible rfl | exact gl (by first | with_reducible rfl | (refine iF ?_; simp [mskN, h_7, h_27]; done) | (refine iT ?_; simp [mskN, h_7, h_27]; done) | (refine iB ?_; simp [mskN, h_7, h_27]; done) | (simp [mskN, h_7, h_27]; done) | (simp [mskN, h_7, h_27]; omega) | omega)
        · refine a_iload_n C dX6_locksOpenedBy_30 rfl rfl ?_
          refine a_iconst (v := nI 1) C dX6_locksOpenedBy_31 (by decide) ?_
          refine a_iload_n C dX6_locksOpenedBy_32 rfl rfl ?_
          refine n_ishl C dX6_locksOpenedBy_33 (by omega) (p12_lt (by omega)) ?_
          first | refine n_ior C dX6_locksOpenedBy_34 ?_ | refine a_ior C dX6_locksOpenedBy_34 ?_
          refine a_istore_n C dX6_locksOpenedBy_35 rfl (by decide) ?_
          refine n_iinc C dX6_locksOpenedBy_36 rfl (by decide) ?_
          refine a_goto (tgt := 4) C dX6_locksOpenedBy_39 (by decide) ?_
          refine a_join (aLe_s ?_ (aLe_s ?_ (aLe_s ?_ (aLe_s ?_ aLe_nil)))) rfl rfl (zih4 (p + 1) (by omega) (by omega))
          · first | with_reducible rfl | exact gl (by first | with_reducible rfl | (refine iF ?_; simp [mskN, h_7, h_27]; done) | (refine iT ?_; simp [mskN, h_7, h_27]; done) | (refine iB ?_; simp [mskN, h_7, h_27]; done) | (simp [mskN, h_7, h_27]; done) | (simp [mskN, h_7, h_27]; omega) | omega)
          · first | with_reducible rfl | exact gl (by first | with_reducible rfl | (refine iF ?_; simp [mskN, h_7, h_27]; done) | (refine iT ?_; simp [mskN, h_7, h_27]; done) | (refine iB ?_; simp [mskN, h_7, h_27]; done) | (simp [mskN, h_7, h_27]; done) | (simp [mskN, h_7, h_27]; omega) | omega)
          · first | with_reducible rfl | exact gl (by first | with_reducible rfl | (refine iF ?_; simp [mskN, h_7, h_27]; done) | (refine iT ?_; simp [mskN, h_7, h_27]; done) | (refine iB ?_; simp [mskN, h_7, h_27]; done) | (simp [mskN, h_7, h_27]; done) | (simp [mskN, h_7, h_27]; omega) | omega)
          · first | with_reducible rfl | exact gl (by first | with_reducible rfl | (refine iF ?_; simp [mskN, h_7, h_27]; done) | (refine iT ?_; simp [mskN, h_7, h_27]; done) | (refine iB ?_; simp [mskN, h_7, h_27]; done) | (simp [mskN, h_7, h_27]; done) | (simp [mskN, h_7, h_27]; omega) | omega)
  refine a_pad 2 ?_
  refine a_eq (L' := [some (.ref 0), some (.int (nI k)), none, none]) rfl rfl rfl ?_
  refine a_iconst (v := nI 0) C dX6_locksOpenedBy_0 (by decide) ?_
  refine a_istore_n C dX6_locksOpenedBy_1 rfl (by decide) ?_
  refine a_iconst (v := nI 0) C dX6_locksOpenedBy_2 (by decide) ?_
  refine a_istore_n C dX6_locksOpenedBy_3 rfl (by decide) ?_
  refine a_join (aLe_s ?_ (aLe_s ?_ (aLe_s ?_ (aLe_s ?_ aLe_nil)))) rfl rfl (ZL4 (6 + 1) 0 (by omega) (by omega))
  · first | with_reducible rfl | exact gl (by first | with_reducible rfl | (refine iF ?_; simp [mskN]; done) | (refine iT ?_; simp [mskN]; done) | (refine iB ?_; simp [mskN]; done) | (simp [mskN]; done) | (simp [mskN]; omega) | omega | rfl)
  · first | with_reducible rfl | exact gl (by first | with_reducible rfl | (refine iF ?_; simp [mskN]; done) | (refine iT ?_; simp [mskN]; done) | (refine iB ?_; simp [mskN]; done) | (simp [mskN]; done) | (simp [mskN]; omega) | omega | rfl)
  · first | with_reducible rfl | exact gl (by first | with_reducible rfl | (refine iF ?_; simp [mskN]; done) | (refine iT ?_; simp [mskN]; done) | (refine iB ?_; simp [mskN]; done) | (simp [mskN]; done) | (simp [mskN]; omega) | omega | rfl)
  · first | with_reducible rfl | exact gl (by first | with_reducible rfl | (refine iF ?_; simp [mskN]; done) | (refine iT ?_; simp [mskN]; done) | (refine iB ?_; simp [mskN]; done) | (simp [mskN]; done) | (simp [mskN]; omega) | omega | rfl)

set_option maxRecDepth 20000 in
set_option maxHeartbeats 4000000 in
theorem K_X6_keysOpening {w : Wd} {A : St} (hD : DR w 3 A) (hA : AOK A) {p : Nat} (hp : p < 6) : CP yX6_keysOpening cX6_keysOpening 4 (some .int) 2 45 [.ref 0, .int (nI p)] w (.int (nI (kysA A p))) := by
  have zq_n := hA.n12
  refine CF.of ok_X6_keysOpening (Nat.le_of_ble_eq_true rfl) (fun ex us G9 p9 l9 e9 s9 m9 ar9 be9 me9 co9 C hr => ?_)
  have ZL4 : ∀ (zd4 : Nat) (k : Nat), kN A + 1 ≤ k + zd4 → k ≤ kN A → WA G9 p9 l9 e9 (RM 2 45) s9 m9 ar9 be9 me9 co9 (QP G9 be9 ar9 s9 w ex us (.int (nI (kysA A p)))) 4 (207 + ex.1 + ex.2) us 4 [some (.ref 0), some (.int (nI p)), some (.int (nI (mskN (kyP A p) k))), some (.int (nI k))] [] (fzM w ex us) := by
    intro zd4
    induction zd4 with
    | zero => intro k zm4 zh4_0; exfalso; omega
    | succ zd4 zih4 =>
      intro k zm4 zh4_0
      refine a_iload_n C dX6_keysOpening_4 rfl rfl ?_
      refine a_aload_n C dX6_keysOpening_5 rfl rfl ?_
      refine a_getfF C fX6_19 dX6_keysOpening_6 (tw (by first | decide | omega)) (by first | decide | omega) rfl rfl ?_
      refine a_getf C fX6_80 dX6_keysOpening_9 (tw (by first | decide | omega)) (by first | decide | omega) rfl (gl (DR_n hD hA)) ?_
      first | refine n_icmp_ge (tgt := 53) C dX6_keysOpening_12 (by decide) (by first | decide | omega) (by first | decide | omega) (fun h_12 => ?_) (fun h_12 => ?_) | refine a_icmp_ge (tgt := 53) C dX6_keysOpening_12 (by decide) (fun h_12 => ?_) (fun h_12 => ?_)
      · obtain rfl : k = kN A := by omega
        refine a_iload_n C dX6_keysOpening_53 rfl rfl ?_
        refine f_iret C hr ?_ dX6_keysOpening_54 ⟨?_, rfl⟩
        · rfl
        · rfl
      · refine a_iload_n C dX6_keysOpening_15 rfl rfl ?_
        refine a_bipush (v := nI 12) C dX6_keysOpening_16 (by decide) ?_
        first | refine n_icmp_ge (tgt := 53) C dX6_keysOpening_18 (by decide) (by first | decide | omega) (by first | decide | omega) (fun h_18 => ?_) (fun h_18 => ?_) | refine a_icmp_ge (tgt := 53) C dX6_keysOpening_18 (by decide) (fun h_18 => ?_) (fun h_18 => ?_)
        · exfalso; omega
        · have zq_c := hA.c81 (k := k) (by omega)
          refine a_aload_n C dX6_keysOpening_21 rfl rfl ?_
          refine a_aload_n C dX6_keysOpening_22 rfl rfl ?_
          refine a_getfF C fX6_19 dX6_keysOpening_23 (tw (by first | decide | omega)) (by first | decide | omega) rfl rfl ?_
          refine a_getfF C fX6_103 dX6_keysOpening_26 (tw (by first | decide | omega)) (by first | decide | omega) rfl rfl ?_
          refine a_iload_n C dX6_keysOpening_29 rfl rfl ?_
          refine a_aaldK C dX6_keysOpening_30 (tw (by first | decide | omega)) (by first | decide | omega) rfl rfl (by first | decide | omega) (by decide) rfl ?_
          refine a_getf C fX6_107 dX6_keysOpening_31 (tw (by first | decide | omega)) (by first | decide | omega) (fz_key (j := 0) (by decide) (by omega)) (gl (DR_kc hD hA (by omega))) ?_
          refine a_iload_n C dX6_keysOpening_34 rfl rfl ?_
          refine p_callV C (K_X6_opens hD hA (by first | assumption | decide | omega) (by first | assumption | decide | omega)) vX6_415 rfl (by first | decide | omega) rfl rfl dX6_keysOpening_35 (Nat.le_of_ble_eq_true rfl) ⟨by decide, by decide⟩ ?_
          first | refine b_if_eq (tgt := 47) C dX6_keysOpening_38 (by decide) (fun h_38 => ?_) (fun h_38 => ?_) | refine n_if_eq (tgt := 47) C dX6_keysOpening_38 (by decide) (by first | decide | omega) (fun h_38 => ?_) (fun h_38 => ?_) | refine a_if_eq (tgt := 47) C dX6_keysOpening_38 (by decide) (fun h_38 => ?_) (fun h_38 => ?_)
          · refine n_iinc C dX6_keysOpening_47 rfl (by decide) ?_
            refine a_goto (tgt := 4) C dX6_keysOpening_50 (by decide) ?_
            refine a_join (aLe_s ?_ (aLe_s ?_ (aLe_s ?_ (aLe_s ?_ aLe_nil)))) rfl rfl (zih4 (k + 1) (by omega) (by omega))
            · first | with_reducible rfl | exact gl (by first | with_reducible rfl | (refine iF ?_; simp [mskN, kyP, h_12, h_18, h_38]; done) | (refine iT ?_; simp [mskN, kyP, h_12, h_18, h_38]; done) | (refine iB ?_; simp [mskN, kyP, h_12, h_18, h_38]; done) | (simp [mskN, kyP, h_12, h_18, h_38]; done) | (simp [mskN, kyP, h_12, h_18, h_38]; omega) | omega)
            · first | with_reducible rfl | exact gl (by first | with_reducible rfl | (refine iF ?_; simp [mskN, kyP, h_12, h_18, h_38]; done) | (refine iT ?_; simp [mskN, kyP, h_12, h_18, h_38]; done) | (refine iB ?_; simp [mskN, kyP, h_12, h_18, h_38]; done) | (simp [mskN, kyP, h_12, h_18, h_38]; done) | (simp [mskN, kyP, h_12, h_18, h_38]; omega) | omega)
            · first | with_reducible rfl | exact gl (by first | with_reducible rfl | (refine iF ?_; simp [mskN, kyP, h_12, h_18, h_38]; done) | (refine iT ?_; simp [mskN, kyP, h_12, h_18, h_38]; done) | (refine iB ?_; simp [mskN, kyP, h_12, h_18, h_38]; done) | (simp [mskN, kyP, h_12, h_18, h_38]; done) | (simp [mskN, kyP, h_12, h_18, h_38]; omega) | omega)
            · first | with_reducible rfl | exact gl (by first | with_reducible rfl | (refine iF ?_; simp [mskN, kyP, h_12, h_18, h_38]; done) | (refine iT ?_; simp [mskN, kyP, h_12, h_18, h_38]; done) | (refine iB ?_; simp [mskN, kyP, h_12, h_18, h_38]; done) | (simp [mskN, kyP, h_12, h_18, h_38]; done) | (simp [mskN, kyP, h_12, h_18, h_38]; omega) | omega)
          · refine a_iload_n C dX6_keysOpening_41 rfl rfl ?_
            refine a_iconst (v := nI 1) C dX6_keysOpening_42 (by decide) ?_
            refine a_iload_n C dX6_keysOpening_43 rfl rfl ?_
            refine n_ishl C dX6_keysOpening_44 (by omega) (p12_lt (by omega)) ?_
            first | refine n_ior C dX6_keysOpening_45 ?_ | refine a_ior C dX6_keysOpening_45 ?_
            refine a_istore_n C dX6_keysOpening_46 rfl (by decide) ?_
            refine n_iinc C dX6_keysOpening_47 rfl (by decide) ?_
            refine a_goto (tgt := 4) C dX6_keysOpening_50 (by decide) ?_
            refine a_join (aLe_s ?_ (aLe_s ?_ (aLe_s ?_ (aLe_s ?_ aLe_nil)))) rfl rfl (zih4 (k + 1) (by omega) (by omega))
            · first | with_reducible rfl | exact gl (by first | with_reducible rfl | (refine iF ?_; simp [mskN, kyP, h_12, h_18, h_38]; done) | (refine iT ?_; simp [mskN, kyP, h_12, h_18, h_38]; done) | (refine iB ?_; simp [mskN, kyP, h_12, h_18, h_38]; done) | (simp [mskN, kyP, h_12, h_18, h_38]; done) | (simp [mskN, kyP, h_12, h_18, h_38]; omega) | omega)
            · first | with_reducible rfl | exact gl (by first | with_reducible rfl | (refine iF ?_; simp [mskN, kyP, h_12, h_18, h_38]; done) | (refine iT ?_; simp [mskN, kyP, h_12, h_18, h_38]; done) | (refine iB ?_; simp [mskN, kyP, h_12, h_18, h_38]; done) | (simp [mskN, kyP, h_12, h_18, h_38]; done) | (simp [mskN, kyP, h_12, h_18, h_38]; omega) | omega)
            · first | with_reducible rfl | exact gl (by first | with_reducible rfl | (refine iF ?_; simp [mskN, kyP, h_12, h_18, h_38]; done) | (refine iT ?_; simp [mskN, kyP, h_12, h_18, h_38]; done) | (refine iB ?_; simp [mskN, kyP, h_12, h_18, h_38]; done) | (simp [mskN, kyP, h_12, h_18, h_38]; done) | (simp [mskN, kyP, h_12, h_18, h_38]; omega) | omega)
            · first | with_reducible rfl | exact gl (by first | with_reducible rfl | (refine iF ?_; simp [mskN, kyP, h_12, h_18, h_38]; done) | (refine iT ?_; simp [mskN, kyP, h_12, h_18, h_38]; done) | (refine iB ?_; simp [mskN, kyP, h_12, h_18, h_38]; done) | (simp [mskN, kyP, h_12, h_18, h_38]; done) | (simp [mskN, kyP, h_12, h_18, h_38]; omega) | omega)
  refine a_pad 2 ?_
  refine a_eq (L' := [some (.ref 0), some (.int (nI p)), none, none]) rfl rfl rfl ?_
  refine a_iconst (v := nI 0) C dX6_keysOpening_0 (by decide) ?_
  refine a_istore_n C dX6_keysOpening_1 rfl (by decide) ?_
  refine a_iconst (v := nI 0) C dX6_keysOpening_2 (by decide) ?_
  refine a_istore_n C dX6_keysOpening_3 rfl (by decide) ?_
  refine a_join (aLe_s ?_ (aLe_s ?_ (aLe_s ?_ (aLe_s ?_ aLe_nil)))) rfl rfl (ZL4 (kN A + 1) 0 (by omega) (by omega))
  · first | with_reducible rfl | exact gl (by first | with_reducible rfl | (refine iF ?_; simp [mskN, kyP]; done) | (refine iT ?_; simp [mskN, kyP]; done) | (refine iB ?_; simp [mskN, kyP]; done) | (simp [mskN, kyP]; done) | (simp [mskN, kyP]; omega) | omega | rfl)
  · first | with_reducible rfl | exact gl (by first | with_reducible rfl | (refine iF ?_; simp [mskN, kyP]; done) | (refine iT ?_; simp [mskN, kyP]; done) | (refine iB ?_; simp [mskN, kyP]; done) | (simp [mskN, kyP]; done) | (simp [mskN, kyP]; omega) | omega | rfl)
  · first | with_reducible rfl | exact gl (by first | with_reducible rfl | (refine iF ?_; simp [mskN, kyP]; done) | (refine iT ?_; simp [mskN, kyP]; done) | (refine iB ?_; simp [mskN, kyP]; done) | (simp [mskN, kyP]; done) | (simp [mskN, kyP]; omega) | omega | rfl)
  · first | with_reducible rfl | exact gl (by first | with_reducible rfl | (refine iF ?_; simp [mskN, kyP]; done) | (refine iT ?_; simp [mskN, kyP]; done) | (refine iB ?_; simp [mskN, kyP]; done) | (simp [mskN, kyP]; done) | (simp [mskN, kyP]; omega) | omega | rfl)

set_option maxRecDepth 20000 in
set_option maxHeartbeats 4000000 in
theorem K_X6_whoCouldOpen {w : Wd} {A : St} (hD : DR w 3 A) (hA : AOK A) {p : Nat} (hp : p < 6) : CP yX6_whoCouldOpen cX6_whoCouldOpen 5 (some .int) 2 45 [.ref 0, .int (nI p)] w (.int (nI (whoA A p))) := by
  have zq_n := hA.n12
  refine CF.of ok_X6_whoCouldOpen (Nat.le_of_ble_eq_true rfl) (fun ex us G9 p9 l9 e9 s9 m9 ar9 be9 me9 co9 C hr => ?_)
  have ZL4 : ∀ (zd4 : Nat) (k : Nat), kN A + 1 ≤ k + zd4 → k ≤ kN A → WA G9 p9 l9 e9 (RM 2 45) s9 m9 ar9 be9 me9 co9 (QP G9 be9 ar9 s9 w ex us (.int (nI (whoA A p)))) 5 (207 + ex.1 + ex.2) us 4 [some (.ref 0), some (.int (nI p)), some (.int (nI (orN (whV A p) k))), some (.int (nI k)), none] [] (fzM w ex us) := by
    intro zd4
    induction zd4 with
    | zero => intro k zm4 zh4_0; exfalso; omega
    | succ zd4 zih4 =>
      intro k zm4 zh4_0
      refine a_iload_n C dX6_whoCouldOpen_4 rfl rfl ?_
      refine a_aload_n C dX6_whoCouldOpen_5 rfl rfl ?_
      refine a_getfF C fX6_19 dX6_whoCouldOpen_6 (tw (by first | decide | omega)) (by first | decide | omega) rfl rfl ?_
      refine a_getf C fX6_80 dX6_whoCouldOpen_9 (tw (by first | decide | omega)) (by first | decide | omega) rfl (gl (DR_n hD hA)) ?_
      first | refine n_icmp_ge (tgt := 73) C dX6_whoCouldOpen_12 (by decide) (by first | decide | omega) (by first | decide | omega) (fun h_12 => ?_) (fun h_12 => ?_) | refine a_icmp_ge (tgt := 73) C dX6_whoCouldOpen_12 (by decide) (fun h_12 => ?_) (fun h_12 => ?_)
      · obtain rfl : k = kN A := by omega
        refine a_iload_n C dX6_whoCouldOpen_73 rfl rfl ?_
        refine f_iret C hr ?_ dX6_whoCouldOpen_74 ⟨?_, rfl⟩
        · rfl
        · rfl
      · refine a_iload_n C dX6_whoCouldOpen_15 rfl rfl ?_
        refine a_bipush (v := nI 12) C dX6_whoCouldOpen_16 (by decide) ?_
        first | refine n_icmp_ge (tgt := 73) C dX6_whoCouldOpen_18 (by decide) (by first | decide | omega) (by first | decide | omega) (fun h_18 => ?_) (fun h_18 => ?_) | refine a_icmp_ge (tgt := 73) C dX6_whoCouldOpen_18 (by decide) (fun h_18 => ?_) (fun h_18 => ?_)
        · exfalso; omega
        · have zq_c := hA.c81 (k := k) (by omega)
          refine a_aload_n C dX6_whoCouldOpen_21 rfl rfl ?_
          refine a_getfF C fX6_19 dX6_whoCouldOpen_22 (tw (by first | decide | omega)) (by first | decide | omega) rfl rfl ?_
          refine a_getfF C fX6_103 dX6_whoCouldOpen_25 (tw (by first | decide | omega)) (by first | decide | omega) rfl rfl ?_
          refine a_iload_n C dX6_whoCouldOpen_28 rfl rfl ?_
          refine a_aaldK C dX6_whoCouldOpen_29 (tw (by first | decide | omega)) (by first | decide | omega) rfl rfl (by first | decide | omega) (by decide) rfl ?_
          refine a_astore C dX6_whoCouldOpen_30 (by decide) ?_
          refine a_aload_n C dX6_whoCouldOpen_32 rfl rfl ?_
          refine a_aload C dX6_whoCouldOpen_33 rfl ?_
          refine a_getf C fX6_107 dX6_whoCouldOpen_35 (tw (by first | decide | omega)) (by first | decide | omega) (fz_key (j := 0) (by decide) (by omega)) (gl (DR_kc hD hA (by omega))) ?_
          refine a_iload_n C dX6_whoCouldOpen_38 rfl rfl ?_
          refine p_callV C (K_X6_opens hD hA (by first | assumption | decide | omega) (by first | assumption | decide | omega)) vX6_415 rfl (by first | decide | omega) rfl rfl dX6_whoCouldOpen_39 (Nat.le_of_ble_eq_true rfl) ⟨by decide, by decide⟩ ?_
          first | refine b_if_eq (tgt := 67) C dX6_whoCouldOpen_42 (by decide) (fun h_42 => ?_) (fun h_42 => ?_) | refine n_if_eq (tgt := 67) C dX6_whoCouldOpen_42 (by decide) (by first | decide | omega) (fun h_42 => ?_) (fun h_42 => ?_) | refine a_if_eq (tgt := 67) C dX6_whoCouldOpen_42 (by decide) (fun h_42 => ?_) (fun h_42 => ?_)
          · refine n_iinc C dX6_whoCouldOpen_67 rfl (by decide) ?_
            refine a_goto (tgt := 4) C dX6_whoCouldOpen_70 (by decide) ?_
            refine a_join (aLe_s ?_ (aLe_s ?_ (aLe_s ?_ (aLe_s ?_ (aLe_n aLe_nil))))) rfl rfl (zih4 (k + 1) (by omega) (by omega))
            · first | with_reducible rfl | exact gl (by first | with_reducible rfl | (refine iF ?_; simp [orN, whV, whB, h_12, h_18, h_42]; done) | (refine iT ?_; simp [orN, whV, whB, h_12, h_18, h_42]; done) | (refine iB ?_; simp [orN, whV, whB, h_12, h_18, h_42]; done) | (simp [orN, whV, whB, h_12, h_18, h_42]; done) | (simp [orN, whV, whB, h_12, h_18, h_42]; omega) | omega)
            · first | with_reducible rfl | exact gl (by first | with_reducible rfl | (refine iF ?_; simp [orN, whV, whB, h_12, h_18, h_42]; done) | (refine iT ?_; simp [orN, whV, whB, h_12, h_18, h_42]; done) | (refine iB ?_; simp [orN, whV, whB, h_12, h_18, h_42]; done) | (simp [orN, whV, whB, h_12, h_18, h_42]; done) | (simp [orN, whV, whB, h_12, h_18, h_42]; omega) | omega)
            · first | with_reducible rfl | exact gl (by first | with_reducible rfl | (refine iF ?_; simp [orN, whV, whB, h_12, h_18, h_42]; done) | (refine iT ?_; simp [orN, whV, whB, h_12, h_18, h_42]; done) | (refine iB ?_; simp [orN, whV, whB, h_12, h_18, h_42]; done) | (simp [orN, whV, whB, h_12, h_18, h_42]; done) | (simp [orN, whV, whB, h_12, h_18, h_42]; omega) | omega)
            · first | with_reducible rfl | exact gl (by first | with_reducible rfl | (refine iF ?_; simp [orN, whV, whB, h_12, h_18, h_42]; done) | (refine iT ?_; simp [orN, whV, whB, h_12, h_18, h_42]; done) | (refine iB ?_; simp [orN, whV, whB, h_12, h_18, h_42]; done) | (simp [orN, whV, whB, h_12, h_18, h_42]; done) | (simp [orN, whV, whB, h_12, h_18, h_42]; omega) | omega)
          · refine a_iload_n C dX6_whoCouldOpen_45 rfl rfl ?_
            refine a_iconst (v := nI 1) C dX6_whoCouldOpen_46 (by decide) ?_
            refine a_via 64 (nI (whB A k)) ?_ (fun zJ64 => ?_)
            · refine n_ishl C dX6_whoCouldOpen_64 (Nat.lt_of_le_of_lt (whB_le hA (by omega)) (by decide)) (p4_lt (whB_le hA (by omega))) ?_
              first | refine n_ior C dX6_whoCouldOpen_65 ?_ | refine a_ior C dX6_whoCouldOpen_65 ?_
              refine a_istore_n C dX6_whoCouldOpen_66 rfl (by decide) ?_
              refine n_iinc C dX6_whoCouldOpen_67 rfl (by decide) ?_
              refine a_goto (tgt := 4) C dX6_whoCouldOpen_70 (by decide) ?_
              refine a_join (aLe_s ?_ (aLe_s ?_ (aLe_s ?_ (aLe_s ?_ (aLe_n aLe_nil))))) rfl rfl (zih4 (k + 1) (by omega) (by omega))
              · first | with_reducible rfl | exact gl (by first | with_reducible rfl | (refine iF ?_; simp [orN, whV, whB, h_12, h_18, h_42]; done) | (refine iT ?_; simp [orN, whV, whB, h_12, h_18, h_42]; done) | (refine iB ?_; simp [orN, whV, whB, h_12, h_18, h_42]; done) | (simp [orN, whV, whB, h_12, h_18, h_42]; done) | (simp [orN, whV, whB, h_12, h_18, h_42]; omega) | omega)
              · first | with_reducible rfl | exact gl (by first | with_reducible rfl | (refine iF ?_; simp [orN, whV, whB, h_12, h_18, h_42]; done) | (refine iT ?_; simp [orN, whV, whB, h_12, h_18, h_42]; done) | (refine iB ?_; simp [orN, whV, whB, h_12, h_18, h_42]; done) | (simp [orN, whV, whB, h_12, h_18, h_42]; done) | (simp [orN, whV, whB, h_12, h_18, h_42]; omega) | omega)
              · first | with_reducible rfl | exact gl (by first | with_reducible rfl | (refine iF ?_; simp [orN, whV, whB, h_12, h_18, h_42]; done) | (refine iT ?_; simp [orN, whV, whB, h_12, h_18, h_42]; done) | (refine iB ?_; simp [orN, whV, whB, h_12, h_18, h_42]; done) | (simp [orN, whV, whB, h_12, h_18, h_42]; done) | (simp [orN, whV, whB, h_12, h_18, h_42]; omega) | omega)
              · first | with_reducible rfl | exact gl (by first | with_reducible rfl | (refine iF ?_; simp [orN, whV, whB, h_12, h_18, h_42]; done) | (refine iT ?_; simp [orN, whV, whB, h_12, h_18, h_42]; done) | (refine iB ?_; simp [orN, whV, whB, h_12, h_18, h_42]; done) | (simp [orN, whV, whB, h_12, h_18, h_42]; done) | (simp [orN, whV, whB, h_12, h_18, h_42]; omega) | omega)
            · refine a_aload C dX6_whoCouldOpen_47 rfl ?_
              refine a_getf C fX6_126 dX6_whoCouldOpen_49 (tw (by first | decide | omega)) (by first | decide | omega) (fz_key (j := 0) (by decide) (by omega)) (gl (DR_kl hD hA (by omega))) ?_
              first | refine b_if_eq (tgt := 59) C dX6_whoCouldOpen_52 (by decide) (fun h_52 => ?_) (fun h_52 => ?_) | refine n_if_eq (tgt := 59) C dX6_whoCouldOpen_52 (by decide) (by first | decide | omega) (fun h_52 => ?_) (fun h_52 => ?_) | refine a_if_eq (tgt := 59) C dX6_whoCouldOpen_52 (by decide) (fun h_52 => ?_) (fun h_52 => ?_)
              · refine a_aload C dX6_whoCouldOpen_59 rfl ?_
                refine a_getf C fX6_123 dX6_whoCouldOpen_61 (tw (by first | decide | omega)) (by first | decide | omega) (fz_key (j := 0) (by decide) (by omega)) (gl (DR_ko hD hA (by omega))) ?_
                refine a_eq rfl (gl1 ?_) rfl zJ64
                · first | with_reducible rfl | (refine iF ?_; simp [orN, whV, whB, h_12, h_18, h_42, h_52]; done) | (refine iT ?_; simp [orN, whV, whB, h_12, h_18, h_42, h_52]; done) | (refine iB ?_; simp [orN, whV, whB, h_12, h_18, h_42, h_52]; done) | (simp [orN, whV, whB, h_12, h_18, h_42, h_52]; done) | (simp [orN, whV, whB, h_12, h_18, h_42, h_52]; omega) | omega
              · refine a_iconst (v := nI 4) C dX6_whoCouldOpen_55 (by decide) ?_
                refine a_goto (tgt := 64) C dX6_whoCouldOpen_56 (by decide) ?_
                refine a_eq rfl (gl1 ?_) rfl zJ64
                · first | with_reducible rfl | (refine iF ?_; simp [orN, whV, whB, h_12, h_18, h_42, h_52]; done) | (refine iT ?_; simp [orN, whV, whB, h_12, h_18, h_42, h_52]; done) | (refine iB ?_; simp [orN, whV, whB, h_12, h_18, h_42, h_52]; done) | (simp [orN, whV, whB, h_12, h_18, h_42, h_52]; done) | (simp [orN, whV, whB, h_12, h_18, h_42, h_52]; omega) | omega
  refine a_pad 3 ?_
  refine a_eq (L' := [some (.ref 0), some (.int (nI p)), none, none, none]) rfl rfl rfl ?_
  refine a_iconst (v := nI 0) C dX6_whoCouldOpen_0 (by decide) ?_
  refine a_istore_n C dX6_whoCouldOpen_1 rfl (by decide) ?_
  refine a_iconst (v := nI 0) C dX6_whoCouldOpen_2 (by decide) ?_
  refine a_istore_n C dX6_whoCouldOpen_3 rfl (by decide) ?_
  refine a_join (aLe_s ?_ (aLe_s ?_ (aLe_s ?_ (aLe_s ?_ (aLe_n aLe_nil))))) rfl rfl (ZL4 (kN A + 1) 0 (by omega) (by omega))
  · first | with_reducible rfl | exact gl (by first | with_reducible rfl | (refine iF ?_; simp [orN, whV, whB]; done) | (refine iT ?_; simp [orN, whV, whB]; done) | (refine iB ?_; simp [orN, whV, whB]; done) | (simp [orN, whV, whB]; done) | (simp [orN, whV, whB]; omega) | omega | rfl)
  · first | with_reducible rfl | exact gl (by first | with_reducible rfl | (refine iF ?_; simp [orN, whV, whB]; done) | (refine iT ?_; simp [orN, whV, whB]; done) | (refine iB ?_; simp [orN, whV, whB]; done) | (simp [orN, whV, whB]; done) | (simp [orN, whV, whB]; omega) | omega | rfl)
  · first | with_reducible rfl | exact gl (by first | with_reducible rfl | (refine iF ?_; simp [orN, whV, whB]; done) | (refine iT ?_; simp [orN, whV, whB]; done) | (refine iB ?_; simp [orN, whV, whB]; done) | (simp [orN, whV, whB]; done) | (simp [orN, whV, whB]; omega) | omega | rfl)
  · first | with_reducible rfl | exact gl (by first | with_reducible rfl | (refine iF ?_; simp [orN, whV, whB]; done) | (refine iT ?_; simp [orN, whV, whB]; done) | (refine iB ?_; simp [orN, whV, whB]; done) | (simp [orN, whV, whB]; done) | (simp [orN, whV, whB]; omega) | omega | rfl)

set_option maxRecDepth 20000 in
set_option maxHeartbeats 4000000 in
theorem K_X6_keysOf {w : Wd} {A : St} (hD : DR w 3 A) (hA : AOK A) {q : Nat} (hq : q < 4) : CP yX6_keysOf cX6_keysOf 4 (some .int) 0 0 [.ref 0, .int (nI q)] w (.int (nI (pkA A q))) := by
  have zq_n := hA.n12
  refine CF.of ok_X6_keysOf (Nat.le_of_ble_eq_true rfl) (fun ex us G9 p9 l9 e9 s9 m9 ar9 be9 me9 co9 C hr => ?_)
  have ZL4 : ∀ (zd4 : Nat) (k : Nat), kN A + 1 ≤ k + zd4 → k ≤ kN A → WA G9 p9 l9 e9 (RM 0 0) s9 m9 ar9 be9 me9 co9 (QP G9 be9 ar9 s9 w ex us (.int (nI (pkA A q)))) 4 (207 + ex.1 + ex.2) us 4 [some (.ref 0), some (.int (nI q)), some (.int (nI (mskN (pkP A q) k))), some (.int (nI k))] [] (fzM w ex us) := by
    intro zd4
    induction zd4 with
    | zero => intro k zm4 zh4_0; exfalso; omega
    | succ zd4 zih4 =>
      intro k zm4 zh4_0
      refine a_iload_n C dX6_keysOf_4 rfl rfl ?_
      refine a_aload_n C dX6_keysOf_5 rfl rfl ?_
      refine a_getfF C fX6_19 dX6_keysOf_6 (tw (by first | decide | omega)) (by first | decide | omega) rfl rfl ?_
      refine a_getf C fX6_80 dX6_keysOf_9 (tw (by first | decide | omega)) (by first | decide | omega) rfl (gl (DR_n hD hA)) ?_
      first | refine n_icmp_ge (tgt := 49) C dX6_keysOf_12 (by decide) (by first | decide | omega) (by first | decide | omega) (fun h_12 => ?_) (fun h_12 => ?_) | refine a_icmp_ge (tgt := 49) C dX6_keysOf_12 (by decide) (fun h_12 => ?_) (fun h_12 => ?_)
      · obtain rfl : k = kN A := by omega
        refine a_iload_n C dX6_keysOf_49 rfl rfl ?_
        refine f_iret C hr ?_ dX6_keysOf_50 ⟨?_, rfl⟩
        · rfl
        · rfl
      · refine a_iload_n C dX6_keysOf_15 rfl rfl ?_
        refine a_bipush (v := nI 12) C dX6_keysOf_16 (by decide) ?_
        first | refine n_icmp_ge (tgt := 49) C dX6_keysOf_18 (by decide) (by first | decide | omega) (by first | decide | omega) (fun h_18 => ?_) (fun h_18 => ?_) | refine a_icmp_ge (tgt := 49) C dX6_keysOf_18 (by decide) (fun h_18 => ?_) (fun h_18 => ?_)
        · exfalso; omega
        · have zq_o := hA.o4 (k := k) (by omega)
          refine a_aload_n C dX6_keysOf_21 rfl rfl ?_
          refine a_getfF C fX6_19 dX6_keysOf_22 (tw (by first | decide | omega)) (by first | decide | omega) rfl rfl ?_
          refine a_getfF C fX6_103 dX6_keysOf_25 (tw (by first | decide | omega)) (by first | decide | omega) rfl rfl ?_
          refine a_iload_n C dX6_keysOf_28 rfl rfl ?_
          refine a_aaldK C dX6_keysOf_29 (tw (by first | decide | omega)) (by first | decide | omega) rfl rfl (by first | decide | omega) (by decide) rfl ?_
          refine a_getf C fX6_123 dX6_keysOf_30 (tw (by first | decide | omega)) (by first | decide | omega) (fz_key (j := 0) (by decide) (by omega)) (gl (DR_ko hD hA (by omega))) ?_
          refine a_iload_n C dX6_keysOf_33 rfl rfl ?_
          first | refine n_icmp_ne (tgt := 43) C dX6_keysOf_34 (by decide) (by first | decide | omega) (by first | decide | omega) (fun h_34 => ?_) (fun h_34 => ?_) | refine a_icmp_ne (tgt := 43) C dX6_keysOf_34 (by decide) (fun h_34 => ?_) (fun h_34 => ?_)
          · refine n_iinc C dX6_keysOf_43 rfl (by decide) ?_
            refine a_goto (tgt := 4) C dX6_keysOf_46 (by decide) ?_
            refine a_join (aLe_s ?_ (aLe_s ?_ (aLe_s ?_ (aLe_s ?_ aLe_nil)))) rfl rfl (zih4 (k + 1) (by omega) (by omega))
            · first | with_reducible rfl | exact gl (by first | with_reducible rfl | (refine iF ?_; simp [mskN, pkP, h_12, h_18, h_34, (beq_eq_false_iff_ne.mpr h_34), (bne_iff_ne.mpr h_34)]; done) | (refine iT ?_; simp [mskN, pkP, h_12, h_18, h_34, (beq_eq_false_iff_ne.mpr h_34), (bne_iff_ne.mpr h_34)]; done) | (refine iB ?_; simp [mskN, pkP, h_12, h_18, h_34, (beq_eq_false_iff_ne.mpr h_34), (bne_iff_ne.mpr h_34)]; done) | (simp [mskN, pkP, h_12, h_18, h_34, (beq_eq_false_iff_ne.mpr h_34), (bne_iff_ne.mpr h_34)]; done) | (simp [mskN, pkP, h_12, h_18, h_34, (beq_eq_false_iff_ne.mpr h_34), (bne_iff_ne.mpr h_34)]; omega) | omega)
            · first | with_reducible rfl | exact gl (by first | with_reducible rfl | (refine iF ?_; simp [mskN, pkP, h_12, h_18, h_34, (beq_eq_false_iff_ne.mpr h_34), (bne_iff_ne.mpr h_34)]; done) | (refine iT ?_; simp [mskN, pkP, h_12, h_18, h_34, (beq_eq_false_iff_ne.mpr h_34), (bne_iff_ne.mpr h_34)]; done) | (refine iB ?_; simp [mskN, pkP, h_12, h_18, h_34, (beq_eq_false_iff_ne.mpr h_34), (bne_iff_ne.mpr h_34)]; done) | (simp [mskN, pkP, h_12, h_18, h_34, (beq_eq_false_iff_ne.mpr h_34), (bne_iff_ne.mpr h_34)]; done) | (simp [mskN, pkP, h_12, h_18, h_34, (beq_eq_false_iff_ne.mpr h_34), (bne_iff_ne.mpr h_34)]; omega) | omega)
            · first | with_reducible rfl | exact gl (by first | with_reducible rfl | (refine iF ?_; simp [mskN, pkP, h_12, h_18, h_34, (beq_eq_false_iff_ne.mpr h_34), (bne_iff_ne.mpr h_34)]; done) | (refine iT ?_; simp [mskN, pkP, h_12, h_18, h_34, (beq_eq_false_iff_ne.mpr h_34), (bne_iff_ne.mpr h_34)]; done) | (refine iB ?_; simp [mskN, pkP, h_12, h_18, h_34, (beq_eq_false_iff_ne.mpr h_34), (bne_iff_ne.mpr h_34)]; done) | (simp [mskN, pkP, h_12, h_18, h_34, (beq_eq_false_iff_ne.mpr h_34), (bne_iff_ne.mpr h_34)]; done) | (simp [mskN, pkP, h_12, h_18, h_34, (beq_eq_false_iff_ne.mpr h_34), (bne_iff_ne.mpr h_34)]; omega) | omega)
            · first | with_reducible rfl | exact gl (by first | with_reducible rfl | (refine iF ?_; simp [mskN, pkP, h_12, h_18, h_34, (beq_eq_false_iff_ne.mpr h_34), (bne_iff_ne.mpr h_34)]; done) | (refine iT ?_; simp [mskN, pkP, h_12, h_18, h_34, (beq_eq_false_iff_ne.mpr h_34), (bne_iff_ne.mpr h_34)]; done) | (refine iB ?_; simp [mskN, pkP, h_12, h_18, h_34, (beq_eq_false_iff_ne.mpr h_34), (bne_iff_ne.mpr h_34)]; done) | (simp [mskN, pkP, h_12, h_18, h_34, (beq_eq_false_iff_ne.mpr h_34), (bne_iff_ne.mpr h_34)]; done) | (simp [mskN, pkP, h_12, h_18, h_34, (beq_eq_false_iff_ne.mpr h_34), (bne_iff_ne.mpr h_34)]; omega) | omega)
          · refine a_iload_n C dX6_keysOf_37 rfl rfl ?_
            refine a_iconst (v := nI 1) C dX6_keysOf_38 (by decide) ?_
            refine a_iload_n C dX6_keysOf_39 rfl rfl ?_
            refine n_ishl C dX6_keysOf_40 (by omega) (p12_lt (by omega)) ?_
            first | refine n_ior C dX6_keysOf_41 ?_ | refine a_ior C dX6_keysOf_41 ?_
            refine a_istore_n C dX6_keysOf_42 rfl (by decide) ?_
            refine n_iinc C dX6_keysOf_43 rfl (by decide) ?_
            refine a_goto (tgt := 4) C dX6_keysOf_46 (by decide) ?_
            refine a_join (aLe_s ?_ (aLe_s ?_ (aLe_s ?_ (aLe_s ?_ aLe_nil)))) rfl rfl (zih4 (k + 1) (by omega) (by omega))
            · first | with_reducible rfl | exact gl (by first | with_reducible rfl | (refine iF ?_; simp [mskN, pkP, h_12, h_18, (eq_true h_34), (beq_iff_eq.mpr h_34), (bne_eq_false_iff_eq.mpr h_34)]; done) | (refine iT ?_; simp [mskN, pkP, h_12, h_18, (eq_true h_34), (beq_iff_eq.mpr h_34), (bne_eq_false_iff_eq.mpr h_34)]; done) | (refine iB ?_; simp [mskN, pkP, h_12, h_18, (eq_true h_34), (beq_iff_eq.mpr h_34), (bne_eq_false_iff_eq.mpr h_34)]; done) | (simp [mskN, pkP, h_12, h_18, (eq_true h_34), (beq_iff_eq.mpr h_34), (bne_eq_false_iff_eq.mpr h_34)]; done) | (simp [mskN, pkP, h_12, h_18, (eq_true h_34), (beq_iff_eq.mpr h_34), (bne_eq_false_iff_eq.mpr h_34)]; omega) | omega)
            · first | with_reducible rfl | exact gl (by first | with_reducible rfl | (refine iF ?_; simp [mskN, pkP, h_12, h_18, (eq_true h_34), (beq_iff_eq.mpr h_34), (bne_eq_false_iff_eq.mpr h_34)]; done) | (refine iT ?_; simp [mskN, pkP, h_12, h_18, (eq_true h_34), (beq_iff_eq.mpr h_34), (bne_eq_false_iff_eq.mpr h_34)]; done) | (refine iB ?_; simp [mskN, pkP, h_12, h_18, (eq_true h_34), (beq_iff_eq.mpr h_34), (bne_eq_false_iff_eq.mpr h_34)]; done) | (simp [mskN, pkP, h_12, h_18, (eq_true h_34), (beq_iff_eq.mpr h_34), (bne_eq_false_iff_eq.mpr h_34)]; done) | (simp [mskN, pkP, h_12, h_18, (eq_true h_34), (beq_iff_eq.mpr h_34), (bne_eq_false_iff_eq.mpr h_34)]; omega) | omega)
            · first | with_reducible rfl | exact gl (by first | with_reducible rfl | (refine iF ?_; simp [mskN, pkP, h_12, h_18, (eq_true h_34), (beq_iff_eq.mpr h_34), (bne_eq_false_iff_eq.mpr h_34)]; done) | (refine iT ?_; simp [mskN, pkP, h_12, h_18, (eq_true h_34), (beq_iff_eq.mpr h_34), (bne_eq_false_iff_eq.mpr h_34)]; done) | (refine iB ?_; simp [mskN, pkP, h_12, h_18, (eq_true h_34), (beq_iff_eq.mpr h_34), (bne_eq_false_iff_eq.mpr h_34)]; done) | (simp [mskN, pkP, h_12, h_18, (eq_true h_34), (beq_iff_eq.mpr h_34), (bne_eq_false_iff_eq.mpr h_34)]; done) | (simp [mskN, pkP, h_12, h_18, (eq_true h_34), (beq_iff_eq.mpr h_34), (bne_eq_false_iff_eq.mpr h_34)]; omega) | omega)
            · first | with_reducible rfl | exact gl (by first | with_reducible rfl | (refine iF ?_; simp [mskN, pkP, h_12, h_18, (eq_true h_34), (beq_iff_eq.mpr h_34), (bne_eq_false_iff_eq.mpr h_34)]; done) | (refine iT ?_; simp [mskN, pkP, h_12, h_18, (eq_true h_34), (beq_iff_eq.mpr h_34), (bne_eq_false_iff_eq.mpr h_34)]; done) | (refine iB ?_; simp [mskN, pkP, h_12, h_18, (eq_true h_34), (beq_iff_eq.mpr h_34), (bne_eq_false_iff_eq.mpr h_34)]; done) | (simp [mskN, pkP, h_12, h_18, (eq_true h_34), (beq_iff_eq.mpr h_34), (bne_eq_false_iff_eq.mpr h_34)]; done) | (simp [mskN, pkP, h_12, h_18, (eq_true h_34), (beq_iff_eq.mpr h_34), (bne_eq_false_iff_eq.mpr h_34)]; omega) | omega)
  refine a_pad 2 ?_
  refine a_eq (L' := [some (.ref 0), some (.int (nI q)), none, none]) rfl rfl rfl ?_
  refine a_iconst (v := nI 0) C dX6_keysOf_0 (by decide) ?_
  refine a_istore_n C dX6_keysOf_1 rfl (by decide) ?_
  refine a_iconst (v := nI 0) C dX6_keysOf_2 (by decide) ?_
  refine a_istore_n C dX6_keysOf_3 rfl (by decide) ?_
  refine a_join (aLe_s ?_ (aLe_s ?_ (aLe_s ?_ (aLe_s ?_ aLe_nil)))) rfl rfl (ZL4 (kN A + 1) 0 (by omega) (by omega))
  · first | with_reducible rfl | exact gl (by first | with_reducible rfl | (refine iF ?_; simp [mskN, pkP]; done) | (refine iT ?_; simp [mskN, pkP]; done) | (refine iB ?_; simp [mskN, pkP]; done) | (simp [mskN, pkP]; done) | (simp [mskN, pkP]; omega) | omega | rfl)
  · first | with_reducible rfl | exact gl (by first | with_reducible rfl | (refine iF ?_; simp [mskN, pkP]; done) | (refine iT ?_; simp [mskN, pkP]; done) | (refine iB ?_; simp [mskN, pkP]; done) | (simp [mskN, pkP]; done) | (simp [mskN, pkP]; omega) | omega | rfl)
  · first | with_reducible rfl | exact gl (by first | with_reducible rfl | (refine iF ?_; simp [mskN, pkP]; done) | (refine iT ?_; simp [mskN, pkP]; done) | (refine iB ?_; simp [mskN, pkP]; done) | (simp [mskN, pkP]; done) | (simp [mskN, pkP]; omega) | omega | rfl)
  · first | with_reducible rfl | exact gl (by first | with_reducible rfl | (refine iF ?_; simp [mskN, pkP]; done) | (refine iT ?_; simp [mskN, pkP]; done) | (refine iB ?_; simp [mskN, pkP]; done) | (simp [mskN, pkP]; done) | (simp [mskN, pkP]; omega) | omega | rfl)

set_option maxRecDepth 20000 in
set_option maxHeartbeats 4000000 in
theorem K_X6_locksFor {w : Wd} {A : St} (hD : DR w 3 A) (hA : AOK A) {q : Nat} (hq : q < 4) : CP yX6_locksFor cX6_locksFor 4 (some .int) 3 68 [.ref 0, .int (nI q)] w (.int (nI (plA A q))) := by
  have zq_n := hA.n12
  refine CF.of ok_X6_locksFor (Nat.le_of_ble_eq_true rfl) (fun ex us G9 p9 l9 e9 s9 m9 ar9 be9 me9 co9 C hr => ?_)
  have ZL4 : ∀ (zd4 : Nat) (k : Nat), kN A + 1 ≤ k + zd4 → k ≤ kN A → WA G9 p9 l9 e9 (RM 3 68) s9 m9 ar9 be9 me9 co9 (QP G9 be9 ar9 s9 w ex us (.int (nI (plA A q)))) 4 (207 + ex.1 + ex.2) us 4 [some (.ref 0), some (.int (nI q)), some (.int (nI (orN (plV A q) k))), some (.int (nI k))] [] (fzM w ex us) := by
    intro zd4
    induction zd4 with
    | zero => intro k zm4 zh4_0; exfalso; omega
    | succ zd4 zih4 =>
      intro k zm4 zh4_0
      refine a_iload_n C dX6_locksFor_4 rfl rfl ?_
      refine a_aload_n C dX6_locksFor_5 rfl rfl ?_
      refine a_getfF C fX6_19 dX6_locksFor_6 (tw (by first | decide | omega)) (by first | decide | omega) rfl rfl ?_
      refine a_getf C fX6_80 dX6_locksFor_9 (tw (by first | decide | omega)) (by first | decide | omega) rfl (gl (DR_n hD hA)) ?_
      first | refine n_icmp_ge (tgt := 66) C dX6_locksFor_12 (by decide) (by first | decide | omega) (by first | decide | omega) (fun h_12 => ?_) (fun h_12 => ?_) | refine a_icmp_ge (tgt := 66) C dX6_locksFor_12 (by decide) (fun h_12 => ?_) (fun h_12 => ?_)
      · obtain rfl : k = kN A := by omega
        refine a_iload_n C dX6_locksFor_66 rfl rfl ?_
        refine f_iret C hr ?_ dX6_locksFor_67 ⟨?_, rfl⟩
        · rfl
        · rfl
      · refine a_iload_n C dX6_locksFor_15 rfl rfl ?_
        refine a_bipush (v := nI 12) C dX6_locksFor_16 (by decide) ?_
        first | refine n_icmp_ge (tgt := 66) C dX6_locksFor_18 (by decide) (by first | decide | omega) (by first | decide | omega) (fun h_18 => ?_) (fun h_18 => ?_) | refine a_icmp_ge (tgt := 66) C dX6_locksFor_18 (by decide) (fun h_18 => ?_) (fun h_18 => ?_)
        · exfalso; omega
        · have zq_o := hA.o4 (k := k) (by omega)
          refine a_aload_n C dX6_locksFor_21 rfl rfl ?_
          refine a_getfF C fX6_19 dX6_locksFor_22 (tw (by first | decide | omega)) (by first | decide | omega) rfl rfl ?_
          refine a_getfF C fX6_103 dX6_locksFor_25 (tw (by first | decide | omega)) (by first | decide | omega) rfl rfl ?_
          refine a_iload_n C dX6_locksFor_28 rfl rfl ?_
          refine a_aaldK C dX6_locksFor_29 (tw (by first | decide | omega)) (by first | decide | omega) rfl rfl (by first | decide | omega) (by decide) rfl ?_
          refine a_getf C fX6_123 dX6_locksFor_30 (tw (by first | decide | omega)) (by first | decide | omega) (fz_key (j := 0) (by decide) (by omega)) (gl (DR_ko hD hA (by omega))) ?_
          refine a_iload_n C dX6_locksFor_33 rfl rfl ?_
          first | refine n_icmp_ne (tgt := 60) C dX6_locksFor_34 (by decide) (by first | decide | omega) (by first | decide | omega) (fun h_34 => ?_) (fun h_34 => ?_) | refine a_icmp_ne (tgt := 60) C dX6_locksFor_34 (by decide) (fun h_34 => ?_) (fun h_34 => ?_)
          · refine n_iinc C dX6_locksFor_60 rfl (by decide) ?_
            refine a_goto (tgt := 4) C dX6_locksFor_63 (by decide) ?_
            refine a_join (aLe_s ?_ (aLe_s ?_ (aLe_s ?_ (aLe_s ?_ aLe_nil)))) rfl rfl (zih4 (k + 1) (by omega) (by omega))
            · first | with_reducible rfl | exact gl (by first | with_reducible rfl | (refine iF ?_; simp [orN, plV, pkP, h_12, h_18, h_34, (beq_eq_false_iff_ne.mpr h_34), (bne_iff_ne.mpr h_34)]; done) | (refine iT ?_; simp [orN, plV, pkP, h_12, h_18, h_34, (beq_eq_false_iff_ne.mpr h_34), (bne_iff_ne.mpr h_34)]; done) | (refine iB ?_; simp [orN, plV, pkP, h_12, h_18, h_34, (beq_eq_false_iff_ne.mpr h_34), (bne_iff_ne.mpr h_34)]; done) | (simp [orN, plV, pkP, h_12, h_18, h_34, (beq_eq_false_iff_ne.mpr h_34), (bne_iff_ne.mpr h_34)]; done) | (simp [orN, plV, pkP, h_12, h_18, h_34, (beq_eq_false_iff_ne.mpr h_34), (bne_iff_ne.mpr h_34)]; omega) | omega)
            · first | with_reducible rfl | exact gl (by first | with_reducible rfl | (refine iF ?_; simp [orN, plV, pkP, h_12, h_18, h_34, (beq_eq_false_iff_ne.mpr h_34), (bne_iff_ne.mpr h_34)]; done) | (refine iT ?_; simp [orN, plV, pkP, h_12, h_18, h_34, (beq_eq_false_iff_ne.mpr h_34), (bne_iff_ne.mpr h_34)]; done) | (refine iB ?_; simp [orN, plV, pkP, h_12, h_18, h_34, (beq_eq_false_iff_ne.mpr h_34), (bne_iff_ne.mpr h_34)]; done) | (simp [orN, plV, pkP, h_12, h_18, h_34, (beq_eq_false_iff_ne.mpr h_34), (bne_iff_ne.mpr h_34)]; done) | (simp [orN, plV, pkP, h_12, h_18, h_34, (beq_eq_false_iff_ne.mpr h_34), (bne_iff_ne.mpr h_34)]; omega) | omega)
            · first | with_reducible rfl | exact gl (by first | with_reducible rfl | (refine iF ?_; simp [orN, plV, pkP, h_12, h_18, h_34, (beq_eq_false_iff_ne.mpr h_34), (bne_iff_ne.mpr h_34)]; done) | (refine iT ?_; simp [orN, plV, pkP, h_12, h_18, h_34, (beq_eq_false_iff_ne.mpr h_34), (bne_iff_ne.mpr h_34)]; done) | (refine iB ?_; simp [orN, plV, pkP, h_12, h_18, h_34, (beq_eq_false_iff_ne.mpr h_34), (bne_iff_ne.mpr h_34)]; done) | (simp [orN, plV, pkP, h_12, h_18, h_34, (beq_eq_false_iff_ne.mpr h_34), (bne_iff_ne.mpr h_34)]; done) | (simp [orN, plV, pkP, h_12, h_18, h_34, (beq_eq_false_iff_ne.mpr h_34), (bne_iff_ne.mpr h_34)]; omega) | omega)
            · first | with_reducible rfl | exact gl (by first | with_reducible rfl | (refine iF ?_; simp [orN, plV, pkP, h_12, h_18, h_34, (beq_eq_false_iff_ne.mpr h_34), (bne_iff_ne.mpr h_34)]; done) | (refine iT ?_; simp [orN, plV, pkP, h_12, h_18, h_34, (beq_eq_false_iff_ne.mpr h_34), (bne_iff_ne.mpr h_34)]; done) | (refine iB ?_; simp [orN, plV, pkP, h_12, h_18, h_34, (beq_eq_false_iff_ne.mpr h_34), (bne_iff_ne.mpr h_34)]; done) | (simp [orN, plV, pkP, h_12, h_18, h_34, (beq_eq_false_iff_ne.mpr h_34), (bne_iff_ne.mpr h_34)]; done) | (simp [orN, plV, pkP, h_12, h_18, h_34, (beq_eq_false_iff_ne.mpr h_34), (bne_iff_ne.mpr h_34)]; omega) | omega)
          · refine a_aload_n C dX6_locksFor_37 rfl rfl ?_
            refine a_getfF C fX6_19 dX6_locksFor_38 (tw (by first | decide | omega)) (by first | decide | omega) rfl rfl ?_
            refine a_getfF C fX6_103 dX6_locksFor_41 (tw (by first | decide | omega)) (by first | decide | omega) rfl rfl ?_
            refine a_iload_n C dX6_locksFor_44 rfl rfl ?_
            refine a_aaldK C dX6_locksFor_45 (tw (by first | decide | omega)) (by first | decide | omega) rfl rfl (by first | decide | omega) (by decide) rfl ?_
            refine a_getf C fX6_126 dX6_locksFor_46 (tw (by first | decide | omega)) (by first | decide | omega) (fz_key (j := 0) (by decide) (by omega)) (gl (DR_kl hD hA (by omega))) ?_
            first | refine b_if_ne (tgt := 60) C dX6_locksFor_49 (by decide) (fun h_49 => ?_) (fun h_49 => ?_) | refine n_if_ne (tgt := 60) C dX6_locksFor_49 (by decide) (by first | decide | omega) (fun h_49 => ?_) (fun h_49 => ?_) | refine a_if_ne (tgt := 60) C dX6_locksFor_49 (by decide) (fun h_49 => ?_) (fun h_49 => ?_)
            · refine n_iinc C dX6_locksFor_60 rfl (by decide) ?_
              refine a_goto (tgt := 4) C dX6_locksFor_63 (by decide) ?_
              refine a_join (aLe_s ?_ (aLe_s ?_ (aLe_s ?_ (aLe_s ?_ aLe_nil)))) rfl rfl (zih4 (k + 1) (by omega) (by omega))
              · first | with_reducible rfl | exact gl (by first | with_reducible rfl | (refine iF ?_; simp [orN, plV, pkP, h_12, h_18, (eq_true h_34), (beq_iff_eq.mpr h_34), (bne_eq_false_iff_eq.mpr h_34), h_49]; done) | (refine iT ?_; simp [orN, plV, pkP, h_12, h_18, (eq_true h_34), (beq_iff_eq.mpr h_34), (bne_eq_false_iff_eq.mpr h_34), h_49]; done) | (refine iB ?_; simp [orN, plV, pkP, h_12, h_18, (eq_true h_34), (beq_iff_eq.mpr h_34), (bne_eq_false_iff_eq.mpr h_34), h_49]; done) | (simp [orN, plV, pkP, h_12, h_18, (eq_true h_34), (beq_iff_eq.mpr h_34), (bne_eq_false_iff_eq.mpr h_34), h_49]; done) | (simp [orN, plV, pkP, h_12, h_18, (eq_true h_34), (beq_iff_eq.mpr h_34), (bne_eq_false_iff_eq.mpr h_34), h_49]; omega) | omega)
              · first | with_reducible rfl | exact gl (by first | with_reducible rfl | (refine iF ?_; simp [orN, plV, pkP, h_12, h_18, (eq_true h_34), (beq_iff_eq.mpr h_34), (bne_eq_false_iff_eq.mpr h_34), h_49]; done) | (refine iT ?_; simp [orN, plV, pkP, h_12, h_18, (eq_true h_34), (beq_iff_eq.mpr h_34), (bne_eq_false_iff_eq.mpr h_34), h_49]; done) | (refine iB ?_; simp [orN, plV, pkP, h_12, h_18, (eq_true h_34), (beq_iff_eq.mpr h_34), (bne_eq_false_iff_eq.mpr h_34), h_49]; done) | (simp [orN, plV, pkP, h_12, h_18, (eq_true h_34), (beq_iff_eq.mpr h_34), (bne_eq_false_iff_eq.mpr h_34), h_49]; done) | (simp [orN, plV, pkP, h_12, h_18, (eq_true h_34), (beq_iff_eq.mpr h_34), (bne_eq_false_iff_eq.mpr h_34), h_49]; omega) | omega)
              · first | with_reducible rfl | exact gl (by first | with_reducible rfl | (refine iF ?_; simp [orN, plV, pkP, h_12, h_18, (eq_true h_34), (beq_iff_eq.mpr h_34), (bne_eq_false_iff_eq.mpr h_34), h_49]; done) | (refine iT ?_; simp [orN, plV, pkP, h_12, h_18, (eq_true h_34), (beq_iff_eq.mpr h_34), (bne_eq_false_iff_eq.mpr h_34), h_49]; done) | (refine iB ?_; simp [orN, plV, pkP, h_12, h_18, (eq_true h_34), (beq_iff_eq.mpr h_34), (bne_eq_false_iff_eq.mpr h_34), h_49]; done) | (simp [orN, plV, pkP, h_12, h_18, (eq_true h_34), (beq_iff_eq.mpr h_34), (bne_eq_false_iff_eq.mpr h_34), h_49]; done) | (simp [orN, plV, pkP, h_12, h_18, (eq_true h_34), (beq_iff_eq.mpr h_34), (bne_eq_false_iff_eq.mpr h_34), h_49]; omega) | omega)
              · first | with_reducible rfl | exact gl (by first | with_reducible rfl | (refine iF ?_; simp [orN, plV, pkP, h_12, h_18, (eq_true h_34), (beq_iff_eq.mpr h_34), (bne_eq_false_iff_eq.mpr h_34), h_49]; done) | (refine iT ?_; simp [orN, plV, pkP, h_12, h_18, (eq_true h_34), (beq_iff_eq.mpr h_34), (bne_eq_false_iff_eq.mpr h_34), h_49]; done) | (refine iB ?_; simp [orN, plV, pkP, h_12, h_18, (eq_true h_34), (beq_iff_eq.mpr h_34), (bne_eq_false_iff_eq.mpr h_34), h_49]; done) | (simp [orN, plV, pkP, h_12, h_18, (eq_true h_34), (beq_iff_eq.mpr h_34), (bne_eq_false_iff_eq.mpr h_34), h_49]; done) | (simp [orN, plV, pkP, h_12, h_18, (eq_true h_34), (beq_iff_eq.mpr h_34), (bne_eq_false_iff_eq.mpr h_34), h_49]; omega) | omega)
            · refine a_iload_n C dX6_locksFor_52 rfl rfl ?_
              refine a_aload_n C dX6_locksFor_53 rfl rfl ?_
              refine a_iload_n C dX6_locksFor_54 rfl rfl ?_
              refine p_callV C (K_X6_locksOpenedBy hD hA (by first | assumption | decide | omega)) vX6_132 rfl (by first | decide | omega) rfl rfl dX6_locksFor_55 (Nat.le_of_ble_eq_true rfl) ⟨by decide, by decide⟩ ?_
              first | refine n_ior C dX6_locksFor_58 ?_ | refine a_ior C dX6_locksFor_58 ?_
              refine a_istore_n C dX6_locksFor_59 rfl (by decide) ?_
              refine n_iinc C dX6_locksFor_60 rfl (by decide) ?_
              refine a_goto (tgt := 4) C dX6_locksFor_63 (by decide) ?_
              refine a_join (aLe_s ?_ (aLe_s ?_ (aLe_s ?_ (aLe_s ?_ aLe_nil)))) rfl rfl (zih4 (k + 1) (by omega) (by omega))
              · first | with_reducible rfl | exact gl (by first | with_reducible rfl | (refine iF ?_; simp [orN, plV, pkP, h_12, h_18, (eq_true h_34), (beq_iff_eq.mpr h_34), (bne_eq_false_iff_eq.mpr h_34), h_49]; done) | (refine iT ?_; simp [orN, plV, pkP, h_12, h_18, (eq_true h_34), (beq_iff_eq.mpr h_34), (bne_eq_false_iff_eq.mpr h_34), h_49]; done) | (refine iB ?_; simp [orN, plV, pkP, h_12, h_18, (eq_true h_34), (beq_iff_eq.mpr h_34), (bne_eq_false_iff_eq.mpr h_34), h_49]; done) | (simp [orN, plV, pkP, h_12, h_18, (eq_true h_34), (beq_iff_eq.mpr h_34), (bne_eq_false_iff_eq.mpr h_34), h_49]; done) | (simp [orN, plV, pkP, h_12, h_18, (eq_true h_34), (beq_iff_eq.mpr h_34), (bne_eq_false_iff_eq.mpr h_34), h_49]; omega) | omega)
              · first | with_reducible rfl | exact gl (by first | with_reducible rfl | (refine iF ?_; simp [orN, plV, pkP, h_12, h_18, (eq_true h_34), (beq_iff_eq.mpr h_34), (bne_eq_false_iff_eq.mpr h_34), h_49]; done) | (refine iT ?_; simp [orN, plV, pkP, h_12, h_18, (eq_true h_34), (beq_iff_eq.mpr h_34), (bne_eq_false_iff_eq.mpr h_34), h_49]; done) | (refine iB ?_; simp [orN, plV, pkP, h_12, h_18, (eq_true h_34), (beq_iff_eq.mpr h_34), (bne_eq_false_iff_eq.mpr h_34), h_49]; done) | (simp [orN, plV, pkP, h_12, h_18, (eq_true h_34), (beq_iff_eq.mpr h_34), (bne_eq_false_iff_eq.mpr h_34), h_49]; done) | (simp [orN, plV, pkP, h_12, h_18, (eq_true h_34), (beq_iff_eq.mpr h_34), (bne_eq_false_iff_eq.mpr h_34), h_49]; omega) | omega)
              · first | with_reducible rfl | exact gl (by first | with_reducible rfl | (refine iF ?_; simp [orN, plV, pkP, h_12, h_18, (eq_true h_34), (beq_iff_eq.mpr h_34), (bne_eq_false_iff_eq.mpr h_34), h_49]; done) | (refine iT ?_; simp [orN, plV, pkP, h_12, h_18, (eq_true h_34), (beq_iff_eq.mpr h_34), (bne_eq_false_iff_eq.mpr h_34), h_49]; done) | (refine iB ?_; simp [orN, plV, pkP, h_12, h_18, (eq_true h_34), (beq_iff_eq.mpr h_34), (bne_eq_false_iff_eq.mpr h_34), h_49]; done) | (simp [orN, plV, pkP, h_12, h_18, (eq_true h_34), (beq_iff_eq.mpr h_34), (bne_eq_false_iff_eq.mpr h_34), h_49]; done) | (simp [orN, plV, pkP, h_12, h_18, (eq_true h_34), (beq_iff_eq.mpr h_34), (bne_eq_false_iff_eq.mpr h_34), h_49]; omega) | omega)
              · first | with_reducible rfl | exact gl (by first | with_reducible rfl | (refine iF ?_; simp [orN, plV, pkP, h_12, h_18, (eq_true h_34), (beq_iff_eq.mpr h_34), (bne_eq_false_iff_eq.mpr h_34), h_49]; done) | (refine iT ?_; simp [orN, plV, pkP, h_12, h_18, (eq_true h_34), (beq_iff_eq.mpr h_34), (bne_eq_false_iff_eq.mpr h_34), h_49]; done) | (refine iB ?_; simp [orN, plV, pkP, h_12, h_18, (eq_true h_34), (beq_iff_eq.mpr h_34), (bne_eq_false_iff_eq.mpr h_34), h_49]; done) | (simp [orN, plV, pkP, h_12, h_18, (eq_true h_34), (beq_iff_eq.mpr h_34), (bne_eq_false_iff_eq.mpr h_34), h_49]; done) | (simp [orN, plV, pkP, h_12, h_18, (eq_true h_34), (beq_iff_eq.mpr h_34), (bne_eq_false_iff_eq.mpr h_34), h_49]; omega) | omega)
  refine a_pad 2 ?_
  refine a_eq (L' := [some (.ref 0), some (.int (nI q)), none, none]) rfl rfl rfl ?_
  refine a_iconst (v := nI 0) C dX6_locksFor_0 (by decide) ?_
  refine a_istore_n C dX6_locksFor_1 rfl (by decide) ?_
  refine a_iconst (v := nI 0) C dX6_locksFor_2 (by decide) ?_
  refine a_istore_n C dX6_locksFor_3 rfl (by decide) ?_
  refine a_join (aLe_s ?_ (aLe_s ?_ (aLe_s ?_ (aLe_s ?_ aLe_nil)))) rfl rfl (ZL4 (kN A + 1) 0 (by omega) (by omega))
  · first | with_reducible rfl | exact gl (by first | with_reducible rfl | (refine iF ?_; simp [orN, plV, pkP]; done) | (refine iT ?_; simp [orN, plV, pkP]; done) | (refine iB ?_; simp [orN, plV, pkP]; done) | (simp [orN, plV, pkP]; done) | (simp [orN, plV, pkP]; omega) | omega | rfl)
  · first | with_reducible rfl | exact gl (by first | with_reducible rfl | (refine iF ?_; simp [orN, plV, pkP]; done) | (refine iT ?_; simp [orN, plV, pkP]; done) | (refine iB ?_; simp [orN, plV, pkP]; done) | (simp [orN, plV, pkP]; done) | (simp [orN, plV, pkP]; omega) | omega | rfl)
  · first | with_reducible rfl | exact gl (by first | with_reducible rfl | (refine iF ?_; simp [orN, plV, pkP]; done) | (refine iT ?_; simp [orN, plV, pkP]; done) | (refine iB ?_; simp [orN, plV, pkP]; done) | (simp [orN, plV, pkP]; done) | (simp [orN, plV, pkP]; omega) | omega | rfl)
  · first | with_reducible rfl | exact gl (by first | with_reducible rfl | (refine iF ?_; simp [orN, plV, pkP]; done) | (refine iT ?_; simp [orN, plV, pkP]; done) | (refine iB ?_; simp [orN, plV, pkP]; done) | (simp [orN, plV, pkP]; done) | (simp [orN, plV, pkP]; omega) | omega | rfl)

set_option maxRecDepth 20000 in
set_option maxHeartbeats 4000000 in
theorem K_X6_keysOver {w : Wd} {A : St} (hD : DR w 3 A) (hA : AOK A) {c : Nat} (hc : c < 81) : CP yX6_keysOver cX6_keysOver 4 (some .int) 1 22 [.ref 0, .int (nI c)] w (.int (nI (cbA A true c))) := by
  have zq_n := hA.n12
  refine CF.of ok_X6_keysOver (Nat.le_of_ble_eq_true rfl) (fun ex us G9 p9 l9 e9 s9 m9 ar9 be9 me9 co9 C hr => ?_)
  have ZL4 : ∀ (zd4 : Nat) (k : Nat), kN A + 1 ≤ k + zd4 → k ≤ kN A → WA G9 p9 l9 e9 (RM 1 22) s9 m9 ar9 be9 me9 co9 (QP G9 be9 ar9 s9 w ex us (.int (nI (cbA A true c)))) 4 (207 + ex.1 + ex.2) us 4 [some (.ref 0), some (.int (nI c)), some (.int (nI (mskN (cbP A true c) k))), some (.int (nI k))] [] (fzM w ex us) := by
    intro zd4
    induction zd4 with
    | zero => intro k zm4 zh4_0; exfalso; omega
    | succ zd4 zih4 =>
      intro k zm4 zh4_0
      refine a_iload_n C dX6_keysOver_4 rfl rfl ?_
      refine a_aload_n C dX6_keysOver_5 rfl rfl ?_
      refine a_getfF C fX6_19 dX6_keysOver_6 (tw (by first | decide | omega)) (by first | decide | omega) rfl rfl ?_
      refine a_getf C fX6_80 dX6_keysOver_9 (tw (by first | decide | omega)) (by first | decide | omega) rfl (gl (DR_n hD hA)) ?_
      first | refine n_icmp_ge (tgt := 56) C dX6_keysOver_12 (by decide) (by first | decide | omega) (by first | decide | omega) (fun h_12 => ?_) (fun h_12 => ?_) | refine a_icmp_ge (tgt := 56) C dX6_keysOver_12 (by decide) (fun h_12 => ?_) (fun h_12 => ?_)
      · obtain rfl : k = kN A := by omega
        refine a_iload_n C dX6_keysOver_56 rfl rfl ?_
        refine f_iret C hr ?_ dX6_keysOver_57 ⟨?_, rfl⟩
        · rfl
        · rfl
      · refine a_iload_n C dX6_keysOver_15 rfl rfl ?_
        refine a_bipush (v := nI 12) C dX6_keysOver_16 (by decide) ?_
        first | refine n_icmp_ge (tgt := 56) C dX6_keysOver_18 (by decide) (by first | decide | omega) (by first | decide | omega) (fun h_18 => ?_) (fun h_18 => ?_) | refine a_icmp_ge (tgt := 56) C dX6_keysOver_18 (by decide) (fun h_18 => ?_) (fun h_18 => ?_)
        · exfalso; omega
        · have zq_c := hA.c81 (k := k) (by omega)
          refine a_aload_n C dX6_keysOver_21 rfl rfl ?_
          refine a_getfF C fX6_37 dX6_keysOver_22 (tw (by first | decide | omega)) (by first | decide | omega) rfl rfl ?_
          refine a_iload_n C dX6_keysOver_25 rfl rfl ?_
          refine a_aload_n C dX6_keysOver_26 rfl rfl ?_
          refine a_getfF C fX6_19 dX6_keysOver_27 (tw (by first | decide | omega)) (by first | decide | omega) rfl rfl ?_
          refine a_getfF C fX6_103 dX6_keysOver_30 (tw (by first | decide | omega)) (by first | decide | omega) rfl rfl ?_
          refine a_iload_n C dX6_keysOver_33 rfl rfl ?_
          refine a_aaldK C dX6_keysOver_34 (tw (by first | decide | omega)) (by first | decide | omega) rfl rfl (by first | decide | omega) (by decide) rfl ?_
          refine a_getf C fX6_107 dX6_keysOver_35 (tw (by first | decide | omega)) (by first | decide | omega) (fz_key (j := 0) (by decide) (by omega)) (gl (DR_kc hD hA (by omega))) ?_
          refine p_callV C (K_X1_liesUnder (by first | assumption | decide | omega) (by first | assumption | decide | omega)) vX6_464 rfl (by first | decide | omega) rfl rfl dX6_keysOver_38 (Nat.le_of_ble_eq_true rfl) ⟨by decide, by decide⟩ ?_
          first | refine b_if_eq (tgt := 50) C dX6_keysOver_41 (by decide) (fun h_41 => ?_) (fun h_41 => ?_) | refine n_if_eq (tgt := 50) C dX6_keysOver_41 (by decide) (by first | decide | omega) (fun h_41 => ?_) (fun h_41 => ?_) | refine a_if_eq (tgt := 50) C dX6_keysOver_41 (by decide) (fun h_41 => ?_) (fun h_41 => ?_)
          · refine n_iinc C dX6_keysOver_50 rfl (by decide) ?_
            refine a_goto (tgt := 4) C dX6_keysOver_53 (by decide) ?_
            refine a_join (aLe_s ?_ (aLe_s ?_ (aLe_s ?_ (aLe_s ?_ aLe_nil)))) rfl rfl (zih4 (k + 1) (by omega) (by omega))
            · first | with_reducible rfl | exact gl (by first | with_reducible rfl | (refine iF ?_; simp [mskN, cbP, h_12, h_18, h_41]; done) | (refine iT ?_; simp [mskN, cbP, h_12, h_18, h_41]; done) | (refine iB ?_; simp [mskN, cbP, h_12, h_18, h_41]; done) | (simp [mskN, cbP, h_12, h_18, h_41]; done) | (simp [mskN, cbP, h_12, h_18, h_41]; omega) | omega)
            · first | with_reducible rfl | exact gl (by first | with_reducible rfl | (refine iF ?_; simp [mskN, cbP, h_12, h_18, h_41]; done) | (refine iT ?_; simp [mskN, cbP, h_12, h_18, h_41]; done) | (refine iB ?_; simp [mskN, cbP, h_12, h_18, h_41]; done) | (simp [mskN, cbP, h_12, h_18, h_41]; done) | (simp [mskN, cbP, h_12, h_18, h_41]; omega) | omega)
            · first | with_reducible rfl | exact gl (by first | with_reducible rfl | (refine iF ?_; simp [mskN, cbP, h_12, h_18, h_41]; done) | (refine iT ?_; simp [mskN, cbP, h_12, h_18, h_41]; done) | (refine iB ?_; simp [mskN, cbP, h_12, h_18, h_41]; done) | (simp [mskN, cbP, h_12, h_18, h_41]; done) | (simp [mskN, cbP, h_12, h_18, h_41]; omega) | omega)
            · first | with_reducible rfl | exact gl (by first | with_reducible rfl | (refine iF ?_; simp [mskN, cbP, h_12, h_18, h_41]; done) | (refine iT ?_; simp [mskN, cbP, h_12, h_18, h_41]; done) | (refine iB ?_; simp [mskN, cbP, h_12, h_18, h_41]; done) | (simp [mskN, cbP, h_12, h_18, h_41]; done) | (simp [mskN, cbP, h_12, h_18, h_41]; omega) | omega)
          · refine a_iload_n C dX6_keysOver_44 rfl rfl ?_
            refine a_iconst (v := nI 1) C dX6_keysOver_45 (by decide) ?_
            refine a_iload_n C dX6_keysOver_46 rfl rfl ?_
            refine n_ishl C dX6_keysOver_47 (by omega) (p12_lt (by omega)) ?_
            first | refine n_ior C dX6_keysOver_48 ?_ | refine a_ior C dX6_keysOver_48 ?_
            refine a_istore_n C dX6_keysOver_49 rfl (by decide) ?_
            refine n_iinc C dX6_keysOver_50 rfl (by decide) ?_
            refine a_goto (tgt := 4) C dX6_keysOver_53 (by decide) ?_
            refine a_join (aLe_s ?_ (aLe_s ?_ (aLe_s ?_ (aLe_s ?_ aLe_nil)))) rfl rfl (zih4 (k + 1) (by omega) (by omega))
            · first | with_reducible rfl | exact gl (by first | with_reducible rfl | (refine iF ?_; simp [mskN, cbP, h_12, h_18, h_41]; done) | (refine iT ?_; simp [mskN, cbP, h_12, h_18, h_41]; done) | (refine iB ?_; simp [mskN, cbP, h_12, h_18, h_41]; done) | (simp [mskN, cbP, h_12, h_18, h_41]; done) | (simp [mskN, cbP, h_12, h_18, h_41]; omega) | omega)
            · first | with_reducible rfl | exact gl (by first | with_reducible rfl | (refine iF ?_; simp [mskN, cbP, h_12, h_18, h_41]; done) | (refine iT ?_; simp [mskN, cbP, h_12, h_18, h_41]; done) | (refine iB ?_; simp [mskN, cbP, h_12, h_18, h_41]; done) | (simp [mskN, cbP, h_12, h_18, h_41]; done) | (simp [mskN, cbP, h_12, h_18, h_41]; omega) | omega)
            · first | with_reducible rfl | exact gl (by first | with_reducible rfl | (refine iF ?_; simp [mskN, cbP, h_12, h_18, h_41]; done) | (refine iT ?_; simp [mskN, cbP, h_12, h_18, h_41]; done) | (refine iB ?_; simp [mskN, cbP, h_12, h_18, h_41]; done) | (simp [mskN, cbP, h_12, h_18, h_41]; done) | (simp [mskN, cbP, h_12, h_18, h_41]; omega) | omega)
            · first | with_reducible rfl | exact gl (by first | with_reducible rfl | (refine iF ?_; simp [mskN, cbP, h_12, h_18, h_41]; done) | (refine iT ?_; simp [mskN, cbP, h_12, h_18, h_41]; done) | (refine iB ?_; simp [mskN, cbP, h_12, h_18, h_41]; done) | (simp [mskN, cbP, h_12, h_18, h_41]; done) | (simp [mskN, cbP, h_12, h_18, h_41]; omega) | omega)
  refine a_pad 2 ?_
  refine a_eq (L' := [some (.ref 0), some (.int (nI c)), none, none]) rfl rfl rfl ?_
  refine a_iconst (v := nI 0) C dX6_keysOver_0 (by decide) ?_
  refine a_istore_n C dX6_keysOver_1 rfl (by decide) ?_
  refine a_iconst (v := nI 0) C dX6_keysOver_2 (by decide) ?_
  refine a_istore_n C dX6_keysOver_3 rfl (by decide) ?_
  refine a_join (aLe_s ?_ (aLe_s ?_ (aLe_s ?_ (aLe_s ?_ aLe_nil)))) rfl rfl (ZL4 (kN A + 1) 0 (by omega) (by omega))
  · first | with_reducible rfl | exact gl (by first | with_reducible rfl | (refine iF ?_; simp [mskN, cbP]; done) | (refine iT ?_; simp [mskN, cbP]; done) | (refine iB ?_; simp [mskN, cbP]; done) | (simp [mskN, cbP]; done) | (simp [mskN, cbP]; omega) | omega | rfl)
  · first | with_reducible rfl | exact gl (by first | with_reducible rfl | (refine iF ?_; simp [mskN, cbP]; done) | (refine iT ?_; simp [mskN, cbP]; done) | (refine iB ?_; simp [mskN, cbP]; done) | (simp [mskN, cbP]; done) | (simp [mskN, cbP]; omega) | omega | rfl)
  · first | with_reducible rfl | exact gl (by first | with_reducible rfl | (refine iF ?_; simp [mskN, cbP]; done) | (refine iT ?_; simp [mskN, cbP]; done) | (refine iB ?_; simp [mskN, cbP]; done) | (simp [mskN, cbP]; done) | (simp [mskN, cbP]; omega) | omega | rfl)
  · first | with_reducible rfl | exact gl (by first | with_reducible rfl | (refine iF ?_; simp [mskN, cbP]; done) | (refine iT ?_; simp [mskN, cbP]; done) | (refine iB ?_; simp [mskN, cbP]; done) | (simp [mskN, cbP]; done) | (simp [mskN, cbP]; omega) | omega | rfl)

set_option maxRecDepth 20000 in
set_option maxHeartbeats 4000000 in
theorem K_X6_keysUnder {w : Wd} {A : St} (hD : DR w 3 A) (hA : AOK A) {c : Nat} (hc : c < 81) : CP yX6_keysUnder cX6_keysUnder 4 (some .int) 1 22 [.ref 0, .int (nI c)] w (.int (nI (cbA A false c))) := by
  have zq_n := hA.n12
  refine CF.of ok_X6_keysUnder (Nat.le_of_ble_eq_true rfl) (fun ex us G9 p9 l9 e9 s9 m9 ar9 be9 me9 co9 C hr => ?_)
  have ZL4 : ∀ (zd4 : Nat) (k : Nat), kN A + 1 ≤ k + zd4 → k ≤ kN A → WA G9 p9 l9 e9 (RM 1 22) s9 m9 ar9 be9 me9 co9 (QP G9 be9 ar9 s9 w ex us (.int (nI (cbA A false c)))) 4 (207 + ex.1 + ex.2) us 4 [some (.ref 0), some (.int (nI c)), some (.int (nI (mskN (cbP A false c) k))), some (.int (nI k))] [] (fzM w ex us) := by
    intro zd4
    induction zd4 with
    | zero => intro k zm4 zh4_0; exfalso; omega
    | succ zd4 zih4 =>
      intro k zm4 zh4_0
      refine a_iload_n C dX6_keysUnder_4 rfl rfl ?_
      refine a_aload_n C dX6_keysUnder_5 rfl rfl ?_
      refine a_getfF C fX6_19 dX6_keysUnder_6 (tw (by first | decide | omega)) (by first | decide | omega) rfl rfl ?_
      refine a_getf C fX6_80 dX6_keysUnder_9 (tw (by first | decide | omega)) (by first | decide | omega) rfl (gl (DR_n hD hA)) ?_
      first | refine n_icmp_ge (tgt := 56) C dX6_keysUnder_12 (by decide) (by first | decide | omega) (by first | decide | omega) (fun h_12 => ?_) (fun h_12 => ?_) | refine a_icmp_ge (tgt := 56) C dX6_keysUnder_12 (by decide) (fun h_12 => ?_) (fun h_12 => ?_)
      · obtain rfl : k = kN A := by omega
        refine a_iload_n C dX6_keysUnder_56 rfl rfl ?_
        refine f_iret C hr ?_ dX6_keysUnder_57 ⟨?_, rfl⟩
        · rfl
        · rfl
      · refine a_iload_n C dX6_keysUnder_15 rfl rfl ?_
        refine a_bipush (v := nI 12) C dX6_keysUnder_16 (by decide) ?_
        first | refine n_icmp_ge (tgt := 56) C dX6_keysUnder_18 (by decide) (by first | decide | omega) (by first | decide | omega) (fun h_18 => ?_) (fun h_18 => ?_) | refine a_icmp_ge (tgt := 56) C dX6_keysUnder_18 (by decide) (fun h_18 => ?_) (fun h_18 => ?_)
        · exfalso; omega
        · have zq_c := hA.c81 (k := k) (by omega)
          refine a_aload_n C dX6_keysUnder_21 rfl rfl ?_
          refine a_getfF C fX6_37 dX6_keysUnder_22 (tw (by first | decide | omega)) (by first | decide | omega) rfl rfl ?_
          refine a_aload_n C dX6_keysUnder_25 rfl rfl ?_
          refine a_getfF C fX6_19 dX6_keysUnder_26 (tw (by first | decide | omega)) (by first | decide | omega) rfl rfl ?_
          refine a_getfF C fX6_103 dX6_keysUnder_29 (tw (by first | decide | omega)) (by first | decide | omega) rfl rfl ?_
          refine a_iload_n C dX6_keysUnder_32 rfl rfl ?_
          refine a_aaldK C dX6_keysUnder_33 (tw (by first | decide | omega)) (by first | decide | omega) rfl rfl (by first | decide | omega) (by decide) rfl ?_
          refine a_getf C fX6_107 dX6_keysUnder_34 (tw (by first | decide | omega)) (by first | decide | omega) (fz_key (j := 0) (by decide) (by omega)) (gl (DR_kc hD hA (by omega))) ?_
          refine a_iload_n C dX6_keysUnder_37 rfl rfl ?_
          refine p_callV C (K_X1_liesUnder (by first | assumption | decide | omega) (by first | assumption | decide | omega)) vX6_464 rfl (by first | decide | omega) rfl rfl dX6_keysUnder_38 (Nat.le_of_ble_eq_true rfl) ⟨by decide, by decide⟩ ?_
          first | refine b_if_eq (tgt := 50) C dX6_keysUnder_41 (by decide) (fun h_41 => ?_) (fun h_41 => ?_) | refine n_if_eq (tgt := 50) C dX6_keysUnder_41 (by decide) (by first | decide | omega) (fun h_41 => ?_) (fun h_41 => ?_) | refine a_if_eq (tgt := 50) C dX6_keysUnder_41 (by decide) (fun h_41 => ?_) (fun h_41 => ?_)
          · refine n_iinc C dX6_keysUnder_50 rfl (by decide) ?_
            refine a_goto (tgt := 4) C dX6_keysUnder_53 (by decide) ?_
            refine a_join (aLe_s ?_ (aLe_s ?_ (aLe_s ?_ (aLe_s ?_ aLe_nil)))) rfl rfl (zih4 (k + 1) (by omega) (by omega))
            · first | with_reducible rfl | exact gl (by first | with_reducible rfl | (refine iF ?_; simp [mskN, cbP, h_12, h_18, h_41]; done) | (refine iT ?_; simp [mskN, cbP, h_12, h_18, h_41]; done) | (refine iB ?_; simp [mskN, cbP, h_12, h_18, h_41]; done) | (simp [mskN, cbP, h_12, h_18, h_41]; done) | (simp [mskN, cbP, h_12, h_18, h_41]; omega) | omega)
            · first | with_reducible rfl | exact gl (by first | with_reducible rfl | (refine iF ?_; simp [mskN, cbP, h_12, h_18, h_41]; done) | (refine iT ?_; simp [mskN, cbP, h_12, h_18, h_41]; done) | (refine iB ?_; simp [mskN, cbP, h_12, h_18, h_41]; done) | (simp [mskN, cbP, h_12, h_18, h_41]; done) | (simp [mskN, cbP, h_12, h_18, h_41]; omega) | omega)
            · first | with_reducible rfl | exact gl (by first | with_reducible rfl | (refine iF ?_; simp [mskN, cbP, h_12, h_18, h_41]; done) | (refine iT ?_; simp [mskN, cbP, h_12, h_18, h_41]; done) | (refine iB ?_; simp [mskN, cbP, h_12, h_18, h_41]; done) | (simp [mskN, cbP, h_12, h_18, h_41]; done) | (simp [mskN, cbP, h_12, h_18, h_41]; omega) | omega)
            · first | with_reducible rfl | exact gl (by first | with_reducible rfl | (refine iF ?_; simp [mskN, cbP, h_12, h_18, h_41]; done) | (refine iT ?_; simp [mskN, cbP, h_12, h_18, h_41]; done) | (refine iB ?_; simp [mskN, cbP, h_12, h_18, h_41]; done) | (simp [mskN, cbP, h_12, h_18, h_41]; done) | (simp [mskN, cbP, h_12, h_18, h_41]; omega) | omega)
          · refine a_iload_n C dX6_keysUnder_44 rfl rfl ?_
            refine a_iconst (v := nI 1) C dX6_keysUnder_45 (by decide) ?_
            refine a_iload_n C dX6_keysUnder_46 rfl rfl ?_
            refine n_ishl C dX6_keysUnder_47 (by omega) (p12_lt (by omega)) ?_
            first | refine n_ior C dX6_keysUnder_48 ?_ | refine a_ior C dX6_keysUnder_48 ?_
            refine a_istore_n C dX6_keysUnder_49 rfl (by decide) ?_
            refine n_iinc C dX6_keysUnder_50 rfl (by decide) ?_
            refine a_goto (tgt := 4) C dX6_keysUnder_53 (by decide) ?_
            refine a_join (aLe_s ?_ (aLe_s ?_ (aLe_s ?_ (aLe_s ?_ aLe_nil)))) rfl rfl (zih4 (k + 1) (by omega) (by omega))
            · first | with_reducible rfl | exact gl (by first | with_reducible rfl | (refine iF ?_; simp [mskN, cbP, h_12, h_18, h_41]; done) | (refine iT ?_; simp [mskN, cbP, h_12, h_18, h_41]; done) | (refine iB ?_; simp [mskN, cbP, h_12, h_18, h_41]; done) | (simp [mskN, cbP, h_12, h_18, h_41]; done) | (simp [mskN, cbP, h_12, h_18, h_41]; omega) | omega)
            · first | with_reducible rfl | exact gl (by first | with_reducible rfl | (refine iF ?_; simp [mskN, cbP, h_12, h_18, h_41]; done) | (refine iT ?_; simp [mskN, cbP, h_12, h_18, h_41]; done) | (refine iB ?_; simp [mskN, cbP, h_12, h_18, h_41]; done) | (simp [mskN, cbP, h_12, h_18, h_41]; done) | (simp [mskN, cbP, h_12, h_18, h_41]; omega) | omega)
            · first | with_reducible rfl | exact gl (by first | with_reducible rfl | (refine iF ?_; simp [mskN, cbP, h_12, h_18, h_41]; done) | (refine iT ?_; simp [mskN, cbP, h_12, h_18, h_41]; done) | (refine iB ?_; simp [mskN, cbP, h_12, h_18, h_41]; done) | (simp [mskN, cbP, h_12, h_18, h_41]; done) | (simp [mskN, cbP, h_12, h_18, h_41]; omega) | omega)
            · first | with_reducible rfl | exact gl (by first | with_reducible rfl | (refine iF ?_; simp [mskN, cbP, h_12, h_18, h_41]; done) | (refine iT ?_; simp [mskN, cbP, h_12, h_18, h_41]; done) | (refine iB ?_; simp [mskN, cbP, h_12, h_18, h_41]; done) | (simp [mskN, cbP, h_12, h_18, h_41]; done) | (simp [mskN, cbP, h_12, h_18, h_41]; omega) | omega)
  refine a_pad 2 ?_
  refine a_eq (L' := [some (.ref 0), some (.int (nI c)), none, none]) rfl rfl rfl ?_
  refine a_iconst (v := nI 0) C dX6_keysUnder_0 (by decide) ?_
  refine a_istore_n C dX6_keysUnder_1 rfl (by decide) ?_
  refine a_iconst (v := nI 0) C dX6_keysUnder_2 (by decide) ?_
  refine a_istore_n C dX6_keysUnder_3 rfl (by decide) ?_
  refine a_join (aLe_s ?_ (aLe_s ?_ (aLe_s ?_ (aLe_s ?_ aLe_nil)))) rfl rfl (ZL4 (kN A + 1) 0 (by omega) (by omega))
  · first | with_reducible rfl | exact gl (by first | with_reducible rfl | (refine iF ?_; simp [mskN, cbP]; done) | (refine iT ?_; simp [mskN, cbP]; done) | (refine iB ?_; simp [mskN, cbP]; done) | (simp [mskN, cbP]; done) | (simp [mskN, cbP]; omega) | omega | rfl)
  · first | with_reducible rfl | exact gl (by first | with_reducible rfl | (refine iF ?_; simp [mskN, cbP]; done) | (refine iT ?_; simp [mskN, cbP]; done) | (refine iB ?_; simp [mskN, cbP]; done) | (simp [mskN, cbP]; done) | (simp [mskN, cbP]; omega) | omega | rfl)
  · first | with_reducible rfl | exact gl (by first | with_reducible rfl | (refine iF ?_; simp [mskN, cbP]; done) | (refine iT ?_; simp [mskN, cbP]; done) | (refine iB ?_; simp [mskN, cbP]; done) | (simp [mskN, cbP]; done) | (simp [mskN, cbP]; omega) | omega | rfl)
  · first | with_reducible rfl | exact gl (by first | with_reducible rfl | (refine iF ?_; simp [mskN, cbP]; done) | (refine iT ?_; simp [mskN, cbP]; done) | (refine iB ?_; simp [mskN, cbP]; done) | (simp [mskN, cbP]; done) | (simp [mskN, cbP]; omega) | omega | rfl)

set_option maxRecDepth 20000 in
set_option maxHeartbeats 4000000 in
theorem K_X6_lostKeys {w : Wd} {A : St} (hD : DR w 3 A) (hA : AOK A)  : CP yX6_lostKeys cX6_lostKeys 3 (some .int) 0 0 [.ref 0] w (.int (nI (lstA A))) := by
  have zq_n := hA.n12
  refine CF.of ok_X6_lostKeys (Nat.le_of_ble_eq_true rfl) (fun ex us G9 p9 l9 e9 s9 m9 ar9 be9 me9 co9 C hr => ?_)
  have ZL4 : ∀ (zd4 : Nat) (k : Nat), kN A + 1 ≤ k + zd4 → k ≤ kN A → WA G9 p9 l9 e9 (RM 0 0) s9 m9 ar9 be9 me9 co9 (QP G9 be9 ar9 s9 w ex us (.int (nI (lstA A)))) 3 (207 + ex.1 + ex.2) us 4 [some (.ref 0), some (.int (nI (cntN (lsA A) k))), some (.int (nI k))] [] (fzM w ex us) := by
    intro zd4
    induction zd4 with
    | zero => intro k zm4 zh4_0; exfalso; omega
    | succ zd4 zih4 =>
      intro k zm4 zh4_0
      refine a_iload_n C dX6_lostKeys_4 rfl rfl ?_
      refine a_aload_n C dX6_lostKeys_5 rfl rfl ?_
      refine a_getfF C fX6_19 dX6_lostKeys_6 (tw (by first | decide | omega)) (by first | decide | omega) rfl rfl ?_
      refine a_getf C fX6_80 dX6_lostKeys_9 (tw (by first | decide | omega)) (by first | decide | omega) rfl (gl (DR_n hD hA)) ?_
      first | refine n_icmp_ge (tgt := 45) C dX6_lostKeys_12 (by decide) (by first | decide | omega) (by first | decide | omega) (fun h_12 => ?_) (fun h_12 => ?_) | refine a_icmp_ge (tgt := 45) C dX6_lostKeys_12 (by decide) (fun h_12 => ?_) (fun h_12 => ?_)
      · obtain rfl : k = kN A := by omega
        refine a_iload_n C dX6_lostKeys_45 rfl rfl ?_
        refine f_iret C hr ?_ dX6_lostKeys_46 ⟨?_, rfl⟩
        · rfl
        · rfl
      · refine a_iload_n C dX6_lostKeys_15 rfl rfl ?_
        refine a_bipush (v := nI 12) C dX6_lostKeys_16 (by decide) ?_
        first | refine n_icmp_ge (tgt := 45) C dX6_lostKeys_18 (by decide) (by first | decide | omega) (by first | decide | omega) (fun h_18 => ?_) (fun h_18 => ?_) | refine a_icmp_ge (tgt := 45) C dX6_lostKeys_18 (by decide) (fun h_18 => ?_) (fun h_18 => ?_)
        · exfalso; omega
        · refine a_aload_n C dX6_lostKeys_21 rfl rfl ?_
          refine a_getfF C fX6_19 dX6_lostKeys_22 (tw (by first | decide | omega)) (by first | decide | omega) rfl rfl ?_
          refine a_getfF C fX6_103 dX6_lostKeys_25 (tw (by first | decide | omega)) (by first | decide | omega) rfl rfl ?_
          refine a_iload_n C dX6_lostKeys_28 rfl rfl ?_
          refine a_aaldK C dX6_lostKeys_29 (tw (by first | decide | omega)) (by first | decide | omega) rfl rfl (by first | decide | omega) (by decide) rfl ?_
          refine a_getf C fX6_126 dX6_lostKeys_30 (tw (by first | decide | omega)) (by first | decide | omega) (fz_key (j := 0) (by decide) (by omega)) (gl (DR_kl hD hA (by omega))) ?_
          first | refine b_if_eq (tgt := 39) C dX6_lostKeys_33 (by decide) (fun h_33 => ?_) (fun h_33 => ?_) | refine n_if_eq (tgt := 39) C dX6_lostKeys_33 (by decide) (by first | decide | omega) (fun h_33 => ?_) (fun h_33 => ?_) | refine a_if_eq (tgt := 39) C dX6_lostKeys_33 (by decide) (fun h_33 => ?_) (fun h_33 => ?_)
          · refine n_iinc C dX6_lostKeys_39 rfl (by decide) ?_
            refine a_goto (tgt := 4) C dX6_lostKeys_42 (by decide) ?_
            refine a_join (aLe_s ?_ (aLe_s ?_ (aLe_s ?_ aLe_nil))) rfl rfl (zih4 (k + 1) (by omega) (by omega))
            · first | with_reducible rfl | exact gl (by first | with_reducible rfl | (refine iF ?_; simp [cntN, h_12, h_18, h_33]; done) | (refine iT ?_; simp [cntN, h_12, h_18, h_33]; done) | (refine iB ?_; simp [cntN, h_12, h_18, h_33]; done) | (simp [cntN, h_12, h_18, h_33]; done) | (simp [cntN, h_12, h_18, h_33]; omega) | omega)
            · first | with_reducible rfl | exact gl (by first | with_reducible rfl | (refine iF ?_; simp [cntN, h_12, h_18, h_33]; done) | (refine iT ?_; simp [cntN, h_12, h_18, h_33]; done) | (refine iB ?_; simp [cntN, h_12, h_18, h_33]; done) | (simp [cntN, h_12, h_18, h_33]; done) | (simp [cntN, h_12, h_18, h_33]; omega) | omega)
            · first | with_reducible rfl | exact gl (by first | with_reducible rfl | (refine iF ?_; simp [cntN, h_12, h_18, h_33]; done) | (refine iT ?_; simp [cntN, h_12, h_18, h_33]; done) | (refine iB ?_; simp [cntN, h_12, h_18, h_33]; done) | (simp [cntN, h_12, h_18, h_33]; done) | (simp [cntN, h_12, h_18, h_33]; omega) | omega)
          · refine n_iinc C dX6_lostKeys_36 rfl (by decide) ?_
            refine n_iinc C dX6_lostKeys_39 rfl (by decide) ?_
            refine a_goto (tgt := 4) C dX6_lostKeys_42 (by decide) ?_
            refine a_join (aLe_s ?_ (aLe_s ?_ (aLe_s ?_ aLe_nil))) rfl rfl (zih4 (k + 1) (by omega) (by omega))
            · first | with_reducible rfl | exact gl (by first | with_reducible rfl | (refine iF ?_; simp [cntN, h_12, h_18, h_33]; done) | (refine iT ?_; simp [cntN, h_12, h_18, h_33]; done) | (refine iB ?_; simp [cntN, h_12, h_18, h_33]; done) | (simp [cntN, h_12, h_18, h_33]; done) | (simp [cntN, h_12, h_18, h_33]; omega) | omega)
            · first | with_reducible rfl | exact gl (by first | with_reducible rfl | (refine iF ?_; simp [cntN, h_12, h_18, h_33]; done) | (refine iT ?_; simp [cntN, h_12, h_18, h_33]; done) | (refine iB ?_; simp [cntN, h_12, h_18, h_33]; done) | (simp [cntN, h_12, h_18, h_33]; done) | (simp [cntN, h_12, h_18, h_33]; omega) | omega)
            · first | with_reducible rfl | exact gl (by first | with_reducible rfl | (refine iF ?_; simp [cntN, h_12, h_18, h_33]; done) | (refine iT ?_; simp [cntN, h_12, h_18, h_33]; done) | (refine iB ?_; simp [cntN, h_12, h_18, h_33]; done) | (simp [cntN, h_12, h_18, h_33]; done) | (simp [cntN, h_12, h_18, h_33]; omega) | omega)
  refine a_pad 2 ?_
  refine a_eq (L' := [some (.ref 0), none, none]) rfl rfl rfl ?_
  refine a_iconst (v := nI 0) C dX6_lostKeys_0 (by decide) ?_
  refine a_istore_n C dX6_lostKeys_1 rfl (by decide) ?_
  refine a_iconst (v := nI 0) C dX6_lostKeys_2 (by decide) ?_
  refine a_istore_n C dX6_lostKeys_3 rfl (by decide) ?_
  refine a_join (aLe_s ?_ (aLe_s ?_ (aLe_s ?_ aLe_nil))) rfl rfl (ZL4 (kN A + 1) 0 (by omega) (by omega))
  · first | with_reducible rfl | exact gl (by first | with_reducible rfl | (refine iF ?_; simp [cntN]; done) | (refine iT ?_; simp [cntN]; done) | (refine iB ?_; simp [cntN]; done) | (simp [cntN]; done) | (simp [cntN]; omega) | omega | rfl)
  · first | with_reducible rfl | exact gl (by first | with_reducible rfl | (refine iF ?_; simp [cntN]; done) | (refine iT ?_; simp [cntN]; done) | (refine iB ?_; simp [cntN]; done) | (simp [cntN]; done) | (simp [cntN]; omega) | omega | rfl)
  · first | with_reducible rfl | exact gl (by first | with_reducible rfl | (refine iF ?_; simp [cntN]; done) | (refine iT ?_; simp [cntN]; done) | (refine iB ?_; simp [cntN]; done) | (simp [cntN]; done) | (simp [cntN]; omega) | omega | rfl)

set_option maxRecDepth 20000 in
set_option maxHeartbeats 4000000 in
theorem K_X6_lockCount {w : Wd} {A : St} (hD : DR w 3 A) (hA : AOK A)  : CP yX6_lockCount cX6_lockCount 3 (some .int) 2 41 [.ref 0] w (.int (nI (lckA A))) := by
  have zq_n := hA.n12
  refine CF.of ok_X6_lockCount (Nat.le_of_ble_eq_true rfl) (fun ex us G9 p9 l9 e9 s9 m9 ar9 be9 me9 co9 C hr => ?_)
  have ZL4 : ∀ (zd4 : Nat) (k : Nat), 6 + 1 ≤ k + zd4 → k ≤ 6 → WA G9 p9 l9 e9 (RM 2 41) s9 m9 ar9 be9 me9 co9 (QP G9 be9 ar9 s9 w ex us (.int (nI (lckA A)))) 3 (207 + ex.1 + ex.2) us 4 [some (.ref 0), some (.int (nI (cntN (wdA A) k))), some (.int (nI k))] [] (fzM w ex us) := by
    intro zd4
    induction zd4 with
    | zero => intro k zm4 zh4_0; exfalso; omega
    | succ zd4 zih4 =>
      intro k zm4 zh4_0
      refine a_iload_n C dX6_lockCount_4 rfl rfl ?_
      refine a_bipush (v := nI 6) C dX6_lockCount_5 (by decide) ?_
      first | refine n_icmp_ge (tgt := 27) C dX6_lockCount_7 (by decide) (by first | decide | omega) (by first | decide | omega) (fun h_7 => ?_) (fun h_7 => ?_) | refine a_icmp_ge (tgt := 27) C dX6_lockCount_7 (by decide) (fun h_7 => ?_) (fun h_7 => ?_)
      · obtain rfl : k = 6 := by omega
        refine a_iload_n C dX6_lockCount_27 rfl rfl ?_
        refine f_iret C hr ?_ dX6_lockCount_28 ⟨?_, rfl⟩
        · rfl
        · rfl
      · refine a_aload_n C dX6_lockCount_10 rfl rfl ?_
        refine a_iload_n C dX6_lockCount_11 rfl rfl ?_
        refine p_callV C (K_X6_isLock hD hA (by first | assumption | decide | omega)) vX6_158 rfl (by first | decide | omega) rfl rfl dX6_lockCount_12 (Nat.le_of_ble_eq_true rfl) ⟨by decide, by decide⟩ ?_
        first | refine b_if_eq (tgt := 21) C dX6_lockCount_15 (by decide) (fun h_15 => ?_) (fun h_15 => ?_) | refine n_if_eq (tgt := 21) C dX6_lockCount_15 (by decide) (by first | decide | omega) (fun h_15 => ?_) (fun h_15 => ?_) | refine a_if_eq (tgt := 21) C dX6_lockCount_15 (by decide) (fun h_15 => ?_) (fun h_15 => ?_)
        · refine n_iinc C dX6_lockCount_21 rfl (by decide) ?_
          refine a_goto (tgt := 4) C dX6_lockCount_24 (by decide) ?_
          refine a_join (aLe_s ?_ (aLe_s ?_ (aLe_s ?_ aLe_nil))) rfl rfl (zih4 (k + 1) (by omega) (by omega))
          · first | with_reducible rfl | exact gl (by first | with_reducible rfl | (refine iF ?_; simp [cntN, h_7, h_15]; done) | (refine iT ?_; simp [cntN, h_7, h_15]; done) | (refine iB ?_; simp [cntN, h_7, h_15]; done) | (simp [cntN, h_7, h_15]; done) | (simp [cntN, h_7, h_15]; omega) | omega)
          · first | with_reducible rfl | exact gl (by first | with_reducible rfl | (refine iF ?_; simp [cntN, h_7, h_15]; done) | (refine iT ?_; simp [cntN, h_7, h_15]; done) | (refine iB ?_; simp [cntN, h_7, h_15]; done) | (simp [cntN, h_7, h_15]; done) | (simp [cntN, h_7, h_15]; omega) | omega)
          · first | with_reducible rfl | exact gl (by first | with_reducible rfl | (refine iF ?_; simp [cntN, h_7, h_15]; done) | (refine iT ?_; simp [cntN, h_7, h_15]; done) | (refine iB ?_; simp [cntN, h_7, h_15]; done) | (simp [cntN, h_7, h_15]; done) | (simp [cntN, h_7, h_15]; omega) | omega)
        · refine n_iinc C dX6_lockCount_18 rfl (by decide) ?_
          refine n_iinc C dX6_lockCount_21 rfl (by decide) ?_
          refine a_goto (tgt := 4) C dX6_lockCount_24 (by decide) ?_
          refine a_join (aLe_s ?_ (aLe_s ?_ (aLe_s ?_ aLe_nil))) rfl rfl (zih4 (k + 1) (by omega) (by omega))
          · first | with_reducible rfl | exact gl (by first | with_reducible rfl | (refine iF ?_; simp [cntN, h_7, h_15]; done) | (refine iT ?_; simp [cntN, h_7, h_15]; done) | (refine iB ?_; simp [cntN, h_7, h_15]; done) | (simp [cntN, h_7, h_15]; done) | (simp [cntN, h_7, h_15]; omega) | omega)
          · first | with_reducible rfl | exact gl (by first | with_reducible rfl | (refine iF ?_; simp [cntN, h_7, h_15]; done) | (refine iT ?_; simp [cntN, h_7, h_15]; done) | (refine iB ?_; simp [cntN, h_7, h_15]; done) | (simp [cntN, h_7, h_15]; done) | (simp [cntN, h_7, h_15]; omega) | omega)
          · first | with_reducible rfl | exact gl (by first | with_reducible rfl | (refine iF ?_; simp [cntN, h_7, h_15]; done) | (refine iT ?_; simp [cntN, h_7, h_15]; done) | (refine iB ?_; simp [cntN, h_7, h_15]; done) | (simp [cntN, h_7, h_15]; done) | (simp [cntN, h_7, h_15]; omega) | omega)
  refine a_pad 2 ?_
  refine a_eq (L' := [some (.ref 0), none, none]) rfl rfl rfl ?_
  refine a_iconst (v := nI 0) C dX6_lockCount_0 (by decide) ?_
  refine a_istore_n C dX6_lockCount_1 rfl (by decide) ?_
  refine a_iconst (v := nI 0) C dX6_lockCount_2 (by decide) ?_
  refine a_istore_n C dX6_lockCount_3 rfl (by decide) ?_
  refine a_join (aLe_s ?_ (aLe_s ?_ (aLe_s ?_ aLe_nil))) rfl rfl (ZL4 (6 + 1) 0 (by omega) (by omega))
  · first | with_reducible rfl | exact gl (by first | with_reducible rfl | (refine iF ?_; simp [cntN]; done) | (refine iT ?_; simp [cntN]; done) | (refine iB ?_; simp [cntN]; done) | (simp [cntN]; done) | (simp [cntN]; omega) | omega | rfl)
  · first | with_reducible rfl | exact gl (by first | with_reducible rfl | (refine iF ?_; simp [cntN]; done) | (refine iT ?_; simp [cntN]; done) | (refine iB ?_; simp [cntN]; done) | (simp [cntN]; done) | (simp [cntN]; omega) | omega | rfl)
  · first | with_reducible rfl | exact gl (by first | with_reducible rfl | (refine iF ?_; simp [cntN]; done) | (refine iT ?_; simp [cntN]; done) | (refine iB ?_; simp [cntN]; done) | (simp [cntN]; done) | (simp [cntN]; omega) | omega | rfl)

set_option maxRecDepth 20000 in
set_option maxHeartbeats 4000000 in
theorem K_X6_crossedPairs {w : Wd} {A : St} (hD : DR w 3 A) (hA : AOK A)  : CP yX6_crossedPairs cX6_crossedPairs 4 (some .int) 1 23 [.ref 0] w (.int (nI (xprA A))) := by
  have zq_n := hA.n12
  refine CF.of ok_X6_crossedPairs (Nat.le_of_ble_eq_true rfl) (fun ex us G9 p9 l9 e9 s9 m9 ar9 be9 me9 co9 C hr => ?_)
  have ZL4 : ∀ (zd4 : Nat) (k : Nat), kN A + 1 ≤ k + zd4 → k ≤ kN A → WA G9 p9 l9 e9 (RM 1 23) s9 m9 ar9 be9 me9 co9 (QP G9 be9 ar9 s9 w ex us (.int (nI (xprA A)))) 4 (207 + ex.1 + ex.2) us 4 [some (.ref 0), some (.int (nI (sumN (xpC A) k))), some (.int (nI k)), none] [] (fzM w ex us) := by
    intro zd4
    induction zd4 with
    | zero => intro k zm4 zh4_0; exfalso; omega
    | succ zd4 zih4 =>
      intro k zm4 zh4_0
      have ZL23 : ∀ (zd23 : Nat) (e : Nat), k + 1 ≤ e + zd23 → e ≤ k → k < kN A → WA G9 p9 l9 e9 (RM 1 23) s9 m9 ar9 be9 me9 co9 (QP G9 be9 ar9 s9 w ex us (.int (nI (xprA A)))) 4 (207 + ex.1 + ex.2) us 23 [some (.ref 0), some (.int (nI (sumN (xpC A) k + cntN (xpP A k) e))), some (.int (nI k)), some (.int (nI e))] [] (fzM w ex us) := by
        intro zd23
        induction zd23 with
        | zero => intro e zm23 zh23_0 zh23_1; exfalso; omega
        | succ zd23 zih23 =>
          intro e zm23 zh23_0 zh23_1
          refine a_iload_n C dX6_crossedPairs_23 rfl rfl ?_
          refine a_iload_n C dX6_crossedPairs_24 rfl rfl ?_
          first | refine n_icmp_ge (tgt := 71) C dX6_crossedPairs_25 (by decide) (by first | decide | omega) (by first | decide | omega) (fun h_25 => ?_) (fun h_25 => ?_) | refine a_icmp_ge (tgt := 71) C dX6_crossedPairs_25 (by decide) (fun h_25 => ?_) (fun h_25 => ?_)
          · obtain rfl : k = e := by omega
            refine n_iinc C dX6_crossedPairs_71 rfl (by decide) ?_
            refine a_goto (tgt := 4) C dX6_crossedPairs_74 (by decide) ?_
            refine a_join (aLe_s ?_ (aLe_s ?_ (aLe_s ?_ (aLe_n aLe_nil)))) rfl rfl (zih4 (k + 1) (by omega) (by omega))
            · first | with_reducible rfl | exact gl (by first | with_reducible rfl | (refine iF ?_; simp [sumN, cntN, xpC, xpP, Nat.add_assoc, h_25]; done) | (refine iT ?_; simp [sumN, cntN, xpC, xpP, Nat.add_assoc, h_25]; done) | (refine iB ?_; simp [sumN, cntN, xpC, xpP, Nat.add_assoc, h_25]; done) | (simp [sumN, cntN, xpC, xpP, Nat.add_assoc, h_25]; done) | (simp [sumN, cntN, xpC, xpP, Nat.add_assoc, h_25]; omega) | omega)
            · first | with_reducible rfl | exact gl (by first | with_reducible rfl | (refine iF ?_; simp [sumN, cntN, xpC, xpP, Nat.add_assoc, h_25]; done) | (refine iT ?_; simp [sumN, cntN, xpC, xpP, Nat.add_assoc, h_25]; done) | (refine iB ?_; simp [sumN, cntN, xpC, xpP, Nat.add_assoc, h_25]; done) | (simp [sumN, cntN, xpC, xpP, Nat.add_assoc, h_25]; done) | (simp [sumN, cntN, xpC, xpP, Nat.add_assoc, h_25]; omega) | omega)
            · first | with_reducible rfl | exact gl (by first | with_reducible rfl | (refine iF ?_; simp [sumN, cntN, xpC, xpP, Nat.add_assoc, h_25]; done) | (refine iT ?_; simp [sumN, cntN, xpC, xpP, Nat.add_assoc, h_25]; done) | (refine iB ?_; simp [sumN, cntN, xpC, xpP, Nat.add_assoc, h_25]; done) | (simp [sumN, cntN, xpC, xpP, Nat.add_assoc, h_25]; done) | (simp [sumN, cntN, xpC, xpP, Nat.add_assoc, h_25]; omega) | omega)
          · have zq_d := hA.c81 (k := e) (by omega)
            have zq_c2 := hA.c81 (k := k) (by omega)
            refine a_aload_n C dX6_crossedPairs_28 rfl rfl ?_
            refine a_getfF C fX6_37 dX6_crossedPairs_29 (tw (by first | decide | omega)) (by first | decide | omega) rfl rfl ?_
            refine a_aload_n C dX6_crossedPairs_32 rfl rfl ?_
            refine a_getfF C fX6_19 dX6_crossedPairs_33 (tw (by first | decide | omega)) (by first | decide | omega) rfl rfl ?_
            refine a_getfF C fX6_103 dX6_crossedPairs_36 (tw (by first | decide | omega)) (by first | decide | omega) rfl rfl ?_
            refine a_iload_n C dX6_crossedPairs_39 rfl rfl ?_
            refine a_aaldK C dX6_crossedPairs_40 (tw (by first | decide | omega)) (by first | decide | omega) rfl rfl (by first | decide | omega) (by decide) rfl ?_
            refine a_getf C fX6_107 dX6_crossedPairs_41 (tw (by first | decide | omega)) (by first | decide | omega) (fz_key (j := 0) (by decide) (by omega)) (gl (DR_kc hD hA (by omega))) ?_
            refine a_aload_n C dX6_crossedPairs_44 rfl rfl ?_
            refine a_getfF C fX6_19 dX6_crossedPairs_45 (tw (by first | decide | omega)) (by first | decide | omega) rfl rfl ?_
            refine a_getfF C fX6_103 dX6_crossedPairs_48 (tw (by first | decide | omega)) (by first | decide | omega) rfl rfl ?_
            refine a_iload_n C dX6_crossedPairs_51 rfl rfl ?_
            refine a_aaldK C dX6_crossedPairs_52 (tw (by first | decide | omega)) (by first | decide | omega) rfl rfl (by first | decide | omega) (by decide) rfl ?_
            refine a_getf C fX6_107 dX6_crossedPairs_53 (tw (by first | decide | omega)) (by first | decide | omega) (fz_key (j := 0) (by decide) (by omega)) (gl (DR_kc hD hA (by omega))) ?_
            refine p_callV C (K_X1_areCrossed (by first | assumption | decide | omega) (by first | assumption | decide | omega)) vX6_470 rfl (by first | decide | omega) rfl rfl dX6_crossedPairs_56 (Nat.le_of_ble_eq_true rfl) ⟨by decide, by decide⟩ ?_
            first | refine b_if_eq (tgt := 65) C dX6_crossedPairs_59 (by decide) (fun h_59 => ?_) (fun h_59 => ?_) | refine n_if_eq (tgt := 65) C dX6_crossedPairs_59 (by decide) (by first | decide | omega) (fun h_59 => ?_) (fun h_59 => ?_) | refine a_if_eq (tgt := 65) C dX6_crossedPairs_59 (by decide) (fun h_59 => ?_) (fun h_59 => ?_)
            · refine n_iinc C dX6_crossedPairs_65 rfl (by decide) ?_
              refine a_goto (tgt := 23) C dX6_crossedPairs_68 (by decide) ?_
              refine a_join (aLe_s ?_ (aLe_s ?_ (aLe_s ?_ (aLe_s ?_ aLe_nil)))) rfl rfl (zih23 (e + 1) (by omega) (by omega) zh23_1)
              · first | with_reducible rfl | exact gl (by first | with_reducible rfl | (refine iF ?_; simp [sumN, cntN, xpC, xpP, Nat.add_assoc, h_25, h_59]; done) | (refine iT ?_; simp [sumN, cntN, xpC, xpP, Nat.add_assoc, h_25, h_59]; done) | (refine iB ?_; simp [sumN, cntN, xpC, xpP, Nat.add_assoc, h_25, h_59]; done) | (simp [sumN, cntN, xpC, xpP, Nat.add_assoc, h_25, h_59]; done) | (simp [sumN, cntN, xpC, xpP, Nat.add_assoc, h_25, h_59]; omega) | omega)
              · first | with_reducible rfl | exact gl (by first | with_reducible rfl | (refine iF ?_; simp [sumN, cntN, xpC, xpP, Nat.add_assoc, h_25, h_59]; done) | (refine iT ?_; simp [sumN, cntN, xpC, xpP, Nat.add_assoc, h_25, h_59]; done) | (refine iB ?_; simp [sumN, cntN, xpC, xpP, Nat.add_assoc, h_25, h_59]; done) | (simp [sumN, cntN, xpC, xpP, Nat.add_assoc, h_25, h_59]; done) | (simp [sumN, cntN, xpC, xpP, Nat.add_assoc, h_25, h_59]; omega) | omega)
              · first | with_reducible rfl | exact gl (by first | with_reducible rfl | (refine iF ?_; simp [sumN, cntN, xpC, xpP, Nat.add_assoc, h_25, h_59]; done) | (refine iT ?_; simp [sumN, cntN, xpC, xpP, Nat.add_assoc, h_25, h_59]; done) | (refine iB ?_; simp [sumN, cntN, xpC, xpP, Nat.add_assoc, h_25, h_59]; done) | (simp [sumN, cntN, xpC, xpP, Nat.add_assoc, h_25, h_59]; done) | (simp [sumN, cntN, xpC, xpP, Nat.add_assoc, h_25, h_59]; omega) | omega)
              · first | with_reducible rfl | exact gl (by first | with_reducible rfl | (refine iF ?_; simp [sumN, cntN, xpC, xpP, Nat.add_assoc, h_25, h_59]; done) | (refine iT ?_; simp [sumN, cntN, xpC, xpP, Nat.add_assoc, h_25, h_59]; done) | (refine iB ?_; simp [sumN, cntN, xpC, xpP, Nat.add_assoc, h_25, h_59]; done) | (simp [sumN, cntN, xpC, xpP, Nat.add_assoc, h_25, h_59]; done) | (simp [sumN, cntN, xpC, xpP, Nat.add_assoc, h_25, h_59]; omega) | omega)
            · refine n_iinc C dX6_crossedPairs_62 rfl (by decide) ?_
              refine n_iinc C dX6_crossedPairs_65 rfl (by decide) ?_
              refine a_goto (tgt := 23) C dX6_crossedPairs_68 (by decide) ?_
              refine a_join (aLe_s ?_ (aLe_s ?_ (aLe_s ?_ (aLe_s ?_ aLe_nil)))) rfl rfl (zih23 (e + 1) (by omega) (by omega) zh23_1)
              · first | with_reducible rfl | exact gl (by first | with_reducible rfl | (refine iF ?_; simp [sumN, cntN, xpC, xpP, Nat.add_assoc, h_25, h_59]; done) | (refine iT ?_; simp [sumN, cntN, xpC, xpP, Nat.add_assoc, h_25, h_59]; done) | (refine iB ?_; simp [sumN, cntN, xpC, xpP, Nat.add_assoc, h_25, h_59]; done) | (simp [sumN, cntN, xpC, xpP, Nat.add_assoc, h_25, h_59]; done) | (simp [sumN, cntN, xpC, xpP, Nat.add_assoc, h_25, h_59]; omega) | omega)
              · first | with_reducible rfl | exact gl (by first | with_reducible rfl | (refine iF ?_; simp [sumN, cntN, xpC, xpP, Nat.add_assoc, h_25, h_59]; done) | (refine iT ?_; simp [sumN, cntN, xpC, xpP, Nat.add_assoc, h_25, h_59]; done) | (refine iB ?_; simp [sumN, cntN, xpC, xpP, Nat.add_assoc, h_25, h_59]; done) | (simp [sumN, cntN, xpC, xpP, Nat.add_assoc, h_25, h_59]; done) | (simp [sumN, cntN, xpC, xpP, Nat.add_assoc, h_25, h_59]; omega) | omega)
              · first | with_reducible rfl | exact gl (by first | with_reducible rfl | (refine iF ?_; simp [sumN, cntN, xpC, xpP, Nat.add_assoc, h_25, h_59]; done) | (refine iT ?_; simp [sumN, cntN, xpC, xpP, Nat.add_assoc, h_25, h_59]; done) | (refine iB ?_; simp [sumN, cntN, xpC, xpP, Nat.add_assoc, h_25, h_59]; done) | (simp [sumN, cntN, xpC, xpP, Nat.add_assoc, h_25, h_59]; done) | (simp [sumN, cntN, xpC, xpP, Nat.add_assoc, h_25, h_59]; omega) | omega)
              · first | with_reducible rfl | exact gl (by first | with_reducible rfl | (refine iF ?_; simp [sumN, cntN, xpC, xpP, Nat.add_assoc, h_25, h_59]; done) | (refine iT ?_; simp [sumN, cntN, xpC, xpP, Nat.add_assoc, h_25, h_59]; done) | (refine iB ?_; simp [sumN, cntN, xpC, xpP, Nat.add_assoc, h_25, h_59]; done) | (simp [sumN, cntN, xpC, xpP, Nat.add_assoc, h_25, h_59]; done) | (simp [sumN, cntN, xpC, xpP, Nat.add_assoc, h_25, h_59]; omega) | omega)
      refine a_iload_n C dX6_crossedPairs_4 rfl rfl ?_
      refine a_aload_n C dX6_crossedPairs_5 rfl rfl ?_
      refine a_getfF C fX6_19 dX6_crossedPairs_6 (tw (by first | decide | omega)) (by first | decide | omega) rfl rfl ?_
      refine a_getf C fX6_80 dX6_crossedPairs_9 (tw (by first | decide | omega)) (by first | decide | omega) rfl (gl (DR_n hD hA)) ?_
      first | refine n_icmp_ge (tgt := 77) C dX6_crossedPairs_12 (by decide) (by first | decide | omega) (by first | decide | omega) (fun h_12 => ?_) (fun h_12 => ?_) | refine a_icmp_ge (tgt := 77) C dX6_crossedPairs_12 (by decide) (fun h_12 => ?_) (fun h_12 => ?_)
      · obtain rfl : k = kN A := by omega
        refine a_iload_n C dX6_crossedPairs_77 rfl rfl ?_
        refine f_iret C hr ?_ dX6_crossedPairs_78 ⟨?_, rfl⟩
        · rfl
        · rfl
      · refine a_iload_n C dX6_crossedPairs_15 rfl rfl ?_
        refine a_bipush (v := nI 12) C dX6_crossedPairs_16 (by decide) ?_
        first | refine n_icmp_ge (tgt := 77) C dX6_crossedPairs_18 (by decide) (by first | decide | omega) (by first | decide | omega) (fun h_18 => ?_) (fun h_18 => ?_) | refine a_icmp_ge (tgt := 77) C dX6_crossedPairs_18 (by decide) (fun h_18 => ?_) (fun h_18 => ?_)
        · exfalso; omega
        · refine a_iconst (v := nI 0) C dX6_crossedPairs_21 (by decide) ?_
          refine a_istore_n C dX6_crossedPairs_22 rfl (by decide) ?_
          refine a_join (aLe_s ?_ (aLe_s ?_ (aLe_s ?_ (aLe_s ?_ aLe_nil)))) rfl rfl (ZL23 (k + 1) 0 (by omega) (by omega) (by omega))
          · first | with_reducible rfl | exact gl (by first | with_reducible rfl | (refine iF ?_; simp [sumN, cntN, xpC, xpP, Nat.add_assoc, h_12, h_18]; done) | (refine iT ?_; simp [sumN, cntN, xpC, xpP, Nat.add_assoc, h_12, h_18]; done) | (refine iB ?_; simp [sumN, cntN, xpC, xpP, Nat.add_assoc, h_12, h_18]; done) | (simp [sumN, cntN, xpC, xpP, Nat.add_assoc, h_12, h_18]; done) | (simp [sumN, cntN, xpC, xpP, Nat.add_assoc, h_12, h_18]; omega) | omega | rfl)
          · first | with_reducible rfl | exact gl (by first | with_reducible rfl | (refine iF ?_; simp [sumN, cntN, xpC, xpP, Nat.add_assoc, h_12, h_18]; done) | (refine iT ?_; simp [sumN, cntN, xpC, xpP, Nat.add_assoc, h_12, h_18]; done) | (refine iB ?_; simp [sumN, cntN, xpC, xpP, Nat.add_assoc, h_12, h_18]; done) | (simp [sumN, cntN, xpC, xpP, Nat.add_assoc, h_12, h_18]; done) | (simp [sumN, cntN, xpC, xpP, Nat.add_assoc, h_12, h_18]; omega) | omega | rfl)
          · first | with_reducible rfl | exact gl (by first | with_reducible rfl | (refine iF ?_; simp [sumN, cntN, xpC, xpP, Nat.add_assoc, h_12, h_18]; done) | (refine iT ?_; simp [sumN, cntN, xpC, xpP, Nat.add_assoc, h_12, h_18]; done) | (refine iB ?_; simp [sumN, cntN, xpC, xpP, Nat.add_assoc, h_12, h_18]; done) | (simp [sumN, cntN, xpC, xpP, Nat.add_assoc, h_12, h_18]; done) | (simp [sumN, cntN, xpC, xpP, Nat.add_assoc, h_12, h_18]; omega) | omega | rfl)
          · first | with_reducible rfl | exact gl (by first | with_reducible rfl | (refine iF ?_; simp [sumN, cntN, xpC, xpP, Nat.add_assoc, h_12, h_18]; done) | (refine iT ?_; simp [sumN, cntN, xpC, xpP, Nat.add_assoc, h_12, h_18]; done) | (refine iB ?_; simp [sumN, cntN, xpC, xpP, Nat.add_assoc, h_12, h_18]; done) | (simp [sumN, cntN, xpC, xpP, Nat.add_assoc, h_12, h_18]; done) | (simp [sumN, cntN, xpC, xpP, Nat.add_assoc, h_12, h_18]; omega) | omega | rfl)
  refine a_pad 3 ?_
  refine a_eq (L' := [some (.ref 0), none, none, none]) rfl rfl rfl ?_
  refine a_iconst (v := nI 0) C dX6_crossedPairs_0 (by decide) ?_
  refine a_istore_n C dX6_crossedPairs_1 rfl (by decide) ?_
  refine a_iconst (v := nI 0) C dX6_crossedPairs_2 (by decide) ?_
  refine a_istore_n C dX6_crossedPairs_3 rfl (by decide) ?_
  refine a_join (aLe_s ?_ (aLe_s ?_ (aLe_s ?_ (aLe_n aLe_nil)))) rfl rfl (ZL4 (kN A + 1) 0 (by omega) (by omega))
  · first | with_reducible rfl | exact gl (by first | with_reducible rfl | (refine iF ?_; simp [sumN, cntN, xpC, xpP, Nat.add_assoc]; done) | (refine iT ?_; simp [sumN, cntN, xpC, xpP, Nat.add_assoc]; done) | (refine iB ?_; simp [sumN, cntN, xpC, xpP, Nat.add_assoc]; done) | (simp [sumN, cntN, xpC, xpP, Nat.add_assoc]; done) | (simp [sumN, cntN, xpC, xpP, Nat.add_assoc]; omega) | omega | rfl)
  · first | with_reducible rfl | exact gl (by first | with_reducible rfl | (refine iF ?_; simp [sumN, cntN, xpC, xpP, Nat.add_assoc]; done) | (refine iT ?_; simp [sumN, cntN, xpC, xpP, Nat.add_assoc]; done) | (refine iB ?_; simp [sumN, cntN, xpC, xpP, Nat.add_assoc]; done) | (simp [sumN, cntN, xpC, xpP, Nat.add_assoc]; done) | (simp [sumN, cntN, xpC, xpP, Nat.add_assoc]; omega) | omega | rfl)
  · first | with_reducible rfl | exact gl (by first | with_reducible rfl | (refine iF ?_; simp [sumN, cntN, xpC, xpP, Nat.add_assoc]; done) | (refine iT ?_; simp [sumN, cntN, xpC, xpP, Nat.add_assoc]; done) | (refine iB ?_; simp [sumN, cntN, xpC, xpP, Nat.add_assoc]; done) | (simp [sumN, cntN, xpC, xpP, Nat.add_assoc]; done) | (simp [sumN, cntN, xpC, xpP, Nat.add_assoc]; omega) | omega | rfl)

set_option maxRecDepth 20000 in
set_option maxHeartbeats 4000000 in
theorem K_X6_soundCodes {w : Wd} {A : St} (hD : DR w 3 A) (hA : AOK A)  : CP yX6_soundCodes cX6_soundCodes 3 (some .int) 1 21 [.ref 0] w (.int (nI (cdsA A false))) := by
  have zq_n := hA.n12
  refine CF.of ok_X6_soundCodes (Nat.le_of_ble_eq_true rfl) (fun ex us G9 p9 l9 e9 s9 m9 ar9 be9 me9 co9 C hr => ?_)
  have ZL4 : ∀ (zd4 : Nat) (c : Nat), 81 + 1 ≤ c + zd4 → c ≤ 81 → WA G9 p9 l9 e9 (RM 1 21) s9 m9 ar9 be9 me9 co9 (QP G9 be9 ar9 s9 w ex us (.int (nI (cdsA A false)))) 3 (207 + ex.1 + ex.2) us 4 [some (.ref 0), some (.int (nI (cntN (cdP A false) c))), some (.int (nI c))] [] (fzM w ex us) := by
    intro zd4
    induction zd4 with
    | zero => intro c zm4 zh4_0; exfalso; omega
    | succ zd4 zih4 =>
      intro c zm4 zh4_0
      refine a_iload_n C dX6_soundCodes_4 rfl rfl ?_
      refine a_bipush (v := nI 81) C dX6_soundCodes_5 (by decide) ?_
      first | refine n_icmp_ge (tgt := 27) C dX6_soundCodes_7 (by decide) (by first | decide | omega) (by first | decide | omega) (fun h_7 => ?_) (fun h_7 => ?_) | refine a_icmp_ge (tgt := 27) C dX6_soundCodes_7 (by decide) (fun h_7 => ?_) (fun h_7 => ?_)
      · obtain rfl : c = 81 := by omega
        refine a_iload_n C dX6_soundCodes_27 rfl rfl ?_
        refine f_iret C hr ?_ dX6_soundCodes_28 ⟨?_, rfl⟩
        · rfl
        · rfl
      · refine a_aload_n C dX6_soundCodes_10 rfl rfl ?_
        refine a_iload_n C dX6_soundCodes_11 rfl rfl ?_
        refine p_callV C (K_X6_isSound hD hA (by first | assumption | decide | omega)) vX6_282 rfl (by first | decide | omega) rfl rfl dX6_soundCodes_12 (Nat.le_of_ble_eq_true rfl) ⟨by decide, by decide⟩ ?_
        first | refine b_if_eq (tgt := 21) C dX6_soundCodes_15 (by decide) (fun h_15 => ?_) (fun h_15 => ?_) | refine n_if_eq (tgt := 21) C dX6_soundCodes_15 (by decide) (by first | decide | omega) (fun h_15 => ?_) (fun h_15 => ?_) | refine a_if_eq (tgt := 21) C dX6_soundCodes_15 (by decide) (fun h_15 => ?_) (fun h_15 => ?_)
        · refine n_iinc C dX6_soundCodes_21 rfl (by decide) ?_
          refine a_goto (tgt := 4) C dX6_soundCodes_24 (by decide) ?_
          refine a_join (aLe_s ?_ (aLe_s ?_ (aLe_s ?_ aLe_nil))) rfl rfl (zih4 (c + 1) (by omega) (by omega))
          · first | with_reducible rfl | exact gl (by first | with_reducible rfl | (refine iF ?_; simp [cntN, cdP, h_7, h_15]; done) | (refine iT ?_; simp [cntN, cdP, h_7, h_15]; done) | (refine iB ?_; simp [cntN, cdP, h_7, h_15]; done) | (simp [cntN, cdP, h_7, h_15]; done) | (simp [cntN, cdP, h_7, h_15]; omega) | omega)
          · first | with_reducible rfl | exact gl (by first | with_reducible rfl | (refine iF ?_; simp [cntN, cdP, h_7, h_15]; done) | (refine iT ?_; simp [cntN, cdP, h_7, h_15]; done) | (refine iB ?_; simp [cntN, cdP, h_7, h_15]; done) | (simp [cntN, cdP, h_7, h_15]; done) | (simp [cntN, cdP, h_7, h_15]; omega) | omega)
          · first | with_reducible rfl | exact gl (by first | with_reducible rfl | (refine iF ?_; simp [cntN, cdP, h_7, h_15]; done) | (refine iT ?_; simp [cntN, cdP, h_7, h_15]; done) | (refine iB ?_; simp [cntN, cdP, h_7, h_15]; done) | (simp [cntN, cdP, h_7, h_15]; done) | (simp [cntN, cdP, h_7, h_15]; omega) | omega)
        · refine n_iinc C dX6_soundCodes_18 rfl (by decide) ?_
          refine n_iinc C dX6_soundCodes_21 rfl (by decide) ?_
          refine a_goto (tgt := 4) C dX6_soundCodes_24 (by decide) ?_
          refine a_join (aLe_s ?_ (aLe_s ?_ (aLe_s ?_ aLe_nil))) rfl rfl (zih4 (c + 1) (by omega) (by omega))
          · first | with_reducible rfl | exact gl (by first | with_reducible rfl | (refine iF ?_; simp [cntN, cdP, h_7, h_15]; done) | (refine iT ?_; simp [cntN, cdP, h_7, h_15]; done) | (refine iB ?_; simp [cntN, cdP, h_7, h_15]; done) | (simp [cntN, cdP, h_7, h_15]; done) | (simp [cntN, cdP, h_7, h_15]; omega) | omega)
          · first | with_reducible rfl | exact gl (by first | with_reducible rfl | (refine iF ?_; simp [cntN, cdP, h_7, h_15]; done) | (refine iT ?_; simp [cntN, cdP, h_7, h_15]; done) | (refine iB ?_; simp [cntN, cdP, h_7, h_15]; done) | (simp [cntN, cdP, h_7, h_15]; done) | (simp [cntN, cdP, h_7, h_15]; omega) | omega)
          · first | with_reducible rfl | exact gl (by first | with_reducible rfl | (refine iF ?_; simp [cntN, cdP, h_7, h_15]; done) | (refine iT ?_; simp [cntN, cdP, h_7, h_15]; done) | (refine iB ?_; simp [cntN, cdP, h_7, h_15]; done) | (simp [cntN, cdP, h_7, h_15]; done) | (simp [cntN, cdP, h_7, h_15]; omega) | omega)
  refine a_pad 2 ?_
  refine a_eq (L' := [some (.ref 0), none, none]) rfl rfl rfl ?_
  refine a_iconst (v := nI 0) C dX6_soundCodes_0 (by decide) ?_
  refine a_istore_n C dX6_soundCodes_1 rfl (by decide) ?_
  refine a_iconst (v := nI 0) C dX6_soundCodes_2 (by decide) ?_
  refine a_istore_n C dX6_soundCodes_3 rfl (by decide) ?_
  refine a_join (aLe_s ?_ (aLe_s ?_ (aLe_s ?_ aLe_nil))) rfl rfl (ZL4 (81 + 1) 0 (by omega) (by omega))
  · first | with_reducible rfl | exact gl (by first | with_reducible rfl | (refine iF ?_; simp [cntN, cdP]; done) | (refine iT ?_; simp [cntN, cdP]; done) | (refine iB ?_; simp [cntN, cdP]; done) | (simp [cntN, cdP]; done) | (simp [cntN, cdP]; omega) | omega | rfl)
  · first | with_reducible rfl | exact gl (by first | with_reducible rfl | (refine iF ?_; simp [cntN, cdP]; done) | (refine iT ?_; simp [cntN, cdP]; done) | (refine iB ?_; simp [cntN, cdP]; done) | (simp [cntN, cdP]; done) | (simp [cntN, cdP]; omega) | omega | rfl)
  · first | with_reducible rfl | exact gl (by first | with_reducible rfl | (refine iF ?_; simp [cntN, cdP]; done) | (refine iT ?_; simp [cntN, cdP]; done) | (refine iB ?_; simp [cntN, cdP]; done) | (simp [cntN, cdP]; done) | (simp [cntN, cdP]; omega) | omega | rfl)

set_option maxRecDepth 20000 in
set_option maxHeartbeats 4000000 in
theorem K_X6_freeCodes {w : Wd} {A : St} (hD : DR w 3 A) (hA : AOK A)  : CP yX6_freeCodes cX6_freeCodes 3 (some .int) 3 71 [.ref 0] w (.int (nI (cdsA A true))) := by
  have zq_n := hA.n12
  refine CF.of ok_X6_freeCodes (Nat.le_of_ble_eq_true rfl) (fun ex us G9 p9 l9 e9 s9 m9 ar9 be9 me9 co9 C hr => ?_)
  have ZL4 : ∀ (zd4 : Nat) (c : Nat), 81 + 1 ≤ c + zd4 → c ≤ 81 → WA G9 p9 l9 e9 (RM 3 71) s9 m9 ar9 be9 me9 co9 (QP G9 be9 ar9 s9 w ex us (.int (nI (cdsA A true)))) 3 (207 + ex.1 + ex.2) us 4 [some (.ref 0), some (.int (nI (cntN (cdP A true) c))), some (.int (nI c))] [] (fzM w ex us) := by
    intro zd4
    induction zd4 with
    | zero => intro c zm4 zh4_0; exfalso; omega
    | succ zd4 zih4 =>
      intro c zm4 zh4_0
      refine a_iload_n C dX6_freeCodes_4 rfl rfl ?_
      refine a_bipush (v := nI 81) C dX6_freeCodes_5 (by decide) ?_
      first | refine n_icmp_ge (tgt := 27) C dX6_freeCodes_7 (by decide) (by first | decide | omega) (by first | decide | omega) (fun h_7 => ?_) (fun h_7 => ?_) | refine a_icmp_ge (tgt := 27) C dX6_freeCodes_7 (by decide) (fun h_7 => ?_) (fun h_7 => ?_)
      · obtain rfl : c = 81 := by omega
        refine a_iload_n C dX6_freeCodes_27 rfl rfl ?_
        refine f_iret C hr ?_ dX6_freeCodes_28 ⟨?_, rfl⟩
        · rfl
        · rfl
      · refine a_aload_n C dX6_freeCodes_10 rfl rfl ?_
        refine a_iload_n C dX6_freeCodes_11 rfl rfl ?_
        refine p_callV C (K_X6_isFree hD hA (by first | assumption | decide | omega)) vX6_291 rfl (by first | decide | omega) rfl rfl dX6_freeCodes_12 (Nat.le_of_ble_eq_true rfl) ⟨by decide, by decide⟩ ?_
        first | refine b_if_eq (tgt := 21) C dX6_freeCodes_15 (by decide) (fun h_15 => ?_) (fun h_15 => ?_) | refine n_if_eq (tgt := 21) C dX6_freeCodes_15 (by decide) (by first | decide | omega) (fun h_15 => ?_) (fun h_15 => ?_) | refine a_if_eq (tgt := 21) C dX6_freeCodes_15 (by decide) (fun h_15 => ?_) (fun h_15 => ?_)
        · refine n_iinc C dX6_freeCodes_21 rfl (by decide) ?_
          refine a_goto (tgt := 4) C dX6_freeCodes_24 (by decide) ?_
          refine a_join (aLe_s ?_ (aLe_s ?_ (aLe_s ?_ aLe_nil))) rfl rfl (zih4 (c + 1) (by omega) (by omega))
          · first | with_reducible rfl | exact gl (by first | with_reducible rfl | (refine iF ?_; simp [cntN, cdP, h_7, h_15]; done) | (refine iT ?_; simp [cntN, cdP, h_7, h_15]; done) | (refine iB ?_; simp [cntN, cdP, h_7, h_15]; done) | (simp [cntN, cdP, h_7, h_15]; done) | (simp [cntN, cdP, h_7, h_15]; omega) | omega)
          · first | with_reducible rfl | exact gl (by first | with_reducible rfl | (refine iF ?_; simp [cntN, cdP, h_7, h_15]; done) | (refine iT ?_; simp [cntN, cdP, h_7, h_15]; done) | (refine iB ?_; simp [cntN, cdP, h_7, h_15]; done) | (simp [cntN, cdP, h_7, h_15]; done) | (simp [cntN, cdP, h_7, h_15]; omega) | omega)
          · first | with_reducible rfl | exact gl (by first | with_reducible rfl | (refine iF ?_; simp [cntN, cdP, h_7, h_15]; done) | (refine iT ?_; simp [cntN, cdP, h_7, h_15]; done) | (refine iB ?_; simp [cntN, cdP, h_7, h_15]; done) | (simp [cntN, cdP, h_7, h_15]; done) | (simp [cntN, cdP, h_7, h_15]; omega) | omega)
        · refine n_iinc C dX6_freeCodes_18 rfl (by decide) ?_
          refine n_iinc C dX6_freeCodes_21 rfl (by decide) ?_
          refine a_goto (tgt := 4) C dX6_freeCodes_24 (by decide) ?_
          refine a_join (aLe_s ?_ (aLe_s ?_ (aLe_s ?_ aLe_nil))) rfl rfl (zih4 (c + 1) (by omega) (by omega))
          · first | with_reducible rfl | exact gl (by first | with_reducible rfl | (refine iF ?_; simp [cntN, cdP, h_7, h_15]; done) | (refine iT ?_; simp [cntN, cdP, h_7, h_15]; done) | (refine iB ?_; simp [cntN, cdP, h_7, h_15]; done) | (simp [cntN, cdP, h_7, h_15]; done) | (simp [cntN, cdP, h_7, h_15]; omega) | omega)
          · first | with_reducible rfl | exact gl (by first | with_reducible rfl | (refine iF ?_; simp [cntN, cdP, h_7, h_15]; done) | (refine iT ?_; simp [cntN, cdP, h_7, h_15]; done) | (refine iB ?_; simp [cntN, cdP, h_7, h_15]; done) | (simp [cntN, cdP, h_7, h_15]; done) | (simp [cntN, cdP, h_7, h_15]; omega) | omega)
          · first | with_reducible rfl | exact gl (by first | with_reducible rfl | (refine iF ?_; simp [cntN, cdP, h_7, h_15]; done) | (refine iT ?_; simp [cntN, cdP, h_7, h_15]; done) | (refine iB ?_; simp [cntN, cdP, h_7, h_15]; done) | (simp [cntN, cdP, h_7, h_15]; done) | (simp [cntN, cdP, h_7, h_15]; omega) | omega)
  refine a_pad 2 ?_
  refine a_eq (L' := [some (.ref 0), none, none]) rfl rfl rfl ?_
  refine a_iconst (v := nI 0) C dX6_freeCodes_0 (by decide) ?_
  refine a_istore_n C dX6_freeCodes_1 rfl (by decide) ?_
  refine a_iconst (v := nI 0) C dX6_freeCodes_2 (by decide) ?_
  refine a_istore_n C dX6_freeCodes_3 rfl (by decide) ?_
  refine a_join (aLe_s ?_ (aLe_s ?_ (aLe_s ?_ aLe_nil))) rfl rfl (ZL4 (81 + 1) 0 (by omega) (by omega))
  · first | with_reducible rfl | exact gl (by first | with_reducible rfl | (refine iF ?_; simp [cntN, cdP]; done) | (refine iT ?_; simp [cntN, cdP]; done) | (refine iB ?_; simp [cntN, cdP]; done) | (simp [cntN, cdP]; done) | (simp [cntN, cdP]; omega) | omega | rfl)
  · first | with_reducible rfl | exact gl (by first | with_reducible rfl | (refine iF ?_; simp [cntN, cdP]; done) | (refine iT ?_; simp [cntN, cdP]; done) | (refine iB ?_; simp [cntN, cdP]; done) | (simp [cntN, cdP]; done) | (simp [cntN, cdP]; omega) | omega | rfl)
  · first | with_reducible rfl | exact gl (by first | with_reducible rfl | (refine iF ?_; simp [cntN, cdP]; done) | (refine iT ?_; simp [cntN, cdP]; done) | (refine iB ?_; simp [cntN, cdP]; done) | (simp [cntN, cdP]; done) | (simp [cntN, cdP]; omega) | omega | rfl)

set_option maxRecDepth 20000 in
set_option maxHeartbeats 4000000 in
theorem K_X6_soundCodesOver {w : Wd} {A : St} (hD : DR w 3 A) (hA : AOK A) {c : Nat} (hc : c < 81) : CP yX6_soundCodesOver cX6_soundCodesOver 4 (some .int) 1 22 [.ref 0, .int (nI c)] w (.int (nI (sbA A true c))) := by
  have zq_n := hA.n12
  refine CF.of ok_X6_soundCodesOver (Nat.le_of_ble_eq_true rfl) (fun ex us G9 p9 l9 e9 s9 m9 ar9 be9 me9 co9 C hr => ?_)
  have ZL4 : ∀ (zd4 : Nat) (d : Nat), 81 + 1 ≤ d + zd4 → d ≤ 81 → WA G9 p9 l9 e9 (RM 1 22) s9 m9 ar9 be9 me9 co9 (QP G9 be9 ar9 s9 w ex us (.int (nI (sbA A true c)))) 4 (207 + ex.1 + ex.2) us 4 [some (.ref 0), some (.int (nI c)), some (.int (nI (cntN (sbP A true c) d))), some (.int (nI d))] [] (fzM w ex us) := by
    intro zd4
    induction zd4 with
    | zero => intro d zm4 zh4_0; exfalso; omega
    | succ zd4 zih4 =>
      intro d zm4 zh4_0
      refine a_iload_n C dX6_soundCodesOver_4 rfl rfl ?_
      refine a_bipush (v := nI 81) C dX6_soundCodesOver_5 (by decide) ?_
      first | refine n_icmp_ge (tgt := 39) C dX6_soundCodesOver_7 (by decide) (by first | decide | omega) (by first | decide | omega) (fun h_7 => ?_) (fun h_7 => ?_) | refine a_icmp_ge (tgt := 39) C dX6_soundCodesOver_7 (by decide) (fun h_7 => ?_) (fun h_7 => ?_)
      · obtain rfl : d = 81 := by omega
        refine a_iload_n C dX6_soundCodesOver_39 rfl rfl ?_
        refine f_iret C hr ?_ dX6_soundCodesOver_40 ⟨?_, rfl⟩
        · rfl
        · rfl
      · refine a_aload_n C dX6_soundCodesOver_10 rfl rfl ?_
        refine a_getfF C fX6_37 dX6_soundCodesOver_11 (tw (by first | decide | omega)) (by first | decide | omega) rfl rfl ?_
        refine a_iload_n C dX6_soundCodesOver_14 rfl rfl ?_
        refine a_iload_n C dX6_soundCodesOver_15 rfl rfl ?_
        refine p_callV C (K_X1_liesUnder (by first | assumption | decide | omega) (by first | assumption | decide | omega)) vX6_464 rfl (by first | decide | omega) rfl rfl dX6_soundCodesOver_16 (Nat.le_of_ble_eq_true rfl) ⟨by decide, by decide⟩ ?_
        first | refine b_if_eq (tgt := 33) C dX6_soundCodesOver_19 (by decide) (fun h_19 => ?_) (fun h_19 => ?_) | refine n_if_eq (tgt := 33) C dX6_soundCodesOver_19 (by decide) (by first | decide | omega) (fun h_19 => ?_) (fun h_19 => ?_) | refine a_if_eq (tgt := 33) C dX6_soundCodesOver_19 (by decide) (fun h_19 => ?_) (fun h_19 => ?_)
        · refine n_iinc C dX6_soundCodesOver_33 rfl (by decide) ?_
          refine a_goto (tgt := 4) C dX6_soundCodesOver_36 (by decide) ?_
          refine a_join (aLe_s ?_ (aLe_s ?_ (aLe_s ?_ (aLe_s ?_ aLe_nil)))) rfl rfl (zih4 (d + 1) (by omega) (by omega))
          · first | with_reducible rfl | exact gl (by first | with_reducible rfl | (refine iF ?_; simp [cntN, sbP, h_7, h_19]; done) | (refine iT ?_; simp [cntN, sbP, h_7, h_19]; done) | (refine iB ?_; simp [cntN, sbP, h_7, h_19]; done) | (simp [cntN, sbP, h_7, h_19]; done) | (simp [cntN, sbP, h_7, h_19]; omega) | omega)
          · first | with_reducible rfl | exact gl (by first | with_reducible rfl | (refine iF ?_; simp [cntN, sbP, h_7, h_19]; done) | (refine iT ?_; simp [cntN, sbP, h_7, h_19]; done) | (refine iB ?_; simp [cntN, sbP, h_7, h_19]; done) | (simp [cntN, sbP, h_7, h_19]; done) | (simp [cntN, sbP, h_7, h_19]; omega) | omega)
          · first | with_reducible rfl | exact gl (by first | with_reducible rfl | (refine iF ?_; simp [cntN, sbP, h_7, h_19]; done) | (refine iT ?_; simp [cntN, sbP, h_7, h_19]; done) | (refine iB ?_; simp [cntN, sbP, h_7, h_19]; done) | (simp [cntN, sbP, h_7, h_19]; done) | (simp [cntN, sbP, h_7, h_19]; omega) | omega)
          · first | with_reducible rfl | exact gl (by first | with_reducible rfl | (refine iF ?_; simp [cntN, sbP, h_7, h_19]; done) | (refine iT ?_; simp [cntN, sbP, h_7, h_19]; done) | (refine iB ?_; simp [cntN, sbP, h_7, h_19]; done) | (simp [cntN, sbP, h_7, h_19]; done) | (simp [cntN, sbP, h_7, h_19]; omega) | omega)
        · refine a_aload_n C dX6_soundCodesOver_22 rfl rfl ?_
          refine a_iload_n C dX6_soundCodesOver_23 rfl rfl ?_
          refine p_callV C (K_X6_isSound hD hA (by first | assumption | decide | omega)) vX6_282 rfl (by first | decide | omega) rfl rfl dX6_soundCodesOver_24 (Nat.le_of_ble_eq_true rfl) ⟨by decide, by decide⟩ ?_
          first | refine b_if_eq (tgt := 33) C dX6_soundCodesOver_27 (by decide) (fun h_27 => ?_) (fun h_27 => ?_) | refine n_if_eq (tgt := 33) C dX6_soundCodesOver_27 (by decide) (by first | decide | omega) (fun h_27 => ?_) (fun h_27 => ?_) | refine a_if_eq (tgt := 33) C dX6_soundCodesOver_27 (by decide) (fun h_27 => ?_) (fun h_27 => ?_)
          · refine n_iinc C dX6_soundCodesOver_33 rfl (by decide) ?_
            refine a_goto (tgt := 4) C dX6_soundCodesOver_36 (by decide) ?_
            refine a_join (aLe_s ?_ (aLe_s ?_ (aLe_s ?_ (aLe_s ?_ aLe_nil)))) rfl rfl (zih4 (d + 1) (by omega) (by omega))
            · first | with_reducible rfl | exact gl (by first | with_reducible rfl | (refine iF ?_; simp [cntN, sbP, h_7, h_19, h_27]; done) | (refine iT ?_; simp [cntN, sbP, h_7, h_19, h_27]; done) | (refine iB ?_; simp [cntN, sbP, h_7, h_19, h_27]; done) | (simp [cntN, sbP, h_7, h_19, h_27]; done) | (simp [cntN, sbP, h_7, h_19, h_27]; omega) | omega)
            · first | with_reducible rfl | exact gl (by first | with_reducible rfl | (refine iF ?_; simp [cntN, sbP, h_7, h_19, h_27]; done) | (refine iT ?_; simp [cntN, sbP, h_7, h_19, h_27]; done) | (refine iB ?_; simp [cntN, sbP, h_7, h_19, h_27]; done) | (simp [cntN, sbP, h_7, h_19, h_27]; done) | (simp [cntN, sbP, h_7, h_19, h_27]; omega) | omega)
            · first | with_reducible rfl | exact gl (by first | with_reducible rfl | (refine iF ?_; simp [cntN, sbP, h_7, h_19, h_27]; done) | (refine iT ?_; simp [cntN, sbP, h_7, h_19, h_27]; done) | (refine iB ?_; simp [cntN, sbP, h_7, h_19, h_27]; done) | (simp [cntN, sbP, h_7, h_19, h_27]; done) | (simp [cntN, sbP, h_7, h_19, h_27]; omega) | omega)
            · first | with_reducible rfl | exact gl (by first | with_reducible rfl | (refine iF ?_; simp [cntN, sbP, h_7, h_19, h_27]; done) | (refine iT ?_; simp [cntN, sbP, h_7, h_19, h_27]; done) | (refine iB ?_; simp [cntN, sbP, h_7, h_19, h_27]; done) | (simp [cntN, sbP, h_7, h_19, h_27]; done) | (simp [cntN, sbP, h_7, h_19, h_27]; omega) | omega)
          · refine n_iinc C dX6_soundCodesOver_30 rfl (by decide) ?_
            refine n_iinc C dX6_soundCodesOver_33 rfl (by decide) ?_
            refine a_goto (tgt := 4) C dX6_soundCodesOver_36 (by decide) ?_
            refine a_join (aLe_s ?_ (aLe_s ?_ (aLe_s ?_ (aLe_s ?_ aLe_nil)))) rfl rfl (zih4 (d + 1) (by omega) (by omega))
            · first | with_reducible rfl | exact gl (by first | with_reducible rfl | (refine iF ?_; simp [cntN, sbP, h_7, h_19, h_27]; done) | (refine iT ?_; simp [cntN, sbP, h_7, h_19, h_27]; done) | (refine iB ?_; simp [cntN, sbP, h_7, h_19, h_27]; done) | (simp [cntN, sbP, h_7, h_19, h_27]; done) | (simp [cntN, sbP, h_7, h_19, h_27]; omega) | omega)
            · first | with_reducible rfl | exact gl (by first | with_reducible rfl | (refine iF ?_; simp [cntN, sbP, h_7, h_19, h_27]; done) | (refine iT ?_; simp [cntN, sbP, h_7, h_19, h_27]; done) | (refine iB ?_; simp [cntN, sbP, h_7, h_19, h_27]; done) | (simp [cntN, sbP, h_7, h_19, h_27]; done) | (simp [cntN, sbP, h_7, h_19, h_27]; omega) | omega)
            · first | with_reducible rfl | exact gl (by first | with_reducible rfl | (refine iF ?_; simp [cntN, sbP, h_7, h_19, h_27]; done) | (refine iT ?_; simp [cntN, sbP, h_7, h_19, h_27]; done) | (refine iB ?_; simp [cntN, sbP, h_7, h_19, h_27]; done) | (simp [cntN, sbP, h_7, h_19, h_27]; done) | (simp [cntN, sbP, h_7, h_19, h_27]; omega) | omega)
            · first | with_reducible rfl | exact gl (by first | with_reducible rfl | (refine iF ?_; simp [cntN, sbP, h_7, h_19, h_27]; done) | (refine iT ?_; simp [cntN, sbP, h_7, h_19, h_27]; done) | (refine iB ?_; simp [cntN, sbP, h_7, h_19, h_27]; done) | (simp [cntN, sbP, h_7, h_19, h_27]; done) | (simp [cntN, sbP, h_7, h_19, h_27]; omega) | omega)
  refine a_pad 2 ?_
  refine a_eq (L' := [some (.ref 0), some (.int (nI c)), none, none]) rfl rfl rfl ?_
  refine a_iconst (v := nI 0) C dX6_soundCodesOver_0 (by decide) ?_
  refine a_istore_n C dX6_soundCodesOver_1 rfl (by decide) ?_
  refine a_iconst (v := nI 0) C dX6_soundCodesOver_2 (by decide) ?_
  refine a_istore_n C dX6_soundCodesOver_3 rfl (by decide) ?_
  refine a_join (aLe_s ?_ (aLe_s ?_ (aLe_s ?_ (aLe_s ?_ aLe_nil)))) rfl rfl (ZL4 (81 + 1) 0 (by omega) (by omega))
  · first | with_reducible rfl | exact gl (by first | with_reducible rfl | (refine iF ?_; simp [cntN, sbP]; done) | (refine iT ?_; simp [cntN, sbP]; done) | (refine iB ?_; simp [cntN, sbP]; done) | (simp [cntN, sbP]; done) | (simp [cntN, sbP]; omega) | omega | rfl)
  · first | with_reducible rfl | exact gl (by first | with_reducible rfl | (refine iF ?_; simp [cntN, sbP]; done) | (refine iT ?_; simp [cntN, sbP]; done) | (refine iB ?_; simp [cntN, sbP]; done) | (simp [cntN, sbP]; done) | (simp [cntN, sbP]; omega) | omega | rfl)
  · first | with_reducible rfl | exact gl (by first | with_reducible rfl | (refine iF ?_; simp [cntN, sbP]; done) | (refine iT ?_; simp [cntN, sbP]; done) | (refine iB ?_; simp [cntN, sbP]; done) | (simp [cntN, sbP]; done) | (simp [cntN, sbP]; omega) | omega | rfl)
  · first | with_reducible rfl | exact gl (by first | with_reducible rfl | (refine iF ?_; simp [cntN, sbP]; done) | (refine iT ?_; simp [cntN, sbP]; done) | (refine iB ?_; simp [cntN, sbP]; done) | (simp [cntN, sbP]; done) | (simp [cntN, sbP]; omega) | omega | rfl)

set_option maxRecDepth 20000 in
set_option maxHeartbeats 4000000 in
theorem K_X6_soundCodesUnder {w : Wd} {A : St} (hD : DR w 3 A) (hA : AOK A) {c : Nat} (hc : c < 81) : CP yX6_soundCodesUnder cX6_soundCodesUnder 4 (some .int) 1 22 [.ref 0, .int (nI c)] w (.int (nI (sbA A false c))) := by
  have zq_n := hA.n12
  refine CF.of ok_X6_soundCodesUnder (Nat.le_of_ble_eq_true rfl) (fun ex us G9 p9 l9 e9 s9 m9 ar9 be9 me9 co9 C hr => ?_)
  have ZL4 : ∀ (zd4 : Nat) (d : Nat), 81 + 1 ≤ d + zd4 → d ≤ 81 → WA G9 p9 l9 e9 (RM 1 22) s9 m9 ar9 be9 me9 co9 (QP G9 be9 ar9 s9 w ex us (.int (nI (sbA A false c)))) 4 (207 + ex.1 + ex.2) us 4 [some (.ref 0), some (.int (nI c)), some (.int (nI (cntN (sbP A false c) d))), some (.int (nI d))] [] (fzM w ex us) := by
    intro zd4
    induction zd4 with
    | zero => intro d zm4 zh4_0; exfalso; omega
    | succ zd4 zih4 =>
      intro d zm4 zh4_0
      refine a_iload_n C dX6_soundCodesUnder_4 rfl rfl ?_
      refine a_bipush (v := nI 81) C dX6_soundCodesUnder_5 (by decide) ?_
      first | refine n_icmp_ge (tgt := 39) C dX6_soundCodesUnder_7 (by decide) (by first | decide | omega) (by first | decide | omega) (fun h_7 => ?_) (fun h_7 => ?_) | refine a_icmp_ge (tgt := 39) C dX6_soundCodesUnder_7 (by decide) (fun h_7 => ?_) (fun h_7 => ?_)
      · obtain rfl : d = 81 := by omega
        refine a_iload_n C dX6_soundCodesUnder_39 rfl rfl ?_
        refine f_iret C hr ?_ dX6_soundCodesUnder_40 ⟨?_, rfl⟩
        · rfl
        · rfl
      · refine a_aload_n C dX6_soundCodesUnder_10 rfl rfl ?_
        refine a_getfF C fX6_37 dX6_soundCodesUnder_11 (tw (by first | decide | omega)) (by first | decide | omega) rfl rfl ?_
        refine a_iload_n C dX6_soundCodesUnder_14 rfl rfl ?_
        refine a_iload_n C dX6_soundCodesUnder_15 rfl rfl ?_
        refine p_callV C (K_X1_liesUnder (by first | assumption | decide | omega) (by first | assumption | decide | omega)) vX6_464 rfl (by first | decide | omega) rfl rfl dX6_soundCodesUnder_16 (Nat.le_of_ble_eq_true rfl) ⟨by decide, by decide⟩ ?_
        first | refine b_if_eq (tgt := 33) C dX6_soundCodesUnder_19 (by decide) (fun h_19 => ?_) (fun h_19 => ?_) | refine n_if_eq (tgt := 33) C dX6_soundCodesUnder_19 (by decide) (by first | decide | omega) (fun h_19 => ?_) (fun h_19 => ?_) | refine a_if_eq (tgt := 33) C dX6_soundCodesUnder_19 (by decide) (fun h_19 => ?_) (fun h_19 => ?_)
        · refine n_iinc C dX6_soundCodesUnder_33 rfl (by decide) ?_
          refine a_goto (tgt := 4) C dX6_soundCodesUnder_36 (by decide) ?_
          refine a_join (aLe_s ?_ (aLe_s ?_ (aLe_s ?_ (aLe_s ?_ aLe_nil)))) rfl rfl (zih4 (d + 1) (by omega) (by omega))
          · first | with_reducible rfl | exact gl (by first | with_reducible rfl | (refine iF ?_; simp [cntN, sbP, h_7, h_19]; done) | (refine iT ?_; simp [cntN, sbP, h_7, h_19]; done) | (refine iB ?_; simp [cntN, sbP, h_7, h_19]; done) | (simp [cntN, sbP, h_7, h_19]; done) | (simp [cntN, sbP, h_7, h_19]; omega) | omega)
          · first | with_reducible rfl | exact gl (by first | with_reducible rfl | (refine iF ?_; simp [cntN, sbP, h_7, h_19]; done) | (refine iT ?_; simp [cntN, sbP, h_7, h_19]; done) | (refine iB ?_; simp [cntN, sbP, h_7, h_19]; done) | (simp [cntN, sbP, h_7, h_19]; done) | (simp [cntN, sbP, h_7, h_19]; omega) | omega)
          · first | with_reducible rfl | exact gl (by first | with_reducible rfl | (refine iF ?_; simp [cntN, sbP, h_7, h_19]; done) | (refine iT ?_; simp [cntN, sbP, h_7, h_19]; done) | (refine iB ?_; simp [cntN, sbP, h_7, h_19]; done) | (simp [cntN, sbP, h_7, h_19]; done) | (simp [cntN, sbP, h_7, h_19]; omega) | omega)
          · first | with_reducible rfl | exact gl (by first | with_reducible rfl | (refine iF ?_; simp [cntN, sbP, h_7, h_19]; done) | (refine iT ?_; simp [cntN, sbP, h_7, h_19]; done) | (refine iB ?_; simp [cntN, sbP, h_7, h_19]; done) | (simp [cntN, sbP, h_7, h_19]; done) | (simp [cntN, sbP, h_7, h_19]; omega) | omega)
        · refine a_aload_n C dX6_soundCodesUnder_22 rfl rfl ?_
          refine a_iload_n C dX6_soundCodesUnder_23 rfl rfl ?_
          refine p_callV C (K_X6_isSound hD hA (by first | assumption | decide | omega)) vX6_282 rfl (by first | decide | omega) rfl rfl dX6_soundCodesUnder_24 (Nat.le_of_ble_eq_true rfl) ⟨by decide, by decide⟩ ?_
          first | refine b_if_eq (tgt := 33) C dX6_soundCodesUnder_27 (by decide) (fun h_27 => ?_) (fun h_27 => ?_) | refine n_if_eq (tgt := 33) C dX6_soundCodesUnder_27 (by decide) (by first | decide | omega) (fun h_27 => ?_) (fun h_27 => ?_) | refine a_if_eq (tgt := 33) C dX6_soundCodesUnder_27 (by decide) (fun h_27 => ?_) (fun h_27 => ?_)
          · refine n_iinc C dX6_soundCodesUnder_33 rfl (by decide) ?_
            refine a_goto (tgt := 4) C dX6_soundCodesUnder_36 (by decide) ?_
            refine a_join (aLe_s ?_ (aLe_s ?_ (aLe_s ?_ (aLe_s ?_ aLe_nil)))) rfl rfl (zih4 (d + 1) (by omega) (by omega))
            · first | with_reducible rfl | exact gl (by first | with_reducible rfl | (refine iF ?_; simp [cntN, sbP, h_7, h_19, h_27]; done) | (refine iT ?_; simp [cntN, sbP, h_7, h_19, h_27]; done) | (refine iB ?_; simp [cntN, sbP, h_7, h_19, h_27]; done) | (simp [cntN, sbP, h_7, h_19, h_27]; done) | (simp [cntN, sbP, h_7, h_19, h_27]; omega) | omega)
            · first | with_reducible rfl | exact gl (by first | with_reducible rfl | (refine iF ?_; simp [cntN, sbP, h_7, h_19, h_27]; done) | (refine iT ?_; simp [cntN, sbP, h_7, h_19, h_27]; done) | (refine iB ?_; simp [cntN, sbP, h_7, h_19, h_27]; done) | (simp [cntN, sbP, h_7, h_19, h_27]; done) | (simp [cntN, sbP, h_7, h_19, h_27]; omega) | omega)
            · first | with_reducible rfl | exact gl (by first | with_reducible rfl | (refine iF ?_; simp [cntN, sbP, h_7, h_19, h_27]; done) | (refine iT ?_; simp [cntN, sbP, h_7, h_19, h_27]; done) | (refine iB ?_; simp [cntN, sbP, h_7, h_19, h_27]; done) | (simp [cntN, sbP, h_7, h_19, h_27]; done) | (simp [cntN, sbP, h_7, h_19, h_27]; omega) | omega)
            · first | with_reducible rfl | exact gl (by first | with_reducible rfl | (refine iF ?_; simp [cntN, sbP, h_7, h_19, h_27]; done) | (refine iT ?_; simp [cntN, sbP, h_7, h_19, h_27]; done) | (refine iB ?_; simp [cntN, sbP, h_7, h_19, h_27]; done) | (simp [cntN, sbP, h_7, h_19, h_27]; done) | (simp [cntN, sbP, h_7, h_19, h_27]; omega) | omega)
          · refine n_iinc C dX6_soundCodesUnder_30 rfl (by decide) ?_
            refine n_iinc C dX6_soundCodesUnder_33 rfl (by decide) ?_
            refine a_goto (tgt := 4) C dX6_soundCodesUnder_36 (by decide) ?_
            refine a_join (aLe_s ?_ (aLe_s ?_ (aLe_s ?_ (aLe_s ?_ aLe_nil)))) rfl rfl (zih4 (d + 1) (by omega) (by omega))
            · first | with_reducible rfl | exact gl (by first | with_reducible rfl | (refine iF ?_; simp [cntN, sbP, h_7, h_19, h_27]; done) | (refine iT ?_; simp [cntN, sbP, h_7, h_19, h_27]; done) | (refine iB ?_; simp [cntN, sbP, h_7, h_19, h_27]; done) | (simp [cntN, sbP, h_7, h_19, h_27]; done) | (simp [cntN, sbP, h_7, h_19, h_27]; omega) | omega)
            · first | with_reducible rfl | exact gl (by first | with_reducible rfl | (refine iF ?_; simp [cntN, sbP, h_7, h_19, h_27]; done) | (refine iT ?_; simp [cntN, sbP, h_7, h_19, h_27]; done) | (refine iB ?_; simp [cntN, sbP, h_7, h_19, h_27]; done) | (simp [cntN, sbP, h_7, h_19, h_27]; done) | (simp [cntN, sbP, h_7, h_19, h_27]; omega) | omega)
            · first | with_reducible rfl | exact gl (by first | with_reducible rfl | (refine iF ?_; simp [cntN, sbP, h_7, h_19, h_27]; done) | (refine iT ?_; simp [cntN, sbP, h_7, h_19, h_27]; done) | (refine iB ?_; simp [cntN, sbP, h_7, h_19, h_27]; done) | (simp [cntN, sbP, h_7, h_19, h_27]; done) | (simp [cntN, sbP, h_7, h_19, h_27]; omega) | omega)
            · first | with_reducible rfl | exact gl (by first | with_reducible rfl | (refine iF ?_; simp [cntN, sbP, h_7, h_19, h_27]; done) | (refine iT ?_; simp [cntN, sbP, h_7, h_19, h_27]; done) | (refine iB ?_; simp [cntN, sbP, h_7, h_19, h_27]; done) | (simp [cntN, sbP, h_7, h_19, h_27]; done) | (simp [cntN, sbP, h_7, h_19, h_27]; omega) | omega)
  refine a_pad 2 ?_
  refine a_eq (L' := [some (.ref 0), some (.int (nI c)), none, none]) rfl rfl rfl ?_
  refine a_iconst (v := nI 0) C dX6_soundCodesUnder_0 (by decide) ?_
  refine a_istore_n C dX6_soundCodesUnder_1 rfl (by decide) ?_
  refine a_iconst (v := nI 0) C dX6_soundCodesUnder_2 (by decide) ?_
  refine a_istore_n C dX6_soundCodesUnder_3 rfl (by decide) ?_
  refine a_join (aLe_s ?_ (aLe_s ?_ (aLe_s ?_ (aLe_s ?_ aLe_nil)))) rfl rfl (ZL4 (81 + 1) 0 (by omega) (by omega))
  · first | with_reducible rfl | exact gl (by first | with_reducible rfl | (refine iF ?_; simp [cntN, sbP]; done) | (refine iT ?_; simp [cntN, sbP]; done) | (refine iB ?_; simp [cntN, sbP]; done) | (simp [cntN, sbP]; done) | (simp [cntN, sbP]; omega) | omega | rfl)
  · first | with_reducible rfl | exact gl (by first | with_reducible rfl | (refine iF ?_; simp [cntN, sbP]; done) | (refine iT ?_; simp [cntN, sbP]; done) | (refine iB ?_; simp [cntN, sbP]; done) | (simp [cntN, sbP]; done) | (simp [cntN, sbP]; omega) | omega | rfl)
  · first | with_reducible rfl | exact gl (by first | with_reducible rfl | (refine iF ?_; simp [cntN, sbP]; done) | (refine iT ?_; simp [cntN, sbP]; done) | (refine iB ?_; simp [cntN, sbP]; done) | (simp [cntN, sbP]; done) | (simp [cntN, sbP]; omega) | omega | rfl)
  · first | with_reducible rfl | exact gl (by first | with_reducible rfl | (refine iF ?_; simp [cntN, sbP]; done) | (refine iT ?_; simp [cntN, sbP]; done) | (refine iB ?_; simp [cntN, sbP]; done) | (simp [cntN, sbP]; done) | (simp [cntN, sbP]; omega) | omega | rfl)

set_option maxRecDepth 20000 in
set_option maxHeartbeats 4000000 in
theorem K_X6_codeBehindUse {w : Wd} {A : St} (hD : DR w 3 A) (hA : AOK A) {c : Nat} (x : Int32) (hc : c < 81) : CP yX6_codeBehindUse cX6_codeBehindUse 4 (some .int) 0 0 [.ref 0, .int (nI c), .int x] w (.int (nI (if wrA A x then woN c else c))) := by
  have zq_n := hA.n12
  have zq_s := hA.s10 (j := 2) (by decide)
  refine CF.of ok_X6_codeBehindUse (Nat.le_of_ble_eq_true rfl) (fun ex us G9 p9 l9 e9 s9 m9 ar9 be9 me9 co9 C hr => ?_)
  refine a_pad 1 ?_
  refine a_eq (L' := [some (.ref 0), some (.int (nI c)), some (.int x), none]) rfl rfl rfl ?_
  refine a_aload_n C dX6_codeBehindUse_0 rfl rfl ?_
  refine a_getfF C fX6_19 dX6_codeBehindUse_1 (tw (by first | decide | omega)) (by first | decide | omega) rfl rfl ?_
  refine a_getfF C fX6_194 dX6_codeBehindUse_4 (tw (by first | decide | omega)) (by first | decide | omega) rfl rfl ?_
  refine a_iconst (v := nI 2) C dX6_codeBehindUse_7 (by decide) ?_
  refine n_iald C dX6_codeBehindUse_8 (tw (by first | decide | omega)) (by first | decide | omega) rfl rfl (by first | decide | omega) (by decide) (DR_s hD hA (j := 2) (by decide)) ?_
  refine a_istore_n C dX6_codeBehindUse_9 rfl (by decide) ?_
  refine a_iload_n C dX6_codeBehindUse_10 rfl rfl ?_
  first | refine n_if_le (tgt := 20) C dX6_codeBehindUse_11 (by decide) (by first | decide | omega) (fun h_11 => ?_) (fun h_11 => ?_) | refine a_if_le (tgt := 20) C dX6_codeBehindUse_11 (by decide) (fun h_11 => ?_) (fun h_11 => ?_)
  · refine a_iload_n C dX6_codeBehindUse_20 rfl rfl ?_
    refine f_iret C hr ?_ dX6_codeBehindUse_21 ⟨?_, rfl⟩
    · rfl
    · first | with_reducible rfl | exact gl (by first | with_reducible rfl | (refine iF ?_; simp [wrA, h_11]; done) | (refine iT ?_; simp [wrA, h_11]; done) | (refine iB ?_; simp [wrA, h_11]; done) | (simp [wrA, h_11]; done) | (simp [wrA, h_11]; omega) | omega)
  · refine a_iload_n C dX6_codeBehindUse_14 rfl rfl ?_
    refine a_iload_n C dX6_codeBehindUse_15 rfl rfl ?_
    refine a_irem C dX6_codeBehindUse_16 (nI_ne0 (by omega) (by omega)) ?_
    refine a_if_eq (tgt := 22) C dX6_codeBehindUse_17 (by decide) (fun h_17 => ?_) (fun h_17 => ?_)
    · refine a_aload_n C dX6_codeBehindUse_22 rfl rfl ?_
      refine a_getfF C fX6_37 dX6_codeBehindUse_23 (tw (by first | decide | omega)) (by first | decide | omega) rfl rfl ?_
      refine a_getfF C fX6_418 dX6_codeBehindUse_26 (tw (by first | decide | omega)) (by first | decide | omega) rfl rfl ?_
      refine a_iload_n C dX6_codeBehindUse_29 rfl rfl ?_
      refine n_iald C dX6_codeBehindUse_30 (tw (by first | decide | omega)) (by first | decide | omega) rfl rfl (by first | decide | omega) (by decide) rfl ?_
      refine f_iret C hr ?_ dX6_codeBehindUse_31 ⟨?_, rfl⟩
      · rfl
      · first | with_reducible rfl | exact gl (by first | with_reducible rfl | (refine iF ?_; simp [wrA, h_11, (eq_true h_17), (beq_iff_eq.mpr h_17), (bne_eq_false_iff_eq.mpr h_17)]; done) | (refine iT ?_; simp [wrA, h_11, (eq_true h_17), (beq_iff_eq.mpr h_17), (bne_eq_false_iff_eq.mpr h_17)]; done) | (refine iB ?_; simp [wrA, h_11, (eq_true h_17), (beq_iff_eq.mpr h_17), (bne_eq_false_iff_eq.mpr h_17)]; done) | (simp [wrA, h_11, (eq_true h_17), (beq_iff_eq.mpr h_17), (bne_eq_false_iff_eq.mpr h_17)]; done) | (simp [wrA, h_11, (eq_true h_17), (beq_iff_eq.mpr h_17), (bne_eq_false_iff_eq.mpr h_17)]; omega) | omega)
    · refine a_iload_n C dX6_codeBehindUse_20 rfl rfl ?_
      refine f_iret C hr ?_ dX6_codeBehindUse_21 ⟨?_, rfl⟩
      · rfl
      · first | with_reducible rfl | exact gl (by first | with_reducible rfl | (refine iF ?_; simp [wrA, h_11, h_17, (beq_eq_false_iff_ne.mpr h_17), (bne_iff_ne.mpr h_17)]; done) | (refine iT ?_; simp [wrA, h_11, h_17, (beq_eq_false_iff_ne.mpr h_17), (bne_iff_ne.mpr h_17)]; done) | (refine iB ?_; simp [wrA, h_11, h_17, (beq_eq_false_iff_ne.mpr h_17), (bne_iff_ne.mpr h_17)]; done) | (simp [wrA, h_11, h_17, (beq_eq_false_iff_ne.mpr h_17), (bne_iff_ne.mpr h_17)]; done) | (simp [wrA, h_11, h_17, (beq_eq_false_iff_ne.mpr h_17), (bne_iff_ne.mpr h_17)]; omega) | omega)

set_option maxRecDepth 20000 in
set_option maxHeartbeats 4000000 in
theorem K_X6_freeShare {w : Wd} {A : St} (hD : DR w 3 A) (hA : AOK A)  : CP yX6_freeShare cX6_freeShare 2 (some .double) 4 93 [.ref 0] w (.double (FP.ddiv (FP.i2d (nI (cdsA A true))) (FP.i2d (nI (cdsA A false))))) := by
  have zq_v := shr_nn A
  have zq_b : cdsA A false ≤ 81 := cntN_le _ 81
  have zq_b1 : 1 ≤ cdsA A false := cntN_one (j := 0) (show cdP A false 0 = true from sd0 A) 81 (by decide)
  refine CF.of ok_X6_freeShare (Nat.le_of_ble_eq_true rfl) (fun ex us G9 p9 l9 e9 s9 m9 ar9 be9 me9 co9 C hr => ?_)
  refine a_pad 1 ?_
  refine a_eq (L' := [some (.ref 0), none]) rfl rfl rfl ?_
  refine a_aload_n C dX6_freeShare_0 rfl rfl ?_
  refine p_callV C (K_X6_soundCodes hD hA) vX6_325 rfl (by first | decide | omega) rfl rfl dX6_freeShare_1 (Nat.le_of_ble_eq_true rfl) ⟨by decide, by decide⟩ ?_
  refine a_istore_n C dX6_freeShare_4 rfl (by decide) ?_
  refine a_iload_n C dX6_freeShare_5 rfl rfl ?_
  refine n_if_le (tgt := 20) C dX6_freeShare_6 (by decide) (by first | decide | omega)  (fun h_6 => ?_) (fun h_6 => ?_)
  · exfalso; omega
  · refine a_aload_n C dX6_freeShare_9 rfl rfl ?_
    refine p_callV C (K_X6_freeCodes hD hA) vX6_328 rfl (by first | decide | omega) rfl rfl dX6_freeShare_10 (Nat.le_of_ble_eq_true rfl) ⟨by decide, by decide⟩ ?_
    refine a_i2d C dX6_freeShare_13 ?_
    refine a_iload_n C dX6_freeShare_14 rfl rfl ?_
    refine a_i2d C dX6_freeShare_15 ?_
    refine a_ddiv C dX6_freeShare_16 zq_v ?_
    refine a_goto (tgt := 21) C dX6_freeShare_17 (by decide) ?_
    refine f_dret C hr dX6_freeShare_21 ⟨?_, rfl⟩
    · rfl

end A14

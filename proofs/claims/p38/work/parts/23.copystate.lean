section A23
/-- all but what lies from b on -/
def FrB (b : Nat) (w w' : Wd) : Prop := (∀ a, a < b ∨ b + 23 ≤ a → w'.1 a = w.1 a) ∧ w'.2 = w.2
variable {w v : Wd} {A : St}
theorem FrB_refl {b : Nat} : FrB b w w := ⟨fun _ _ => rfl, rfl⟩
theorem FrB_set {b a k : Nat} {x : Int32} (ha : b ≤ a ∧ a < b + 23) (h : FrB b w v) : FrB b w (wSet v a k x) := ⟨fun c hc => by
  rw [← h.1 c hc]
  have : ¬ c = a := by omega
  simp [wSet, this], h.2⟩
theorem FrB_row {b a : Nat} {f : Nat → Int32} (ha : b ≤ a ∧ a < b + 23) (h : FrB b w v) : FrB b w (wRow v a f) := ⟨fun c hc => by
  rw [← h.1 c hc, wRow_ne (by omega)], h.2⟩
/-- the copy so far: how many keys, the keys below k, the locks below q -/
def cpK1 (w v : Wd) (A : St) (b k : Nat) : Prop := v.1 b 1 = nI (kN A) ∧ FrB b w v ∧ ∀ k', k' < k → ∀ m, m < 6 → v.1 (b + 5 + k') (pmI m) = A (40 + 6 * k' + m)
def cpL1 (w v : Wd) (A : St) (b q : Nat) : Prop := cpK1 w v A b (kN A) ∧ ∀ q', q' < q → ∀ m, m < 4 → v.1 (b + 17 + q') m = A (16 + 4 * q' + m)
theorem cpK1_s {j i k : Nat} (hj : j < 8) (hi : i < 8) (hne : ¬ j = i) (hD : DR w (stB i) A) (hn : kN A ≤ 12) (hk : k < kN A) (h : cpK1 w v A (stB j) k) :
    cpK1 w (wRow v (stB j + 5 + k) (k6 (v.1 (stB j + 5 + k)) (v.1 (stB i + 5 + k) 0) (v.1 (stB i + 5 + k) 1) (v.1 (stB i + 5 + k) 2) (v.1 (stB i + 5 + k) 3) (v.1 (stB i + 5 + k) 4) (v.1 (stB i + 5 + k) 5))) A (stB j) (k + 1) := by
  have q1 := stB_dj hj hi hne
  have q2 : v.1 (stB i + 5 + k) = w.1 (stB i + 5 + k) := h.2.1.1 _ (by omega)
  refine ⟨by rw [wRow_ne (by omega)]; exact h.1, FrB_row (by omega) h.2.1, fun k' hk' m hm => ?_⟩
  by_cases e : k' = k
  · subst e
    rw [wRow_at, q2]
    have hN := hD.dn
    match m, hm with
    | 0, _ => exact hN.k (j := 0) hk (by decide)
    | 1, _ => exact hN.k (j := 1) hk (by decide)
    | 2, _ => exact hN.k (j := 2) hk (by decide)
    | 3, _ => exact hN.k (j := 3) hk (by decide)
    | 4, _ => exact hN.k (j := 4) hk (by decide)
    | 5, _ => exact hN.k (j := 5) hk (by decide)
  · rw [wRow_ne (by omega)]
    exact h.2.2 k' (by omega) m hm
theorem cpL1_s {j i q : Nat} (hj : j < 8) (hi : i < 8) (hne : ¬ j = i) (hD : DR w (stB i) A) (hn : kN A ≤ 12) (hq : q < 6) (h : cpL1 w v A (stB j) q) :
    cpL1 w (wRow v (stB j + 17 + q) (l4 (v.1 (stB j + 17 + q)) (v.1 (stB i + 17 + q) 0) (v.1 (stB i + 17 + q) 1) (v.1 (stB i + 17 + q) 2) (v.1 (stB i + 17 + q) 3))) A (stB j) (q + 1) := by
  have q1 := stB_dj hj hi hne
  have q2 : v.1 (stB i + 17 + q) = w.1 (stB i + 17 + q) := h.1.2.1.1 _ (by omega)
  refine ⟨⟨by rw [wRow_ne (by omega)]; exact h.1.1, FrB_row (by omega) h.1.2.1, fun k' hk' m hm => by rw [wRow_ne (by omega)]; exact h.1.2.2 k' hk' m hm⟩, fun q' hq' m hm => ?_⟩
  by_cases e : q' = q
  · subst e
    rw [wRow_at, q2]
    have hN := hD.dn
    match m, hm with
    | 0, _ => exact hN.l (j := 0) hq (by decide)
    | 1, _ => exact hN.l (j := 1) hq (by decide)
    | 2, _ => exact hN.l (j := 2) hq (by decide)
    | 3, _ => exact hN.l (j := 3) hq (by decide)
  · rw [wRow_ne (by omega)]
    exact h.2 q' (by omega) m hm
def cpW (v : Wd) (A : St) (b c : Nat) : Wd := wSet (wSet (wSet (wSet (wSet (wSet (wSet (wRow (wRow v (b + 3) (va_cpy (v.1 (c + 3)) (v.1 (b + 3)) 0 0 4)) (b + 4) (va_cpy ((wRow v (b + 3) (va_cpy (v.1 (c + 3)) (v.1 (b + 3)) 0 0 4)).1 (c + 4)) ((wRow v (b + 3) (va_cpy (v.1 (c + 3)) (v.1 (b + 3)) 0 0 4)).1 (b + 4)) 0 0 4)) b 5 (A 1)) b 6 (A 2)) b 7 (A 3)) b 8 (A 4)) b 9 (A 5)) b 10 (A 6)) b 11 (A 7)
theorem cpW_fr {b c : Nat} (h : FrB b w v) : FrB b w (cpW v A b c) := by
  unfold cpW
  repeat' (first | exact h | (refine FrB_set (by omega) ?_) | (refine FrB_row (by omega) ?_))
theorem cpy4 {f g : Nat → Int32} {q : Nat} (hq : q < 4) : va_cpy f g 0 0 4 q = f q := by
  unfold va_cpy
  rw [if_pos (by omega)]
  congr 1
  omega
theorem cpW_dr {j i : Nat} (hj : j < 8) (hi : i < 8) (hne : ¬ j = i) (hD : DR w (stB i) A) (hA : AOK A) (h : cpL1 w v A (stB j) 6) : DR (cpW v A (stB j) (stB i)) (stB j) A := by
  have q1 := stB_dj hj hi hne
  have q3 : ∀ a, a < stB j ∨ stB j + 23 ≤ a → v.1 a = w.1 a := h.1.2.1.1
  have other : ∀ a m, ¬ a = stB j → ¬ a = stB j + 3 → ¬ a = stB j + 4 → (cpW v A (stB j) (stB i)).1 a m = v.1 a m := fun a m a1 a2 a3 => by
    unfold cpW
    rw [wSet_ne (by omega), wSet_ne (by omega), wSet_ne (by omega), wSet_ne (by omega), wSet_ne (by omega), wSet_ne (by omega), wSet_ne (by omega), wRow_ne a3, wRow_ne a2]
  have sc : ∀ m, m ≠ 5 → m ≠ 6 → m ≠ 7 → m ≠ 8 → m ≠ 9 → m ≠ 10 → m ≠ 11 → (cpW v A (stB j) (stB i)).1 (stB j) m = v.1 (stB j) m := fun m m1 m2 m3 m4 m5 m6 m7 => by
    unfold cpW
    rw [wSet_ne (by omega), wSet_ne (by omega), wSet_ne (by omega), wSet_ne (by omega), wSet_ne (by omega), wSet_ne (by omega), wSet_ne (by omega), wRow_ne (by omega), wRow_ne (by omega)]
  have hN := hD.dn
  refine ⟨by rw [sc 1 (by decide) (by decide) (by decide) (by decide) (by decide) (by decide) (by decide), h.1.1]; exact hA.n.symm, fun k hk => ?_, fun p hp => ?_, fun q hq => ?_, fun q hq => ?_, ?_⟩
  · have hk12 := hA.n12
    have e : ∀ m, (cpW v A (stB j) (stB i)).1 (stB j + 5 + k) m = v.1 (stB j + 5 + k) m := fun m => other _ m (by omega) (by omega) (by omega)
    rw [e, e, e, e, e, e]
    exact ⟨h.1.2.2 k hk 0 (by decide), h.1.2.2 k hk 3 (by decide), h.1.2.2 k hk 4 (by decide), h.1.2.2 k hk 1 (by decide), h.1.2.2 k hk 5 (by decide), h.1.2.2 k hk 2 (by decide)⟩
  · have e : ∀ m, (cpW v A (stB j) (stB i)).1 (stB j + 17 + p) m = v.1 (stB j + 17 + p) m := fun m => other _ m (by omega) (by omega) (by omega)
    rw [e, e, e, e]
    exact ⟨h.2 p hp 0 (by decide), h.2 p hp 1 (by decide), h.2 p hp 2 (by decide), h.2 p hp 3 (by decide)⟩
  · unfold cpW
    rw [wSet_ne (by omega), wSet_ne (by omega), wSet_ne (by omega), wSet_ne (by omega), wSet_ne (by omega), wSet_ne (by omega), wSet_ne (by omega), wRow_ne (by omega), wRow_at, cpy4 hq, q3 _ (by omega)]
    exact hN.p hq
  · unfold cpW
    rw [wSet_ne (by omega), wSet_ne (by omega), wSet_ne (by omega), wSet_ne (by omega), wSet_ne (by omega), wSet_ne (by omega), wSet_ne (by omega), wRow_at, cpy4 hq, wRow_ne (by omega), q3 _ (by omega)]
    exact hN.s hq
  · unfold cpW
    refine ⟨?_, ?_, ?_, ?_, ?_, ?_, ?_⟩
    · rw [wSet_ne (by omega), wSet_ne (by omega), wSet_ne (by omega), wSet_ne (by omega), wSet_ne (by omega), wSet_ne (by omega), wSet_at]
    · rw [wSet_ne (by omega), wSet_ne (by omega), wSet_ne (by omega), wSet_ne (by omega), wSet_ne (by omega), wSet_at]
    · rw [wSet_ne (by omega), wSet_ne (by omega), wSet_ne (by omega), wSet_ne (by omega), wSet_at]
    · rw [wSet_ne (by omega), wSet_ne (by omega), wSet_ne (by omega), wSet_at]
    · rw [wSet_ne (by omega), wSet_ne (by omega), wSet_at]
    · rw [wSet_ne (by omega), wSet_at]
    · rw [wSet_at]
set_option maxRecDepth 20000 in
set_option maxHeartbeats 4000000 in
theorem K_X5_copyFrom {w : Wd} {A : St} {j i : Nat} (hj : j < 8) (hi : i < 8) (hne : ¬ j = i) (hD : DR w (stB i) A) (hA : AOK A) : CF yX5_copyFrom cX5_copyFrom 3 none 1 40 [.ref (stB j), .ref (stB i)] w (fun r w' => r = none ∧ DR w' (stB j) A ∧ FrB (stB j) w w') := by
  have zq_n := hA.n12
  have zq_j := stB_le hj
  have zq_i := stB_le hi
  have zq_d := stB_dj hj hi hne
  have hN := hD.dn
  refine CF.of ok_X5_copyFrom (Nat.le_of_ble_eq_true rfl) (fun ex us G9 p9 l9 e9 s9 m9 ar9 be9 me9 co9 C hr => ?_)
  have ZL47 : ∀ (zd47 : Nat) (q : Nat) (v : Wd), 6 + 1 ≤ q + zd47 → q ≤ 6 → cpL1 w v A (stB j) q → WA G9 p9 l9 e9 (RM 1 40) s9 m9 ar9 be9 me9 co9 (QF G9 be9 ar9 s9 w ex us (fun r w' => r = none ∧ DR w' (stB j) A ∧ FrB (stB j) w w')) 3 (207 + ex.1 + ex.2) us 47 [some (.ref (stB j)), some (.ref (stB i)), some (.int (nI q))] [] (fzM v ex us) := by
    intro zd47
    induction zd47 with
    | zero => intro q v zm47 zh_k zh_c; exfalso; omega
    | succ zd47 zih47 =>
      intro q v zm47 zh_k zh_c
      refine a_iload_n C dX5_copyFrom_47 rfl rfl ?_
      refine a_bipush (v := nI 6) C dX5_copyFrom_48 (by decide) ?_
      first | refine n_icmp_ge (tgt := 74) C dX5_copyFrom_50 (by decide) (by first | decide | omega) (by first | decide | omega) (fun h_50 => ?_) (fun h_50 => ?_) | refine a_icmp_ge (tgt := 74) C dX5_copyFrom_50 (by decide) (fun h_50 => ?_) (fun h_50 => ?_)
      · obtain rfl : q = 6 := by omega
        refine a_aload_n C dX5_copyFrom_74 rfl rfl ?_
        refine a_getfF C fX5_23 dX5_copyFrom_75 (tw (by first | decide | omega)) (by first | decide | omega) (fzc_state hi _ _) rfl ?_
        refine a_iconst (v := nI 0) C dX5_copyFrom_78 (by decide) ?_
        refine a_aload_n C dX5_copyFrom_79 rfl rfl ?_
        refine a_getfF C fX5_23 dX5_copyFrom_80 (tw (by first | decide | omega)) (by first | decide | omega) (fzc_state hj _ _) rfl ?_
        refine a_iconst (v := nI 0) C dX5_copyFrom_83 (by decide) ?_
        refine a_iconst (v := nI 4) C dX5_copyFrom_84 (by decide) ?_
        refine f_copyi C j_copy1 dX5_copyFrom_85 (by omega) (by omega) (fzc_per hi _ _) (fun zrow => fzc_per hj zrow _) ⟨by decide, by decide⟩ ?_
        refine a_aload_n C dX5_copyFrom_88 rfl rfl ?_
        refine a_getfF C fX5_27 dX5_copyFrom_89 (tw (by first | decide | omega)) (by first | decide | omega) (fzc_state hi _ _) rfl ?_
        refine a_iconst (v := nI 0) C dX5_copyFrom_92 (by decide) ?_
        refine a_aload_n C dX5_copyFrom_93 rfl rfl ?_
        refine a_getfF C fX5_27 dX5_copyFrom_94 (tw (by first | decide | omega)) (by first | decide | omega) (fzc_state hj _ _) rfl ?_
        refine a_iconst (v := nI 0) C dX5_copyFrom_97 (by decide) ?_
        refine a_iconst (v := nI 4) C dX5_copyFrom_98 (by decide) ?_
        refine f_copyi C j_copy1 dX5_copyFrom_99 (by omega) (by omega) (fzc_set hi _ _) (fun zrow => fzc_set hj zrow _) ⟨by decide, by decide⟩ ?_
        refine a_aload_n C dX5_copyFrom_102 rfl rfl ?_
        refine a_aload_n C dX5_copyFrom_103 rfl rfl ?_
        refine a_getf C fX5_55 dX5_copyFrom_104 (tw (by first | decide | omega)) (by first | decide | omega) (fzc_state hi _ _) (gl (show _ = A 1 from by rw [wRow_ne (by omega), wRow_ne (by omega), zh_c.1.2.1.1 _ (by omega)]; exact hN.c (i := 1) (by decide))) ?_
        refine f_putf C fX5_55 dX5_copyFrom_107 (by first | decide | omega) (fzc_state hj _ _) rfl rfl (Nat.le_of_ble_eq_true rfl) (fzc_state hj _ _) ?_
        refine a_aload_n C dX5_copyFrom_110 rfl rfl ?_
        refine a_aload_n C dX5_copyFrom_111 rfl rfl ?_
        refine a_getf C fX5_58 dX5_copyFrom_112 (tw (by first | decide | omega)) (by first | decide | omega) (fzc_state hi _ _) (gl (show _ = A 2 from by rw [wSet_ne (by omega)] ; rw [wRow_ne (by omega), wRow_ne (by omega), zh_c.1.2.1.1 _ (by omega)]; exact hN.c (i := 2) (by decide))) ?_
        refine f_putf C fX5_58 dX5_copyFrom_115 (by first | decide | omega) (fzc_state hj _ _) rfl rfl (Nat.le_of_ble_eq_true rfl) (fzc_state hj _ _) ?_
        refine a_aload_n C dX5_copyFrom_118 rfl rfl ?_
        refine a_aload_n C dX5_copyFrom_119 rfl rfl ?_
        refine a_getf C fX5_61 dX5_copyFrom_120 (tw (by first | decide | omega)) (by first | decide | omega) (fzc_state hi _ _) (gl (show _ = A 3 from by rw [wSet_ne (by omega), wSet_ne (by omega)] ; rw [wRow_ne (by omega), wRow_ne (by omega), zh_c.1.2.1.1 _ (by omega)]; exact hN.c (i := 3) (by decide))) ?_
        refine f_putf C fX5_61 dX5_copyFrom_123 (by first | decide | omega) (fzc_state hj _ _) rfl rfl (Nat.le_of_ble_eq_true rfl) (fzc_state hj _ _) ?_
        refine a_aload_n C dX5_copyFrom_126 rfl rfl ?_
        refine a_aload_n C dX5_copyFrom_127 rfl rfl ?_
        refine a_getf C fX5_64 dX5_copyFrom_128 (tw (by first | decide | omega)) (by first | decide | omega) (fzc_state hi _ _) (gl (show _ = A 4 from by rw [wSet_ne (by omega), wSet_ne (by omega), wSet_ne (by omega)] ; rw [wRow_ne (by omega), wRow_ne (by omega), zh_c.1.2.1.1 _ (by omega)]; exact hN.c (i := 4) (by decide))) ?_
        refine f_putf C fX5_64 dX5_copyFrom_131 (by first | decide | omega) (fzc_state hj _ _) rfl rfl (Nat.le_of_ble_eq_true rfl) (fzc_state hj _ _) ?_
        refine a_aload_n C dX5_copyFrom_134 rfl rfl ?_
        refine a_aload_n C dX5_copyFrom_135 rfl rfl ?_
        refine a_getf C fX5_67 dX5_copyFrom_136 (tw (by first | decide | omega)) (by first | decide | omega) (fzc_state hi _ _) (gl (show _ = A 5 from by rw [wSet_ne (by omega), wSet_ne (by omega), wSet_ne (by omega), wSet_ne (by omega)] ; rw [wRow_ne (by omega), wRow_ne (by omega), zh_c.1.2.1.1 _ (by omega)]; exact hN.c (i := 5) (by decide))) ?_
        refine f_putf C fX5_67 dX5_copyFrom_139 (by first | decide | omega) (fzc_state hj _ _) rfl rfl (Nat.le_of_ble_eq_true rfl) (fzc_state hj _ _) ?_
        refine a_aload_n C dX5_copyFrom_142 rfl rfl ?_
        refine a_aload_n C dX5_copyFrom_143 rfl rfl ?_
        refine a_getf C fX5_30 dX5_copyFrom_144 (tw (by first | decide | omega)) (by first | decide | omega) (fzc_state hi _ _) (gl (show _ = A 6 from by rw [wSet_ne (by omega), wSet_ne (by omega), wSet_ne (by omega), wSet_ne (by omega), wSet_ne (by omega)] ; rw [wRow_ne (by omega), wRow_ne (by omega), zh_c.1.2.1.1 _ (by omega)]; exact hN.c (i := 6) (by decide))) ?_
        refine f_putf C fX5_30 dX5_copyFrom_147 (by first | decide | omega) (fzc_state hj _ _) rfl rfl (Nat.le_of_ble_eq_true rfl) (fzc_state hj _ _) ?_
        refine a_aload_n C dX5_copyFrom_150 rfl rfl ?_
        refine a_aload_n C dX5_copyFrom_151 rfl rfl ?_
        refine a_getf C fX5_34 dX5_copyFrom_152 (tw (by first | decide | omega)) (by first | decide | omega) (fzc_state hi _ _) (gl (show _ = A 7 from by rw [wSet_ne (by omega), wSet_ne (by omega), wSet_ne (by omega), wSet_ne (by omega), wSet_ne (by omega), wSet_ne (by omega)] ; rw [wRow_ne (by omega), wRow_ne (by omega), zh_c.1.2.1.1 _ (by omega)]; exact hN.c (i := 7) (by decide))) ?_
        refine f_putf C fX5_34 dX5_copyFrom_155 (by first | decide | omega) (fzc_state hj _ _) rfl rfl (Nat.le_of_ble_eq_true rfl) (fzc_state hj _ _) ?_
        refine f_vret C hr dX5_copyFrom_158 ?_
        exact ⟨rfl, cpW_dr hj hi hne hD hA zh_c, cpW_fr zh_c.1.2.1⟩
      · refine a_aload_n C dX5_copyFrom_53 rfl rfl ?_
        refine a_getfF C fX5_19 dX5_copyFrom_54 (tw (by first | decide | omega)) (by first | decide | omega) (fzc_state hj _ _) rfl ?_
        refine a_iload_n C dX5_copyFrom_57 rfl rfl ?_
        refine a_aaldL C dX5_copyFrom_58 (tw (by first | decide | omega)) (by first | decide | omega) (fzc_locks hj _ _) rfl (by first | decide | omega) (by decide) rfl ?_
        refine a_aload_n C dX5_copyFrom_59 rfl rfl ?_
        refine a_getfF C fX5_19 dX5_copyFrom_60 (tw (by first | decide | omega)) (by first | decide | omega) (fzc_state hi _ _) rfl ?_
        refine a_iload_n C dX5_copyFrom_63 rfl rfl ?_
        refine a_aaldL C dX5_copyFrom_64 (tw (by first | decide | omega)) (by first | decide | omega) (fzc_locks hi _ _) rfl (by first | decide | omega) (by decide) rfl ?_
        refine f_callV C _ _ (K_X3_copyFrom (w := v) (j := j) (i := i) (k := q) (k' := q) hj hi (by omega) (by omega) (by omega)) vX5_46 (by first | decide | omega) (fz_lock hj (by omega)) rfl dX5_copyFrom_65 rfl (Nat.le_of_ble_eq_true rfl) ⟨by decide, by decide⟩ (fun zr65 zw65 zp65 => ?_)
        obtain ⟨rfl, rfl⟩ := zp65
        refine n_iinc C dX5_copyFrom_68 rfl (by decide) ?_
        refine a_goto (tgt := 47) C dX5_copyFrom_71 (by decide) ?_
        refine a_join (aLe_s ?_ (aLe_s ?_ (aLe_s ?_ aLe_nil))) rfl rfl (zih47 (q + 1) _ (by omega) (by omega) (cpL1_s hj hi hne hD zq_n (by omega) zh_c))
        · first | with_reducible rfl | exact gl (by first | with_reducible rfl | (refine iF ?_; simp [h_50]; done) | (refine iT ?_; simp [h_50]; done) | (refine iB ?_; simp [h_50]; done) | (simp [h_50]; done) | (simp [h_50]; omega) | omega)
        · first | with_reducible rfl | exact gl (by first | with_reducible rfl | (refine iF ?_; simp [h_50]; done) | (refine iT ?_; simp [h_50]; done) | (refine iB ?_; simp [h_50]; done) | (simp [h_50]; done) | (simp [h_50]; omega) | omega)
        · first | with_reducible rfl | exact gl (by first | with_reducible rfl | (refine iF ?_; simp [h_50]; done) | (refine iT ?_; simp [h_50]; done) | (refine iB ?_; simp [h_50]; done) | (simp [h_50]; done) | (simp [h_50]; omega) | omega)
  have ZL10 : ∀ (zd10 : Nat) (k : Nat) (v : Wd), kN A + 1 ≤ k + zd10 → k ≤ kN A → cpK1 w v A (stB j) k → WA G9 p9 l9 e9 (RM 1 40) s9 m9 ar9 be9 me9 co9 (QF G9 be9 ar9 s9 w ex us (fun r w' => r = none ∧ DR w' (stB j) A ∧ FrB (stB j) w w')) 3 (207 + ex.1 + ex.2) us 10 [some (.ref (stB j)), some (.ref (stB i)), some (.int (nI k))] [] (fzM v ex us) := by
    intro zd10
    induction zd10 with
    | zero => intro k v zm10 zh_k zh_c; exfalso; omega
    | succ zd10 zih10 =>
      intro k v zm10 zh_k zh_c
      refine a_iload_n C dX5_copyFrom_10 rfl rfl ?_
      refine a_aload_n C dX5_copyFrom_11 rfl rfl ?_
      refine a_getf C fX5_39 dX5_copyFrom_12 (tw (by first | decide | omega)) (by first | decide | omega) (fzc_state hj _ _) (gl zh_c.1) ?_
      first | refine n_icmp_ge (tgt := 45) C dX5_copyFrom_15 (by decide) (by first | decide | omega) (by first | decide | omega) (fun h_15 => ?_) (fun h_15 => ?_) | refine a_icmp_ge (tgt := 45) C dX5_copyFrom_15 (by decide) (fun h_15 => ?_) (fun h_15 => ?_)
      · obtain rfl : k = kN A := by omega
        refine a_iconst (v := nI 0) C dX5_copyFrom_45 (by decide) ?_
        refine a_istore_n C dX5_copyFrom_46 rfl (by decide) ?_
        refine a_join (aLe_s ?_ (aLe_s ?_ (aLe_s ?_ aLe_nil))) rfl rfl (ZL47 (6 + 1) 0 v (by omega) (by omega) ⟨zh_c, fun k' hk' => absurd hk' (Nat.not_lt_zero k')⟩)
        · first | with_reducible rfl | exact gl (by first | with_reducible rfl | (refine iF ?_; simp [h_15]; done) | (refine iT ?_; simp [h_15]; done) | (refine iB ?_; simp [h_15]; done) | (simp [h_15]; done) | (simp [h_15]; omega) | omega | rfl)
        · first | with_reducible rfl | exact gl (by first | with_reducible rfl | (refine iF ?_; simp [h_15]; done) | (refine iT ?_; simp [h_15]; done) | (refine iB ?_; simp [h_15]; done) | (simp [h_15]; done) | (simp [h_15]; omega) | omega | rfl)
        · first | with_reducible rfl | exact gl (by first | with_reducible rfl | (refine iF ?_; simp [h_15]; done) | (refine iT ?_; simp [h_15]; done) | (refine iB ?_; simp [h_15]; done) | (simp [h_15]; done) | (simp [h_15]; omega) | omega | rfl)
      · refine a_iload_n C dX5_copyFrom_18 rfl rfl ?_
        refine a_bipush (v := nI 12) C dX5_copyFrom_19 (by decide) ?_
        first | refine n_icmp_ge (tgt := 45) C dX5_copyFrom_21 (by decide) (by first | decide | omega) (by first | decide | omega) (fun h_21 => ?_) (fun h_21 => ?_) | refine a_icmp_ge (tgt := 45) C dX5_copyFrom_21 (by decide) (fun h_21 => ?_) (fun h_21 => ?_)
        · exfalso; omega
        · refine a_aload_n C dX5_copyFrom_24 rfl rfl ?_
          refine a_getfF C fX5_11 dX5_copyFrom_25 (tw (by first | decide | omega)) (by first | decide | omega) (fzc_state hj _ _) rfl ?_
          refine a_iload_n C dX5_copyFrom_28 rfl rfl ?_
          refine a_aaldK C dX5_copyFrom_29 (tw (by first | decide | omega)) (by first | decide | omega) (fzc_keys hj _ _) rfl (by first | decide | omega) (by decide) rfl ?_
          refine a_aload_n C dX5_copyFrom_30 rfl rfl ?_
          refine a_getfF C fX5_11 dX5_copyFrom_31 (tw (by first | decide | omega)) (by first | decide | omega) (fzc_state hi _ _) rfl ?_
          refine a_iload_n C dX5_copyFrom_34 rfl rfl ?_
          refine a_aaldK C dX5_copyFrom_35 (tw (by first | decide | omega)) (by first | decide | omega) (fzc_keys hi _ _) rfl (by first | decide | omega) (by decide) rfl ?_
          refine f_callV C _ _ (K_X2_copyFrom (w := v) (j := j) (i := i) (k := k) (k' := k) hj hi (by omega) (by omega) (by omega) ⟨lsA A k, by rw [zh_c.2.1.1 _ (by omega)]; exact DR_kl hD hA (by omega)⟩) vX5_42 (by first | decide | omega) (fz_key hj (by omega)) rfl dX5_copyFrom_36 rfl (Nat.le_of_ble_eq_true rfl) ⟨by decide, by decide⟩ (fun zr36 zw36 zp36 => ?_)
          obtain ⟨rfl, rfl⟩ := zp36
          refine n_iinc C dX5_copyFrom_39 rfl (by decide) ?_
          refine a_goto (tgt := 10) C dX5_copyFrom_42 (by decide) ?_
          refine a_join (aLe_s ?_ (aLe_s ?_ (aLe_s ?_ aLe_nil))) rfl rfl (zih10 (k + 1) _ (by omega) (by omega) (cpK1_s hj hi hne hD zq_n (by omega) zh_c))
          · first | with_reducible rfl | exact gl (by first | with_reducible rfl | (refine iF ?_; simp [h_15, h_21]; done) | (refine iT ?_; simp [h_15, h_21]; done) | (refine iB ?_; simp [h_15, h_21]; done) | (simp [h_15, h_21]; done) | (simp [h_15, h_21]; omega) | omega)
          · first | with_reducible rfl | exact gl (by first | with_reducible rfl | (refine iF ?_; simp [h_15, h_21]; done) | (refine iT ?_; simp [h_15, h_21]; done) | (refine iB ?_; simp [h_15, h_21]; done) | (simp [h_15, h_21]; done) | (simp [h_15, h_21]; omega) | omega)
          · first | with_reducible rfl | exact gl (by first | with_reducible rfl | (refine iF ?_; simp [h_15, h_21]; done) | (refine iT ?_; simp [h_15, h_21]; done) | (refine iB ?_; simp [h_15, h_21]; done) | (simp [h_15, h_21]; done) | (simp [h_15, h_21]; omega) | omega)
  refine a_pad 1 ?_
  refine a_eq (L' := [some (.ref (stB j)), some (.ref (stB i)), none]) rfl rfl rfl ?_
  refine a_aload_n C dX5_copyFrom_0 rfl rfl ?_
  refine a_aload_n C dX5_copyFrom_1 rfl rfl ?_
  refine a_getf C fX5_39 dX5_copyFrom_2 (tw (by first | decide | omega)) (by first | decide | omega) (fzc_state hi _ _) (gl (hN.n.trans hA.n)) ?_
  refine f_putf C fX5_39 dX5_copyFrom_5 (by first | decide | omega) (fzc_state hj _ _) rfl rfl (Nat.le_of_ble_eq_true rfl) (fzc_state hj _ _) ?_
  refine a_iconst (v := nI 0) C dX5_copyFrom_8 (by decide) ?_
  refine a_istore_n C dX5_copyFrom_9 rfl (by decide) ?_
  refine a_join (aLe_s ?_ (aLe_s ?_ (aLe_s ?_ aLe_nil))) rfl rfl (ZL10 (kN A + 1) 0 (wSet w (stB j) 1 (nI (kN A))) (by omega) (by omega) ⟨wSet_at, FrB_set (by omega) FrB_refl, fun k' hk' => absurd hk' (Nat.not_lt_zero k')⟩)
  · first | with_reducible rfl | exact gl (by first | with_reducible rfl | (refine iF ?_; simp []; done) | (refine iT ?_; simp []; done) | (refine iB ?_; simp []; done) | (simp []; done) | (simp []; omega) | omega | rfl)
  · first | with_reducible rfl | exact gl (by first | with_reducible rfl | (refine iF ?_; simp []; done) | (refine iT ?_; simp []; done) | (refine iB ?_; simp []; done) | (simp []; done) | (simp []; omega) | omega | rfl)
  · first | with_reducible rfl | exact gl (by first | with_reducible rfl | (refine iF ?_; simp []; done) | (refine iT ?_; simp []; done) | (refine iB ?_; simp []; done) | (simp []; done) | (simp []; omega) | omega | rfl)

end A23

section A19
theorem b_icmp1_eq {G : aG} {p : Program} {l : Launch} {e : Env} {R : Room} {s : State} {m : MethodId} {args : Array Value} {below : List Frame} {meth : Method} {c : Code} {Q : State → Prop} {n k0 u0 pc : Nat} {cc : ByteArray} {own : String} {L : aL} {st : List Value} {M : aH} (C : aCtx G p s m args meth c cc n own) {b : Bool} {off : Int} {tgt : Nat} (hd : decode cc pc = .ok (.if_icmp .eq off, 3)) (ht : (pc : Int) + off = (tgt : Int)) (kt : b = true → WA G p l e R s m args below meth c Q n k0 u0 tgt L st M) (kf : b = false → WA G p l e R s m args below meth c Q n k0 u0 (pc + 3) L st M) : WA G p l e R s m args below meth c Q n k0 u0 pc L (.int (nI 1) :: .int (bI b) :: st) M :=
  a_icmp_eq C hd ht (fun q => kt (bI_1.mp q)) (fun q => kf (by cases b with | true => exact absurd rfl q | false => rfl))
/-! ### the saved states: a row of six -/
def shK (r : Nat → Int32) : Nat → (Nat → Int32)
  | 0 => r
  | k + 1 => upd (shK r k) k (r (k + 112))
def cpK (r : Nat → Int32) (s : Nat) (A : St) : Nat → (Nat → Int32)
  | 0 => r
  | k + 1 => upd (cpK r s A k) (s * 112 + k) (A k)
def cyK (r f : Nat → Int32) : Nat → (Nat → Int32)
  | 0 => r
  | k + 1 => upd (cyK r f k) k (f k)
theorem shK_hi {r : Nat → Int32} {j : Nat} : ∀ k, k ≤ j → shK r k j = r j
  | 0, _ => rfl
  | k + 1, h => by
    show upd (shK r k) k (r (k + 112)) j = r j
    rw [upd_ne (by omega)]
    exact shK_hi k (by omega)
theorem shK_lo {r : Nat → Int32} {j : Nat} : ∀ k, j < k → shK r k j = r (j + 112)
  | 0, h => absurd h (Nat.not_lt_zero j)
  | k + 1, h => by
    show upd (shK r k) k (r (k + 112)) j = r (j + 112)
    by_cases h1 : j = k
    · subst h1
      exact upd_at
    · rw [upd_ne h1]
      exact shK_lo k (by omega)
theorem cpK_in {r : Nat → Int32} {s : Nat} {A : St} {j : Nat} : ∀ k, j < k → cpK r s A k (s * 112 + j) = A j
  | 0, h => absurd h (Nat.not_lt_zero j)
  | k + 1, h => by
    show upd (cpK r s A k) (s * 112 + k) (A k) (s * 112 + j) = A j
    by_cases h1 : j = k
    · subst h1
      exact upd_at
    · rw [upd_ne (by omega)]
      exact cpK_in k (by omega)
theorem cpK_out {r : Nat → Int32} {s : Nat} {A : St} {j : Nat} : ∀ k, (j < s * 112 ∨ s * 112 + k ≤ j) → cpK r s A k j = r j
  | 0, _ => rfl
  | k + 1, h => by
    show upd (cpK r s A k) (s * 112 + k) (A k) j = r j
    rw [upd_ne (by omega)]
    exact cpK_out k (by omega)
theorem cyK_lo {r f : Nat → Int32} {j : Nat} : ∀ k, j < k → cyK r f k j = f j
  | 0, h => absurd h (Nat.not_lt_zero j)
  | k + 1, h => by
    show upd (cyK r f k) k (f k) j = f j
    by_cases h1 : j = k
    · subst h1
      exact upd_at
    · rw [upd_ne h1]
      exact cyK_lo k (by omega)
theorem cyK_hi {r f : Nat → Int32} {j : Nat} : ∀ k, k ≤ j → cyK r f k j = r j
  | 0, _ => rfl
  | k + 1, h => by
    show upd (cyK r f k) k (f k) j = r j
    rw [upd_ne (by omega)]
    exact cyK_hi k (by omega)
def svN (sv : Nat) : Nat := if sv = 6 then 6 else sv + 1
def svR (r : Nat → Int32) (sv : Nat) (A : St) : Nat → Int32 := if sv = 6 then cpK (shK r 560) 5 A 112 else cpK r sv A 112
def svW (w : Wd) (A : St) (sv : Nat) : Wd := wRow (wSet w 204 3 (nI (svN sv))) 206 (svR (w.1 206) sv A)
theorem wSet_wRow {w : Wd} {a b k : Nat} {x : Int32} {f : Nat → Int32} (h : ¬ a = b) : wSet (wRow w b f) a k x = wRow (wSet w a k x) b f := by
  rw [wSet_is, wSet_is, wRow_ne h, wRow_comm h]
theorem sv_eqA {w : Wd} {A : St} {sv : Nat} (h : sv ≠ 6) : wSet (wRow w 206 (cpK (w.1 206) sv A 112)) 204 3 (nI (sv + 1)) = svW w A sv := by
  unfold svW svN svR
  rw [if_neg h, if_neg h]
  exact wSet_wRow (by decide)
theorem sv_eqB {w : Wd} {A : St} {sv : Nat} (h : sv = 6) : wSet (wRow (wSet (wRow w 206 (shK (w.1 206) 560)) 204 3 (nI (sv - 1))) 206 (cpK ((wSet (wRow w 206 (shK (w.1 206) 560)) 204 3 (nI (sv - 1))).1 206) (sv - 1) A 112)) 204 3 (nI (sv - 1 + 1)) = svW w A sv := by
  subst h
  unfold svW svN svR
  rw [if_pos rfl, if_pos rfl]
  have zq_1 : (wSet (wRow w 206 (shK (w.1 206) 560)) 204 3 (nI (6 - 1))).1 206 = shK (w.1 206) 560 := rfl
  rw [zq_1, wSet_wRow (by decide), wSet2, wSet_wRow (by decide), wRow_row]
set_option maxRecDepth 20000 in
set_option maxHeartbeats 4000000 in
theorem K_X7_save {w : Wd} {A : St} (hR : RR w A) {sv : Nat} (hv : w.1 204 3 = nI sv) (hs : sv ≤ 6)  : CF yX7_save cX7_save 2 none 0 0 [.ref 204] w (fun r w' => r = none ∧ w' = svW w A sv) := by
  refine CF.of ok_X7_save (Nat.le_of_ble_eq_true rfl) (fun ex us G9 p9 l9 e9 s9 m9 ar9 be9 me9 co9 C hr => ?_)
  have ZL51 : ∀ (zd51 : Nat) (k : Nat) (w1 : Wd) (s1 : Nat), 112 + 1 ≤ k + zd51 → k ≤ 112 → RR w1 A → w1.1 204 3 = nI s1 → s1 ≤ 5 → wSet (wRow w1 206 (cpK (w1.1 206) s1 A 112)) 204 3 (nI (s1 + 1)) = svW w A sv → WA G9 p9 l9 e9 (RM 0 0) s9 m9 ar9 be9 me9 co9 (QF G9 be9 ar9 s9 w ex us (fun r w' => r = none ∧ w' = svW w A sv)) 2 (219 + ex) us 51 [some (.ref 204), some (.int (nI k))] [] (fzM (wRow w1 206 (cpK (w1.1 206) s1 A k)) ex us) := by
    intro zd51
    induction zd51 with
    | zero => intro k w1 s1 zm51 zh_k zh_R zh_v zh_s zh_e; exfalso; omega
    | succ zd51 zih51 =>
      intro k w1 s1 zm51 zh_k zh_R zh_v zh_s zh_e
      refine a_iload_n C dX7_save_51 rfl rfl ?_
      refine a_bipush (v := nI 112) C dX7_save_52 (by decide) ?_
      first | refine n_icmp_ge (tgt := 83) C dX7_save_54 (by decide) (by first | decide | omega) (by first | decide | omega) (fun h_54 => ?_) (fun h_54 => ?_) | refine a_icmp_ge (tgt := 83) C dX7_save_54 (by decide) (fun h_54 => ?_) (fun h_54 => ?_)
      · obtain rfl : k = 112 := by omega
        refine a_aload_n C dX7_save_83 rfl rfl ?_
        refine a_dup C dX7_save_84 rfl ?_
        refine a_getf C fX7_65 dX7_save_85 (show _ < 219 from (by first | decide | omega)) (by first | decide | omega) rfl (gl zh_v) ?_
        refine a_iconst (v := nI 1) C dX7_save_88 (by decide) ?_
        first | refine n_iadd C dX7_save_89 ?_ | refine a_iadd C dX7_save_89 ?_
        refine f_putf C fX7_65 dX7_save_90 (by first | decide | omega) rfl rfl rfl (Nat.le_of_ble_eq_true rfl) rfl ?_
        refine f_vret C hr dX7_save_93 ?_
        exact ⟨rfl, zh_e⟩
      · refine a_aload_n C dX7_save_57 rfl rfl ?_
        refine a_getfF C fX7_13 dX7_save_58 (show _ < 219 from (by first | decide | omega)) (by first | decide | omega) rfl rfl ?_
        refine a_aload_n C dX7_save_61 rfl rfl ?_
        refine a_getf C fX7_65 dX7_save_62 (show _ < 219 from (by first | decide | omega)) (by first | decide | omega) rfl (gl zh_v) ?_
        refine a_bipush (v := nI 112) C dX7_save_65 (by decide) ?_
        first | refine n_imul C dX7_save_67 ?_ | refine a_imul C dX7_save_67 ?_
        refine a_iload_n C dX7_save_68 rfl rfl ?_
        first | refine n_iadd C dX7_save_69 ?_ | refine a_iadd C dX7_save_69 ?_
        refine a_aload_n C dX7_save_70 rfl rfl ?_
        refine a_getfF C fX7_7 dX7_save_71 (show _ < 219 from (by first | decide | omega)) (by first | decide | omega) rfl rfl ?_
        refine a_iload_n C dX7_save_74 rfl rfl ?_
        refine n_iald C dX7_save_75 (show _ < 219 from (by first | decide | omega)) (by first | decide | omega) rfl rfl (by first | decide | omega) (by decide) zh_R.at ?_
        refine f_iast C dX7_save_76 (by first | decide | omega) rfl rfl (by first | decide | omega) (by decide)  rfl ?_
        refine a_wd wSet_row ?_
        refine n_iinc C dX7_save_77 rfl (by decide) ?_
        refine a_goto (tgt := 51) C dX7_save_80 (by decide) ?_
        refine a_join (aLe_s ?_ (aLe_s ?_ aLe_nil)) rfl rfl (zih51 (k + 1) w1 s1 (by omega) (by omega) zh_R zh_v zh_s zh_e)
        · first | with_reducible rfl | exact gl (by first | with_reducible rfl | (refine iF ?_; simp [h_54]; done) | (refine iT ?_; simp [h_54]; done) | (refine iB ?_; simp [h_54]; done) | (simp [h_54]; done) | (simp [h_54]; omega) | omega)
        · first | with_reducible rfl | exact gl (by first | with_reducible rfl | (refine iF ?_; simp [h_54]; done) | (refine iT ?_; simp [h_54]; done) | (refine iB ?_; simp [h_54]; done) | (simp [h_54]; done) | (simp [h_54]; omega) | omega)
  have ZL11 : ∀ (zd11 : Nat) (k : Nat), 560 + 1 ≤ k + zd11 → k ≤ 560 → sv = 6 → WA G9 p9 l9 e9 (RM 0 0) s9 m9 ar9 be9 me9 co9 (QF G9 be9 ar9 s9 w ex us (fun r w' => r = none ∧ w' = svW w A sv)) 2 (219 + ex) us 11 [some (.ref 204), some (.int (nI k))] [] (fzM (wRow w 206 (shK (w.1 206) k)) ex us) := by
    intro zd11
    induction zd11 with
    | zero => intro k zm11 zh11_0 zh11_1; exfalso; omega
    | succ zd11 zih11 =>
      intro k zm11 zh11_0 zh11_1
      refine a_iload_n C dX7_save_11 rfl rfl ?_
      refine a_sipush (v := nI 560) C dX7_save_12 (by decide) ?_
      first | refine n_icmp_ge (tgt := 39) C dX7_save_15 (by decide) (by first | decide | omega) (by first | decide | omega) (fun h_15 => ?_) (fun h_15 => ?_) | refine a_icmp_ge (tgt := 39) C dX7_save_15 (by decide) (fun h_15 => ?_) (fun h_15 => ?_)
      · obtain rfl : k = 560 := by omega
        refine a_aload_n C dX7_save_39 rfl rfl ?_
        refine a_dup C dX7_save_40 rfl ?_
        refine a_getf C fX7_65 dX7_save_41 (show _ < 219 from (by first | decide | omega)) (by first | decide | omega) rfl (gl hv) ?_
        refine a_iconst (v := nI 1) C dX7_save_44 (by decide) ?_
        refine n_isub C dX7_save_45 (by first | decide | omega) ?_
        refine f_putf C fX7_65 dX7_save_46 (by first | decide | omega) rfl rfl rfl (Nat.le_of_ble_eq_true rfl) rfl ?_
        refine a_wd (wRow_self (a := 206) rfl) ?_
        refine a_iconst (v := nI 0) C dX7_save_49 (by decide) ?_
        refine a_istore_n C dX7_save_50 rfl (by decide) ?_
        refine a_join (aLe_s ?_ (aLe_s ?_ aLe_nil)) rfl rfl (ZL51 (112 + 1) 0 (wSet (wRow w 206 (shK (w.1 206) 560)) 204 3 (nI (sv - 1))) (sv - 1) (by omega) (by omega) hR wSet_at (by omega) (sv_eqB zh11_1))
        · first | with_reducible rfl | exact gl (by first | with_reducible rfl | (refine iF ?_; simp [h_15]; done) | (refine iT ?_; simp [h_15]; done) | (refine iB ?_; simp [h_15]; done) | (simp [h_15]; done) | (simp [h_15]; omega) | omega | rfl)
        · first | with_reducible rfl | exact gl (by first | with_reducible rfl | (refine iF ?_; simp [h_15]; done) | (refine iT ?_; simp [h_15]; done) | (refine iB ?_; simp [h_15]; done) | (simp [h_15]; done) | (simp [h_15]; omega) | omega | rfl)
      · refine a_aload_n C dX7_save_18 rfl rfl ?_
        refine a_getfF C fX7_13 dX7_save_19 (show _ < 219 from (by first | decide | omega)) (by first | decide | omega) rfl rfl ?_
        refine a_iload_n C dX7_save_22 rfl rfl ?_
        refine a_aload_n C dX7_save_23 rfl rfl ?_
        refine a_getfF C fX7_13 dX7_save_24 (show _ < 219 from (by first | decide | omega)) (by first | decide | omega) rfl rfl ?_
        refine a_iload_n C dX7_save_27 rfl rfl ?_
        refine a_bipush (v := nI 112) C dX7_save_28 (by decide) ?_
        first | refine n_iadd C dX7_save_30 ?_ | refine a_iadd C dX7_save_30 ?_
        refine n_iald C dX7_save_31 (show _ < 219 from (by first | decide | omega)) (by first | decide | omega) rfl rfl (by first | decide | omega) (by decide) (show shK (w.1 206) k (k + 112) = w.1 206 (k + 112) from shK_hi _ (by omega)) ?_
        refine f_iast C dX7_save_32 (by first | decide | omega) rfl rfl (by first | decide | omega) (by decide)  rfl ?_
        refine a_wd wSet_row ?_
        refine n_iinc C dX7_save_33 rfl (by decide) ?_
        refine a_goto (tgt := 11) C dX7_save_36 (by decide) ?_
        refine a_join (aLe_s ?_ (aLe_s ?_ aLe_nil)) rfl rfl (zih11 (k + 1) (by omega) (by omega) zh11_1)
        · first | with_reducible rfl | exact gl (by first | with_reducible rfl | (refine iF ?_; simp [h_15]; done) | (refine iT ?_; simp [h_15]; done) | (refine iB ?_; simp [h_15]; done) | (simp [h_15]; done) | (simp [h_15]; omega) | omega)
        · first | with_reducible rfl | exact gl (by first | with_reducible rfl | (refine iF ?_; simp [h_15]; done) | (refine iT ?_; simp [h_15]; done) | (refine iB ?_; simp [h_15]; done) | (simp [h_15]; done) | (simp [h_15]; omega) | omega)
  refine a_pad 1 ?_
  refine a_eq (L' := [some (.ref 204), none]) rfl rfl rfl ?_
  refine a_aload_n C dX7_save_0 rfl rfl ?_
  refine a_getf C fX7_65 dX7_save_1 (show _ < 219 from (by first | decide | omega)) (by first | decide | omega) rfl (gl hv) ?_
  refine a_bipush (v := nI 6) C dX7_save_4 (by decide) ?_
  refine n_icmp_ne (tgt := 49) C dX7_save_6 (by decide) (by first | decide | omega) (by first | decide | omega) (fun h_6 => ?_) (fun h_6 => ?_)
  · refine a_wd (wRow_self (a := 206) rfl) ?_
    refine a_iconst (v := nI 0) C dX7_save_49 (by decide) ?_
    refine a_istore_n C dX7_save_50 rfl (by decide) ?_
    refine a_join (aLe_s ?_ (aLe_s ?_ aLe_nil)) rfl rfl (ZL51 (112 + 1) 0 w sv (by omega) (by omega) hR hv (by omega) (sv_eqA h_6))
    · first | with_reducible rfl | exact gl (by first | with_reducible rfl | (refine iF ?_; simp [h_6, (beq_eq_false_iff_ne.mpr h_6), (bne_iff_ne.mpr h_6)]; done) | (refine iT ?_; simp [h_6, (beq_eq_false_iff_ne.mpr h_6), (bne_iff_ne.mpr h_6)]; done) | (refine iB ?_; simp [h_6, (beq_eq_false_iff_ne.mpr h_6), (bne_iff_ne.mpr h_6)]; done) | (simp [h_6, (beq_eq_false_iff_ne.mpr h_6), (bne_iff_ne.mpr h_6)]; done) | (simp [h_6, (beq_eq_false_iff_ne.mpr h_6), (bne_iff_ne.mpr h_6)]; omega) | omega | rfl)
    · first | with_reducible rfl | exact gl (by first | with_reducible rfl | (refine iF ?_; simp [h_6, (beq_eq_false_iff_ne.mpr h_6), (bne_iff_ne.mpr h_6)]; done) | (refine iT ?_; simp [h_6, (beq_eq_false_iff_ne.mpr h_6), (bne_iff_ne.mpr h_6)]; done) | (refine iB ?_; simp [h_6, (beq_eq_false_iff_ne.mpr h_6), (bne_iff_ne.mpr h_6)]; done) | (simp [h_6, (beq_eq_false_iff_ne.mpr h_6), (bne_iff_ne.mpr h_6)]; done) | (simp [h_6, (beq_eq_false_iff_ne.mpr h_6), (bne_iff_ne.mpr h_6)]; omega) | omega | rfl)
  · refine a_wd (wRow_self (a := 206) rfl) ?_
    refine a_iconst (v := nI 0) C dX7_save_9 (by decide) ?_
    refine a_istore_n C dX7_save_10 rfl (by decide) ?_
    refine a_join (aLe_s ?_ (aLe_s ?_ aLe_nil)) rfl rfl (ZL11 (560 + 1) 0 (by omega) (by omega) h_6)
    · first | with_reducible rfl | exact gl (by first | with_reducible rfl | (refine iF ?_; simp [(eq_true h_6), (beq_iff_eq.mpr h_6), (bne_eq_false_iff_eq.mpr h_6)]; done) | (refine iT ?_; simp [(eq_true h_6), (beq_iff_eq.mpr h_6), (bne_eq_false_iff_eq.mpr h_6)]; done) | (refine iB ?_; simp [(eq_true h_6), (beq_iff_eq.mpr h_6), (bne_eq_false_iff_eq.mpr h_6)]; done) | (simp [(eq_true h_6), (beq_iff_eq.mpr h_6), (bne_eq_false_iff_eq.mpr h_6)]; done) | (simp [(eq_true h_6), (beq_iff_eq.mpr h_6), (bne_eq_false_iff_eq.mpr h_6)]; omega) | omega | rfl)
    · first | with_reducible rfl | exact gl (by first | with_reducible rfl | (refine iF ?_; simp [(eq_true h_6), (beq_iff_eq.mpr h_6), (bne_eq_false_iff_eq.mpr h_6)]; done) | (refine iT ?_; simp [(eq_true h_6), (beq_iff_eq.mpr h_6), (bne_eq_false_iff_eq.mpr h_6)]; done) | (refine iB ?_; simp [(eq_true h_6), (beq_iff_eq.mpr h_6), (bne_eq_false_iff_eq.mpr h_6)]; done) | (simp [(eq_true h_6), (beq_iff_eq.mpr h_6), (bne_eq_false_iff_eq.mpr h_6)]; done) | (simp [(eq_true h_6), (beq_iff_eq.mpr h_6), (bne_eq_false_iff_eq.mpr h_6)]; omega) | omega | rfl)

theorem wnc_n {A : St} (hA : AOK A) {c : Nat} (h : wncA A c = 0) : kN A < 12 := by
  have zq_1 := hA.n12
  unfold wncA at h
  by_cases h1 : kN A = 12
  · rw [if_pos h1] at h
    split at h <;> cases h
  · omega
theorem wnc_lt (A : St) (c : Nat) : wncA A c < 2 ^ 31 := by
  have zq_1 := clsA_lt A c (-1) (kN A)
  unfold wncA clA
  split
  · decide
  · split
    · decide
    · omega
theorem wnd_lt (A : St) (k j : Nat) : wndA A k j < 2 ^ 31 := by
  have zq_1 := clsA_lt A (cN A k + wtN j) (nI k) (kN A)
  unfold wndA clA
  split
  · decide
  · split
    · decide
    · omega
def givA (A : St) (k q : Nat) : St := upd A (40 + 6 * k + 1) (nI q)
def warA (A : St) (p : Nat) (x : Int32) : St := upd A (16 + 4 * p + 0) x
def gueA (A : St) (p : Nat) (x : Int32) : St := upd A (16 + 4 * p + 1) x
def takA (A : St) (p : Nat) : St := upd (upd (upd (upd A (16 + 4 * p + 0) (-1)) (16 + 4 * p + 1) (-1)) (16 + 4 * p + 2) (nI 0)) (16 + 4 * p + 3) (nI 0)
def setA (A : St) (j : Nat) (x : Int32) : St := upd A (8 + j) x
def loN (j : Nat) : Nat := if j < 2 then 1 else 0
def hiN (j : Nat) : Nat := if j = 0 then 2 else if j = 3 then 1 else 9
def sbI (j : Nat) (x : Int32) : Bool := decide (nI (loN j) ≤ x ∧ x ≤ nI (hiN j))
def rtK (A : St) (k : Nat) : Nat → St
  | 0 => upd A 0 (nI (kN A - 1))
  | d + 1 => upd (rtK A k d) (40 + 6 * k + d) (A (40 + 6 * k + d + 6))
def retA (A : St) (k : Nat) : St := upd (rtK A k (6 * (kN A - 1 - k))) 5 (A 5 + nI 1)
theorem rtK_lo {A : St} {k j : Nat} (h : j < 40 + 6 * k) : ∀ d, rtK A k d j = upd A 0 (nI (kN A - 1)) j
  | 0 => rfl
  | d + 1 => by
    show upd (rtK A k d) (40 + 6 * k + d) (A (40 + 6 * k + d + 6)) j = _
    rw [upd_ne (by omega)]
    exact rtK_lo h d
theorem rtK_hi {A : St} {k j : Nat} : ∀ d, 40 + 6 * k + d ≤ j → rtK A k d j = A j
  | 0, h => by
    show upd A 0 (nI (kN A - 1)) j = A j
    exact upd_ne (by omega)
  | d + 1, h => by
    show upd (rtK A k d) (40 + 6 * k + d) (A (40 + 6 * k + d + 6)) j = _
    rw [upd_ne (by omega)]
    exact rtK_hi d (by omega)
theorem rtK_in {A : St} {k j : Nat} : ∀ d, 40 + 6 * k ≤ j ∧ j < 40 + 6 * k + d → rtK A k d j = A (j + 6)
  | 0, h => by omega
  | d + 1, h => by
    show upd (rtK A k d) (40 + 6 * k + d) (A (40 + 6 * k + d + 6)) j = _
    by_cases h1 : j = 40 + 6 * k + d
    · subst h1
      exact upd_at
    · rw [upd_ne h1]
      exact rtK_in d (by omega)
set_option maxRecDepth 20000 in
set_option maxHeartbeats 4000000 in
theorem K_X7_cut {w : Wd} {A : St} (hR : RR w A) (hA : AOK A) {sv : Nat} (hv : w.1 204 3 = nI sv) (hs : sv ≤ 6) {c : Nat} (hc : c < 81) {q : Nat} (hq : q < 4) (zf2 : wncA A c = 0)  : CF yX7_cut cX7_cut 3 (some .int) 5 112 [.ref 204, .int (nI c), .int (nI q)] w (fun r w' => r = some (.int (nI (kN A))) ∧ w' = (wRow (svW (wSet w 204 0 (nI 0)) A sv) 205 (cutA A c q))) := by
  have zq_n := hA.n12
  have zf0 : inR (nI c) 81 = true := ((inR_nI (by omega)).trans (decide_eq_true (by omega)))
  have zf1 : inR (nI q) 4 = true := ((inR_nI (by omega)).trans (decide_eq_true (by omega)))
  have hn := wnc_n hA zf2
  refine CF.of ok_X7_cut (Nat.le_of_ble_eq_true rfl) (fun ex us G9 p9 l9 e9 s9 m9 ar9 be9 me9 co9 C hr => ?_)
  refine a_aload_n C dX7_cut_0 rfl rfl ?_
  refine a_iconst (v := nI 0) C dX7_cut_1 (by decide) ?_
  refine f_putf C fX7_53 dX7_cut_2 (by first | decide | omega) rfl rfl rfl (Nat.le_of_ble_eq_true rfl) rfl ?_
  have hR : RR (wSet w 204 0 (nI 0)) A := hR
  refine a_iload_n C dX7_cut_5 rfl rfl ?_
  refine p_callS C ((K_X7_isCode _)).cp sX7_119 rfl dX7_cut_6 (Nat.le_of_ble_eq_true rfl) ⟨by decide, by decide⟩ ?_
  refine b_if_eq (tgt := 19) C dX7_cut_9 (by decide) (fun h_9 => ?_) (fun h_9 => ?_)
  · exact absurd (h_9.symm.trans zf0) (by decide)
  · refine a_iload_n C dX7_cut_12 rfl rfl ?_
    refine p_callS C ((K_X7_isOwner _)).cp sX7_122 rfl dX7_cut_13 (Nat.le_of_ble_eq_true rfl) ⟨by decide, by decide⟩ ?_
    refine b_if_ne (tgt := 25) C dX7_cut_16 (by decide) (fun h_16 => ?_) (fun h_16 => ?_)
    · refine a_aload_n C dX7_cut_25 rfl rfl ?_
      refine a_iload_n C dX7_cut_26 rfl rfl ?_
      refine p_callV C (K_X7_whyNotCut hR hA (by first | assumption | decide | omega)) vX7_125 rfl (by first | decide | omega) rfl rfl dX7_cut_27 (Nat.le_of_ble_eq_true rfl) ⟨by decide, by decide⟩ ?_
      refine n_if_eq (tgt := 39) C dX7_cut_30 (by decide) (wnc_lt A c)  (fun h_30 => ?_) (fun h_30 => ?_)
      · refine a_aload_n C dX7_cut_39 rfl rfl ?_
        refine f_callV C _ _ (K_X7_save hR hv hs) vX7_76 (by first | decide | omega) rfl rfl dX7_cut_40 rfl (Nat.le_of_ble_eq_true rfl) ⟨by decide, by decide⟩ (fun zr40 zw40 zp40 => ?_)
        obtain ⟨rfl, rfl⟩ := zp40
        have hR : RR (svW (wSet w 204 0 (nI 0)) A sv) A := hR
        refine a_aload_n C dX7_cut_43 rfl rfl ?_
        refine a_iload_n C dX7_cut_44 rfl rfl ?_
        refine a_iload_n C dX7_cut_45 rfl rfl ?_
        refine f_callV C _ _ (K_X7_doesCut hR hA hn hc hq) vX7_128 (by first | decide | omega) rfl rfl dX7_cut_46 rfl (Nat.le_of_ble_eq_true rfl) ⟨by decide, by decide⟩ (fun zr46 zw46 zp46 => ?_)
        obtain ⟨rfl, rfl⟩ := zp46
        refine f_iret C hr ?_ dX7_cut_49 ⟨?_, ?_⟩
        · rfl
        · first | with_reducible rfl | exact gl (by first | with_reducible rfl | (refine iF ?_; simp []; done) | (refine iT ?_; simp []; done) | (refine iB ?_; simp []; done) | (simp []; done) | (simp []; omega) | omega | rfl)
        · first | with_reducible rfl | exact wSet2 | rfl
      · exact absurd zf2 h_30
    · exact absurd (h_16.symm.trans zf1) (by decide)

set_option maxRecDepth 20000 in
set_option maxHeartbeats 4000000 in
theorem K_X7_cut_0 {w : Wd} {A : St} (hR : RR w A) (hA : AOK A) {sv : Nat} (hv : w.1 204 3 = nI sv) (hs : sv ≤ 6) (c : Int32) (hf : inR c 81 = false) (q : Int32)  : CF yX7_cut cX7_cut 3 (some .int) 5 112 [.ref 204, .int c, .int q] w (FA w (.int (nI 0)) 1) := by
  have zq_n := hA.n12
  have zf0 : inR c 81 = false := hf
  refine CF.of ok_X7_cut (Nat.le_of_ble_eq_true rfl) (fun ex us G9 p9 l9 e9 s9 m9 ar9 be9 me9 co9 C hr => ?_)
  refine a_aload_n C dX7_cut_0 rfl rfl ?_
  refine a_iconst (v := nI 0) C dX7_cut_1 (by decide) ?_
  refine f_putf C fX7_53 dX7_cut_2 (by first | decide | omega) rfl rfl rfl (Nat.le_of_ble_eq_true rfl) rfl ?_
  have hR : RR (wSet w 204 0 (nI 0)) A := hR
  refine a_iload_n C dX7_cut_5 rfl rfl ?_
  refine p_callS C ((K_X7_isCode _)).cp sX7_119 rfl dX7_cut_6 (Nat.le_of_ble_eq_true rfl) ⟨by decide, by decide⟩ ?_
  refine b_if_eq (tgt := 19) C dX7_cut_9 (by decide) (fun h_9 => ?_) (fun h_9 => ?_)
  · refine a_aload_n C dX7_cut_19 rfl rfl ?_
    refine a_iconst (v := nI 1) C dX7_cut_20 (by decide) ?_
    refine f_callV C _ _ (K_X7_fails _) vX7_68 (by first | decide | omega) rfl rfl dX7_cut_21 rfl (Nat.le_of_ble_eq_true rfl) ⟨by decide, by decide⟩ (fun zr21 zw21 zp21 => ?_)
    obtain ⟨rfl, rfl⟩ := zp21
    refine f_iret C hr ?_ dX7_cut_24 ⟨?_, ?_⟩
    · rfl
    · first | with_reducible rfl | exact gl (by first | with_reducible rfl | (refine iF ?_; simp []; done) | (refine iT ?_; simp []; done) | (refine iB ?_; simp []; done) | (simp []; done) | (simp []; omega) | omega | rfl)
    · first | with_reducible rfl | exact wSet2 | rfl
  · exact absurd (h_9.symm.trans zf0) (by decide)

set_option maxRecDepth 20000 in
set_option maxHeartbeats 4000000 in
theorem K_X7_cut_1 {w : Wd} {A : St} (hR : RR w A) (hA : AOK A) {sv : Nat} (hv : w.1 204 3 = nI sv) (hs : sv ≤ 6) {c : Nat} (hc : c < 81) (q : Int32) (hf : inR q 4 = false)  : CF yX7_cut cX7_cut 3 (some .int) 5 112 [.ref 204, .int (nI c), .int q] w (FA w (.int (nI 0)) 1) := by
  have zq_n := hA.n12
  have zf0 : inR (nI c) 81 = true := ((inR_nI (by omega)).trans (decide_eq_true (by omega)))
  have zf1 : inR q 4 = false := hf
  refine CF.of ok_X7_cut (Nat.le_of_ble_eq_true rfl) (fun ex us G9 p9 l9 e9 s9 m9 ar9 be9 me9 co9 C hr => ?_)
  refine a_aload_n C dX7_cut_0 rfl rfl ?_
  refine a_iconst (v := nI 0) C dX7_cut_1 (by decide) ?_
  refine f_putf C fX7_53 dX7_cut_2 (by first | decide | omega) rfl rfl rfl (Nat.le_of_ble_eq_true rfl) rfl ?_
  have hR : RR (wSet w 204 0 (nI 0)) A := hR
  refine a_iload_n C dX7_cut_5 rfl rfl ?_
  refine p_callS C ((K_X7_isCode _)).cp sX7_119 rfl dX7_cut_6 (Nat.le_of_ble_eq_true rfl) ⟨by decide, by decide⟩ ?_
  refine b_if_eq (tgt := 19) C dX7_cut_9 (by decide) (fun h_9 => ?_) (fun h_9 => ?_)
  · exact absurd (h_9.symm.trans zf0) (by decide)
  · refine a_iload_n C dX7_cut_12 rfl rfl ?_
    refine p_callS C ((K_X7_isOwner _)).cp sX7_122 rfl dX7_cut_13 (Nat.le_of_ble_eq_true rfl) ⟨by decide, by decide⟩ ?_
    refine b_if_ne (tgt := 25) C dX7_cut_16 (by decide) (fun h_16 => ?_) (fun h_16 => ?_)
    · exact absurd (h_16.symm.trans zf1) (by decide)
    · refine a_aload_n C dX7_cut_19 rfl rfl ?_
      refine a_iconst (v := nI 1) C dX7_cut_20 (by decide) ?_
      refine f_callV C _ _ (K_X7_fails _) vX7_68 (by first | decide | omega) rfl rfl dX7_cut_21 rfl (Nat.le_of_ble_eq_true rfl) ⟨by decide, by decide⟩ (fun zr21 zw21 zp21 => ?_)
      obtain ⟨rfl, rfl⟩ := zp21
      refine f_iret C hr ?_ dX7_cut_24 ⟨?_, ?_⟩
      · rfl
      · first | with_reducible rfl | exact gl (by first | with_reducible rfl | (refine iF ?_; simp []; done) | (refine iT ?_; simp []; done) | (refine iB ?_; simp []; done) | (simp []; done) | (simp []; omega) | omega | rfl)
      · first | with_reducible rfl | exact wSet2 | rfl

set_option maxRecDepth 20000 in
set_option maxHeartbeats 4000000 in
theorem K_X7_cut_2 {w : Wd} {A : St} (hR : RR w A) (hA : AOK A) {sv : Nat} (hv : w.1 204 3 = nI sv) (hs : sv ≤ 6) {c : Nat} (hc : c < 81) {q : Nat} (hq : q < 4) (zf2 : ¬ wncA A c = 0)  : CF yX7_cut cX7_cut 3 (some .int) 5 112 [.ref 204, .int (nI c), .int (nI q)] w (FA w (.int (nI 0)) 2) := by
  have zq_n := hA.n12
  have zf0 : inR (nI c) 81 = true := ((inR_nI (by omega)).trans (decide_eq_true (by omega)))
  have zf1 : inR (nI q) 4 = true := ((inR_nI (by omega)).trans (decide_eq_true (by omega)))
  refine CF.of ok_X7_cut (Nat.le_of_ble_eq_true rfl) (fun ex us G9 p9 l9 e9 s9 m9 ar9 be9 me9 co9 C hr => ?_)
  refine a_aload_n C dX7_cut_0 rfl rfl ?_
  refine a_iconst (v := nI 0) C dX7_cut_1 (by decide) ?_
  refine f_putf C fX7_53 dX7_cut_2 (by first | decide | omega) rfl rfl rfl (Nat.le_of_ble_eq_true rfl) rfl ?_
  have hR : RR (wSet w 204 0 (nI 0)) A := hR
  refine a_iload_n C dX7_cut_5 rfl rfl ?_
  refine p_callS C ((K_X7_isCode _)).cp sX7_119 rfl dX7_cut_6 (Nat.le_of_ble_eq_true rfl) ⟨by decide, by decide⟩ ?_
  refine b_if_eq (tgt := 19) C dX7_cut_9 (by decide) (fun h_9 => ?_) (fun h_9 => ?_)
  · exact absurd (h_9.symm.trans zf0) (by decide)
  · refine a_iload_n C dX7_cut_12 rfl rfl ?_
    refine p_callS C ((K_X7_isOwner _)).cp sX7_122 rfl dX7_cut_13 (Nat.le_of_ble_eq_true rfl) ⟨by decide, by decide⟩ ?_
    refine b_if_ne (tgt := 25) C dX7_cut_16 (by decide) (fun h_16 => ?_) (fun h_16 => ?_)
    · refine a_aload_n C dX7_cut_25 rfl rfl ?_
      refine a_iload_n C dX7_cut_26 rfl rfl ?_
      refine p_callV C (K_X7_whyNotCut hR hA (by first | assumption | decide | omega)) vX7_125 rfl (by first | decide | omega) rfl rfl dX7_cut_27 (Nat.le_of_ble_eq_true rfl) ⟨by decide, by decide⟩ ?_
      refine n_if_eq (tgt := 39) C dX7_cut_30 (by decide) (wnc_lt A c)  (fun h_30 => ?_) (fun h_30 => ?_)
      · exact absurd h_30 zf2
      · refine a_aload_n C dX7_cut_33 rfl rfl ?_
        refine a_iconst (v := nI 2) C dX7_cut_34 (by decide) ?_
        refine f_callV C _ _ (K_X7_fails _) vX7_68 (by first | decide | omega) rfl rfl dX7_cut_35 rfl (Nat.le_of_ble_eq_true rfl) ⟨by decide, by decide⟩ (fun zr35 zw35 zp35 => ?_)
        obtain ⟨rfl, rfl⟩ := zp35
        refine f_iret C hr ?_ dX7_cut_38 ⟨?_, ?_⟩
        · rfl
        · first | with_reducible rfl | exact gl (by first | with_reducible rfl | (refine iF ?_; simp []; done) | (refine iT ?_; simp []; done) | (refine iB ?_; simp []; done) | (simp []; done) | (simp []; omega) | omega | rfl)
        · first | with_reducible rfl | exact wSet2 | rfl
    · exact absurd (h_16.symm.trans zf1) (by decide)

set_option maxRecDepth 20000 in
set_option maxHeartbeats 4000000 in
theorem K_X7_deepen {w : Wd} {A : St} (hR : RR w A) (hA : AOK A) {sv : Nat} (hv : w.1 204 3 = nI sv) (hs : sv ≤ 6) {k : Nat} (hk : k < (kN A)) {j : Nat} (hj : j < 4) (zf2 : wndA A k j = 0)  : CF yX7_deepen cX7_deepen 3 (some .int) 5 115 [.ref 204, .int (nI k), .int (nI j)] w (fun r w' => r = some (.int (nI (cN A k + wtN j))) ∧ w' = (wRow (svW (wSet w 204 0 (nI 0)) A sv) 205 (deeA A k j))) := by
  have zq_n := hA.n12
  have zf0 : inR (nI k) (kN A) = true := ((inR_nI (by omega)).trans (decide_eq_true (by omega)))
  have zf1 : inR (nI j) 4 = true := ((inR_nI (by omega)).trans (decide_eq_true (by omega)))
  refine CF.of ok_X7_deepen (Nat.le_of_ble_eq_true rfl) (fun ex us G9 p9 l9 e9 s9 m9 ar9 be9 me9 co9 C hr => ?_)
  refine a_aload_n C dX7_deepen_0 rfl rfl ?_
  refine a_iconst (v := nI 0) C dX7_deepen_1 (by decide) ?_
  refine f_putf C fX7_53 dX7_deepen_2 (by first | decide | omega) rfl rfl rfl (Nat.le_of_ble_eq_true rfl) rfl ?_
  have hR : RR (wSet w 204 0 (nI 0)) A := hR
  refine a_aload_n C dX7_deepen_5 rfl rfl ?_
  refine a_iload_n C dX7_deepen_6 rfl rfl ?_
  refine p_callV C (K_X7_isKey hR hA _) vX7_131 rfl (by first | decide | omega) rfl rfl dX7_deepen_7 (Nat.le_of_ble_eq_true rfl) ⟨by decide, by decide⟩ ?_
  refine b_if_eq (tgt := 20) C dX7_deepen_10 (by decide) (fun h_10 => ?_) (fun h_10 => ?_)
  · exact absurd (h_10.symm.trans zf0) (by decide)
  · refine a_iload_n C dX7_deepen_13 rfl rfl ?_
    refine p_callS C ((K_X7_isNotch _)).cp sX7_134 rfl dX7_deepen_14 (Nat.le_of_ble_eq_true rfl) ⟨by decide, by decide⟩ ?_
    refine b_if_ne (tgt := 26) C dX7_deepen_17 (by decide) (fun h_17 => ?_) (fun h_17 => ?_)
    · refine a_aload_n C dX7_deepen_26 rfl rfl ?_
      refine a_iload_n C dX7_deepen_27 rfl rfl ?_
      refine a_iload_n C dX7_deepen_28 rfl rfl ?_
      refine p_callV C (K_X7_whyNotDeeper hR hA (by first | assumption | decide | omega) (by first | assumption | decide | omega)) vX7_137 rfl (by first | decide | omega) rfl rfl dX7_deepen_29 (Nat.le_of_ble_eq_true rfl) ⟨by decide, by decide⟩ ?_
      refine n_if_eq (tgt := 41) C dX7_deepen_32 (by decide) (wnd_lt A k j)  (fun h_32 => ?_) (fun h_32 => ?_)
      · refine a_aload_n C dX7_deepen_41 rfl rfl ?_
        refine f_callV C _ _ (K_X7_save hR hv hs) vX7_76 (by first | decide | omega) rfl rfl dX7_deepen_42 rfl (Nat.le_of_ble_eq_true rfl) ⟨by decide, by decide⟩ (fun zr42 zw42 zp42 => ?_)
        obtain ⟨rfl, rfl⟩ := zp42
        have hR : RR (svW (wSet w 204 0 (nI 0)) A sv) A := hR
        refine a_aload_n C dX7_deepen_45 rfl rfl ?_
        refine a_iload_n C dX7_deepen_46 rfl rfl ?_
        refine a_iload_n C dX7_deepen_47 rfl rfl ?_
        refine f_callV C _ _ (K_X7_doesDeepen hR hA hk hj) vX7_140 (by first | decide | omega) rfl rfl dX7_deepen_48 rfl (Nat.le_of_ble_eq_true rfl) ⟨by decide, by decide⟩ (fun zr48 zw48 zp48 => ?_)
        obtain ⟨rfl, rfl⟩ := zp48
        refine f_iret C hr ?_ dX7_deepen_51 ⟨?_, ?_⟩
        · rfl
        · first | with_reducible rfl | exact gl (by first | with_reducible rfl | (refine iF ?_; simp []; done) | (refine iT ?_; simp []; done) | (refine iB ?_; simp []; done) | (simp []; done) | (simp []; omega) | omega | rfl)
        · first | with_reducible rfl | exact wSet2 | rfl
      · exact absurd zf2 h_32
    · exact absurd (h_17.symm.trans zf1) (by decide)

set_option maxRecDepth 20000 in
set_option maxHeartbeats 4000000 in
theorem K_X7_deepen_0 {w : Wd} {A : St} (hR : RR w A) (hA : AOK A) {sv : Nat} (hv : w.1 204 3 = nI sv) (hs : sv ≤ 6) (k : Int32) (hf : inR k (kN A) = false) (j : Int32)  : CF yX7_deepen cX7_deepen 3 (some .int) 5 115 [.ref 204, .int k, .int j] w (FA w (.int (nI 0)) 1) := by
  have zq_n := hA.n12
  have zf0 : inR k (kN A) = false := hf
  refine CF.of ok_X7_deepen (Nat.le_of_ble_eq_true rfl) (fun ex us G9 p9 l9 e9 s9 m9 ar9 be9 me9 co9 C hr => ?_)
  refine a_aload_n C dX7_deepen_0 rfl rfl ?_
  refine a_iconst (v := nI 0) C dX7_deepen_1 (by decide) ?_
  refine f_putf C fX7_53 dX7_deepen_2 (by first | decide | omega) rfl rfl rfl (Nat.le_of_ble_eq_true rfl) rfl ?_
  have hR : RR (wSet w 204 0 (nI 0)) A := hR
  refine a_aload_n C dX7_deepen_5 rfl rfl ?_
  refine a_iload_n C dX7_deepen_6 rfl rfl ?_
  refine p_callV C (K_X7_isKey hR hA _) vX7_131 rfl (by first | decide | omega) rfl rfl dX7_deepen_7 (Nat.le_of_ble_eq_true rfl) ⟨by decide, by decide⟩ ?_
  refine b_if_eq (tgt := 20) C dX7_deepen_10 (by decide) (fun h_10 => ?_) (fun h_10 => ?_)
  · refine a_aload_n C dX7_deepen_20 rfl rfl ?_
    refine a_iconst (v := nI 1) C dX7_deepen_21 (by decide) ?_
    refine f_callV C _ _ (K_X7_fails _) vX7_68 (by first | decide | omega) rfl rfl dX7_deepen_22 rfl (Nat.le_of_ble_eq_true rfl) ⟨by decide, by decide⟩ (fun zr22 zw22 zp22 => ?_)
    obtain ⟨rfl, rfl⟩ := zp22
    refine f_iret C hr ?_ dX7_deepen_25 ⟨?_, ?_⟩
    · rfl
    · first | with_reducible rfl | exact gl (by first | with_reducible rfl | (refine iF ?_; simp []; done) | (refine iT ?_; simp []; done) | (refine iB ?_; simp []; done) | (simp []; done) | (simp []; omega) | omega | rfl)
    · first | with_reducible rfl | exact wSet2 | rfl
  · exact absurd (h_10.symm.trans zf0) (by decide)

set_option maxRecDepth 20000 in
set_option maxHeartbeats 4000000 in
theorem K_X7_deepen_1 {w : Wd} {A : St} (hR : RR w A) (hA : AOK A) {sv : Nat} (hv : w.1 204 3 = nI sv) (hs : sv ≤ 6) {k : Nat} (hk : k < (kN A)) (j : Int32) (hf : inR j 4 = false)  : CF yX7_deepen cX7_deepen 3 (some .int) 5 115 [.ref 204, .int (nI k), .int j] w (FA w (.int (nI 0)) 1) := by
  have zq_n := hA.n12
  have zf0 : inR (nI k) (kN A) = true := ((inR_nI (by omega)).trans (decide_eq_true (by omega)))
  have zf1 : inR j 4 = false := hf
  refine CF.of ok_X7_deepen (Nat.le_of_ble_eq_true rfl) (fun ex us G9 p9 l9 e9 s9 m9 ar9 be9 me9 co9 C hr => ?_)
  refine a_aload_n C dX7_deepen_0 rfl rfl ?_
  refine a_iconst (v := nI 0) C dX7_deepen_1 (by decide) ?_
  refine f_putf C fX7_53 dX7_deepen_2 (by first | decide | omega) rfl rfl rfl (Nat.le_of_ble_eq_true rfl) rfl ?_
  have hR : RR (wSet w 204 0 (nI 0)) A := hR
  refine a_aload_n C dX7_deepen_5 rfl rfl ?_
  refine a_iload_n C dX7_deepen_6 rfl rfl ?_
  refine p_callV C (K_X7_isKey hR hA _) vX7_131 rfl (by first | decide | omega) rfl rfl dX7_deepen_7 (Nat.le_of_ble_eq_true rfl) ⟨by decide, by decide⟩ ?_
  refine b_if_eq (tgt := 20) C dX7_deepen_10 (by decide) (fun h_10 => ?_) (fun h_10 => ?_)
  · exact absurd (h_10.symm.trans zf0) (by decide)
  · refine a_iload_n C dX7_deepen_13 rfl rfl ?_
    refine p_callS C ((K_X7_isNotch _)).cp sX7_134 rfl dX7_deepen_14 (Nat.le_of_ble_eq_true rfl) ⟨by decide, by decide⟩ ?_
    refine b_if_ne (tgt := 26) C dX7_deepen_17 (by decide) (fun h_17 => ?_) (fun h_17 => ?_)
    · exact absurd (h_17.symm.trans zf1) (by decide)
    · refine a_aload_n C dX7_deepen_20 rfl rfl ?_
      refine a_iconst (v := nI 1) C dX7_deepen_21 (by decide) ?_
      refine f_callV C _ _ (K_X7_fails _) vX7_68 (by first | decide | omega) rfl rfl dX7_deepen_22 rfl (Nat.le_of_ble_eq_true rfl) ⟨by decide, by decide⟩ (fun zr22 zw22 zp22 => ?_)
      obtain ⟨rfl, rfl⟩ := zp22
      refine f_iret C hr ?_ dX7_deepen_25 ⟨?_, ?_⟩
      · rfl
      · first | with_reducible rfl | exact gl (by first | with_reducible rfl | (refine iF ?_; simp []; done) | (refine iT ?_; simp []; done) | (refine iB ?_; simp []; done) | (simp []; done) | (simp []; omega) | omega | rfl)
      · first | with_reducible rfl | exact wSet2 | rfl

set_option maxRecDepth 20000 in
set_option maxHeartbeats 4000000 in
theorem K_X7_deepen_2 {w : Wd} {A : St} (hR : RR w A) (hA : AOK A) {sv : Nat} (hv : w.1 204 3 = nI sv) (hs : sv ≤ 6) {k : Nat} (hk : k < (kN A)) {j : Nat} (hj : j < 4) (zf2 : ¬ wndA A k j = 0)  : CF yX7_deepen cX7_deepen 3 (some .int) 5 115 [.ref 204, .int (nI k), .int (nI j)] w (FA w (.int (nI 0)) 2) := by
  have zq_n := hA.n12
  have zf0 : inR (nI k) (kN A) = true := ((inR_nI (by omega)).trans (decide_eq_true (by omega)))
  have zf1 : inR (nI j) 4 = true := ((inR_nI (by omega)).trans (decide_eq_true (by omega)))
  refine CF.of ok_X7_deepen (Nat.le_of_ble_eq_true rfl) (fun ex us G9 p9 l9 e9 s9 m9 ar9 be9 me9 co9 C hr => ?_)
  refine a_aload_n C dX7_deepen_0 rfl rfl ?_
  refine a_iconst (v := nI 0) C dX7_deepen_1 (by decide) ?_
  refine f_putf C fX7_53 dX7_deepen_2 (by first | decide | omega) rfl rfl rfl (Nat.le_of_ble_eq_true rfl) rfl ?_
  have hR : RR (wSet w 204 0 (nI 0)) A := hR
  refine a_aload_n C dX7_deepen_5 rfl rfl ?_
  refine a_iload_n C dX7_deepen_6 rfl rfl ?_
  refine p_callV C (K_X7_isKey hR hA _) vX7_131 rfl (by first | decide | omega) rfl rfl dX7_deepen_7 (Nat.le_of_ble_eq_true rfl) ⟨by decide, by decide⟩ ?_
  refine b_if_eq (tgt := 20) C dX7_deepen_10 (by decide) (fun h_10 => ?_) (fun h_10 => ?_)
  · exact absurd (h_10.symm.trans zf0) (by decide)
  · refine a_iload_n C dX7_deepen_13 rfl rfl ?_
    refine p_callS C ((K_X7_isNotch _)).cp sX7_134 rfl dX7_deepen_14 (Nat.le_of_ble_eq_true rfl) ⟨by decide, by decide⟩ ?_
    refine b_if_ne (tgt := 26) C dX7_deepen_17 (by decide) (fun h_17 => ?_) (fun h_17 => ?_)
    · refine a_aload_n C dX7_deepen_26 rfl rfl ?_
      refine a_iload_n C dX7_deepen_27 rfl rfl ?_
      refine a_iload_n C dX7_deepen_28 rfl rfl ?_
      refine p_callV C (K_X7_whyNotDeeper hR hA (by first | assumption | decide | omega) (by first | assumption | decide | omega)) vX7_137 rfl (by first | decide | omega) rfl rfl dX7_deepen_29 (Nat.le_of_ble_eq_true rfl) ⟨by decide, by decide⟩ ?_
      refine n_if_eq (tgt := 41) C dX7_deepen_32 (by decide) (wnd_lt A k j)  (fun h_32 => ?_) (fun h_32 => ?_)
      · exact absurd h_32 zf2
      · refine a_aload_n C dX7_deepen_35 rfl rfl ?_
        refine a_iconst (v := nI 2) C dX7_deepen_36 (by decide) ?_
        refine f_callV C _ _ (K_X7_fails _) vX7_68 (by first | decide | omega) rfl rfl dX7_deepen_37 rfl (Nat.le_of_ble_eq_true rfl) ⟨by decide, by decide⟩ (fun zr37 zw37 zp37 => ?_)
        obtain ⟨rfl, rfl⟩ := zp37
        refine f_iret C hr ?_ dX7_deepen_40 ⟨?_, ?_⟩
        · rfl
        · first | with_reducible rfl | exact gl (by first | with_reducible rfl | (refine iF ?_; simp []; done) | (refine iT ?_; simp []; done) | (refine iB ?_; simp []; done) | (simp []; done) | (simp []; omega) | omega | rfl)
        · first | with_reducible rfl | exact wSet2 | rfl
    · exact absurd (h_17.symm.trans zf1) (by decide)

set_option maxRecDepth 20000 in
set_option maxHeartbeats 4000000 in
theorem K_X7_give {w : Wd} {A : St} (hR : RR w A) (hA : AOK A) {sv : Nat} (hv : w.1 204 3 = nI sv) (hs : sv ≤ 6) {k : Nat} (hk : k < (kN A)) {q : Nat} (hq : q < 4)  : CF yX7_give cX7_give 4 (some .int) 2 43 [.ref 204, .int (nI k), .int (nI q)] w (fun r w' => r = some (.int (nI (oN A k))) ∧ w' = (wRow (svW (wSet w 204 0 (nI 0)) A sv) 205 (givA A k q))) := by
  have zq_n := hA.n12
  have zf0 : inR (nI k) (kN A) = true := ((inR_nI (by omega)).trans (decide_eq_true (by omega)))
  have zf1 : inR (nI q) 4 = true := ((inR_nI (by omega)).trans (decide_eq_true (by omega)))
  refine CF.of ok_X7_give (Nat.le_of_ble_eq_true rfl) (fun ex us G9 p9 l9 e9 s9 m9 ar9 be9 me9 co9 C hr => ?_)
  refine a_pad 1 ?_
  refine a_eq (L' := [some (.ref 204), some (.int (nI k)), some (.int (nI q)), none]) rfl rfl rfl ?_
  refine a_aload_n C dX7_give_0 rfl rfl ?_
  refine a_iconst (v := nI 0) C dX7_give_1 (by decide) ?_
  refine f_putf C fX7_53 dX7_give_2 (by first | decide | omega) rfl rfl rfl (Nat.le_of_ble_eq_true rfl) rfl ?_
  have hR : RR (wSet w 204 0 (nI 0)) A := hR
  refine a_aload_n C dX7_give_5 rfl rfl ?_
  refine a_iload_n C dX7_give_6 rfl rfl ?_
  refine p_callV C (K_X7_isKey hR hA _) vX7_131 rfl (by first | decide | omega) rfl rfl dX7_give_7 (Nat.le_of_ble_eq_true rfl) ⟨by decide, by decide⟩ ?_
  refine b_if_ne (tgt := 19) C dX7_give_10 (by decide) (fun h_10 => ?_) (fun h_10 => ?_)
  · refine a_iload_n C dX7_give_19 rfl rfl ?_
    refine p_callS C ((K_X7_isOwner _)).cp sX7_122 rfl dX7_give_20 (Nat.le_of_ble_eq_true rfl) ⟨by decide, by decide⟩ ?_
    refine b_if_ne (tgt := 32) C dX7_give_23 (by decide) (fun h_23 => ?_) (fun h_23 => ?_)
    · refine a_aload_n C dX7_give_32 rfl rfl ?_
      refine f_callV C _ _ (K_X7_save hR hv hs) vX7_76 (by first | decide | omega) rfl rfl dX7_give_33 rfl (Nat.le_of_ble_eq_true rfl) ⟨by decide, by decide⟩ (fun zr33 zw33 zp33 => ?_)
      obtain ⟨rfl, rfl⟩ := zp33
      have hR : RR (svW (wSet w 204 0 (nI 0)) A sv) A := hR
      refine a_aload_n C dX7_give_36 rfl rfl ?_
      refine a_iload_n C dX7_give_37 rfl rfl ?_
      refine a_iconst (v := nI 1) C dX7_give_38 (by decide) ?_
      refine p_callV C (KC_ofKey1 hR hA (by first | assumption | decide | omega)) vX7_85 rfl (by first | decide | omega) rfl rfl dX7_give_39 (Nat.le_of_ble_eq_true rfl) ⟨by decide, by decide⟩ ?_
      refine a_istore_n C dX7_give_42 rfl (by decide) ?_
      refine a_wd (RR_row hR) ?_
      refine a_aload_n C dX7_give_43 rfl rfl ?_
      refine a_getfF C fX7_7 dX7_give_44 (show _ < 219 from (by first | decide | omega)) (by first | decide | omega) rfl rfl ?_
      refine a_bipush (v := nI 40) C dX7_give_47 (by decide) ?_
      refine a_bipush (v := nI 6) C dX7_give_49 (by decide) ?_
      refine a_iload_n C dX7_give_51 rfl rfl ?_
      first | refine n_imul C dX7_give_52 ?_ | refine a_imul C dX7_give_52 ?_
      first | refine n_iadd C dX7_give_53 ?_ | refine a_iadd C dX7_give_53 ?_
      refine a_iconst (v := nI 1) C dX7_give_54 (by decide) ?_
      first | refine n_iadd C dX7_give_55 ?_ | refine a_iadd C dX7_give_55 ?_
      refine a_iload_n C dX7_give_56 rfl rfl ?_
      refine f_iast C dX7_give_57 (by first | decide | omega) rfl rfl (by first | decide | omega) (by decide)  rfl ?_
      refine a_wd wSet_row ?_
      refine a_iload_n C dX7_give_58 rfl rfl ?_
      refine f_iret C hr ?_ dX7_give_59 ⟨?_, ?_⟩
      · rfl
      · first | with_reducible rfl | exact gl (by first | with_reducible rfl | (refine iF ?_; simp []; done) | (refine iT ?_; simp []; done) | (refine iB ?_; simp []; done) | (simp []; done) | (simp []; omega) | omega | rfl)
      · first | with_reducible rfl | exact wSet2 | rfl
    · exact absurd (h_23.symm.trans zf1) (by decide)
  · exact absurd (h_10.symm.trans zf0) (by decide)

set_option maxRecDepth 20000 in
set_option maxHeartbeats 4000000 in
theorem K_X7_give_0 {w : Wd} {A : St} (hR : RR w A) (hA : AOK A) {sv : Nat} (hv : w.1 204 3 = nI sv) (hs : sv ≤ 6) (k : Int32) (hf : inR k (kN A) = false) (q : Int32)  : CF yX7_give cX7_give 4 (some .int) 2 43 [.ref 204, .int k, .int q] w (FA w (.int (nI 0)) 1) := by
  have zq_n := hA.n12
  have zf0 : inR k (kN A) = false := hf
  refine CF.of ok_X7_give (Nat.le_of_ble_eq_true rfl) (fun ex us G9 p9 l9 e9 s9 m9 ar9 be9 me9 co9 C hr => ?_)
  refine a_pad 1 ?_
  refine a_eq (L' := [some (.ref 204), some (.int k), some (.int q), none]) rfl rfl rfl ?_
  refine a_aload_n C dX7_give_0 rfl rfl ?_
  refine a_iconst (v := nI 0) C dX7_give_1 (by decide) ?_
  refine f_putf C fX7_53 dX7_give_2 (by first | decide | omega) rfl rfl rfl (Nat.le_of_ble_eq_true rfl) rfl ?_
  have hR : RR (wSet w 204 0 (nI 0)) A := hR
  refine a_aload_n C dX7_give_5 rfl rfl ?_
  refine a_iload_n C dX7_give_6 rfl rfl ?_
  refine p_callV C (K_X7_isKey hR hA _) vX7_131 rfl (by first | decide | omega) rfl rfl dX7_give_7 (Nat.le_of_ble_eq_true rfl) ⟨by decide, by decide⟩ ?_
  refine b_if_ne (tgt := 19) C dX7_give_10 (by decide) (fun h_10 => ?_) (fun h_10 => ?_)
  · exact absurd (h_10.symm.trans zf0) (by decide)
  · refine a_aload_n C dX7_give_13 rfl rfl ?_
    refine a_iconst (v := nI 1) C dX7_give_14 (by decide) ?_
    refine f_callV C _ _ (K_X7_fails _) vX7_68 (by first | decide | omega) rfl rfl dX7_give_15 rfl (Nat.le_of_ble_eq_true rfl) ⟨by decide, by decide⟩ (fun zr15 zw15 zp15 => ?_)
    obtain ⟨rfl, rfl⟩ := zp15
    refine f_iret C hr ?_ dX7_give_18 ⟨?_, ?_⟩
    · rfl
    · first | with_reducible rfl | exact gl (by first | with_reducible rfl | (refine iF ?_; simp []; done) | (refine iT ?_; simp []; done) | (refine iB ?_; simp []; done) | (simp []; done) | (simp []; omega) | omega | rfl)
    · first | with_reducible rfl | exact wSet2 | rfl

set_option maxRecDepth 20000 in
set_option maxHeartbeats 4000000 in
theorem K_X7_give_1 {w : Wd} {A : St} (hR : RR w A) (hA : AOK A) {sv : Nat} (hv : w.1 204 3 = nI sv) (hs : sv ≤ 6) {k : Nat} (hk : k < (kN A)) (q : Int32) (hf : inR q 4 = false)  : CF yX7_give cX7_give 4 (some .int) 2 43 [.ref 204, .int (nI k), .int q] w (FA w (.int (nI 0)) 2) := by
  have zq_n := hA.n12
  have zf0 : inR (nI k) (kN A) = true := ((inR_nI (by omega)).trans (decide_eq_true (by omega)))
  have zf1 : inR q 4 = false := hf
  refine CF.of ok_X7_give (Nat.le_of_ble_eq_true rfl) (fun ex us G9 p9 l9 e9 s9 m9 ar9 be9 me9 co9 C hr => ?_)
  refine a_pad 1 ?_
  refine a_eq (L' := [some (.ref 204), some (.int (nI k)), some (.int q), none]) rfl rfl rfl ?_
  refine a_aload_n C dX7_give_0 rfl rfl ?_
  refine a_iconst (v := nI 0) C dX7_give_1 (by decide) ?_
  refine f_putf C fX7_53 dX7_give_2 (by first | decide | omega) rfl rfl rfl (Nat.le_of_ble_eq_true rfl) rfl ?_
  have hR : RR (wSet w 204 0 (nI 0)) A := hR
  refine a_aload_n C dX7_give_5 rfl rfl ?_
  refine a_iload_n C dX7_give_6 rfl rfl ?_
  refine p_callV C (K_X7_isKey hR hA _) vX7_131 rfl (by first | decide | omega) rfl rfl dX7_give_7 (Nat.le_of_ble_eq_true rfl) ⟨by decide, by decide⟩ ?_
  refine b_if_ne (tgt := 19) C dX7_give_10 (by decide) (fun h_10 => ?_) (fun h_10 => ?_)
  · refine a_iload_n C dX7_give_19 rfl rfl ?_
    refine p_callS C ((K_X7_isOwner _)).cp sX7_122 rfl dX7_give_20 (Nat.le_of_ble_eq_true rfl) ⟨by decide, by decide⟩ ?_
    refine b_if_ne (tgt := 32) C dX7_give_23 (by decide) (fun h_23 => ?_) (fun h_23 => ?_)
    · exact absurd (h_23.symm.trans zf1) (by decide)
    · refine a_aload_n C dX7_give_26 rfl rfl ?_
      refine a_iconst (v := nI 2) C dX7_give_27 (by decide) ?_
      refine f_callV C _ _ (K_X7_fails _) vX7_68 (by first | decide | omega) rfl rfl dX7_give_28 rfl (Nat.le_of_ble_eq_true rfl) ⟨by decide, by decide⟩ (fun zr28 zw28 zp28 => ?_)
      obtain ⟨rfl, rfl⟩ := zp28
      refine f_iret C hr ?_ dX7_give_31 ⟨?_, ?_⟩
      · rfl
      · first | with_reducible rfl | exact gl (by first | with_reducible rfl | (refine iF ?_; simp []; done) | (refine iT ?_; simp []; done) | (refine iB ?_; simp []; done) | (simp []; done) | (simp []; omega) | omega | rfl)
      · first | with_reducible rfl | exact wSet2 | rfl
  · exact absurd (h_10.symm.trans zf0) (by decide)

set_option maxRecDepth 20000 in
set_option maxHeartbeats 4000000 in
theorem K_X7_lose {w : Wd} {A : St} (hR : RR w A) (hA : AOK A) {sv : Nat} (hv : w.1 204 3 = nI sv) (hs : sv ≤ 6) {k : Nat} (hk : k < (kN A)) (zf1 : lsA A k = false)  : CF yX7_lose cX7_lose 2 (some .int) 7 153 [.ref 204, .int (nI k)] w (fun r w' => r = some (.int (nI (onesN (lksA A (cN A k))))) ∧ w' = (wRow (svW (wSet w 204 0 (nI 0)) A sv) 205 (losA A k true))) := by
  have zq_n := hA.n12
  have zf0 : inR (nI k) (kN A) = true := ((inR_nI (by omega)).trans (decide_eq_true (by omega)))
  refine CF.of ok_X7_lose (Nat.le_of_ble_eq_true rfl) (fun ex us G9 p9 l9 e9 s9 m9 ar9 be9 me9 co9 C hr => ?_)
  refine a_aload_n C dX7_lose_0 rfl rfl ?_
  refine a_iconst (v := nI 0) C dX7_lose_1 (by decide) ?_
  refine f_putf C fX7_53 dX7_lose_2 (by first | decide | omega) rfl rfl rfl (Nat.le_of_ble_eq_true rfl) rfl ?_
  have hR : RR (wSet w 204 0 (nI 0)) A := hR
  refine a_aload_n C dX7_lose_5 rfl rfl ?_
  refine a_iload_n C dX7_lose_6 rfl rfl ?_
  refine p_callV C (K_X7_isKey hR hA _) vX7_131 rfl (by first | decide | omega) rfl rfl dX7_lose_7 (Nat.le_of_ble_eq_true rfl) ⟨by decide, by decide⟩ ?_
  refine b_if_ne (tgt := 19) C dX7_lose_10 (by decide) (fun h_10 => ?_) (fun h_10 => ?_)
  · refine a_aload_n C dX7_lose_19 rfl rfl ?_
    refine a_iload_n C dX7_lose_20 rfl rfl ?_
    refine a_iconst (v := nI 2) C dX7_lose_21 (by decide) ?_
    refine p_callV C (KC_ofKey2 hR hA (by first | assumption | decide | omega)) vX7_85 rfl (by first | decide | omega) rfl rfl dX7_lose_22 (Nat.le_of_ble_eq_true rfl) ⟨by decide, by decide⟩ ?_
    refine a_iconst (v := nI 1) C dX7_lose_25 (by decide) ?_
    refine b_icmp1_ne (tgt := 35) C dX7_lose_26 (by decide) (fun h_26 => ?_) (fun h_26 => ?_)
    · refine a_aload_n C dX7_lose_35 rfl rfl ?_
      refine f_callV C _ _ (K_X7_save hR hv hs) vX7_76 (by first | decide | omega) rfl rfl dX7_lose_36 rfl (Nat.le_of_ble_eq_true rfl) ⟨by decide, by decide⟩ (fun zr36 zw36 zp36 => ?_)
      obtain ⟨rfl, rfl⟩ := zp36
      have hR : RR (svW (wSet w 204 0 (nI 0)) A sv) A := hR
      refine a_aload_n C dX7_lose_39 rfl rfl ?_
      refine a_iload_n C dX7_lose_40 rfl rfl ?_
      refine a_iconst (v := nI 1) C dX7_lose_41 (by decide) ?_
      refine f_callV C _ _ (K_X7_setsLost hR hA true hk) vX7_143 (by first | decide | omega) rfl rfl dX7_lose_42 rfl (Nat.le_of_ble_eq_true rfl) ⟨by decide, by decide⟩ (fun zr42 zw42 zp42 => ?_)
      obtain ⟨rfl, rfl⟩ := zp42
      refine f_iret C hr ?_ dX7_lose_45 ⟨?_, ?_⟩
      · rfl
      · first | with_reducible rfl | exact gl (by first | with_reducible rfl | (refine iF ?_; simp []; done) | (refine iT ?_; simp []; done) | (refine iB ?_; simp []; done) | (simp []; done) | (simp []; omega) | omega | rfl)
      · first | with_reducible rfl | exact wSet2 | rfl
    · exact absurd (h_26.symm.trans zf1) (by decide)
  · exact absurd (h_10.symm.trans zf0) (by decide)

set_option maxRecDepth 20000 in
set_option maxHeartbeats 4000000 in
theorem K_X7_lose_0 {w : Wd} {A : St} (hR : RR w A) (hA : AOK A) {sv : Nat} (hv : w.1 204 3 = nI sv) (hs : sv ≤ 6) (k : Int32) (hf : inR k (kN A) = false)  : CF yX7_lose cX7_lose 2 (some .int) 7 153 [.ref 204, .int k] w (FA w (.int (nI 0)) 1) := by
  have zq_n := hA.n12
  have zf0 : inR k (kN A) = false := hf
  refine CF.of ok_X7_lose (Nat.le_of_ble_eq_true rfl) (fun ex us G9 p9 l9 e9 s9 m9 ar9 be9 me9 co9 C hr => ?_)
  refine a_aload_n C dX7_lose_0 rfl rfl ?_
  refine a_iconst (v := nI 0) C dX7_lose_1 (by decide) ?_
  refine f_putf C fX7_53 dX7_lose_2 (by first | decide | omega) rfl rfl rfl (Nat.le_of_ble_eq_true rfl) rfl ?_
  have hR : RR (wSet w 204 0 (nI 0)) A := hR
  refine a_aload_n C dX7_lose_5 rfl rfl ?_
  refine a_iload_n C dX7_lose_6 rfl rfl ?_
  refine p_callV C (K_X7_isKey hR hA _) vX7_131 rfl (by first | decide | omega) rfl rfl dX7_lose_7 (Nat.le_of_ble_eq_true rfl) ⟨by decide, by decide⟩ ?_
  refine b_if_ne (tgt := 19) C dX7_lose_10 (by decide) (fun h_10 => ?_) (fun h_10 => ?_)
  · exact absurd (h_10.symm.trans zf0) (by decide)
  · refine a_aload_n C dX7_lose_13 rfl rfl ?_
    refine a_iconst (v := nI 1) C dX7_lose_14 (by decide) ?_
    refine f_callV C _ _ (K_X7_fails _) vX7_68 (by first | decide | omega) rfl rfl dX7_lose_15 rfl (Nat.le_of_ble_eq_true rfl) ⟨by decide, by decide⟩ (fun zr15 zw15 zp15 => ?_)
    obtain ⟨rfl, rfl⟩ := zp15
    refine f_iret C hr ?_ dX7_lose_18 ⟨?_, ?_⟩
    · rfl
    · first | with_reducible rfl | exact gl (by first | with_reducible rfl | (refine iF ?_; simp []; done) | (refine iT ?_; simp []; done) | (refine iB ?_; simp []; done) | (simp []; done) | (simp []; omega) | omega | rfl)
    · first | with_reducible rfl | exact wSet2 | rfl

set_option maxRecDepth 20000 in
set_option maxHeartbeats 4000000 in
theorem K_X7_lose_1 {w : Wd} {A : St} (hR : RR w A) (hA : AOK A) {sv : Nat} (hv : w.1 204 3 = nI sv) (hs : sv ≤ 6) {k : Nat} (hk : k < (kN A)) (zf1 : lsA A k = true)  : CF yX7_lose cX7_lose 2 (some .int) 7 153 [.ref 204, .int (nI k)] w (FA w (.int (nI 0)) 2) := by
  have zq_n := hA.n12
  have zf0 : inR (nI k) (kN A) = true := ((inR_nI (by omega)).trans (decide_eq_true (by omega)))
  refine CF.of ok_X7_lose (Nat.le_of_ble_eq_true rfl) (fun ex us G9 p9 l9 e9 s9 m9 ar9 be9 me9 co9 C hr => ?_)
  refine a_aload_n C dX7_lose_0 rfl rfl ?_
  refine a_iconst (v := nI 0) C dX7_lose_1 (by decide) ?_
  refine f_putf C fX7_53 dX7_lose_2 (by first | decide | omega) rfl rfl rfl (Nat.le_of_ble_eq_true rfl) rfl ?_
  have hR : RR (wSet w 204 0 (nI 0)) A := hR
  refine a_aload_n C dX7_lose_5 rfl rfl ?_
  refine a_iload_n C dX7_lose_6 rfl rfl ?_
  refine p_callV C (K_X7_isKey hR hA _) vX7_131 rfl (by first | decide | omega) rfl rfl dX7_lose_7 (Nat.le_of_ble_eq_true rfl) ⟨by decide, by decide⟩ ?_
  refine b_if_ne (tgt := 19) C dX7_lose_10 (by decide) (fun h_10 => ?_) (fun h_10 => ?_)
  · refine a_aload_n C dX7_lose_19 rfl rfl ?_
    refine a_iload_n C dX7_lose_20 rfl rfl ?_
    refine a_iconst (v := nI 2) C dX7_lose_21 (by decide) ?_
    refine p_callV C (KC_ofKey2 hR hA (by first | assumption | decide | omega)) vX7_85 rfl (by first | decide | omega) rfl rfl dX7_lose_22 (Nat.le_of_ble_eq_true rfl) ⟨by decide, by decide⟩ ?_
    refine a_iconst (v := nI 1) C dX7_lose_25 (by decide) ?_
    refine b_icmp1_ne (tgt := 35) C dX7_lose_26 (by decide) (fun h_26 => ?_) (fun h_26 => ?_)
    · exact absurd (h_26.symm.trans zf1) (by decide)
    · refine a_aload_n C dX7_lose_29 rfl rfl ?_
      refine a_iconst (v := nI 2) C dX7_lose_30 (by decide) ?_
      refine f_callV C _ _ (K_X7_fails _) vX7_68 (by first | decide | omega) rfl rfl dX7_lose_31 rfl (Nat.le_of_ble_eq_true rfl) ⟨by decide, by decide⟩ (fun zr31 zw31 zp31 => ?_)
      obtain ⟨rfl, rfl⟩ := zp31
      refine f_iret C hr ?_ dX7_lose_34 ⟨?_, ?_⟩
      · rfl
      · first | with_reducible rfl | exact gl (by first | with_reducible rfl | (refine iF ?_; simp []; done) | (refine iT ?_; simp []; done) | (refine iB ?_; simp []; done) | (simp []; done) | (simp []; omega) | omega | rfl)
      · first | with_reducible rfl | exact wSet2 | rfl
  · exact absurd (h_10.symm.trans zf0) (by decide)

set_option maxRecDepth 20000 in
set_option maxHeartbeats 4000000 in
theorem K_X7_find {w : Wd} {A : St} (hR : RR w A) (hA : AOK A) {sv : Nat} (hv : w.1 204 3 = nI sv) (hs : sv ≤ 6) {k : Nat} (hk : k < (kN A)) (zf1 : lsA A k = true)  : CF yX7_find cX7_find 2 (some .int) 7 153 [.ref 204, .int (nI k)] w (fun r w' => r = some (.int (nI (onesN (lksA A (cN A k))))) ∧ w' = (wRow (svW (wSet w 204 0 (nI 0)) A sv) 205 (losA A k false))) := by
  have zq_n := hA.n12
  have zf0 : inR (nI k) (kN A) = true := ((inR_nI (by omega)).trans (decide_eq_true (by omega)))
  refine CF.of ok_X7_find (Nat.le_of_ble_eq_true rfl) (fun ex us G9 p9 l9 e9 s9 m9 ar9 be9 me9 co9 C hr => ?_)
  refine a_aload_n C dX7_find_0 rfl rfl ?_
  refine a_iconst (v := nI 0) C dX7_find_1 (by decide) ?_
  refine f_putf C fX7_53 dX7_find_2 (by first | decide | omega) rfl rfl rfl (Nat.le_of_ble_eq_true rfl) rfl ?_
  have hR : RR (wSet w 204 0 (nI 0)) A := hR
  refine a_aload_n C dX7_find_5 rfl rfl ?_
  refine a_iload_n C dX7_find_6 rfl rfl ?_
  refine p_callV C (K_X7_isKey hR hA _) vX7_131 rfl (by first | decide | omega) rfl rfl dX7_find_7 (Nat.le_of_ble_eq_true rfl) ⟨by decide, by decide⟩ ?_
  refine b_if_ne (tgt := 19) C dX7_find_10 (by decide) (fun h_10 => ?_) (fun h_10 => ?_)
  · refine a_aload_n C dX7_find_19 rfl rfl ?_
    refine a_iload_n C dX7_find_20 rfl rfl ?_
    refine a_iconst (v := nI 2) C dX7_find_21 (by decide) ?_
    refine p_callV C (KC_ofKey2 hR hA (by first | assumption | decide | omega)) vX7_85 rfl (by first | decide | omega) rfl rfl dX7_find_22 (Nat.le_of_ble_eq_true rfl) ⟨by decide, by decide⟩ ?_
    refine b_if_ne (tgt := 34) C dX7_find_25 (by decide) (fun h_25 => ?_) (fun h_25 => ?_)
    · refine a_aload_n C dX7_find_34 rfl rfl ?_
      refine f_callV C _ _ (K_X7_save hR hv hs) vX7_76 (by first | decide | omega) rfl rfl dX7_find_35 rfl (Nat.le_of_ble_eq_true rfl) ⟨by decide, by decide⟩ (fun zr35 zw35 zp35 => ?_)
      obtain ⟨rfl, rfl⟩ := zp35
      have hR : RR (svW (wSet w 204 0 (nI 0)) A sv) A := hR
      refine a_aload_n C dX7_find_38 rfl rfl ?_
      refine a_iload_n C dX7_find_39 rfl rfl ?_
      refine a_iconst (v := nI 0) C dX7_find_40 (by decide) ?_
      refine f_callV C _ _ (K_X7_setsLost hR hA false hk) vX7_143 (by first | decide | omega) rfl rfl dX7_find_41 rfl (Nat.le_of_ble_eq_true rfl) ⟨by decide, by decide⟩ (fun zr41 zw41 zp41 => ?_)
      obtain ⟨rfl, rfl⟩ := zp41
      refine f_iret C hr ?_ dX7_find_44 ⟨?_, ?_⟩
      · rfl
      · first | with_reducible rfl | exact gl (by first | with_reducible rfl | (refine iF ?_; simp []; done) | (refine iT ?_; simp []; done) | (refine iB ?_; simp []; done) | (simp []; done) | (simp []; omega) | omega | rfl)
      · first | with_reducible rfl | exact wSet2 | rfl
    · exact absurd (h_25.symm.trans zf1) (by decide)
  · exact absurd (h_10.symm.trans zf0) (by decide)

set_option maxRecDepth 20000 in
set_option maxHeartbeats 4000000 in
theorem K_X7_find_0 {w : Wd} {A : St} (hR : RR w A) (hA : AOK A) {sv : Nat} (hv : w.1 204 3 = nI sv) (hs : sv ≤ 6) (k : Int32) (hf : inR k (kN A) = false)  : CF yX7_find cX7_find 2 (some .int) 7 153 [.ref 204, .int k] w (FA w (.int (nI 0)) 1) := by
  have zq_n := hA.n12
  have zf0 : inR k (kN A) = false := hf
  refine CF.of ok_X7_find (Nat.le_of_ble_eq_true rfl) (fun ex us G9 p9 l9 e9 s9 m9 ar9 be9 me9 co9 C hr => ?_)
  refine a_aload_n C dX7_find_0 rfl rfl ?_
  refine a_iconst (v := nI 0) C dX7_find_1 (by decide) ?_
  refine f_putf C fX7_53 dX7_find_2 (by first | decide | omega) rfl rfl rfl (Nat.le_of_ble_eq_true rfl) rfl ?_
  have hR : RR (wSet w 204 0 (nI 0)) A := hR
  refine a_aload_n C dX7_find_5 rfl rfl ?_
  refine a_iload_n C dX7_find_6 rfl rfl ?_
  refine p_callV C (K_X7_isKey hR hA _) vX7_131 rfl (by first | decide | omega) rfl rfl dX7_find_7 (Nat.le_of_ble_eq_true rfl) ⟨by decide, by decide⟩ ?_
  refine b_if_ne (tgt := 19) C dX7_find_10 (by decide) (fun h_10 => ?_) (fun h_10 => ?_)
  · exact absurd (h_10.symm.trans zf0) (by decide)
  · refine a_aload_n C dX7_find_13 rfl rfl ?_
    refine a_iconst (v := nI 1) C dX7_find_14 (by decide) ?_
    refine f_callV C _ _ (K_X7_fails _) vX7_68 (by first | decide | omega) rfl rfl dX7_find_15 rfl (Nat.le_of_ble_eq_true rfl) ⟨by decide, by decide⟩ (fun zr15 zw15 zp15 => ?_)
    obtain ⟨rfl, rfl⟩ := zp15
    refine f_iret C hr ?_ dX7_find_18 ⟨?_, ?_⟩
    · rfl
    · first | with_reducible rfl | exact gl (by first | with_reducible rfl | (refine iF ?_; simp []; done) | (refine iT ?_; simp []; done) | (refine iB ?_; simp []; done) | (simp []; done) | (simp []; omega) | omega | rfl)
    · first | with_reducible rfl | exact wSet2 | rfl

set_option maxRecDepth 20000 in
set_option maxHeartbeats 4000000 in
theorem K_X7_find_1 {w : Wd} {A : St} (hR : RR w A) (hA : AOK A) {sv : Nat} (hv : w.1 204 3 = nI sv) (hs : sv ≤ 6) {k : Nat} (hk : k < (kN A)) (zf1 : lsA A k = false)  : CF yX7_find cX7_find 2 (some .int) 7 153 [.ref 204, .int (nI k)] w (FA w (.int (nI 0)) 2) := by
  have zq_n := hA.n12
  have zf0 : inR (nI k) (kN A) = true := ((inR_nI (by omega)).trans (decide_eq_true (by omega)))
  refine CF.of ok_X7_find (Nat.le_of_ble_eq_true rfl) (fun ex us G9 p9 l9 e9 s9 m9 ar9 be9 me9 co9 C hr => ?_)
  refine a_aload_n C dX7_find_0 rfl rfl ?_
  refine a_iconst (v := nI 0) C dX7_find_1 (by decide) ?_
  refine f_putf C fX7_53 dX7_find_2 (by first | decide | omega) rfl rfl rfl (Nat.le_of_ble_eq_true rfl) rfl ?_
  have hR : RR (wSet w 204 0 (nI 0)) A := hR
  refine a_aload_n C dX7_find_5 rfl rfl ?_
  refine a_iload_n C dX7_find_6 rfl rfl ?_
  refine p_callV C (K_X7_isKey hR hA _) vX7_131 rfl (by first | decide | omega) rfl rfl dX7_find_7 (Nat.le_of_ble_eq_true rfl) ⟨by decide, by decide⟩ ?_
  refine b_if_ne (tgt := 19) C dX7_find_10 (by decide) (fun h_10 => ?_) (fun h_10 => ?_)
  · refine a_aload_n C dX7_find_19 rfl rfl ?_
    refine a_iload_n C dX7_find_20 rfl rfl ?_
    refine a_iconst (v := nI 2) C dX7_find_21 (by decide) ?_
    refine p_callV C (KC_ofKey2 hR hA (by first | assumption | decide | omega)) vX7_85 rfl (by first | decide | omega) rfl rfl dX7_find_22 (Nat.le_of_ble_eq_true rfl) ⟨by decide, by decide⟩ ?_
    refine b_if_ne (tgt := 34) C dX7_find_25 (by decide) (fun h_25 => ?_) (fun h_25 => ?_)
    · exact absurd (h_25.symm.trans zf1) (by decide)
    · refine a_aload_n C dX7_find_28 rfl rfl ?_
      refine a_iconst (v := nI 2) C dX7_find_29 (by decide) ?_
      refine f_callV C _ _ (K_X7_fails _) vX7_68 (by first | decide | omega) rfl rfl dX7_find_30 rfl (Nat.le_of_ble_eq_true rfl) ⟨by decide, by decide⟩ (fun zr30 zw30 zp30 => ?_)
      obtain ⟨rfl, rfl⟩ := zp30
      refine f_iret C hr ?_ dX7_find_33 ⟨?_, ?_⟩
      · rfl
      · first | with_reducible rfl | exact gl (by first | with_reducible rfl | (refine iF ?_; simp []; done) | (refine iT ?_; simp []; done) | (refine iB ?_; simp []; done) | (simp []; done) | (simp []; omega) | omega | rfl)
      · first | with_reducible rfl | exact wSet2 | rfl
  · exact absurd (h_10.symm.trans zf0) (by decide)

set_option maxRecDepth 20000 in
set_option maxHeartbeats 4000000 in
theorem K_X7_ward {w : Wd} {A : St} (hR : RR w A) (hA : AOK A) {sv : Nat} (hv : w.1 204 3 = nI sv) (hs : sv ≤ 6) {p : Nat} (hp : p < 6) {c : Nat} (hc : c < 81)  : CF yX7_ward cX7_ward 4 (some .int) 2 42 [.ref 204, .int (nI p), .int (nI c)] w (fun r w' => r = some (.int (A (16 + 4 * p + 0))) ∧ w' = (wRow (svW (wSet w 204 0 (nI 0)) A sv) 205 (warA A p (nI c)))) := by
  have zq_n := hA.n12
  have zf0 : inR (nI p) 6 = true := ((inR_nI (by omega)).trans (decide_eq_true (by omega)))
  have zf1 : inR (nI c) 81 = true := ((inR_nI (by omega)).trans (decide_eq_true (by omega)))
  refine CF.of ok_X7_ward (Nat.le_of_ble_eq_true rfl) (fun ex us G9 p9 l9 e9 s9 m9 ar9 be9 me9 co9 C hr => ?_)
  refine a_pad 1 ?_
  refine a_eq (L' := [some (.ref 204), some (.int (nI p)), some (.int (nI c)), none]) rfl rfl rfl ?_
  refine a_aload_n C dX7_ward_0 rfl rfl ?_
  refine a_iconst (v := nI 0) C dX7_ward_1 (by decide) ?_
  refine f_putf C fX7_53 dX7_ward_2 (by first | decide | omega) rfl rfl rfl (Nat.le_of_ble_eq_true rfl) rfl ?_
  have hR : RR (wSet w 204 0 (nI 0)) A := hR
  refine a_iload_n C dX7_ward_5 rfl rfl ?_
  refine p_callS C ((K_X7_isPlace _)).cp sX7_146 rfl dX7_ward_6 (Nat.le_of_ble_eq_true rfl) ⟨by decide, by decide⟩ ?_
  refine b_if_ne (tgt := 18) C dX7_ward_9 (by decide) (fun h_9 => ?_) (fun h_9 => ?_)
  · refine a_iload_n C dX7_ward_18 rfl rfl ?_
    refine p_callS C ((K_X7_isCode _)).cp sX7_119 rfl dX7_ward_19 (Nat.le_of_ble_eq_true rfl) ⟨by decide, by decide⟩ ?_
    refine b_if_ne (tgt := 31) C dX7_ward_22 (by decide) (fun h_22 => ?_) (fun h_22 => ?_)
    · refine a_aload_n C dX7_ward_31 rfl rfl ?_
      refine f_callV C _ _ (K_X7_save hR hv hs) vX7_76 (by first | decide | omega) rfl rfl dX7_ward_32 rfl (Nat.le_of_ble_eq_true rfl) ⟨by decide, by decide⟩ (fun zr32 zw32 zp32 => ?_)
      obtain ⟨rfl, rfl⟩ := zp32
      have hR : RR (svW (wSet w 204 0 (nI 0)) A sv) A := hR
      refine a_aload_n C dX7_ward_35 rfl rfl ?_
      refine a_iload_n C dX7_ward_36 rfl rfl ?_
      refine a_iconst (v := nI 0) C dX7_ward_37 (by decide) ?_
      refine p_callV C (K_X7_ofLock (j := 0) hR (by first | assumption | decide | omega)) vX7_61 rfl (by first | decide | omega) rfl rfl dX7_ward_38 (Nat.le_of_ble_eq_true rfl) ⟨by decide, by decide⟩ ?_
      refine a_istore_n C dX7_ward_41 rfl (by decide) ?_
      refine a_wd (RR_row hR) ?_
      refine a_aload_n C dX7_ward_42 rfl rfl ?_
      refine a_getfF C fX7_7 dX7_ward_43 (show _ < 219 from (by first | decide | omega)) (by first | decide | omega) rfl rfl ?_
      refine a_bipush (v := nI 16) C dX7_ward_46 (by decide) ?_
      refine a_iconst (v := nI 4) C dX7_ward_48 (by decide) ?_
      refine a_iload_n C dX7_ward_49 rfl rfl ?_
      first | refine n_imul C dX7_ward_50 ?_ | refine a_imul C dX7_ward_50 ?_
      first | refine n_iadd C dX7_ward_51 ?_ | refine a_iadd C dX7_ward_51 ?_
      refine a_iconst (v := nI 0) C dX7_ward_52 (by decide) ?_
      first | refine n_iadd C dX7_ward_53 ?_ | refine a_iadd C dX7_ward_53 ?_
      refine a_iload_n C dX7_ward_54 rfl rfl ?_
      refine f_iast C dX7_ward_55 (by first | decide | omega) rfl rfl (by first | decide | omega) (by decide)  rfl ?_
      refine a_wd wSet_row ?_
      refine a_iload_n C dX7_ward_56 rfl rfl ?_
      refine f_iret C hr ?_ dX7_ward_57 ⟨?_, ?_⟩
      · rfl
      · first | with_reducible rfl | exact gl (by first | with_reducible rfl | (refine iF ?_; simp []; done) | (refine iT ?_; simp []; done) | (refine iB ?_; simp []; done) | (simp []; done) | (simp []; omega) | omega | rfl)
      · first | with_reducible rfl | exact wSet2 | rfl
    · exact absurd (h_22.symm.trans zf1) (by decide)
  · exact absurd (h_9.symm.trans zf0) (by decide)

set_option maxRecDepth 20000 in
set_option maxHeartbeats 4000000 in
theorem K_X7_ward_0 {w : Wd} {A : St} (hR : RR w A) (hA : AOK A) {sv : Nat} (hv : w.1 204 3 = nI sv) (hs : sv ≤ 6) (p : Int32) (hf : inR p 6 = false) (c : Int32)  : CF yX7_ward cX7_ward 4 (some .int) 2 42 [.ref 204, .int p, .int c] w (FA w (.int (nI 0)) 1) := by
  have zq_n := hA.n12
  have zf0 : inR p 6 = false := hf
  refine CF.of ok_X7_ward (Nat.le_of_ble_eq_true rfl) (fun ex us G9 p9 l9 e9 s9 m9 ar9 be9 me9 co9 C hr => ?_)
  refine a_pad 1 ?_
  refine a_eq (L' := [some (.ref 204), some (.int p), some (.int c), none]) rfl rfl rfl ?_
  refine a_aload_n C dX7_ward_0 rfl rfl ?_
  refine a_iconst (v := nI 0) C dX7_ward_1 (by decide) ?_
  refine f_putf C fX7_53 dX7_ward_2 (by first | decide | omega) rfl rfl rfl (Nat.le_of_ble_eq_true rfl) rfl ?_
  have hR : RR (wSet w 204 0 (nI 0)) A := hR
  refine a_iload_n C dX7_ward_5 rfl rfl ?_
  refine p_callS C ((K_X7_isPlace _)).cp sX7_146 rfl dX7_ward_6 (Nat.le_of_ble_eq_true rfl) ⟨by decide, by decide⟩ ?_
  refine b_if_ne (tgt := 18) C dX7_ward_9 (by decide) (fun h_9 => ?_) (fun h_9 => ?_)
  · exact absurd (h_9.symm.trans zf0) (by decide)
  · refine a_aload_n C dX7_ward_12 rfl rfl ?_
    refine a_iconst (v := nI 1) C dX7_ward_13 (by decide) ?_
    refine f_callV C _ _ (K_X7_fails _) vX7_68 (by first | decide | omega) rfl rfl dX7_ward_14 rfl (Nat.le_of_ble_eq_true rfl) ⟨by decide, by decide⟩ (fun zr14 zw14 zp14 => ?_)
    obtain ⟨rfl, rfl⟩ := zp14
    refine f_iret C hr ?_ dX7_ward_17 ⟨?_, ?_⟩
    · rfl
    · first | with_reducible rfl | exact gl (by first | with_reducible rfl | (refine iF ?_; simp []; done) | (refine iT ?_; simp []; done) | (refine iB ?_; simp []; done) | (simp []; done) | (simp []; omega) | omega | rfl)
    · first | with_reducible rfl | exact wSet2 | rfl

set_option maxRecDepth 20000 in
set_option maxHeartbeats 4000000 in
theorem K_X7_ward_1 {w : Wd} {A : St} (hR : RR w A) (hA : AOK A) {sv : Nat} (hv : w.1 204 3 = nI sv) (hs : sv ≤ 6) {p : Nat} (hp : p < 6) (c : Int32) (hf : inR c 81 = false)  : CF yX7_ward cX7_ward 4 (some .int) 2 42 [.ref 204, .int (nI p), .int c] w (FA w (.int (nI 0)) 2) := by
  have zq_n := hA.n12
  have zf0 : inR (nI p) 6 = true := ((inR_nI (by omega)).trans (decide_eq_true (by omega)))
  have zf1 : inR c 81 = false := hf
  refine CF.of ok_X7_ward (Nat.le_of_ble_eq_true rfl) (fun ex us G9 p9 l9 e9 s9 m9 ar9 be9 me9 co9 C hr => ?_)
  refine a_pad 1 ?_
  refine a_eq (L' := [some (.ref 204), some (.int (nI p)), some (.int c), none]) rfl rfl rfl ?_
  refine a_aload_n C dX7_ward_0 rfl rfl ?_
  refine a_iconst (v := nI 0) C dX7_ward_1 (by decide) ?_
  refine f_putf C fX7_53 dX7_ward_2 (by first | decide | omega) rfl rfl rfl (Nat.le_of_ble_eq_true rfl) rfl ?_
  have hR : RR (wSet w 204 0 (nI 0)) A := hR
  refine a_iload_n C dX7_ward_5 rfl rfl ?_
  refine p_callS C ((K_X7_isPlace _)).cp sX7_146 rfl dX7_ward_6 (Nat.le_of_ble_eq_true rfl) ⟨by decide, by decide⟩ ?_
  refine b_if_ne (tgt := 18) C dX7_ward_9 (by decide) (fun h_9 => ?_) (fun h_9 => ?_)
  · refine a_iload_n C dX7_ward_18 rfl rfl ?_
    refine p_callS C ((K_X7_isCode _)).cp sX7_119 rfl dX7_ward_19 (Nat.le_of_ble_eq_true rfl) ⟨by decide, by decide⟩ ?_
    refine b_if_ne (tgt := 31) C dX7_ward_22 (by decide) (fun h_22 => ?_) (fun h_22 => ?_)
    · exact absurd (h_22.symm.trans zf1) (by decide)
    · refine a_aload_n C dX7_ward_25 rfl rfl ?_
      refine a_iconst (v := nI 2) C dX7_ward_26 (by decide) ?_
      refine f_callV C _ _ (K_X7_fails _) vX7_68 (by first | decide | omega) rfl rfl dX7_ward_27 rfl (Nat.le_of_ble_eq_true rfl) ⟨by decide, by decide⟩ (fun zr27 zw27 zp27 => ?_)
      obtain ⟨rfl, rfl⟩ := zp27
      refine f_iret C hr ?_ dX7_ward_30 ⟨?_, ?_⟩
      · rfl
      · first | with_reducible rfl | exact gl (by first | with_reducible rfl | (refine iF ?_; simp []; done) | (refine iT ?_; simp []; done) | (refine iB ?_; simp []; done) | (simp []; done) | (simp []; omega) | omega | rfl)
      · first | with_reducible rfl | exact wSet2 | rfl
  · exact absurd (h_9.symm.trans zf0) (by decide)

set_option maxRecDepth 20000 in
set_option maxHeartbeats 4000000 in
theorem K_X7_take {w : Wd} {A : St} (hR : RR w A) (hA : AOK A) {sv : Nat} (hv : w.1 204 3 = nI sv) (hs : sv ≤ 6) {p : Nat} (hp : p < 6) (zf1 : wdA A p = true)  : CF yX7_take cX7_take 3 (some .int) 6 131 [.ref 204, .int (nI p)] w (fun r w' => r = some (.int (nI (onesN (kysA A p)))) ∧ w' = (wRow (svW (wSet w 204 0 (nI 0)) A sv) 205 (takA A p))) := by
  have zq_n := hA.n12
  have zq_k := kys_lt hA
  have zf0 : inR (nI p) 6 = true := ((inR_nI (by omega)).trans (decide_eq_true (by omega)))
  refine CF.of ok_X7_take (Nat.le_of_ble_eq_true rfl) (fun ex us G9 p9 l9 e9 s9 m9 ar9 be9 me9 co9 C hr => ?_)
  refine a_pad 1 ?_
  refine a_eq (L' := [some (.ref 204), some (.int (nI p)), none]) rfl rfl rfl ?_
  refine a_aload_n C dX7_take_0 rfl rfl ?_
  refine a_iconst (v := nI 0) C dX7_take_1 (by decide) ?_
  refine f_putf C fX7_53 dX7_take_2 (by first | decide | omega) rfl rfl rfl (Nat.le_of_ble_eq_true rfl) rfl ?_
  have hR : RR (wSet w 204 0 (nI 0)) A := hR
  refine a_iload_n C dX7_take_5 rfl rfl ?_
  refine p_callS C ((K_X7_isPlace _)).cp sX7_146 rfl dX7_take_6 (Nat.le_of_ble_eq_true rfl) ⟨by decide, by decide⟩ ?_
  refine b_if_ne (tgt := 18) C dX7_take_9 (by decide) (fun h_9 => ?_) (fun h_9 => ?_)
  · refine a_aload_n C dX7_take_18 rfl rfl ?_
    refine a_iload_n C dX7_take_19 rfl rfl ?_
    refine p_callV C (K_X7_isLock hR hA (by first | assumption | decide | omega)) vX7_95 rfl (by first | decide | omega) rfl rfl dX7_take_20 (Nat.le_of_ble_eq_true rfl) ⟨by decide, by decide⟩ ?_
    refine b_if_ne (tgt := 32) C dX7_take_23 (by decide) (fun h_23 => ?_) (fun h_23 => ?_)
    · refine a_aload_n C dX7_take_32 rfl rfl ?_
      refine f_callV C _ _ (K_X7_save hR hv hs) vX7_76 (by first | decide | omega) rfl rfl dX7_take_33 rfl (Nat.le_of_ble_eq_true rfl) ⟨by decide, by decide⟩ (fun zr33 zw33 zp33 => ?_)
      obtain ⟨rfl, rfl⟩ := zp33
      have hR : RR (svW (wSet w 204 0 (nI 0)) A sv) A := hR
      refine a_aload_n C dX7_take_36 rfl rfl ?_
      refine a_iload_n C dX7_take_37 rfl rfl ?_
      refine p_callV C (K_X7_keysOf hR hA (by first | assumption | decide | omega)) vX7_149 rfl (by first | decide | omega) rfl rfl dX7_take_38 (Nat.le_of_ble_eq_true rfl) ⟨by decide, by decide⟩ ?_
      refine p_callS C ((K_X7_ones (Nat.lt_trans (zq_k p) (by decide)))).cp sX7_116 rfl dX7_take_41 (Nat.le_of_ble_eq_true rfl) ⟨by decide, by decide⟩ ?_
      refine a_istore_n C dX7_take_44 rfl (by decide) ?_
      refine a_wd (RR_row hR) ?_
      refine a_aload_n C dX7_take_45 rfl rfl ?_
      refine a_getfF C fX7_7 dX7_take_46 (show _ < 219 from (by first | decide | omega)) (by first | decide | omega) rfl rfl ?_
      refine a_bipush (v := nI 16) C dX7_take_49 (by decide) ?_
      refine a_iconst (v := nI 4) C dX7_take_51 (by decide) ?_
      refine a_iload_n C dX7_take_52 rfl rfl ?_
      first | refine n_imul C dX7_take_53 ?_ | refine a_imul C dX7_take_53 ?_
      first | refine n_iadd C dX7_take_54 ?_ | refine a_iadd C dX7_take_54 ?_
      refine a_iconst (v := nI 0) C dX7_take_55 (by decide) ?_
      first | refine n_iadd C dX7_take_56 ?_ | refine a_iadd C dX7_take_56 ?_
      refine a_iconst (v := (-1)) C dX7_take_57 (by decide) ?_
      refine f_iast C dX7_take_58 (by first | decide | omega) rfl rfl (by first | decide | omega) (by decide)  rfl ?_
      refine a_wd wSet_row ?_
      refine a_aload_n C dX7_take_59 rfl rfl ?_
      refine a_getfF C fX7_7 dX7_take_60 (show _ < 219 from (by first | decide | omega)) (by first | decide | omega) rfl rfl ?_
      refine a_bipush (v := nI 16) C dX7_take_63 (by decide) ?_
      refine a_iconst (v := nI 4) C dX7_take_65 (by decide) ?_
      refine a_iload_n C dX7_take_66 rfl rfl ?_
      first | refine n_imul C dX7_take_67 ?_ | refine a_imul C dX7_take_67 ?_
      first | refine n_iadd C dX7_take_68 ?_ | refine a_iadd C dX7_take_68 ?_
      refine a_iconst (v := nI 1) C dX7_take_69 (by decide) ?_
      first | refine n_iadd C dX7_take_70 ?_ | refine a_iadd C dX7_take_70 ?_
      refine a_iconst (v := (-1)) C dX7_take_71 (by decide) ?_
      refine f_iast C dX7_take_72 (by first | decide | omega) rfl rfl (by first | decide | omega) (by decide)  rfl ?_
      refine a_wd wSet_row ?_
      refine a_aload_n C dX7_take_73 rfl rfl ?_
      refine a_getfF C fX7_7 dX7_take_74 (show _ < 219 from (by first | decide | omega)) (by first | decide | omega) rfl rfl ?_
      refine a_bipush (v := nI 16) C dX7_take_77 (by decide) ?_
      refine a_iconst (v := nI 4) C dX7_take_79 (by decide) ?_
      refine a_iload_n C dX7_take_80 rfl rfl ?_
      first | refine n_imul C dX7_take_81 ?_ | refine a_imul C dX7_take_81 ?_
      first | refine n_iadd C dX7_take_82 ?_ | refine a_iadd C dX7_take_82 ?_
      refine a_iconst (v := nI 2) C dX7_take_83 (by decide) ?_
      first | refine n_iadd C dX7_take_84 ?_ | refine a_iadd C dX7_take_84 ?_
      refine a_iconst (v := nI 0) C dX7_take_85 (by decide) ?_
      refine f_iast C dX7_take_86 (by first | decide | omega) rfl rfl (by first | decide | omega) (by decide)  rfl ?_
      refine a_wd wSet_row ?_
      refine a_aload_n C dX7_take_87 rfl rfl ?_
      refine a_getfF C fX7_7 dX7_take_88 (show _ < 219 from (by first | decide | omega)) (by first | decide | omega) rfl rfl ?_
      refine a_bipush (v := nI 16) C dX7_take_91 (by decide) ?_
      refine a_iconst (v := nI 4) C dX7_take_93 (by decide) ?_
      refine a_iload_n C dX7_take_94 rfl rfl ?_
      first | refine n_imul C dX7_take_95 ?_ | refine a_imul C dX7_take_95 ?_
      first | refine n_iadd C dX7_take_96 ?_ | refine a_iadd C dX7_take_96 ?_
      refine a_iconst (v := nI 3) C dX7_take_97 (by decide) ?_
      first | refine n_iadd C dX7_take_98 ?_ | refine a_iadd C dX7_take_98 ?_
      refine a_iconst (v := nI 0) C dX7_take_99 (by decide) ?_
      refine f_iast C dX7_take_100 (by first | decide | omega) rfl rfl (by first | decide | omega) (by decide)  rfl ?_
      refine a_wd wSet_row ?_
      refine a_iload_n C dX7_take_101 rfl rfl ?_
      refine f_iret C hr ?_ dX7_take_102 ⟨?_, ?_⟩
      · rfl
      · first | with_reducible rfl | exact gl (by first | with_reducible rfl | (refine iF ?_; simp []; done) | (refine iT ?_; simp []; done) | (refine iB ?_; simp []; done) | (simp []; done) | (simp []; omega) | omega | rfl)
      · first | with_reducible rfl | exact wSet2 | rfl
    · exact absurd (h_23.symm.trans zf1) (by decide)
  · exact absurd (h_9.symm.trans zf0) (by decide)

set_option maxRecDepth 20000 in
set_option maxHeartbeats 4000000 in
theorem K_X7_take_0 {w : Wd} {A : St} (hR : RR w A) (hA : AOK A) {sv : Nat} (hv : w.1 204 3 = nI sv) (hs : sv ≤ 6) (p : Int32) (hf : inR p 6 = false)  : CF yX7_take cX7_take 3 (some .int) 6 131 [.ref 204, .int p] w (FA w (.int (nI 0)) 1) := by
  have zq_n := hA.n12
  have zq_k := kys_lt hA
  have zf0 : inR p 6 = false := hf
  refine CF.of ok_X7_take (Nat.le_of_ble_eq_true rfl) (fun ex us G9 p9 l9 e9 s9 m9 ar9 be9 me9 co9 C hr => ?_)
  refine a_pad 1 ?_
  refine a_eq (L' := [some (.ref 204), some (.int p), none]) rfl rfl rfl ?_
  refine a_aload_n C dX7_take_0 rfl rfl ?_
  refine a_iconst (v := nI 0) C dX7_take_1 (by decide) ?_
  refine f_putf C fX7_53 dX7_take_2 (by first | decide | omega) rfl rfl rfl (Nat.le_of_ble_eq_true rfl) rfl ?_
  have hR : RR (wSet w 204 0 (nI 0)) A := hR
  refine a_iload_n C dX7_take_5 rfl rfl ?_
  refine p_callS C ((K_X7_isPlace _)).cp sX7_146 rfl dX7_take_6 (Nat.le_of_ble_eq_true rfl) ⟨by decide, by decide⟩ ?_
  refine b_if_ne (tgt := 18) C dX7_take_9 (by decide) (fun h_9 => ?_) (fun h_9 => ?_)
  · exact absurd (h_9.symm.trans zf0) (by decide)
  · refine a_aload_n C dX7_take_12 rfl rfl ?_
    refine a_iconst (v := nI 1) C dX7_take_13 (by decide) ?_
    refine f_callV C _ _ (K_X7_fails _) vX7_68 (by first | decide | omega) rfl rfl dX7_take_14 rfl (Nat.le_of_ble_eq_true rfl) ⟨by decide, by decide⟩ (fun zr14 zw14 zp14 => ?_)
    obtain ⟨rfl, rfl⟩ := zp14
    refine f_iret C hr ?_ dX7_take_17 ⟨?_, ?_⟩
    · rfl
    · first | with_reducible rfl | exact gl (by first | with_reducible rfl | (refine iF ?_; simp []; done) | (refine iT ?_; simp []; done) | (refine iB ?_; simp []; done) | (simp []; done) | (simp []; omega) | omega | rfl)
    · first | with_reducible rfl | exact wSet2 | rfl

set_option maxRecDepth 20000 in
set_option maxHeartbeats 4000000 in
theorem K_X7_take_1 {w : Wd} {A : St} (hR : RR w A) (hA : AOK A) {sv : Nat} (hv : w.1 204 3 = nI sv) (hs : sv ≤ 6) {p : Nat} (hp : p < 6) (zf1 : wdA A p = false)  : CF yX7_take cX7_take 3 (some .int) 6 131 [.ref 204, .int (nI p)] w (FA w (.int (nI 0)) 2) := by
  have zq_n := hA.n12
  have zq_k := kys_lt hA
  have zf0 : inR (nI p) 6 = true := ((inR_nI (by omega)).trans (decide_eq_true (by omega)))
  refine CF.of ok_X7_take (Nat.le_of_ble_eq_true rfl) (fun ex us G9 p9 l9 e9 s9 m9 ar9 be9 me9 co9 C hr => ?_)
  refine a_pad 1 ?_
  refine a_eq (L' := [some (.ref 204), some (.int (nI p)), none]) rfl rfl rfl ?_
  refine a_aload_n C dX7_take_0 rfl rfl ?_
  refine a_iconst (v := nI 0) C dX7_take_1 (by decide) ?_
  refine f_putf C fX7_53 dX7_take_2 (by first | decide | omega) rfl rfl rfl (Nat.le_of_ble_eq_true rfl) rfl ?_
  have hR : RR (wSet w 204 0 (nI 0)) A := hR
  refine a_iload_n C dX7_take_5 rfl rfl ?_
  refine p_callS C ((K_X7_isPlace _)).cp sX7_146 rfl dX7_take_6 (Nat.le_of_ble_eq_true rfl) ⟨by decide, by decide⟩ ?_
  refine b_if_ne (tgt := 18) C dX7_take_9 (by decide) (fun h_9 => ?_) (fun h_9 => ?_)
  · refine a_aload_n C dX7_take_18 rfl rfl ?_
    refine a_iload_n C dX7_take_19 rfl rfl ?_
    refine p_callV C (K_X7_isLock hR hA (by first | assumption | decide | omega)) vX7_95 rfl (by first | decide | omega) rfl rfl dX7_take_20 (Nat.le_of_ble_eq_true rfl) ⟨by decide, by decide⟩ ?_
    refine b_if_ne (tgt := 32) C dX7_take_23 (by decide) (fun h_23 => ?_) (fun h_23 => ?_)
    · exact absurd (h_23.symm.trans zf1) (by decide)
    · refine a_aload_n C dX7_take_26 rfl rfl ?_
      refine a_iconst (v := nI 2) C dX7_take_27 (by decide) ?_
      refine f_callV C _ _ (K_X7_fails _) vX7_68 (by first | decide | omega) rfl rfl dX7_take_28 rfl (Nat.le_of_ble_eq_true rfl) ⟨by decide, by decide⟩ (fun zr28 zw28 zp28 => ?_)
      obtain ⟨rfl, rfl⟩ := zp28
      refine f_iret C hr ?_ dX7_take_31 ⟨?_, ?_⟩
      · rfl
      · first | with_reducible rfl | exact gl (by first | with_reducible rfl | (refine iF ?_; simp []; done) | (refine iT ?_; simp []; done) | (refine iB ?_; simp []; done) | (simp []; done) | (simp []; omega) | omega | rfl)
      · first | with_reducible rfl | exact wSet2 | rfl
  · exact absurd (h_9.symm.trans zf0) (by decide)

set_option maxRecDepth 20000 in
set_option maxHeartbeats 4000000 in
theorem K_X7_turn {w : Wd} {A : St} (hR : RR w A) (hA : AOK A) {sv : Nat} (hv : w.1 204 3 = nI sv) (hs : sv ≤ 6) {k : Nat} (hk : k < (kN A)) {p : Nat} (hp : p < 6) (zf2 : lsA A k = false) (zf3 : wdA A p = true)  : CF yX7_turn cX7_turn 3 (some .int) 6 132 [.ref 204, .int (nI k), .int (nI p)] w (fun r w' => r = some (.int (bI (opnA A (cN A k) p))) ∧ w' = (wRow (svW (wSet w 204 0 (nI 0)) A sv) 205 (turA A k p))) := by
  have zq_n := hA.n12
  have zf0 : inR (nI k) (kN A) = true := ((inR_nI (by omega)).trans (decide_eq_true (by omega)))
  have zf1 : inR (nI p) 6 = true := ((inR_nI (by omega)).trans (decide_eq_true (by omega)))
  refine CF.of ok_X7_turn (Nat.le_of_ble_eq_true rfl) (fun ex us G9 p9 l9 e9 s9 m9 ar9 be9 me9 co9 C hr => ?_)
  refine a_aload_n C dX7_turn_0 rfl rfl ?_
  refine a_iconst (v := nI 0) C dX7_turn_1 (by decide) ?_
  refine f_putf C fX7_53 dX7_turn_2 (by first | decide | omega) rfl rfl rfl (Nat.le_of_ble_eq_true rfl) rfl ?_
  have hR : RR (wSet w 204 0 (nI 0)) A := hR
  refine a_aload_n C dX7_turn_5 rfl rfl ?_
  refine a_iload_n C dX7_turn_6 rfl rfl ?_
  refine p_callV C (K_X7_isKey hR hA _) vX7_131 rfl (by first | decide | omega) rfl rfl dX7_turn_7 (Nat.le_of_ble_eq_true rfl) ⟨by decide, by decide⟩ ?_
  refine b_if_eq (tgt := 20) C dX7_turn_10 (by decide) (fun h_10 => ?_) (fun h_10 => ?_)
  · exact absurd (h_10.symm.trans zf0) (by decide)
  · refine a_iload_n C dX7_turn_13 rfl rfl ?_
    refine p_callS C ((K_X7_isPlace _)).cp sX7_146 rfl dX7_turn_14 (Nat.le_of_ble_eq_true rfl) ⟨by decide, by decide⟩ ?_
    refine b_if_ne (tgt := 26) C dX7_turn_17 (by decide) (fun h_17 => ?_) (fun h_17 => ?_)
    · refine a_aload_n C dX7_turn_26 rfl rfl ?_
      refine a_iload_n C dX7_turn_27 rfl rfl ?_
      refine a_iconst (v := nI 2) C dX7_turn_28 (by decide) ?_
      refine p_callV C (KC_ofKey2 hR hA (by first | assumption | decide | omega)) vX7_85 rfl (by first | decide | omega) rfl rfl dX7_turn_29 (Nat.le_of_ble_eq_true rfl) ⟨by decide, by decide⟩ ?_
      refine a_iconst (v := nI 1) C dX7_turn_32 (by decide) ?_
      refine b_icmp1_eq (tgt := 44) C dX7_turn_33 (by decide) (fun h_33 => ?_) (fun h_33 => ?_)
      · exact absurd (h_33.symm.trans zf2) (by decide)
      · refine a_aload_n C dX7_turn_36 rfl rfl ?_
        refine a_iload_n C dX7_turn_37 rfl rfl ?_
        refine p_callV C (K_X7_isLock hR hA (by first | assumption | decide | omega)) vX7_95 rfl (by first | decide | omega) rfl rfl dX7_turn_38 (Nat.le_of_ble_eq_true rfl) ⟨by decide, by decide⟩ ?_
        refine b_if_ne (tgt := 50) C dX7_turn_41 (by decide) (fun h_41 => ?_) (fun h_41 => ?_)
        · refine a_aload_n C dX7_turn_50 rfl rfl ?_
          refine f_callV C _ _ (K_X7_save hR hv hs) vX7_76 (by first | decide | omega) rfl rfl dX7_turn_51 rfl (Nat.le_of_ble_eq_true rfl) ⟨by decide, by decide⟩ (fun zr51 zw51 zp51 => ?_)
          obtain ⟨rfl, rfl⟩ := zp51
          have hR : RR (svW (wSet w 204 0 (nI 0)) A sv) A := hR
          refine a_aload_n C dX7_turn_54 rfl rfl ?_
          refine a_iload_n C dX7_turn_55 rfl rfl ?_
          refine a_iload_n C dX7_turn_56 rfl rfl ?_
          refine f_callV C _ _ (K_X7_doesTurn hR hA hk hp) vX7_152 (by first | decide | omega) rfl rfl dX7_turn_57 rfl (Nat.le_of_ble_eq_true rfl) ⟨by decide, by decide⟩ (fun zr57 zw57 zp57 => ?_)
          obtain ⟨rfl, rfl⟩ := zp57
          refine f_iret C hr ?_ dX7_turn_60 ⟨?_, ?_⟩
          · rfl
          · first | with_reducible rfl | exact gl (by first | with_reducible rfl | (refine iF ?_; simp []; done) | (refine iT ?_; simp []; done) | (refine iB ?_; simp []; done) | (simp []; done) | (simp []; omega) | omega | rfl)
          · first | with_reducible rfl | exact wSet2 | rfl
        · exact absurd (h_41.symm.trans zf3) (by decide)
    · exact absurd (h_17.symm.trans zf1) (by decide)

set_option maxRecDepth 20000 in
set_option maxHeartbeats 4000000 in
theorem K_X7_turn_0 {w : Wd} {A : St} (hR : RR w A) (hA : AOK A) {sv : Nat} (hv : w.1 204 3 = nI sv) (hs : sv ≤ 6) (k : Int32) (hf : inR k (kN A) = false) (p : Int32)  : CF yX7_turn cX7_turn 3 (some .int) 6 132 [.ref 204, .int k, .int p] w (FA w (.int (nI 0)) 1) := by
  have zq_n := hA.n12
  have zf0 : inR k (kN A) = false := hf
  refine CF.of ok_X7_turn (Nat.le_of_ble_eq_true rfl) (fun ex us G9 p9 l9 e9 s9 m9 ar9 be9 me9 co9 C hr => ?_)
  refine a_aload_n C dX7_turn_0 rfl rfl ?_
  refine a_iconst (v := nI 0) C dX7_turn_1 (by decide) ?_
  refine f_putf C fX7_53 dX7_turn_2 (by first | decide | omega) rfl rfl rfl (Nat.le_of_ble_eq_true rfl) rfl ?_
  have hR : RR (wSet w 204 0 (nI 0)) A := hR
  refine a_aload_n C dX7_turn_5 rfl rfl ?_
  refine a_iload_n C dX7_turn_6 rfl rfl ?_
  refine p_callV C (K_X7_isKey hR hA _) vX7_131 rfl (by first | decide | omega) rfl rfl dX7_turn_7 (Nat.le_of_ble_eq_true rfl) ⟨by decide, by decide⟩ ?_
  refine b_if_eq (tgt := 20) C dX7_turn_10 (by decide) (fun h_10 => ?_) (fun h_10 => ?_)
  · refine a_aload_n C dX7_turn_20 rfl rfl ?_
    refine a_iconst (v := nI 1) C dX7_turn_21 (by decide) ?_
    refine f_callV C _ _ (K_X7_fails _) vX7_68 (by first | decide | omega) rfl rfl dX7_turn_22 rfl (Nat.le_of_ble_eq_true rfl) ⟨by decide, by decide⟩ (fun zr22 zw22 zp22 => ?_)
    obtain ⟨rfl, rfl⟩ := zp22
    refine f_iret C hr ?_ dX7_turn_25 ⟨?_, ?_⟩
    · rfl
    · first | with_reducible rfl | exact gl (by first | with_reducible rfl | (refine iF ?_; simp []; done) | (refine iT ?_; simp []; done) | (refine iB ?_; simp []; done) | (simp []; done) | (simp []; omega) | omega | rfl)
    · first | with_reducible rfl | exact wSet2 | rfl
  · exact absurd (h_10.symm.trans zf0) (by decide)

set_option maxRecDepth 20000 in
set_option maxHeartbeats 4000000 in
theorem K_X7_turn_1 {w : Wd} {A : St} (hR : RR w A) (hA : AOK A) {sv : Nat} (hv : w.1 204 3 = nI sv) (hs : sv ≤ 6) {k : Nat} (hk : k < (kN A)) (p : Int32) (hf : inR p 6 = false)  : CF yX7_turn cX7_turn 3 (some .int) 6 132 [.ref 204, .int (nI k), .int p] w (FA w (.int (nI 0)) 1) := by
  have zq_n := hA.n12
  have zf0 : inR (nI k) (kN A) = true := ((inR_nI (by omega)).trans (decide_eq_true (by omega)))
  have zf1 : inR p 6 = false := hf
  refine CF.of ok_X7_turn (Nat.le_of_ble_eq_true rfl) (fun ex us G9 p9 l9 e9 s9 m9 ar9 be9 me9 co9 C hr => ?_)
  refine a_aload_n C dX7_turn_0 rfl rfl ?_
  refine a_iconst (v := nI 0) C dX7_turn_1 (by decide) ?_
  refine f_putf C fX7_53 dX7_turn_2 (by first | decide | omega) rfl rfl rfl (Nat.le_of_ble_eq_true rfl) rfl ?_
  have hR : RR (wSet w 204 0 (nI 0)) A := hR
  refine a_aload_n C dX7_turn_5 rfl rfl ?_
  refine a_iload_n C dX7_turn_6 rfl rfl ?_
  refine p_callV C (K_X7_isKey hR hA _) vX7_131 rfl (by first | decide | omega) rfl rfl dX7_turn_7 (Nat.le_of_ble_eq_true rfl) ⟨by decide, by decide⟩ ?_
  refine b_if_eq (tgt := 20) C dX7_turn_10 (by decide) (fun h_10 => ?_) (fun h_10 => ?_)
  · exact absurd (h_10.symm.trans zf0) (by decide)
  · refine a_iload_n C dX7_turn_13 rfl rfl ?_
    refine p_callS C ((K_X7_isPlace _)).cp sX7_146 rfl dX7_turn_14 (Nat.le_of_ble_eq_true rfl) ⟨by decide, by decide⟩ ?_
    refine b_if_ne (tgt := 26) C dX7_turn_17 (by decide) (fun h_17 => ?_) (fun h_17 => ?_)
    · exact absurd (h_17.symm.trans zf1) (by decide)
    · refine a_aload_n C dX7_turn_20 rfl rfl ?_
      refine a_iconst (v := nI 1) C dX7_turn_21 (by decide) ?_
      refine f_callV C _ _ (K_X7_fails _) vX7_68 (by first | decide | omega) rfl rfl dX7_turn_22 rfl (Nat.le_of_ble_eq_true rfl) ⟨by decide, by decide⟩ (fun zr22 zw22 zp22 => ?_)
      obtain ⟨rfl, rfl⟩ := zp22
      refine f_iret C hr ?_ dX7_turn_25 ⟨?_, ?_⟩
      · rfl
      · first | with_reducible rfl | exact gl (by first | with_reducible rfl | (refine iF ?_; simp []; done) | (refine iT ?_; simp []; done) | (refine iB ?_; simp []; done) | (simp []; done) | (simp []; omega) | omega | rfl)
      · first | with_reducible rfl | exact wSet2 | rfl

set_option maxRecDepth 20000 in
set_option maxHeartbeats 4000000 in
theorem K_X7_turn_2 {w : Wd} {A : St} (hR : RR w A) (hA : AOK A) {sv : Nat} (hv : w.1 204 3 = nI sv) (hs : sv ≤ 6) {k : Nat} (hk : k < (kN A)) {p : Nat} (hp : p < 6) (zf2 : lsA A k = true)  : CF yX7_turn cX7_turn 3 (some .int) 6 132 [.ref 204, .int (nI k), .int (nI p)] w (FA w (.int (nI 0)) 2) := by
  have zq_n := hA.n12
  have zf0 : inR (nI k) (kN A) = true := ((inR_nI (by omega)).trans (decide_eq_true (by omega)))
  have zf1 : inR (nI p) 6 = true := ((inR_nI (by omega)).trans (decide_eq_true (by omega)))
  refine CF.of ok_X7_turn (Nat.le_of_ble_eq_true rfl) (fun ex us G9 p9 l9 e9 s9 m9 ar9 be9 me9 co9 C hr => ?_)
  refine a_aload_n C dX7_turn_0 rfl rfl ?_
  refine a_iconst (v := nI 0) C dX7_turn_1 (by decide) ?_
  refine f_putf C fX7_53 dX7_turn_2 (by first | decide | omega) rfl rfl rfl (Nat.le_of_ble_eq_true rfl) rfl ?_
  have hR : RR (wSet w 204 0 (nI 0)) A := hR
  refine a_aload_n C dX7_turn_5 rfl rfl ?_
  refine a_iload_n C dX7_turn_6 rfl rfl ?_
  refine p_callV C (K_X7_isKey hR hA _) vX7_131 rfl (by first | decide | omega) rfl rfl dX7_turn_7 (Nat.le_of_ble_eq_true rfl) ⟨by decide, by decide⟩ ?_
  refine b_if_eq (tgt := 20) C dX7_turn_10 (by decide) (fun h_10 => ?_) (fun h_10 => ?_)
  · exact absurd (h_10.symm.trans zf0) (by decide)
  · refine a_iload_n C dX7_turn_13 rfl rfl ?_
    refine p_callS C ((K_X7_isPlace _)).cp sX7_146 rfl dX7_turn_14 (Nat.le_of_ble_eq_true rfl) ⟨by decide, by decide⟩ ?_
    refine b_if_ne (tgt := 26) C dX7_turn_17 (by decide) (fun h_17 => ?_) (fun h_17 => ?_)
    · refine a_aload_n C dX7_turn_26 rfl rfl ?_
      refine a_iload_n C dX7_turn_27 rfl rfl ?_
      refine a_iconst (v := nI 2) C dX7_turn_28 (by decide) ?_
      refine p_callV C (KC_ofKey2 hR hA (by first | assumption | decide | omega)) vX7_85 rfl (by first | decide | omega) rfl rfl dX7_turn_29 (Nat.le_of_ble_eq_true rfl) ⟨by decide, by decide⟩ ?_
      refine a_iconst (v := nI 1) C dX7_turn_32 (by decide) ?_
      refine b_icmp1_eq (tgt := 44) C dX7_turn_33 (by decide) (fun h_33 => ?_) (fun h_33 => ?_)
      · refine a_aload_n C dX7_turn_44 rfl rfl ?_
        refine a_iconst (v := nI 2) C dX7_turn_45 (by decide) ?_
        refine f_callV C _ _ (K_X7_fails _) vX7_68 (by first | decide | omega) rfl rfl dX7_turn_46 rfl (Nat.le_of_ble_eq_true rfl) ⟨by decide, by decide⟩ (fun zr46 zw46 zp46 => ?_)
        obtain ⟨rfl, rfl⟩ := zp46
        refine f_iret C hr ?_ dX7_turn_49 ⟨?_, ?_⟩
        · rfl
        · first | with_reducible rfl | exact gl (by first | with_reducible rfl | (refine iF ?_; simp []; done) | (refine iT ?_; simp []; done) | (refine iB ?_; simp []; done) | (simp []; done) | (simp []; omega) | omega | rfl)
        · first | with_reducible rfl | exact wSet2 | rfl
      · exact absurd (h_33.symm.trans zf2) (by decide)
    · exact absurd (h_17.symm.trans zf1) (by decide)

set_option maxRecDepth 20000 in
set_option maxHeartbeats 4000000 in
theorem K_X7_turn_3 {w : Wd} {A : St} (hR : RR w A) (hA : AOK A) {sv : Nat} (hv : w.1 204 3 = nI sv) (hs : sv ≤ 6) {k : Nat} (hk : k < (kN A)) {p : Nat} (hp : p < 6) (zf2 : lsA A k = false) (zf3 : wdA A p = false)  : CF yX7_turn cX7_turn 3 (some .int) 6 132 [.ref 204, .int (nI k), .int (nI p)] w (FA w (.int (nI 0)) 2) := by
  have zq_n := hA.n12
  have zf0 : inR (nI k) (kN A) = true := ((inR_nI (by omega)).trans (decide_eq_true (by omega)))
  have zf1 : inR (nI p) 6 = true := ((inR_nI (by omega)).trans (decide_eq_true (by omega)))
  refine CF.of ok_X7_turn (Nat.le_of_ble_eq_true rfl) (fun ex us G9 p9 l9 e9 s9 m9 ar9 be9 me9 co9 C hr => ?_)
  refine a_aload_n C dX7_turn_0 rfl rfl ?_
  refine a_iconst (v := nI 0) C dX7_turn_1 (by decide) ?_
  refine f_putf C fX7_53 dX7_turn_2 (by first | decide | omega) rfl rfl rfl (Nat.le_of_ble_eq_true rfl) rfl ?_
  have hR : RR (wSet w 204 0 (nI 0)) A := hR
  refine a_aload_n C dX7_turn_5 rfl rfl ?_
  refine a_iload_n C dX7_turn_6 rfl rfl ?_
  refine p_callV C (K_X7_isKey hR hA _) vX7_131 rfl (by first | decide | omega) rfl rfl dX7_turn_7 (Nat.le_of_ble_eq_true rfl) ⟨by decide, by decide⟩ ?_
  refine b_if_eq (tgt := 20) C dX7_turn_10 (by decide) (fun h_10 => ?_) (fun h_10 => ?_)
  · exact absurd (h_10.symm.trans zf0) (by decide)
  · refine a_iload_n C dX7_turn_13 rfl rfl ?_
    refine p_callS C ((K_X7_isPlace _)).cp sX7_146 rfl dX7_turn_14 (Nat.le_of_ble_eq_true rfl) ⟨by decide, by decide⟩ ?_
    refine b_if_ne (tgt := 26) C dX7_turn_17 (by decide) (fun h_17 => ?_) (fun h_17 => ?_)
    · refine a_aload_n C dX7_turn_26 rfl rfl ?_
      refine a_iload_n C dX7_turn_27 rfl rfl ?_
      refine a_iconst (v := nI 2) C dX7_turn_28 (by decide) ?_
      refine p_callV C (KC_ofKey2 hR hA (by first | assumption | decide | omega)) vX7_85 rfl (by first | decide | omega) rfl rfl dX7_turn_29 (Nat.le_of_ble_eq_true rfl) ⟨by decide, by decide⟩ ?_
      refine a_iconst (v := nI 1) C dX7_turn_32 (by decide) ?_
      refine b_icmp1_eq (tgt := 44) C dX7_turn_33 (by decide) (fun h_33 => ?_) (fun h_33 => ?_)
      · exact absurd (h_33.symm.trans zf2) (by decide)
      · refine a_aload_n C dX7_turn_36 rfl rfl ?_
        refine a_iload_n C dX7_turn_37 rfl rfl ?_
        refine p_callV C (K_X7_isLock hR hA (by first | assumption | decide | omega)) vX7_95 rfl (by first | decide | omega) rfl rfl dX7_turn_38 (Nat.le_of_ble_eq_true rfl) ⟨by decide, by decide⟩ ?_
        refine b_if_ne (tgt := 50) C dX7_turn_41 (by decide) (fun h_41 => ?_) (fun h_41 => ?_)
        · exact absurd (h_41.symm.trans zf3) (by decide)
        · refine a_aload_n C dX7_turn_44 rfl rfl ?_
          refine a_iconst (v := nI 2) C dX7_turn_45 (by decide) ?_
          refine f_callV C _ _ (K_X7_fails _) vX7_68 (by first | decide | omega) rfl rfl dX7_turn_46 rfl (Nat.le_of_ble_eq_true rfl) ⟨by decide, by decide⟩ (fun zr46 zw46 zp46 => ?_)
          obtain ⟨rfl, rfl⟩ := zp46
          refine f_iret C hr ?_ dX7_turn_49 ⟨?_, ?_⟩
          · rfl
          · first | with_reducible rfl | exact gl (by first | with_reducible rfl | (refine iF ?_; simp []; done) | (refine iT ?_; simp []; done) | (refine iB ?_; simp []; done) | (simp []; done) | (simp []; omega) | omega | rfl)
          · first | with_reducible rfl | exact wSet2 | rfl
    · exact absurd (h_17.symm.trans zf1) (by decide)

set_option maxRecDepth 20000 in
set_option maxHeartbeats 4000000 in
theorem K_X7_set {w : Wd} {A : St} (hR : RR w A) (hA : AOK A) {sv : Nat} (hv : w.1 204 3 = nI sv) (hs : sv ≤ 6) {j : Nat} (hj : j < 4) (y : Int32) (zf1 : sbI j y = true)  : CF yX7_set cX7_set 6 (some .int) 1 22 [.ref 204, .int (nI j), .int y] w (fun r w' => r = some (.int (nI (sN A j))) ∧ w' = (wRow (svW (wSet w 204 0 (nI 0)) A sv) 205 (setA A j y))) := by
  have zq_n := hA.n12
  have zf0 : decide (nI 0 ≤ (nI j) ∧ (nI j) ≤ nI 3) = true := win_eq (by decide) ((inR_nI (by omega)).trans (decide_eq_true (by omega)))
  refine CF.of ok_X7_set (Nat.le_of_ble_eq_true rfl) (fun ex us G9 p9 l9 e9 s9 m9 ar9 be9 me9 co9 C hr => ?_)
  refine a_pad 3 ?_
  refine a_eq (L' := [some (.ref 204), some (.int (nI j)), some (.int y), none, none, none]) rfl rfl rfl ?_
  refine a_aload_n C dX7_set_0 rfl rfl ?_
  refine a_iconst (v := nI 0) C dX7_set_1 (by decide) ?_
  refine f_putf C fX7_53 dX7_set_2 (by first | decide | omega) rfl rfl rfl (Nat.le_of_ble_eq_true rfl) rfl ?_
  have hR : RR (wSet w 204 0 (nI 0)) A := hR
  refine a_iload_n C dX7_set_5 rfl rfl ?_
  refine a_iconst (v := nI 0) C dX7_set_6 (by decide) ?_
  refine a_iconst (v := nI 3) C dX7_set_7 (by decide) ?_
  refine p_callS C ((K_X7_within _ _ _)).cp sX7_57 rfl dX7_set_8 (Nat.le_of_ble_eq_true rfl) ⟨by decide, by decide⟩ ?_
  refine b_if_ne (tgt := 20) C dX7_set_11 (by decide) (fun h_11 => ?_) (fun h_11 => ?_)
  · refine a_via 30 (nI (loN j)) ?_ (fun zJ30 => ?_)
    · refine a_istore_n C dX7_set_30 rfl (by decide) ?_
      refine a_via 50 (nI (hiN j)) ?_ (fun zJ50 => ?_)
      · refine a_istore C dX7_set_50 (by decide) ?_
        refine a_iload_n C dX7_set_52 rfl rfl ?_
        refine a_iload_n C dX7_set_53 rfl rfl ?_
        refine a_iload C dX7_set_54 rfl ?_
        refine p_callS C ((K_X7_within y (nI (loN j)) (nI (hiN j)))).cp sX7_57 rfl dX7_set_56 (Nat.le_of_ble_eq_true rfl) ⟨by decide, by decide⟩ ?_
        refine b_if_ne (tgt := 68) C dX7_set_59 (by decide) (fun h_59 => ?_) (fun h_59 => ?_)
        · refine a_aload_n C dX7_set_68 rfl rfl ?_
          refine f_callV C _ _ (K_X7_save hR hv hs) vX7_76 (by first | decide | omega) rfl rfl dX7_set_69 rfl (Nat.le_of_ble_eq_true rfl) ⟨by decide, by decide⟩ (fun zr69 zw69 zp69 => ?_)
          obtain ⟨rfl, rfl⟩ := zp69
          have hR : RR (svW (wSet w 204 0 (nI 0)) A sv) A := hR
          refine a_aload_n C dX7_set_72 rfl rfl ?_
          refine a_getfF C fX7_7 dX7_set_73 (show _ < 219 from (by first | decide | omega)) (by first | decide | omega) rfl rfl ?_
          refine a_bipush (v := nI 8) C dX7_set_76 (by decide) ?_
          refine a_iload_n C dX7_set_78 rfl rfl ?_
          first | refine n_iadd C dX7_set_79 ?_ | refine a_iadd C dX7_set_79 ?_
          refine n_iald C dX7_set_80 (show _ < 219 from (by first | decide | omega)) (by first | decide | omega) rfl rfl (by first | decide | omega) (by decide) (RR_s hR hA (by omega)) ?_
          refine a_istore C dX7_set_81 (by decide) ?_
          refine a_wd (RR_row hR) ?_
          refine a_aload_n C dX7_set_83 rfl rfl ?_
          refine a_getfF C fX7_7 dX7_set_84 (show _ < 219 from (by first | decide | omega)) (by first | decide | omega) rfl rfl ?_
          refine a_bipush (v := nI 8) C dX7_set_87 (by decide) ?_
          refine a_iload_n C dX7_set_89 rfl rfl ?_
          first | refine n_iadd C dX7_set_90 ?_ | refine a_iadd C dX7_set_90 ?_
          refine a_iload_n C dX7_set_91 rfl rfl ?_
          refine f_iast C dX7_set_92 (by first | decide | omega) rfl rfl (by first | decide | omega) (by decide)  rfl ?_
          refine a_wd wSet_row ?_
          refine a_iload C dX7_set_93 rfl ?_
          refine f_iret C hr ?_ dX7_set_95 ⟨?_, ?_⟩
          · rfl
          · first | with_reducible rfl | exact gl (by first | with_reducible rfl | (refine iF ?_; simp []; done) | (refine iT ?_; simp []; done) | (refine iB ?_; simp []; done) | (simp []; done) | (simp []; omega) | omega | rfl)
          · first | with_reducible rfl | exact wSet2 | rfl
        · exact absurd (h_59.symm.trans zf1) (by decide)
      · refine a_iload_n C dX7_set_31 rfl rfl ?_
        first | refine b_if_ne (tgt := 39) C dX7_set_32 (by decide) (fun h_32 => ?_) (fun h_32 => ?_) | refine n_if_ne (tgt := 39) C dX7_set_32 (by decide) (by first | decide | omega) (fun h_32 => ?_) (fun h_32 => ?_) | refine a_if_ne (tgt := 39) C dX7_set_32 (by decide) (fun h_32 => ?_) (fun h_32 => ?_)
        · refine a_iload_n C dX7_set_39 rfl rfl ?_
          refine a_iconst (v := nI 3) C dX7_set_40 (by decide) ?_
          first | refine n_icmp_ne (tgt := 48) C dX7_set_41 (by decide) (by first | decide | omega) (by first | decide | omega) (fun h_41 => ?_) (fun h_41 => ?_) | refine a_icmp_ne (tgt := 48) C dX7_set_41 (by decide) (fun h_41 => ?_) (fun h_41 => ?_)
          · refine a_bipush (v := nI 9) C dX7_set_48 (by decide) ?_
            refine a_eq rfl (gl1 ?_) rfl zJ50
            · (unfold hiN; first | rw [if_pos (by omega)] | rw [if_neg (by omega), if_pos (by omega)] | rw [if_neg (by omega), if_neg (by omega)])
          · refine a_iconst (v := nI 1) C dX7_set_44 (by decide) ?_
            refine a_goto (tgt := 50) C dX7_set_45 (by decide) ?_
            refine a_eq rfl (gl1 ?_) rfl zJ50
            · (unfold hiN; first | rw [if_pos (by omega)] | rw [if_neg (by omega), if_pos (by omega)] | rw [if_neg (by omega), if_neg (by omega)])
        · refine a_iconst (v := nI 2) C dX7_set_35 (by decide) ?_
          refine a_goto (tgt := 50) C dX7_set_36 (by decide) ?_
          refine a_eq rfl (gl1 ?_) rfl zJ50
          · (unfold hiN; first | rw [if_pos (by omega)] | rw [if_neg (by omega), if_pos (by omega)] | rw [if_neg (by omega), if_neg (by omega)])
    · refine a_iload_n C dX7_set_20 rfl rfl ?_
      refine a_iconst (v := nI 2) C dX7_set_21 (by decide) ?_
      first | refine n_icmp_ge (tgt := 29) C dX7_set_22 (by decide) (by first | decide | omega) (by first | decide | omega) (fun h_22 => ?_) (fun h_22 => ?_) | refine a_icmp_ge (tgt := 29) C dX7_set_22 (by decide) (fun h_22 => ?_) (fun h_22 => ?_)
      · refine a_iconst (v := nI 0) C dX7_set_29 (by decide) ?_
        refine a_eq rfl (gl1 ?_) rfl zJ30
        · (unfold loN; first | rw [if_pos (by omega)] | rw [if_neg (by omega)])
      · refine a_iconst (v := nI 1) C dX7_set_25 (by decide) ?_
        refine a_goto (tgt := 30) C dX7_set_26 (by decide) ?_
        refine a_eq rfl (gl1 ?_) rfl zJ30
        · (unfold loN; first | rw [if_pos (by omega)] | rw [if_neg (by omega)])
  · exact absurd (h_11.symm.trans zf0) (by decide)

set_option maxRecDepth 20000 in
set_option maxHeartbeats 4000000 in
theorem K_X7_set_0 {w : Wd} {A : St} (hR : RR w A) (hA : AOK A) {sv : Nat} (hv : w.1 204 3 = nI sv) (hs : sv ≤ 6) (j : Int32) (hf : inR j 4 = false) (y : Int32)  : CF yX7_set cX7_set 6 (some .int) 1 22 [.ref 204, .int j, .int y] w (FA w (.int (nI 0)) 1) := by
  have zq_n := hA.n12
  have zf0 : decide (nI 0 ≤ j ∧ j ≤ nI 3) = false := win_eq (by decide) hf
  refine CF.of ok_X7_set (Nat.le_of_ble_eq_true rfl) (fun ex us G9 p9 l9 e9 s9 m9 ar9 be9 me9 co9 C hr => ?_)
  refine a_pad 3 ?_
  refine a_eq (L' := [some (.ref 204), some (.int j), some (.int y), none, none, none]) rfl rfl rfl ?_
  refine a_aload_n C dX7_set_0 rfl rfl ?_
  refine a_iconst (v := nI 0) C dX7_set_1 (by decide) ?_
  refine f_putf C fX7_53 dX7_set_2 (by first | decide | omega) rfl rfl rfl (Nat.le_of_ble_eq_true rfl) rfl ?_
  have hR : RR (wSet w 204 0 (nI 0)) A := hR
  refine a_iload_n C dX7_set_5 rfl rfl ?_
  refine a_iconst (v := nI 0) C dX7_set_6 (by decide) ?_
  refine a_iconst (v := nI 3) C dX7_set_7 (by decide) ?_
  refine p_callS C ((K_X7_within _ _ _)).cp sX7_57 rfl dX7_set_8 (Nat.le_of_ble_eq_true rfl) ⟨by decide, by decide⟩ ?_
  refine b_if_ne (tgt := 20) C dX7_set_11 (by decide) (fun h_11 => ?_) (fun h_11 => ?_)
  · exact absurd (h_11.symm.trans zf0) (by decide)
  · refine a_aload_n C dX7_set_14 rfl rfl ?_
    refine a_iconst (v := nI 1) C dX7_set_15 (by decide) ?_
    refine f_callV C _ _ (K_X7_fails _) vX7_68 (by first | decide | omega) rfl rfl dX7_set_16 rfl (Nat.le_of_ble_eq_true rfl) ⟨by decide, by decide⟩ (fun zr16 zw16 zp16 => ?_)
    obtain ⟨rfl, rfl⟩ := zp16
    refine f_iret C hr ?_ dX7_set_19 ⟨?_, ?_⟩
    · rfl
    · first | with_reducible rfl | exact gl (by first | with_reducible rfl | (refine iF ?_; simp []; done) | (refine iT ?_; simp []; done) | (refine iB ?_; simp []; done) | (simp []; done) | (simp []; omega) | omega | rfl)
    · first | with_reducible rfl | exact wSet2 | rfl

set_option maxRecDepth 20000 in
set_option maxHeartbeats 4000000 in
theorem K_X7_set_1 {w : Wd} {A : St} (hR : RR w A) (hA : AOK A) {sv : Nat} (hv : w.1 204 3 = nI sv) (hs : sv ≤ 6) {j : Nat} (hj : j < 4) (y : Int32) (zf1 : sbI j y = false)  : CF yX7_set cX7_set 6 (some .int) 1 22 [.ref 204, .int (nI j), .int y] w (FA w (.int (nI 0)) 2) := by
  have zq_n := hA.n12
  have zf0 : decide (nI 0 ≤ (nI j) ∧ (nI j) ≤ nI 3) = true := win_eq (by decide) ((inR_nI (by omega)).trans (decide_eq_true (by omega)))
  refine CF.of ok_X7_set (Nat.le_of_ble_eq_true rfl) (fun ex us G9 p9 l9 e9 s9 m9 ar9 be9 me9 co9 C hr => ?_)
  refine a_pad 3 ?_
  refine a_eq (L' := [some (.ref 204), some (.int (nI j)), some (.int y), none, none, none]) rfl rfl rfl ?_
  refine a_aload_n C dX7_set_0 rfl rfl ?_
  refine a_iconst (v := nI 0) C dX7_set_1 (by decide) ?_
  refine f_putf C fX7_53 dX7_set_2 (by first | decide | omega) rfl rfl rfl (Nat.le_of_ble_eq_true rfl) rfl ?_
  have hR : RR (wSet w 204 0 (nI 0)) A := hR
  refine a_iload_n C dX7_set_5 rfl rfl ?_
  refine a_iconst (v := nI 0) C dX7_set_6 (by decide) ?_
  refine a_iconst (v := nI 3) C dX7_set_7 (by decide) ?_
  refine p_callS C ((K_X7_within _ _ _)).cp sX7_57 rfl dX7_set_8 (Nat.le_of_ble_eq_true rfl) ⟨by decide, by decide⟩ ?_
  refine b_if_ne (tgt := 20) C dX7_set_11 (by decide) (fun h_11 => ?_) (fun h_11 => ?_)
  · refine a_via 30 (nI (loN j)) ?_ (fun zJ30 => ?_)
    · refine a_istore_n C dX7_set_30 rfl (by decide) ?_
      refine a_via 50 (nI (hiN j)) ?_ (fun zJ50 => ?_)
      · refine a_istore C dX7_set_50 (by decide) ?_
        refine a_iload_n C dX7_set_52 rfl rfl ?_
        refine a_iload_n C dX7_set_53 rfl rfl ?_
        refine a_iload C dX7_set_54 rfl ?_
        refine p_callS C ((K_X7_within y (nI (loN j)) (nI (hiN j)))).cp sX7_57 rfl dX7_set_56 (Nat.le_of_ble_eq_true rfl) ⟨by decide, by decide⟩ ?_
        refine b_if_ne (tgt := 68) C dX7_set_59 (by decide) (fun h_59 => ?_) (fun h_59 => ?_)
        · exact absurd (h_59.symm.trans zf1) (by decide)
        · refine a_aload_n C dX7_set_62 rfl rfl ?_
          refine a_iconst (v := nI 2) C dX7_set_63 (by decide) ?_
          refine f_callV C _ _ (K_X7_fails _) vX7_68 (by first | decide | omega) rfl rfl dX7_set_64 rfl (Nat.le_of_ble_eq_true rfl) ⟨by decide, by decide⟩ (fun zr64 zw64 zp64 => ?_)
          obtain ⟨rfl, rfl⟩ := zp64
          refine f_iret C hr ?_ dX7_set_67 ⟨?_, ?_⟩
          · rfl
          · first | with_reducible rfl | exact gl (by first | with_reducible rfl | (refine iF ?_; simp []; done) | (refine iT ?_; simp []; done) | (refine iB ?_; simp []; done) | (simp []; done) | (simp []; omega) | omega | rfl)
          · first | with_reducible rfl | exact wSet2 | rfl
      · refine a_iload_n C dX7_set_31 rfl rfl ?_
        first | refine b_if_ne (tgt := 39) C dX7_set_32 (by decide) (fun h_32 => ?_) (fun h_32 => ?_) | refine n_if_ne (tgt := 39) C dX7_set_32 (by decide) (by first | decide | omega) (fun h_32 => ?_) (fun h_32 => ?_) | refine a_if_ne (tgt := 39) C dX7_set_32 (by decide) (fun h_32 => ?_) (fun h_32 => ?_)
        · refine a_iload_n C dX7_set_39 rfl rfl ?_
          refine a_iconst (v := nI 3) C dX7_set_40 (by decide) ?_
          first | refine n_icmp_ne (tgt := 48) C dX7_set_41 (by decide) (by first | decide | omega) (by first | decide | omega) (fun h_41 => ?_) (fun h_41 => ?_) | refine a_icmp_ne (tgt := 48) C dX7_set_41 (by decide) (fun h_41 => ?_) (fun h_41 => ?_)
          · refine a_bipush (v := nI 9) C dX7_set_48 (by decide) ?_
            refine a_eq rfl (gl1 ?_) rfl zJ50
            · (unfold hiN; first | rw [if_pos (by omega)] | rw [if_neg (by omega), if_pos (by omega)] | rw [if_neg (by omega), if_neg (by omega)])
          · refine a_iconst (v := nI 1) C dX7_set_44 (by decide) ?_
            refine a_goto (tgt := 50) C dX7_set_45 (by decide) ?_
            refine a_eq rfl (gl1 ?_) rfl zJ50
            · (unfold hiN; first | rw [if_pos (by omega)] | rw [if_neg (by omega), if_pos (by omega)] | rw [if_neg (by omega), if_neg (by omega)])
        · refine a_iconst (v := nI 2) C dX7_set_35 (by decide) ?_
          refine a_goto (tgt := 50) C dX7_set_36 (by decide) ?_
          refine a_eq rfl (gl1 ?_) rfl zJ50
          · (unfold hiN; first | rw [if_pos (by omega)] | rw [if_neg (by omega), if_pos (by omega)] | rw [if_neg (by omega), if_neg (by omega)])
    · refine a_iload_n C dX7_set_20 rfl rfl ?_
      refine a_iconst (v := nI 2) C dX7_set_21 (by decide) ?_
      first | refine n_icmp_ge (tgt := 29) C dX7_set_22 (by decide) (by first | decide | omega) (by first | decide | omega) (fun h_22 => ?_) (fun h_22 => ?_) | refine a_icmp_ge (tgt := 29) C dX7_set_22 (by decide) (fun h_22 => ?_) (fun h_22 => ?_)
      · refine a_iconst (v := nI 0) C dX7_set_29 (by decide) ?_
        refine a_eq rfl (gl1 ?_) rfl zJ30
        · (unfold loN; first | rw [if_pos (by omega)] | rw [if_neg (by omega)])
      · refine a_iconst (v := nI 1) C dX7_set_25 (by decide) ?_
        refine a_goto (tgt := 30) C dX7_set_26 (by decide) ?_
        refine a_eq rfl (gl1 ?_) rfl zJ30
        · (unfold loN; first | rw [if_pos (by omega)] | rw [if_neg (by omega)])
  · exact absurd (h_11.symm.trans zf0) (by decide)

set_option maxRecDepth 20000 in
set_option maxHeartbeats 4000000 in
theorem K_X7_retire {w : Wd} {A : St} (hR : RR w A) (hA : AOK A) {sv : Nat} (hv : w.1 204 3 = nI sv) (hs : sv ≤ 6) {k : Nat} (hk : k < (kN A))  : CF yX7_retire cX7_retire 3 (some .int) 2 43 [.ref 204, .int (nI k)] w (fun r w' => r = some (.int (nI (kN A - 1))) ∧ w' = (wRow (svW (wSet w 204 0 (nI 0)) A sv) 205 (retA A k))) := by
  have zq_n := hA.n12
  have zf0 : inR (nI k) (kN A) = true := ((inR_nI (by omega)).trans (decide_eq_true (by omega)))
  refine CF.of ok_X7_retire (Nat.le_of_ble_eq_true rfl) (fun ex us G9 p9 l9 e9 s9 m9 ar9 be9 me9 co9 C hr => ?_)
  have ZL41 : ∀ (zd41 : Nat) (d : Nat), 6 * (kN A - 1 - k) + 1 ≤ d + zd41 → d ≤ 6 * (kN A - 1 - k) → WA G9 p9 l9 e9 (RM 2 43) s9 m9 ar9 be9 me9 co9 (QF G9 be9 ar9 s9 w ex us (fun r w' => r = some (.int (nI (kN A - 1))) ∧ w' = (wRow (svW (wSet w 204 0 (nI 0)) A sv) 205 (retA A k)))) 3 (219 + ex) us 41 [some (.ref 204), some (.int (nI k)), some (.int (nI (40 + 6 * k + d)))] [] (fzM (wRow (svW (wSet w 204 0 (nI 0)) A sv) 205 (rtK A k d)) ex us) := by
    intro zd41
    induction zd41 with
    | zero => intro d zm41 zh41_0; exfalso; omega
    | succ zd41 zih41 =>
      intro d zm41 zh41_0
      refine a_iload_n C dX7_retire_41 rfl rfl ?_
      refine a_bipush (v := nI 40) C dX7_retire_42 (by decide) ?_
      refine a_bipush (v := nI 6) C dX7_retire_44 (by decide) ?_
      refine a_aload_n C dX7_retire_46 rfl rfl ?_
      refine a_getfF C fX7_7 dX7_retire_47 (show _ < 219 from (by first | decide | omega)) (by first | decide | omega) rfl rfl ?_
      refine a_iconst (v := nI 0) C dX7_retire_50 (by decide) ?_
      refine n_iald C dX7_retire_51 (show _ < 219 from (by first | decide | omega)) (by first | decide | omega) rfl rfl (by first | decide | omega) (by decide) (RR_self.at.trans (show _ = nI (kN A - 1) from by rw [rtK_lo (by omega), upd_at])) ?_
      first | refine n_imul C dX7_retire_52 ?_ | refine a_imul C dX7_retire_52 ?_
      first | refine n_iadd C dX7_retire_53 ?_ | refine a_iadd C dX7_retire_53 ?_
      refine n_icmp_ge (tgt := 78) C dX7_retire_54 (by decide) (by first | decide | omega) (by first | decide | omega) (fun h_54 => ?_) (fun h_54 => ?_)
      · obtain rfl : d = 6 * (kN A - 1 - k) := by omega
        refine a_aload_n C dX7_retire_78 rfl rfl ?_
        refine a_getfF C fX7_7 dX7_retire_79 (show _ < 219 from (by first | decide | omega)) (by first | decide | omega) rfl rfl ?_
        refine a_iconst (v := nI 5) C dX7_retire_82 (by decide) ?_
        refine a_dup2 C dX7_retire_83 rfl rfl ?_
        refine n_iald C dX7_retire_84 (show _ < 219 from (by first | decide | omega)) (by first | decide | omega) rfl rfl (by first | decide | omega) (by decide) (RR_self.at.trans (show _ = A 5 from by rw [rtK_lo (by omega), upd_ne (by omega)])) ?_
        refine a_iconst (v := nI 1) C dX7_retire_85 (by decide) ?_
        first | refine n_iadd C dX7_retire_86 ?_ | refine a_iadd C dX7_retire_86 ?_
        refine f_iast C dX7_retire_87 (by first | decide | omega) rfl rfl (by first | decide | omega) (by decide)  rfl ?_
        refine a_wd wSet_row ?_
        refine a_aload_n C dX7_retire_88 rfl rfl ?_
        refine a_getfF C fX7_7 dX7_retire_89 (show _ < 219 from (by first | decide | omega)) (by first | decide | omega) rfl rfl ?_
        refine a_iconst (v := nI 0) C dX7_retire_92 (by decide) ?_
        refine n_iald C dX7_retire_93 (show _ < 219 from (by first | decide | omega)) (by first | decide | omega) rfl rfl (by first | decide | omega) (by decide) (RR_self.at.trans (show _ = nI (kN A - 1) from by rw [upd_ne (by omega), rtK_lo (by omega), upd_at])) ?_
        refine f_iret C hr ?_ dX7_retire_94 ⟨?_, ?_⟩
        · rfl
        · rfl
        · first | with_reducible rfl | exact wSet2 | rfl
      · refine a_aload_n C dX7_retire_57 rfl rfl ?_
        refine a_getfF C fX7_7 dX7_retire_58 (show _ < 219 from (by first | decide | omega)) (by first | decide | omega) rfl rfl ?_
        refine a_iload_n C dX7_retire_61 rfl rfl ?_
        refine a_aload_n C dX7_retire_62 rfl rfl ?_
        refine a_getfF C fX7_7 dX7_retire_63 (show _ < 219 from (by first | decide | omega)) (by first | decide | omega) rfl rfl ?_
        refine a_iload_n C dX7_retire_66 rfl rfl ?_
        refine a_bipush (v := nI 6) C dX7_retire_67 (by decide) ?_
        first | refine n_iadd C dX7_retire_69 ?_ | refine a_iadd C dX7_retire_69 ?_
        refine n_iald C dX7_retire_70 (show _ < 219 from (by first | decide | omega)) (by first | decide | omega) rfl rfl (by first | decide | omega) (by decide) (RR_self.at.trans (show _ = A (40 + 6 * k + d + 6) from rtK_hi d (by omega))) ?_
        refine f_iast C dX7_retire_71 (by first | decide | omega) rfl rfl (by first | decide | omega) (by decide)  rfl ?_
        refine a_wd wSet_row ?_
        refine n_iinc C dX7_retire_72 rfl (by decide) ?_
        refine a_goto (tgt := 41) C dX7_retire_75 (by decide) ?_
        refine a_join (aLe_s ?_ (aLe_s ?_ (aLe_s ?_ aLe_nil))) rfl rfl (zih41 (d + 1) (by omega) (by omega))
        · first | with_reducible rfl | exact gl (by first | with_reducible rfl | (refine iF ?_; simp [h_54]; done) | (refine iT ?_; simp [h_54]; done) | (refine iB ?_; simp [h_54]; done) | (simp [h_54]; done) | (simp [h_54]; omega) | omega)
        · first | with_reducible rfl | exact gl (by first | with_reducible rfl | (refine iF ?_; simp [h_54]; done) | (refine iT ?_; simp [h_54]; done) | (refine iB ?_; simp [h_54]; done) | (simp [h_54]; done) | (simp [h_54]; omega) | omega)
        · rfl
  refine a_pad 1 ?_
  refine a_eq (L' := [some (.ref 204), some (.int (nI k)), none]) rfl rfl rfl ?_
  refine a_aload_n C dX7_retire_0 rfl rfl ?_
  refine a_iconst (v := nI 0) C dX7_retire_1 (by decide) ?_
  refine f_putf C fX7_53 dX7_retire_2 (by first | decide | omega) rfl rfl rfl (Nat.le_of_ble_eq_true rfl) rfl ?_
  have hR : RR (wSet w 204 0 (nI 0)) A := hR
  refine a_aload_n C dX7_retire_5 rfl rfl ?_
  refine a_iload_n C dX7_retire_6 rfl rfl ?_
  refine p_callV C (K_X7_isKey hR hA _) vX7_131 rfl (by first | decide | omega) rfl rfl dX7_retire_7 (Nat.le_of_ble_eq_true rfl) ⟨by decide, by decide⟩ ?_
  refine b_if_ne (tgt := 19) C dX7_retire_10 (by decide) (fun h_10 => ?_) (fun h_10 => ?_)
  · refine a_aload_n C dX7_retire_19 rfl rfl ?_
    refine f_callV C _ _ (K_X7_save hR hv hs) vX7_76 (by first | decide | omega) rfl rfl dX7_retire_20 rfl (Nat.le_of_ble_eq_true rfl) ⟨by decide, by decide⟩ (fun zr20 zw20 zp20 => ?_)
    obtain ⟨rfl, rfl⟩ := zp20
    have hR : RR (svW (wSet w 204 0 (nI 0)) A sv) A := hR
    refine a_wd (RR_row hR) ?_
    refine a_aload_n C dX7_retire_23 rfl rfl ?_
    refine a_getfF C fX7_7 dX7_retire_24 (show _ < 219 from (by first | decide | omega)) (by first | decide | omega) rfl rfl ?_
    refine a_iconst (v := nI 0) C dX7_retire_27 (by decide) ?_
    refine a_dup2 C dX7_retire_28 rfl rfl ?_
    refine n_iald C dX7_retire_29 (show _ < 219 from (by first | decide | omega)) (by first | decide | omega) rfl rfl (by first | decide | omega) (by decide) (RR_self.at.trans (show _ = nI (kN A) from by (repeat rw [upd_ne (by omega)]); exact hA.n)) ?_
    refine a_iconst (v := nI 1) C dX7_retire_30 (by decide) ?_
    refine n_isub C dX7_retire_31 (by first | decide | omega) ?_
    refine f_iast C dX7_retire_32 (by first | decide | omega) rfl rfl (by first | decide | omega) (by decide)  rfl ?_
    refine a_wd wSet_row ?_
    refine a_bipush (v := nI 40) C dX7_retire_33 (by decide) ?_
    refine a_bipush (v := nI 6) C dX7_retire_35 (by decide) ?_
    refine a_iload_n C dX7_retire_37 rfl rfl ?_
    first | refine n_imul C dX7_retire_38 ?_ | refine a_imul C dX7_retire_38 ?_
    first | refine n_iadd C dX7_retire_39 ?_ | refine a_iadd C dX7_retire_39 ?_
    refine a_istore_n C dX7_retire_40 rfl (by decide) ?_
    refine a_join (aLe_s ?_ (aLe_s ?_ (aLe_s ?_ aLe_nil))) rfl rfl (ZL41 (6 * (kN A - 1 - k) + 1) 0 (by omega) (by omega))
    · first | with_reducible rfl | exact gl (by first | with_reducible rfl | (refine iF ?_; simp []; done) | (refine iT ?_; simp []; done) | (refine iB ?_; simp []; done) | (simp []; done) | (simp []; omega) | omega | rfl)
    · first | with_reducible rfl | exact gl (by first | with_reducible rfl | (refine iF ?_; simp []; done) | (refine iT ?_; simp []; done) | (refine iB ?_; simp []; done) | (simp []; done) | (simp []; omega) | omega | rfl)
    · first | with_reducible rfl | exact gl (by first | with_reducible rfl | (refine iF ?_; simp []; done) | (refine iT ?_; simp []; done) | (refine iB ?_; simp []; done) | (simp []; done) | (simp []; omega) | omega | rfl)
  · exact absurd (h_10.symm.trans zf0) (by decide)

set_option maxRecDepth 20000 in
set_option maxHeartbeats 4000000 in
theorem K_X7_retire_0 {w : Wd} {A : St} (hR : RR w A) (hA : AOK A) {sv : Nat} (hv : w.1 204 3 = nI sv) (hs : sv ≤ 6) (k : Int32) (hf : inR k (kN A) = false)  : CF yX7_retire cX7_retire 3 (some .int) 2 43 [.ref 204, .int k] w (FA w (.int (nI 0)) 1) := by
  have zq_n := hA.n12
  have zf0 : inR k (kN A) = false := hf
  refine CF.of ok_X7_retire (Nat.le_of_ble_eq_true rfl) (fun ex us G9 p9 l9 e9 s9 m9 ar9 be9 me9 co9 C hr => ?_)
  refine a_pad 1 ?_
  refine a_eq (L' := [some (.ref 204), some (.int k), none]) rfl rfl rfl ?_
  refine a_aload_n C dX7_retire_0 rfl rfl ?_
  refine a_iconst (v := nI 0) C dX7_retire_1 (by decide) ?_
  refine f_putf C fX7_53 dX7_retire_2 (by first | decide | omega) rfl rfl rfl (Nat.le_of_ble_eq_true rfl) rfl ?_
  have hR : RR (wSet w 204 0 (nI 0)) A := hR
  refine a_aload_n C dX7_retire_5 rfl rfl ?_
  refine a_iload_n C dX7_retire_6 rfl rfl ?_
  refine p_callV C (K_X7_isKey hR hA _) vX7_131 rfl (by first | decide | omega) rfl rfl dX7_retire_7 (Nat.le_of_ble_eq_true rfl) ⟨by decide, by decide⟩ ?_
  refine b_if_ne (tgt := 19) C dX7_retire_10 (by decide) (fun h_10 => ?_) (fun h_10 => ?_)
  · exact absurd (h_10.symm.trans zf0) (by decide)
  · refine a_aload_n C dX7_retire_13 rfl rfl ?_
    refine a_iconst (v := nI 1) C dX7_retire_14 (by decide) ?_
    refine f_callV C _ _ (K_X7_fails _) vX7_68 (by first | decide | omega) rfl rfl dX7_retire_15 rfl (Nat.le_of_ble_eq_true rfl) ⟨by decide, by decide⟩ (fun zr15 zw15 zp15 => ?_)
    obtain ⟨rfl, rfl⟩ := zp15
    refine f_iret C hr ?_ dX7_retire_18 ⟨?_, ?_⟩
    · rfl
    · first | with_reducible rfl | exact gl (by first | with_reducible rfl | (refine iF ?_; simp []; done) | (refine iT ?_; simp []; done) | (refine iB ?_; simp []; done) | (simp []; done) | (simp []; omega) | omega | rfl)
    · first | with_reducible rfl | exact wSet2 | rfl

set_option maxRecDepth 20000 in
set_option maxHeartbeats 4000000 in
theorem K_X7_append {w : Wd} {A : St} (hR : RR w A) (hA : AOK A) {ln : Nat} (hl : w.1 204 7 = nI ln) (hln : ln ≤ 60) (x : Int32) (zf0 : decide (nI 33 ≤ x ∧ x ≤ nI 126) = true) (zl : ln < 60)  : CF yX7_append cX7_append 2 (some .int) 1 22 [.ref 204, .int x] w (fun r w' => r = some (.int (nI (ln + 1))) ∧ w' = wSet (wSet (wSet w 204 0 (nI 0)) 208 ln x) 204 7 (nI (ln + 1))) := by
  refine CF.of ok_X7_append (Nat.le_of_ble_eq_true rfl) (fun ex us G9 p9 l9 e9 s9 m9 ar9 be9 me9 co9 C hr => ?_)
  refine a_aload_n C dX7_append_0 rfl rfl ?_
  refine a_iconst (v := nI 0) C dX7_append_1 (by decide) ?_
  refine f_putf C fX7_53 dX7_append_2 (by first | decide | omega) rfl rfl rfl (Nat.le_of_ble_eq_true rfl) rfl ?_
  refine a_iload_n C dX7_append_5 rfl rfl ?_
  refine a_bipush (v := nI 33) C dX7_append_6 (by decide) ?_
  refine a_bipush (v := nI 126) C dX7_append_8 (by decide) ?_
  refine p_callS C ((K_X7_within _ _ _)).cp sX7_57 rfl dX7_append_10 (Nat.le_of_ble_eq_true rfl) ⟨by decide, by decide⟩ ?_
  refine b_if_ne (tgt := 22) C dX7_append_13 (by decide) (fun h_13 => ?_) (fun h_13 => ?_)
  · refine a_aload_n C dX7_append_22 rfl rfl ?_
    refine a_getf C fX7_155 dX7_append_23 (show _ < 219 from (by first | decide | omega)) (by first | decide | omega) rfl (gl hl) ?_
    refine a_bipush (v := nI 60) C dX7_append_26 (by decide) ?_
    refine n_icmp_ne (tgt := 37) C dX7_append_28 (by decide) (by first | decide | omega) (by first | decide | omega) (fun h_28 => ?_) (fun h_28 => ?_)
    · refine a_aload_n C dX7_append_37 rfl rfl ?_
      refine a_getfF C fX7_19 dX7_append_38 (show _ < 219 from (by first | decide | omega)) (by first | decide | omega) rfl rfl ?_
      refine a_aload_n C dX7_append_41 rfl rfl ?_
      refine a_getf C fX7_155 dX7_append_42 (show _ < 219 from (by first | decide | omega)) (by first | decide | omega) rfl (gl hl) ?_
      refine a_iload_n C dX7_append_45 rfl rfl ?_
      refine f_iast C dX7_append_46 (by first | decide | omega) rfl rfl (by first | decide | omega) (by decide)  rfl ?_
      refine a_aload_n C dX7_append_47 rfl rfl ?_
      refine a_dup C dX7_append_48 rfl ?_
      refine a_getf C fX7_155 dX7_append_49 (show _ < 219 from (by first | decide | omega)) (by first | decide | omega) rfl (gl hl) ?_
      refine a_iconst (v := nI 1) C dX7_append_52 (by decide) ?_
      first | refine n_iadd C dX7_append_53 ?_ | refine a_iadd C dX7_append_53 ?_
      refine f_putf C fX7_155 dX7_append_54 (by first | decide | omega) rfl rfl rfl (Nat.le_of_ble_eq_true rfl) rfl ?_
      refine a_aload_n C dX7_append_57 rfl rfl ?_
      refine a_getf C fX7_155 dX7_append_58 (show _ < 219 from (by first | decide | omega)) (by first | decide | omega) rfl (gl wSet_at) ?_
      refine f_iret C hr ?_ dX7_append_61 ⟨?_, ?_⟩
      · rfl
      · first | with_reducible rfl | exact gl (by first | with_reducible rfl | (refine iF ?_; simp []; done) | (refine iT ?_; simp []; done) | (refine iB ?_; simp []; done) | (simp []; done) | (simp []; omega) | omega | rfl)
      · first | with_reducible rfl | exact wSet2 | rfl
    · exfalso; omega
  · exact absurd (h_13.symm.trans zf0) (by decide)

set_option maxRecDepth 20000 in
set_option maxHeartbeats 4000000 in
theorem K_X7_append_0 {w : Wd} {A : St} (hR : RR w A) (hA : AOK A) {ln : Nat} (hl : w.1 204 7 = nI ln) (hln : ln ≤ 60) (x : Int32) (zf0 : decide (nI 33 ≤ x ∧ x ≤ nI 126) = false)  : CF yX7_append cX7_append 2 (some .int) 1 22 [.ref 204, .int x] w (FA w (.int (nI 0)) 1) := by
  refine CF.of ok_X7_append (Nat.le_of_ble_eq_true rfl) (fun ex us G9 p9 l9 e9 s9 m9 ar9 be9 me9 co9 C hr => ?_)
  refine a_aload_n C dX7_append_0 rfl rfl ?_
  refine a_iconst (v := nI 0) C dX7_append_1 (by decide) ?_
  refine f_putf C fX7_53 dX7_append_2 (by first | decide | omega) rfl rfl rfl (Nat.le_of_ble_eq_true rfl) rfl ?_
  refine a_iload_n C dX7_append_5 rfl rfl ?_
  refine a_bipush (v := nI 33) C dX7_append_6 (by decide) ?_
  refine a_bipush (v := nI 126) C dX7_append_8 (by decide) ?_
  refine p_callS C ((K_X7_within _ _ _)).cp sX7_57 rfl dX7_append_10 (Nat.le_of_ble_eq_true rfl) ⟨by decide, by decide⟩ ?_
  refine b_if_ne (tgt := 22) C dX7_append_13 (by decide) (fun h_13 => ?_) (fun h_13 => ?_)
  · exact absurd (h_13.symm.trans zf0) (by decide)
  · refine a_aload_n C dX7_append_16 rfl rfl ?_
    refine a_iconst (v := nI 1) C dX7_append_17 (by decide) ?_
    refine f_callV C _ _ (K_X7_fails _) vX7_68 (by first | decide | omega) rfl rfl dX7_append_18 rfl (Nat.le_of_ble_eq_true rfl) ⟨by decide, by decide⟩ (fun zr18 zw18 zp18 => ?_)
    obtain ⟨rfl, rfl⟩ := zp18
    refine f_iret C hr ?_ dX7_append_21 ⟨?_, ?_⟩
    · rfl
    · first | with_reducible rfl | exact gl (by first | with_reducible rfl | (refine iF ?_; simp []; done) | (refine iT ?_; simp []; done) | (refine iB ?_; simp []; done) | (simp []; done) | (simp []; omega) | omega | rfl)
    · first | with_reducible rfl | exact wSet2 | rfl

set_option maxRecDepth 20000 in
set_option maxHeartbeats 4000000 in
theorem K_X7_append_1 {w : Wd} {A : St} (hR : RR w A) (hA : AOK A) {ln : Nat} (hl : w.1 204 7 = nI ln) (hln : ln ≤ 60) (x : Int32) (zf0 : decide (nI 33 ≤ x ∧ x ≤ nI 126) = true) (zl : ln = 60)  : CF yX7_append cX7_append 2 (some .int) 1 22 [.ref 204, .int x] w (FA w (.int (nI 0)) 2) := by
  refine CF.of ok_X7_append (Nat.le_of_ble_eq_true rfl) (fun ex us G9 p9 l9 e9 s9 m9 ar9 be9 me9 co9 C hr => ?_)
  refine a_aload_n C dX7_append_0 rfl rfl ?_
  refine a_iconst (v := nI 0) C dX7_append_1 (by decide) ?_
  refine f_putf C fX7_53 dX7_append_2 (by first | decide | omega) rfl rfl rfl (Nat.le_of_ble_eq_true rfl) rfl ?_
  refine a_iload_n C dX7_append_5 rfl rfl ?_
  refine a_bipush (v := nI 33) C dX7_append_6 (by decide) ?_
  refine a_bipush (v := nI 126) C dX7_append_8 (by decide) ?_
  refine p_callS C ((K_X7_within _ _ _)).cp sX7_57 rfl dX7_append_10 (Nat.le_of_ble_eq_true rfl) ⟨by decide, by decide⟩ ?_
  refine b_if_ne (tgt := 22) C dX7_append_13 (by decide) (fun h_13 => ?_) (fun h_13 => ?_)
  · refine a_aload_n C dX7_append_22 rfl rfl ?_
    refine a_getf C fX7_155 dX7_append_23 (show _ < 219 from (by first | decide | omega)) (by first | decide | omega) rfl (gl hl) ?_
    refine a_bipush (v := nI 60) C dX7_append_26 (by decide) ?_
    refine n_icmp_ne (tgt := 37) C dX7_append_28 (by decide) (by first | decide | omega) (by first | decide | omega) (fun h_28 => ?_) (fun h_28 => ?_)
    · exfalso; omega
    · refine a_aload_n C dX7_append_31 rfl rfl ?_
      refine a_iconst (v := nI 2) C dX7_append_32 (by decide) ?_
      refine f_callV C _ _ (K_X7_fails _) vX7_68 (by first | decide | omega) rfl rfl dX7_append_33 rfl (Nat.le_of_ble_eq_true rfl) ⟨by decide, by decide⟩ (fun zr33 zw33 zp33 => ?_)
      obtain ⟨rfl, rfl⟩ := zp33
      refine f_iret C hr ?_ dX7_append_36 ⟨?_, ?_⟩
      · rfl
      · first | with_reducible rfl | exact gl (by first | with_reducible rfl | (refine iF ?_; simp []; done) | (refine iT ?_; simp []; done) | (refine iB ?_; simp []; done) | (simp []; done) | (simp []; omega) | omega | rfl)
      · first | with_reducible rfl | exact wSet2 | rfl
  · exact absurd (h_13.symm.trans zf0) (by decide)

set_option maxRecDepth 20000 in
set_option maxHeartbeats 4000000 in
theorem K_X7_clearBuffer {w : Wd} {ln : Nat} (hl : w.1 204 7 = nI ln) (hln : ln ≤ 60)  : CF yX7_clearBuffer cX7_clearBuffer 2 (some .int) 0 0 [.ref 204] w (fun r w' => r = some (.int (nI ln)) ∧ w' = wSet (wSet w 204 0 (nI 0)) 204 7 (nI 0)) := by
  refine CF.of ok_X7_clearBuffer (Nat.le_of_ble_eq_true rfl) (fun ex us G9 p9 l9 e9 s9 m9 ar9 be9 me9 co9 C hr => ?_)
  refine a_pad 1 ?_
  refine a_eq (L' := [some (.ref 204), none]) rfl rfl rfl ?_
  refine a_aload_n C dX7_clearBuffer_0 rfl rfl ?_
  refine a_iconst (v := nI 0) C dX7_clearBuffer_1 (by decide) ?_
  refine f_putf C fX7_53 dX7_clearBuffer_2 (by first | decide | omega) rfl rfl rfl (Nat.le_of_ble_eq_true rfl) rfl ?_
  refine a_aload_n C dX7_clearBuffer_5 rfl rfl ?_
  refine a_getf C fX7_155 dX7_clearBuffer_6 (show _ < 219 from (by first | decide | omega)) (by first | decide | omega) rfl (gl hl) ?_
  refine a_istore_n C dX7_clearBuffer_9 rfl (by decide) ?_
  refine a_aload_n C dX7_clearBuffer_10 rfl rfl ?_
  refine a_iconst (v := nI 0) C dX7_clearBuffer_11 (by decide) ?_
  refine f_putf C fX7_155 dX7_clearBuffer_12 (by first | decide | omega) rfl rfl rfl (Nat.le_of_ble_eq_true rfl) rfl ?_
  refine a_iload_n C dX7_clearBuffer_15 rfl rfl ?_
  refine f_iret C hr ?_ dX7_clearBuffer_16 ⟨?_, ?_⟩
  · rfl
  · first | with_reducible rfl | exact gl (by first | with_reducible rfl | (refine iF ?_; simp []; done) | (refine iT ?_; simp []; done) | (refine iB ?_; simp []; done) | (simp []; done) | (simp []; omega) | omega | rfl)
  · first | with_reducible rfl | exact wSet2 | rfl

set_option maxRecDepth 20000 in
set_option maxHeartbeats 4000000 in
theorem K_X7_keep {w : Wd} {A : St} (hR : RR w A) (hA : AOK A) : CF yX7_keep cX7_keep 2 (some .int) 0 0 [.ref 204] w (fun r w' => r = some (.int (nI (kN A))) ∧ w' = wSet (wRow (wSet w 204 0 (nI 0)) 207 (cyK (w.1 207) A 112)) 204 5 (nI 1)) := by
  refine CF.of ok_X7_keep (Nat.le_of_ble_eq_true rfl) (fun ex us G9 p9 l9 e9 s9 m9 ar9 be9 me9 co9 C hr => ?_)
  have ZL7 : ∀ (zd7 : Nat) (k : Nat), 112 + 1 ≤ k + zd7 → k ≤ 112 → WA G9 p9 l9 e9 (RM 0 0) s9 m9 ar9 be9 me9 co9 (QF G9 be9 ar9 s9 w ex us (fun r w' => r = some (.int (nI (kN A))) ∧ w' = wSet (wRow (wSet w 204 0 (nI 0)) 207 (cyK (w.1 207) A 112)) 204 5 (nI 1))) 2 (219 + ex) us 7 [some (.ref 204), some (.int (nI k))] [] (fzM (wRow (wSet w 204 0 (nI 0)) 207 (cyK (w.1 207) A k)) ex us) := by
    intro zd7
    induction zd7 with
    | zero => intro k zm7 zh7_0; exfalso; omega
    | succ zd7 zih7 =>
      intro k zm7 zh7_0
      refine a_iload_n C dX7_keep_7 rfl rfl ?_
      refine a_bipush (v := nI 112) C dX7_keep_8 (by decide) ?_
      first | refine n_icmp_ge (tgt := 31) C dX7_keep_10 (by decide) (by first | decide | omega) (by first | decide | omega) (fun h_10 => ?_) (fun h_10 => ?_) | refine a_icmp_ge (tgt := 31) C dX7_keep_10 (by decide) (fun h_10 => ?_) (fun h_10 => ?_)
      · obtain rfl : k = 112 := by omega
        refine a_aload_n C dX7_keep_31 rfl rfl ?_
        refine a_iconst (v := nI 1) C dX7_keep_32 (by decide) ?_
        refine f_putf C fX7_72 dX7_keep_33 (by first | decide | omega) rfl rfl rfl (Nat.le_of_ble_eq_true rfl) rfl ?_
        refine a_aload_n C dX7_keep_36 rfl rfl ?_
        refine a_getfF C fX7_7 dX7_keep_37 (show _ < 219 from (by first | decide | omega)) (by first | decide | omega) rfl rfl ?_
        refine a_iconst (v := nI 0) C dX7_keep_40 (by decide) ?_
        refine n_iald C dX7_keep_41 (show _ < 219 from (by first | decide | omega)) (by first | decide | omega) rfl rfl (by first | decide | omega) (by decide) (hR.at.trans hA.n) ?_
        refine f_iret C hr ?_ dX7_keep_42 ⟨?_, ?_⟩
        · rfl
        · rfl
        · first | with_reducible rfl | exact wSet2 | rfl
      · refine a_aload_n C dX7_keep_13 rfl rfl ?_
        refine a_getfF C fX7_16 dX7_keep_14 (show _ < 219 from (by first | decide | omega)) (by first | decide | omega) rfl rfl ?_
        refine a_iload_n C dX7_keep_17 rfl rfl ?_
        refine a_aload_n C dX7_keep_18 rfl rfl ?_
        refine a_getfF C fX7_7 dX7_keep_19 (show _ < 219 from (by first | decide | omega)) (by first | decide | omega) rfl rfl ?_
        refine a_iload_n C dX7_keep_22 rfl rfl ?_
        refine n_iald C dX7_keep_23 (show _ < 219 from (by first | decide | omega)) (by first | decide | omega) rfl rfl (by first | decide | omega) (by decide) hR.at ?_
        refine f_iast C dX7_keep_24 (by first | decide | omega) rfl rfl (by first | decide | omega) (by decide)  rfl ?_
        refine a_wd wSet_row ?_
        refine n_iinc C dX7_keep_25 rfl (by decide) ?_
        refine a_goto (tgt := 7) C dX7_keep_28 (by decide) ?_
        refine a_join (aLe_s ?_ (aLe_s ?_ aLe_nil)) rfl rfl (zih7 (k + 1) (by omega) (by omega))
        · first | with_reducible rfl | exact gl (by first | with_reducible rfl | (refine iF ?_; simp [h_10]; done) | (refine iT ?_; simp [h_10]; done) | (refine iB ?_; simp [h_10]; done) | (simp [h_10]; done) | (simp [h_10]; omega) | omega)
        · first | with_reducible rfl | exact gl (by first | with_reducible rfl | (refine iF ?_; simp [h_10]; done) | (refine iT ?_; simp [h_10]; done) | (refine iB ?_; simp [h_10]; done) | (simp [h_10]; done) | (simp [h_10]; omega) | omega)
  refine a_pad 1 ?_
  refine a_eq (L' := [some (.ref 204), none]) rfl rfl rfl ?_
  refine a_aload_n C dX7_keep_0 rfl rfl ?_
  refine a_iconst (v := nI 0) C dX7_keep_1 (by decide) ?_
  refine f_putf C fX7_53 dX7_keep_2 (by first | decide | omega) rfl rfl rfl (Nat.le_of_ble_eq_true rfl) rfl ?_
  refine a_wd (wRow_self (a := 207) rfl) ?_
  refine a_iconst (v := nI 0) C dX7_keep_5 (by decide) ?_
  refine a_istore_n C dX7_keep_6 rfl (by decide) ?_
  refine a_join (aLe_s ?_ (aLe_s ?_ aLe_nil)) rfl rfl (ZL7 (112 + 1) 0 (by omega) (by omega))
  · first | with_reducible rfl | exact gl (by first | with_reducible rfl | (refine iF ?_; simp []; done) | (refine iT ?_; simp []; done) | (refine iB ?_; simp []; done) | (simp []; done) | (simp []; omega) | omega | rfl)
  · first | with_reducible rfl | exact gl (by first | with_reducible rfl | (refine iF ?_; simp []; done) | (refine iT ?_; simp []; done) | (refine iB ?_; simp []; done) | (simp []; done) | (simp []; omega) | omega | rfl)

set_option maxRecDepth 20000 in
set_option maxHeartbeats 4000000 in
theorem K_X7_goBack {w : Wd} {A : St} (hR : RR w A) (hA : AOK A) {sv : Nat} (hv : w.1 204 3 = nI sv) (hs : sv ≤ 6) (hh : w.1 204 5 = bI true) : CF yX7_goBack cX7_goBack 2 (some .int) 1 21 [.ref 204] w (fun r w' => r = some (.int (w.1 207 0)) ∧ w' = wRow (svW (wSet w 204 0 (nI 0)) A sv) 205 (cyK A (w.1 207) 112)) := by
  refine CF.of ok_X7_goBack (Nat.le_of_ble_eq_true rfl) (fun ex us G9 p9 l9 e9 s9 m9 ar9 be9 me9 co9 C hr => ?_)
  have ZL24 : ∀ (zd24 : Nat) (k : Nat), 112 + 1 ≤ k + zd24 → k ≤ 112 → WA G9 p9 l9 e9 (RM 1 21) s9 m9 ar9 be9 me9 co9 (QF G9 be9 ar9 s9 w ex us (fun r w' => r = some (.int (w.1 207 0)) ∧ w' = wRow (svW (wSet w 204 0 (nI 0)) A sv) 205 (cyK A (w.1 207) 112))) 2 (219 + ex) us 24 [some (.ref 204), some (.int (nI k))] [] (fzM (wRow (svW (wSet w 204 0 (nI 0)) A sv) 205 (cyK A (w.1 207) k)) ex us) := by
    intro zd24
    induction zd24 with
    | zero => intro k zm24 zh24_0; exfalso; omega
    | succ zd24 zih24 =>
      intro k zm24 zh24_0
      refine a_iload_n C dX7_goBack_24 rfl rfl ?_
      refine a_bipush (v := nI 112) C dX7_goBack_25 (by decide) ?_
      first | refine n_icmp_ge (tgt := 48) C dX7_goBack_27 (by decide) (by first | decide | omega) (by first | decide | omega) (fun h_27 => ?_) (fun h_27 => ?_) | refine a_icmp_ge (tgt := 48) C dX7_goBack_27 (by decide) (fun h_27 => ?_) (fun h_27 => ?_)
      · obtain rfl : k = 112 := by omega
        refine a_aload_n C dX7_goBack_48 rfl rfl ?_
        refine a_getfF C fX7_7 dX7_goBack_49 (show _ < 219 from (by first | decide | omega)) (by first | decide | omega) rfl rfl ?_
        refine a_iconst (v := nI 0) C dX7_goBack_52 (by decide) ?_
        refine n_iald C dX7_goBack_53 (show _ < 219 from (by first | decide | omega)) (by first | decide | omega) rfl rfl (by first | decide | omega) (by decide) (RR_self.at.trans (show _ = w.1 207 0 from cyK_lo 112 (by decide))) ?_
        refine f_iret C hr ?_ dX7_goBack_54 ⟨?_, ?_⟩
        · rfl
        · rfl
        · first | with_reducible rfl | exact wSet2 | rfl
      · refine a_aload_n C dX7_goBack_30 rfl rfl ?_
        refine a_getfF C fX7_7 dX7_goBack_31 (show _ < 219 from (by first | decide | omega)) (by first | decide | omega) rfl rfl ?_
        refine a_iload_n C dX7_goBack_34 rfl rfl ?_
        refine a_aload_n C dX7_goBack_35 rfl rfl ?_
        refine a_getfF C fX7_16 dX7_goBack_36 (show _ < 219 from (by first | decide | omega)) (by first | decide | omega) rfl rfl ?_
        refine a_iload_n C dX7_goBack_39 rfl rfl ?_
        refine n_iald C dX7_goBack_40 (show _ < 219 from (by first | decide | omega)) (by first | decide | omega) rfl rfl (by first | decide | omega) (by decide) rfl ?_
        refine f_iast C dX7_goBack_41 (by first | decide | omega) rfl rfl (by first | decide | omega) (by decide)  rfl ?_
        refine a_wd wSet_row ?_
        refine n_iinc C dX7_goBack_42 rfl (by decide) ?_
        refine a_goto (tgt := 24) C dX7_goBack_45 (by decide) ?_
        refine a_join (aLe_s ?_ (aLe_s ?_ aLe_nil)) rfl rfl (zih24 (k + 1) (by omega) (by omega))
        · first | with_reducible rfl | exact gl (by first | with_reducible rfl | (refine iF ?_; simp [h_27]; done) | (refine iT ?_; simp [h_27]; done) | (refine iB ?_; simp [h_27]; done) | (simp [h_27]; done) | (simp [h_27]; omega) | omega)
        · first | with_reducible rfl | exact gl (by first | with_reducible rfl | (refine iF ?_; simp [h_27]; done) | (refine iT ?_; simp [h_27]; done) | (refine iB ?_; simp [h_27]; done) | (simp [h_27]; done) | (simp [h_27]; omega) | omega)
  refine a_pad 1 ?_
  refine a_eq (L' := [some (.ref 204), none]) rfl rfl rfl ?_
  refine a_aload_n C dX7_goBack_0 rfl rfl ?_
  refine a_iconst (v := nI 0) C dX7_goBack_1 (by decide) ?_
  refine f_putf C fX7_53 dX7_goBack_2 (by first | decide | omega) rfl rfl rfl (Nat.le_of_ble_eq_true rfl) rfl ?_
  have hR : RR (wSet w 204 0 (nI 0)) A := hR
  refine a_aload_n C dX7_goBack_5 rfl rfl ?_
  refine a_getf C fX7_72 dX7_goBack_6 (show _ < 219 from (by first | decide | omega)) (by first | decide | omega) rfl (gl hh) ?_
  refine b_if_ne (tgt := 18) C dX7_goBack_9 (by decide) (fun h_9 => ?_) (fun h_9 => ?_)
  · refine a_aload_n C dX7_goBack_18 rfl rfl ?_
    refine f_callV C _ _ (K_X7_save hR hv hs) vX7_76 (by first | decide | omega) rfl rfl dX7_goBack_19 rfl (Nat.le_of_ble_eq_true rfl) ⟨by decide, by decide⟩ (fun zr19 zw19 zp19 => ?_)
    obtain ⟨rfl, rfl⟩ := zp19
    have hR : RR (svW (wSet w 204 0 (nI 0)) A sv) A := hR
    refine a_wd (RR_row hR) ?_
    refine a_iconst (v := nI 0) C dX7_goBack_22 (by decide) ?_
    refine a_istore_n C dX7_goBack_23 rfl (by decide) ?_
    refine a_join (aLe_s ?_ (aLe_s ?_ aLe_nil)) rfl rfl (ZL24 (112 + 1) 0 (by omega) (by omega))
    · first | with_reducible rfl | exact gl (by first | with_reducible rfl | (refine iF ?_; simp []; done) | (refine iT ?_; simp []; done) | (refine iB ?_; simp []; done) | (simp []; done) | (simp []; omega) | omega | rfl)
    · first | with_reducible rfl | exact gl (by first | with_reducible rfl | (refine iF ?_; simp []; done) | (refine iT ?_; simp []; done) | (refine iB ?_; simp []; done) | (simp []; done) | (simp []; omega) | omega | rfl)
  · exact absurd (h_9.symm.trans (rfl : (true : Bool) = true)) (by decide)

set_option maxRecDepth 20000 in
set_option maxHeartbeats 4000000 in
theorem K_X7_goBack_0 {w : Wd} {A : St} (hR : RR w A) (hA : AOK A) {sv : Nat} (hv : w.1 204 3 = nI sv) (hs : sv ≤ 6) (hh : w.1 204 5 = bI false) : CF yX7_goBack cX7_goBack 2 (some .int) 1 21 [.ref 204] w (FA w (.int (nI 0)) 1) := by
  refine CF.of ok_X7_goBack (Nat.le_of_ble_eq_true rfl) (fun ex us G9 p9 l9 e9 s9 m9 ar9 be9 me9 co9 C hr => ?_)
  refine a_pad 1 ?_
  refine a_eq (L' := [some (.ref 204), none]) rfl rfl rfl ?_
  refine a_aload_n C dX7_goBack_0 rfl rfl ?_
  refine a_iconst (v := nI 0) C dX7_goBack_1 (by decide) ?_
  refine f_putf C fX7_53 dX7_goBack_2 (by first | decide | omega) rfl rfl rfl (Nat.le_of_ble_eq_true rfl) rfl ?_
  have hR : RR (wSet w 204 0 (nI 0)) A := hR
  refine a_aload_n C dX7_goBack_5 rfl rfl ?_
  refine a_getf C fX7_72 dX7_goBack_6 (show _ < 219 from (by first | decide | omega)) (by first | decide | omega) rfl (gl hh) ?_
  refine b_if_ne (tgt := 18) C dX7_goBack_9 (by decide) (fun h_9 => ?_) (fun h_9 => ?_)
  · exact absurd (h_9.symm.trans (rfl : (false : Bool) = false)) (by decide)
  · refine a_aload_n C dX7_goBack_12 rfl rfl ?_
    refine a_iconst (v := nI 1) C dX7_goBack_13 (by decide) ?_
    refine f_callV C _ _ (K_X7_fails _) vX7_68 (by first | decide | omega) rfl rfl dX7_goBack_14 rfl (Nat.le_of_ble_eq_true rfl) ⟨by decide, by decide⟩ (fun zr14 zw14 zp14 => ?_)
    obtain ⟨rfl, rfl⟩ := zp14
    refine f_iret C hr ?_ dX7_goBack_17 ⟨?_, ?_⟩
    · rfl
    · first | with_reducible rfl | exact gl (by first | with_reducible rfl | (refine iF ?_; simp []; done) | (refine iT ?_; simp []; done) | (refine iB ?_; simp []; done) | (simp []; done) | (simp []; omega) | omega | rfl)
    · first | with_reducible rfl | exact wSet2 | rfl

set_option maxRecDepth 20000 in
set_option maxHeartbeats 4000000 in
theorem K_X7_undo {w : Wd} {A : St} (hR : RR w A) (hA : AOK A) {sv : Nat} (hv : w.1 204 3 = nI sv) (hs : sv ≤ 6) (hz : ¬ sv = 0) : CF yX7_undo cX7_undo 2 (some .int) 1 21 [.ref 204] w (fun r w' => r = some (.int (nI (sv - 1))) ∧ w' = wRow (wSet (wSet w 204 0 (nI 0)) 204 3 (nI (sv - 1))) 205 (cyK A (fun j => w.1 206 ((sv - 1) * 112 + j)) 112)) := by
  refine CF.of ok_X7_undo (Nat.le_of_ble_eq_true rfl) (fun ex us G9 p9 l9 e9 s9 m9 ar9 be9 me9 co9 C hr => ?_)
  have ZL30 : ∀ (zd30 : Nat) (k : Nat), 112 + 1 ≤ k + zd30 → k ≤ 112 → WA G9 p9 l9 e9 (RM 1 21) s9 m9 ar9 be9 me9 co9 (QF G9 be9 ar9 s9 w ex us (fun r w' => r = some (.int (nI (sv - 1))) ∧ w' = wRow (wSet (wSet w 204 0 (nI 0)) 204 3 (nI (sv - 1))) 205 (cyK A (fun j => w.1 206 ((sv - 1) * 112 + j)) 112))) 2 (219 + ex) us 30 [some (.ref 204), some (.int (nI k))] [] (fzM (wRow (wSet (wSet w 204 0 (nI 0)) 204 3 (nI (sv - 1))) 205 (cyK A (fun j => w.1 206 ((sv - 1) * 112 + j)) k)) ex us) := by
    intro zd30
    induction zd30 with
    | zero => intro k zm30 zh30_0; exfalso; omega
    | succ zd30 zih30 =>
      intro k zm30 zh30_0
      refine a_iload_n C dX7_undo_30 rfl rfl ?_
      refine a_bipush (v := nI 112) C dX7_undo_31 (by decide) ?_
      first | refine n_icmp_ge (tgt := 62) C dX7_undo_33 (by decide) (by first | decide | omega) (by first | decide | omega) (fun h_33 => ?_) (fun h_33 => ?_) | refine a_icmp_ge (tgt := 62) C dX7_undo_33 (by decide) (fun h_33 => ?_) (fun h_33 => ?_)
      · obtain rfl : k = 112 := by omega
        refine a_aload_n C dX7_undo_62 rfl rfl ?_
        refine a_getf C fX7_65 dX7_undo_63 (show _ < 219 from (by first | decide | omega)) (by first | decide | omega) rfl (gl (wSet_at (w := (wSet w 204 0 (nI 0))) (a := 204) (k := 3) (x := nI (sv - 1)))) ?_
        refine f_iret C hr ?_ dX7_undo_66 ⟨?_, ?_⟩
        · rfl
        · rfl
        · first | with_reducible rfl | exact wSet2 | rfl
      · refine a_aload_n C dX7_undo_36 rfl rfl ?_
        refine a_getfF C fX7_7 dX7_undo_37 (show _ < 219 from (by first | decide | omega)) (by first | decide | omega) rfl rfl ?_
        refine a_iload_n C dX7_undo_40 rfl rfl ?_
        refine a_aload_n C dX7_undo_41 rfl rfl ?_
        refine a_getfF C fX7_13 dX7_undo_42 (show _ < 219 from (by first | decide | omega)) (by first | decide | omega) rfl rfl ?_
        refine a_aload_n C dX7_undo_45 rfl rfl ?_
        refine a_getf C fX7_65 dX7_undo_46 (show _ < 219 from (by first | decide | omega)) (by first | decide | omega) rfl (gl (wSet_at (w := (wSet w 204 0 (nI 0))) (a := 204) (k := 3) (x := nI (sv - 1)))) ?_
        refine a_bipush (v := nI 112) C dX7_undo_49 (by decide) ?_
        first | refine n_imul C dX7_undo_51 ?_ | refine a_imul C dX7_undo_51 ?_
        refine a_iload_n C dX7_undo_52 rfl rfl ?_
        first | refine n_iadd C dX7_undo_53 ?_ | refine a_iadd C dX7_undo_53 ?_
        refine n_iald C dX7_undo_54 (show _ < 219 from (by first | decide | omega)) (by first | decide | omega) rfl rfl (by first | decide | omega) (by decide) rfl ?_
        refine f_iast C dX7_undo_55 (by first | decide | omega) rfl rfl (by first | decide | omega) (by decide)  rfl ?_
        refine a_wd wSet_row ?_
        refine n_iinc C dX7_undo_56 rfl (by decide) ?_
        refine a_goto (tgt := 30) C dX7_undo_59 (by decide) ?_
        refine a_join (aLe_s ?_ (aLe_s ?_ aLe_nil)) rfl rfl (zih30 (k + 1) (by omega) (by omega))
        · first | with_reducible rfl | exact gl (by first | with_reducible rfl | (refine iF ?_; simp [h_33]; done) | (refine iT ?_; simp [h_33]; done) | (refine iB ?_; simp [h_33]; done) | (simp [h_33]; done) | (simp [h_33]; omega) | omega)
        · first | with_reducible rfl | exact gl (by first | with_reducible rfl | (refine iF ?_; simp [h_33]; done) | (refine iT ?_; simp [h_33]; done) | (refine iB ?_; simp [h_33]; done) | (simp [h_33]; done) | (simp [h_33]; omega) | omega)
  refine a_pad 1 ?_
  refine a_eq (L' := [some (.ref 204), none]) rfl rfl rfl ?_
  refine a_aload_n C dX7_undo_0 rfl rfl ?_
  refine a_iconst (v := nI 0) C dX7_undo_1 (by decide) ?_
  refine f_putf C fX7_53 dX7_undo_2 (by first | decide | omega) rfl rfl rfl (Nat.le_of_ble_eq_true rfl) rfl ?_
  have hR : RR (wSet w 204 0 (nI 0)) A := hR
  refine a_aload_n C dX7_undo_5 rfl rfl ?_
  refine a_getf C fX7_65 dX7_undo_6 (show _ < 219 from (by first | decide | omega)) (by first | decide | omega) rfl (gl hv) ?_
  refine n_if_ne (tgt := 18) C dX7_undo_9 (by decide) (by first | decide | omega)  (fun h_9 => ?_) (fun h_9 => ?_)
  · refine a_aload_n C dX7_undo_18 rfl rfl ?_
    refine a_dup C dX7_undo_19 rfl ?_
    refine a_getf C fX7_65 dX7_undo_20 (show _ < 219 from (by first | decide | omega)) (by first | decide | omega) rfl (gl hv) ?_
    refine a_iconst (v := nI 1) C dX7_undo_23 (by decide) ?_
    refine n_isub C dX7_undo_24 (by first | decide | omega) ?_
    refine f_putf C fX7_65 dX7_undo_25 (by first | decide | omega) rfl rfl rfl (Nat.le_of_ble_eq_true rfl) rfl ?_
    have hR : RR (wSet (wSet w 204 0 (nI 0)) 204 3 (nI (sv - 1))) A := hR
    refine a_wd (RR_row hR) ?_
    refine a_iconst (v := nI 0) C dX7_undo_28 (by decide) ?_
    refine a_istore_n C dX7_undo_29 rfl (by decide) ?_
    refine a_join (aLe_s ?_ (aLe_s ?_ aLe_nil)) rfl rfl (ZL30 (112 + 1) 0 (by omega) (by omega))
    · first | with_reducible rfl | exact gl (by first | with_reducible rfl | (refine iF ?_; simp []; done) | (refine iT ?_; simp []; done) | (refine iB ?_; simp []; done) | (simp []; done) | (simp []; omega) | omega | rfl)
    · first | with_reducible rfl | exact gl (by first | with_reducible rfl | (refine iF ?_; simp []; done) | (refine iT ?_; simp []; done) | (refine iB ?_; simp []; done) | (simp []; done) | (simp []; omega) | omega | rfl)
  · exfalso; omega

set_option maxRecDepth 20000 in
set_option maxHeartbeats 4000000 in
theorem K_X7_undo_0 {w : Wd} {A : St} (hR : RR w A) (hA : AOK A) {sv : Nat} (hv : w.1 204 3 = nI sv) (hs : sv ≤ 6) (hz : sv = 0) : CF yX7_undo cX7_undo 2 (some .int) 1 21 [.ref 204] w (FA w (.int (nI 0)) 1) := by
  refine CF.of ok_X7_undo (Nat.le_of_ble_eq_true rfl) (fun ex us G9 p9 l9 e9 s9 m9 ar9 be9 me9 co9 C hr => ?_)
  refine a_pad 1 ?_
  refine a_eq (L' := [some (.ref 204), none]) rfl rfl rfl ?_
  refine a_aload_n C dX7_undo_0 rfl rfl ?_
  refine a_iconst (v := nI 0) C dX7_undo_1 (by decide) ?_
  refine f_putf C fX7_53 dX7_undo_2 (by first | decide | omega) rfl rfl rfl (Nat.le_of_ble_eq_true rfl) rfl ?_
  have hR : RR (wSet w 204 0 (nI 0)) A := hR
  refine a_aload_n C dX7_undo_5 rfl rfl ?_
  refine a_getf C fX7_65 dX7_undo_6 (show _ < 219 from (by first | decide | omega)) (by first | decide | omega) rfl (gl hv) ?_
  refine n_if_ne (tgt := 18) C dX7_undo_9 (by decide) (by first | decide | omega)  (fun h_9 => ?_) (fun h_9 => ?_)
  · exfalso; omega
  · refine a_aload_n C dX7_undo_12 rfl rfl ?_
    refine a_iconst (v := nI 1) C dX7_undo_13 (by decide) ?_
    refine f_callV C _ _ (K_X7_fails _) vX7_68 (by first | decide | omega) rfl rfl dX7_undo_14 rfl (Nat.le_of_ble_eq_true rfl) ⟨by decide, by decide⟩ (fun zr14 zw14 zp14 => ?_)
    obtain ⟨rfl, rfl⟩ := zp14
    refine f_iret C hr ?_ dX7_undo_17 ⟨?_, ?_⟩
    · rfl
    · first | with_reducible rfl | exact gl (by first | with_reducible rfl | (refine iF ?_; simp []; done) | (refine iT ?_; simp []; done) | (refine iB ?_; simp []; done) | (simp []; done) | (simp []; omega) | omega | rfl)
    · first | with_reducible rfl | exact wSet2 | rfl

set_option maxRecDepth 20000 in
set_option maxHeartbeats 4000000 in
theorem K_X7_guest {w : Wd} {A : St} (hR : RR w A) (hA : AOK A) {sv : Nat} (hv : w.1 204 3 = nI sv) (hs : sv ≤ 6) {p : Nat} (hp : p < 6) (x : Int32) (hx : x = -1 ∨ inR x 81 = true) (zf2 : wdA A p = true) : CF yX7_guest cX7_guest 4 (some .int) 2 43 [.ref 204, .int (nI p), .int x] w (fun r w' => r = some (.int (A (16 + 4 * p + 1))) ∧ w' = (wRow (svW (wSet w 204 0 (nI 0)) A sv) 205 (gueA A p x))) := by
  have zq_n := hA.n12
  have zf0 : inR (nI p) 6 = true := ((inR_nI (by omega)).trans (decide_eq_true (by omega)))
  refine CF.of ok_X7_guest (Nat.le_of_ble_eq_true rfl) (fun ex us G9 p9 l9 e9 s9 m9 ar9 be9 me9 co9 C hr => ?_)
  refine a_pad 1 ?_
  refine a_eq (L' := [some (.ref 204), some (.int (nI p)), some (.int x), none]) rfl rfl rfl ?_
  refine a_aload_n C dX7_guest_0 rfl rfl ?_
  refine a_iconst (v := nI 0) C dX7_guest_1 (by decide) ?_
  refine f_putf C fX7_53 dX7_guest_2 (by first | decide | omega) rfl rfl rfl (Nat.le_of_ble_eq_true rfl) rfl ?_
  have hR : RR (wSet w 204 0 (nI 0)) A := hR
  refine a_iload_n C dX7_guest_5 rfl rfl ?_
  refine p_callS C ((K_X7_isPlace _)).cp sX7_146 rfl dX7_guest_6 (Nat.le_of_ble_eq_true rfl) ⟨by decide, by decide⟩ ?_
  refine b_if_ne (tgt := 18) C dX7_guest_9 (by decide) (fun h_9 => ?_) (fun h_9 => ?_)
  · refine a_iload_n C dX7_guest_18 rfl rfl ?_
    refine a_iconst (v := (-1)) C dX7_guest_19 (by decide) ?_
    refine a_icmp_eq (tgt := 36) C dX7_guest_20 (by decide) (fun h_20 => ?_) (fun h_20 => ?_)
    · refine a_aload_n C dX7_guest_36 rfl rfl ?_
      refine a_iload_n C dX7_guest_37 rfl rfl ?_
      refine p_callV C (K_X7_isLock hR hA (by first | assumption | decide | omega)) vX7_95 rfl (by first | decide | omega) rfl rfl dX7_guest_38 (Nat.le_of_ble_eq_true rfl) ⟨by decide, by decide⟩ ?_
      refine b_if_ne (tgt := 50) C dX7_guest_41 (by decide) (fun h_41 => ?_) (fun h_41 => ?_)
      · refine a_aload_n C dX7_guest_50 rfl rfl ?_
        refine f_callV C _ _ (K_X7_save hR hv hs) vX7_76 (by first | decide | omega) rfl rfl dX7_guest_51 rfl (Nat.le_of_ble_eq_true rfl) ⟨by decide, by decide⟩ (fun zr51 zw51 zp51 => ?_)
        obtain ⟨rfl, rfl⟩ := zp51
        have hR : RR (svW (wSet w 204 0 (nI 0)) A sv) A := hR
        refine a_aload_n C dX7_guest_54 rfl rfl ?_
        refine a_iload_n C dX7_guest_55 rfl rfl ?_
        refine a_iconst (v := nI 1) C dX7_guest_56 (by decide) ?_
        refine p_callV C (K_X7_ofLock (j := 1) hR (by first | assumption | decide | omega)) vX7_61 rfl (by first | decide | omega) rfl rfl dX7_guest_57 (Nat.le_of_ble_eq_true rfl) ⟨by decide, by decide⟩ ?_
        refine a_istore_n C dX7_guest_60 rfl (by decide) ?_
        refine a_wd (RR_row hR) ?_
        refine a_aload_n C dX7_guest_61 rfl rfl ?_
        refine a_getfF C fX7_7 dX7_guest_62 (show _ < 219 from (by first | decide | omega)) (by first | decide | omega) rfl rfl ?_
        refine a_bipush (v := nI 16) C dX7_guest_65 (by decide) ?_
        refine a_iconst (v := nI 4) C dX7_guest_67 (by decide) ?_
        refine a_iload_n C dX7_guest_68 rfl rfl ?_
        first | refine n_imul C dX7_guest_69 ?_ | refine a_imul C dX7_guest_69 ?_
        first | refine n_iadd C dX7_guest_70 ?_ | refine a_iadd C dX7_guest_70 ?_
        refine a_iconst (v := nI 1) C dX7_guest_71 (by decide) ?_
        first | refine n_iadd C dX7_guest_72 ?_ | refine a_iadd C dX7_guest_72 ?_
        refine a_iload_n C dX7_guest_73 rfl rfl ?_
        refine f_iast C dX7_guest_74 (by first | decide | omega) rfl rfl (by first | decide | omega) (by decide)  rfl ?_
        refine a_wd wSet_row ?_
        refine a_iload_n C dX7_guest_75 rfl rfl ?_
        refine f_iret C hr ?_ dX7_guest_76 ⟨?_, ?_⟩
        · rfl
        · first | with_reducible rfl | exact gl (by first | with_reducible rfl | (refine iF ?_; simp []; done) | (refine iT ?_; simp []; done) | (refine iB ?_; simp []; done) | (simp []; done) | (simp []; omega) | omega | rfl)
        · first | with_reducible rfl | exact wSet2 | rfl
      · exact absurd (h_41.symm.trans zf2) (by decide)
    · refine a_iload_n C dX7_guest_23 rfl rfl ?_
      refine p_callS C ((K_X7_isCode _)).cp sX7_119 rfl dX7_guest_24 (Nat.le_of_ble_eq_true rfl) ⟨by decide, by decide⟩ ?_
      refine b_if_ne (tgt := 36) C dX7_guest_27 (by decide) (fun h_27 => ?_) (fun h_27 => ?_)
      · refine a_aload_n C dX7_guest_36 rfl rfl ?_
        refine a_iload_n C dX7_guest_37 rfl rfl ?_
        refine p_callV C (K_X7_isLock hR hA (by first | assumption | decide | omega)) vX7_95 rfl (by first | decide | omega) rfl rfl dX7_guest_38 (Nat.le_of_ble_eq_true rfl) ⟨by decide, by decide⟩ ?_
        refine b_if_ne (tgt := 50) C dX7_guest_41 (by decide) (fun h_41 => ?_) (fun h_41 => ?_)
        · refine a_aload_n C dX7_guest_50 rfl rfl ?_
          refine f_callV C _ _ (K_X7_save hR hv hs) vX7_76 (by first | decide | omega) rfl rfl dX7_guest_51 rfl (Nat.le_of_ble_eq_true rfl) ⟨by decide, by decide⟩ (fun zr51 zw51 zp51 => ?_)
          obtain ⟨rfl, rfl⟩ := zp51
          have hR : RR (svW (wSet w 204 0 (nI 0)) A sv) A := hR
          refine a_aload_n C dX7_guest_54 rfl rfl ?_
          refine a_iload_n C dX7_guest_55 rfl rfl ?_
          refine a_iconst (v := nI 1) C dX7_guest_56 (by decide) ?_
          refine p_callV C (K_X7_ofLock (j := 1) hR (by first | assumption | decide | omega)) vX7_61 rfl (by first | decide | omega) rfl rfl dX7_guest_57 (Nat.le_of_ble_eq_true rfl) ⟨by decide, by decide⟩ ?_
          refine a_istore_n C dX7_guest_60 rfl (by decide) ?_
          refine a_wd (RR_row hR) ?_
          refine a_aload_n C dX7_guest_61 rfl rfl ?_
          refine a_getfF C fX7_7 dX7_guest_62 (show _ < 219 from (by first | decide | omega)) (by first | decide | omega) rfl rfl ?_
          refine a_bipush (v := nI 16) C dX7_guest_65 (by decide) ?_
          refine a_iconst (v := nI 4) C dX7_guest_67 (by decide) ?_
          refine a_iload_n C dX7_guest_68 rfl rfl ?_
          first | refine n_imul C dX7_guest_69 ?_ | refine a_imul C dX7_guest_69 ?_
          first | refine n_iadd C dX7_guest_70 ?_ | refine a_iadd C dX7_guest_70 ?_
          refine a_iconst (v := nI 1) C dX7_guest_71 (by decide) ?_
          first | refine n_iadd C dX7_guest_72 ?_ | refine a_iadd C dX7_guest_72 ?_
          refine a_iload_n C dX7_guest_73 rfl rfl ?_
          refine f_iast C dX7_guest_74 (by first | decide | omega) rfl rfl (by first | decide | omega) (by decide)  rfl ?_
          refine a_wd wSet_row ?_
          refine a_iload_n C dX7_guest_75 rfl rfl ?_
          refine f_iret C hr ?_ dX7_guest_76 ⟨?_, ?_⟩
          · rfl
          · first | with_reducible rfl | exact gl (by first | with_reducible rfl | (refine iF ?_; simp []; done) | (refine iT ?_; simp []; done) | (refine iB ?_; simp []; done) | (simp []; done) | (simp []; omega) | omega | rfl)
          · first | with_reducible rfl | exact wSet2 | rfl
        · exact absurd (h_41.symm.trans zf2) (by decide)
      · exact absurd (h_27.symm.trans (hx.resolve_left h_20)) (by decide)
  · exact absurd (h_9.symm.trans zf0) (by decide)

set_option maxRecDepth 20000 in
set_option maxHeartbeats 4000000 in
theorem K_X7_guest_0 {w : Wd} {A : St} (hR : RR w A) (hA : AOK A) {sv : Nat} (hv : w.1 204 3 = nI sv) (hs : sv ≤ 6) (p x : Int32) (zf0 : inR p 6 = false) : CF yX7_guest cX7_guest 4 (some .int) 2 43 [.ref 204, .int p, .int x] w (FA w (.int (nI 0)) 1) := by
  have zq_n := hA.n12
  refine CF.of ok_X7_guest (Nat.le_of_ble_eq_true rfl) (fun ex us G9 p9 l9 e9 s9 m9 ar9 be9 me9 co9 C hr => ?_)
  refine a_pad 1 ?_
  refine a_eq (L' := [some (.ref 204), some (.int p), some (.int x), none]) rfl rfl rfl ?_
  refine a_aload_n C dX7_guest_0 rfl rfl ?_
  refine a_iconst (v := nI 0) C dX7_guest_1 (by decide) ?_
  refine f_putf C fX7_53 dX7_guest_2 (by first | decide | omega) rfl rfl rfl (Nat.le_of_ble_eq_true rfl) rfl ?_
  have hR : RR (wSet w 204 0 (nI 0)) A := hR
  refine a_iload_n C dX7_guest_5 rfl rfl ?_
  refine p_callS C ((K_X7_isPlace _)).cp sX7_146 rfl dX7_guest_6 (Nat.le_of_ble_eq_true rfl) ⟨by decide, by decide⟩ ?_
  refine b_if_ne (tgt := 18) C dX7_guest_9 (by decide) (fun h_9 => ?_) (fun h_9 => ?_)
  · exact absurd (h_9.symm.trans zf0) (by decide)
  · refine a_aload_n C dX7_guest_12 rfl rfl ?_
    refine a_iconst (v := nI 1) C dX7_guest_13 (by decide) ?_
    refine f_callV C _ _ (K_X7_fails _) vX7_68 (by first | decide | omega) rfl rfl dX7_guest_14 rfl (Nat.le_of_ble_eq_true rfl) ⟨by decide, by decide⟩ (fun zr14 zw14 zp14 => ?_)
    obtain ⟨rfl, rfl⟩ := zp14
    refine f_iret C hr ?_ dX7_guest_17 ⟨?_, ?_⟩
    · rfl
    · first | with_reducible rfl | exact gl (by first | with_reducible rfl | (refine iF ?_; simp []; done) | (refine iT ?_; simp []; done) | (refine iB ?_; simp []; done) | (simp []; done) | (simp []; omega) | omega | rfl)
    · first | with_reducible rfl | exact wSet2 | rfl

set_option maxRecDepth 20000 in
set_option maxHeartbeats 4000000 in
theorem K_X7_guest_1 {w : Wd} {A : St} (hR : RR w A) (hA : AOK A) {sv : Nat} (hv : w.1 204 3 = nI sv) (hs : sv ≤ 6) {p : Nat} (hp : p < 6) (x : Int32) (hx : ¬ x = -1) (zf1 : inR x 81 = false) : CF yX7_guest cX7_guest 4 (some .int) 2 43 [.ref 204, .int (nI p), .int x] w (FA w (.int (nI 0)) 2) := by
  have zq_n := hA.n12
  have zf0 : inR (nI p) 6 = true := ((inR_nI (by omega)).trans (decide_eq_true (by omega)))
  refine CF.of ok_X7_guest (Nat.le_of_ble_eq_true rfl) (fun ex us G9 p9 l9 e9 s9 m9 ar9 be9 me9 co9 C hr => ?_)
  refine a_pad 1 ?_
  refine a_eq (L' := [some (.ref 204), some (.int (nI p)), some (.int x), none]) rfl rfl rfl ?_
  refine a_aload_n C dX7_guest_0 rfl rfl ?_
  refine a_iconst (v := nI 0) C dX7_guest_1 (by decide) ?_
  refine f_putf C fX7_53 dX7_guest_2 (by first | decide | omega) rfl rfl rfl (Nat.le_of_ble_eq_true rfl) rfl ?_
  have hR : RR (wSet w 204 0 (nI 0)) A := hR
  refine a_iload_n C dX7_guest_5 rfl rfl ?_
  refine p_callS C ((K_X7_isPlace _)).cp sX7_146 rfl dX7_guest_6 (Nat.le_of_ble_eq_true rfl) ⟨by decide, by decide⟩ ?_
  refine b_if_ne (tgt := 18) C dX7_guest_9 (by decide) (fun h_9 => ?_) (fun h_9 => ?_)
  · refine a_iload_n C dX7_guest_18 rfl rfl ?_
    refine a_iconst (v := (-1)) C dX7_guest_19 (by decide) ?_
    refine a_icmp_eq (tgt := 36) C dX7_guest_20 (by decide) (fun h_20 => ?_) (fun h_20 => ?_)
    · exact absurd h_20 hx
    · refine a_iload_n C dX7_guest_23 rfl rfl ?_
      refine p_callS C ((K_X7_isCode _)).cp sX7_119 rfl dX7_guest_24 (Nat.le_of_ble_eq_true rfl) ⟨by decide, by decide⟩ ?_
      refine b_if_ne (tgt := 36) C dX7_guest_27 (by decide) (fun h_27 => ?_) (fun h_27 => ?_)
      · exact absurd (h_27.symm.trans zf1) (by decide)
      · refine a_aload_n C dX7_guest_30 rfl rfl ?_
        refine a_iconst (v := nI 2) C dX7_guest_31 (by decide) ?_
        refine f_callV C _ _ (K_X7_fails _) vX7_68 (by first | decide | omega) rfl rfl dX7_guest_32 rfl (Nat.le_of_ble_eq_true rfl) ⟨by decide, by decide⟩ (fun zr32 zw32 zp32 => ?_)
        obtain ⟨rfl, rfl⟩ := zp32
        refine f_iret C hr ?_ dX7_guest_35 ⟨?_, ?_⟩
        · rfl
        · first | with_reducible rfl | exact gl (by first | with_reducible rfl | (refine iF ?_; simp []; done) | (refine iT ?_; simp []; done) | (refine iB ?_; simp []; done) | (simp []; done) | (simp []; omega) | omega | rfl)
        · first | with_reducible rfl | exact wSet2 | rfl
  · exact absurd (h_9.symm.trans zf0) (by decide)

set_option maxRecDepth 20000 in
set_option maxHeartbeats 4000000 in
theorem K_X7_guest_2 {w : Wd} {A : St} (hR : RR w A) (hA : AOK A) {sv : Nat} (hv : w.1 204 3 = nI sv) (hs : sv ≤ 6) {p : Nat} (hp : p < 6) (x : Int32) (hx : x = -1 ∨ inR x 81 = true) (zf2 : wdA A p = false) : CF yX7_guest cX7_guest 4 (some .int) 2 43 [.ref 204, .int (nI p), .int x] w (FA w (.int (nI 0)) 3) := by
  have zq_n := hA.n12
  have zf0 : inR (nI p) 6 = true := ((inR_nI (by omega)).trans (decide_eq_true (by omega)))
  refine CF.of ok_X7_guest (Nat.le_of_ble_eq_true rfl) (fun ex us G9 p9 l9 e9 s9 m9 ar9 be9 me9 co9 C hr => ?_)
  refine a_pad 1 ?_
  refine a_eq (L' := [some (.ref 204), some (.int (nI p)), some (.int x), none]) rfl rfl rfl ?_
  refine a_aload_n C dX7_guest_0 rfl rfl ?_
  refine a_iconst (v := nI 0) C dX7_guest_1 (by decide) ?_
  refine f_putf C fX7_53 dX7_guest_2 (by first | decide | omega) rfl rfl rfl (Nat.le_of_ble_eq_true rfl) rfl ?_
  have hR : RR (wSet w 204 0 (nI 0)) A := hR
  refine a_iload_n C dX7_guest_5 rfl rfl ?_
  refine p_callS C ((K_X7_isPlace _)).cp sX7_146 rfl dX7_guest_6 (Nat.le_of_ble_eq_true rfl) ⟨by decide, by decide⟩ ?_
  refine b_if_ne (tgt := 18) C dX7_guest_9 (by decide) (fun h_9 => ?_) (fun h_9 => ?_)
  · refine a_iload_n C dX7_guest_18 rfl rfl ?_
    refine a_iconst (v := (-1)) C dX7_guest_19 (by decide) ?_
    refine a_icmp_eq (tgt := 36) C dX7_guest_20 (by decide) (fun h_20 => ?_) (fun h_20 => ?_)
    · refine a_aload_n C dX7_guest_36 rfl rfl ?_
      refine a_iload_n C dX7_guest_37 rfl rfl ?_
      refine p_callV C (K_X7_isLock hR hA (by first | assumption | decide | omega)) vX7_95 rfl (by first | decide | omega) rfl rfl dX7_guest_38 (Nat.le_of_ble_eq_true rfl) ⟨by decide, by decide⟩ ?_
      refine b_if_ne (tgt := 50) C dX7_guest_41 (by decide) (fun h_41 => ?_) (fun h_41 => ?_)
      · exact absurd (h_41.symm.trans zf2) (by decide)
      · refine a_aload_n C dX7_guest_44 rfl rfl ?_
        refine a_iconst (v := nI 3) C dX7_guest_45 (by decide) ?_
        refine f_callV C _ _ (K_X7_fails _) vX7_68 (by first | decide | omega) rfl rfl dX7_guest_46 rfl (Nat.le_of_ble_eq_true rfl) ⟨by decide, by decide⟩ (fun zr46 zw46 zp46 => ?_)
        obtain ⟨rfl, rfl⟩ := zp46
        refine f_iret C hr ?_ dX7_guest_49 ⟨?_, ?_⟩
        · rfl
        · first | with_reducible rfl | exact gl (by first | with_reducible rfl | (refine iF ?_; simp []; done) | (refine iT ?_; simp []; done) | (refine iB ?_; simp []; done) | (simp []; done) | (simp []; omega) | omega | rfl)
        · first | with_reducible rfl | exact wSet2 | rfl
    · refine a_iload_n C dX7_guest_23 rfl rfl ?_
      refine p_callS C ((K_X7_isCode _)).cp sX7_119 rfl dX7_guest_24 (Nat.le_of_ble_eq_true rfl) ⟨by decide, by decide⟩ ?_
      refine b_if_ne (tgt := 36) C dX7_guest_27 (by decide) (fun h_27 => ?_) (fun h_27 => ?_)
      · refine a_aload_n C dX7_guest_36 rfl rfl ?_
        refine a_iload_n C dX7_guest_37 rfl rfl ?_
        refine p_callV C (K_X7_isLock hR hA (by first | assumption | decide | omega)) vX7_95 rfl (by first | decide | omega) rfl rfl dX7_guest_38 (Nat.le_of_ble_eq_true rfl) ⟨by decide, by decide⟩ ?_
        refine b_if_ne (tgt := 50) C dX7_guest_41 (by decide) (fun h_41 => ?_) (fun h_41 => ?_)
        · exact absurd (h_41.symm.trans zf2) (by decide)
        · refine a_aload_n C dX7_guest_44 rfl rfl ?_
          refine a_iconst (v := nI 3) C dX7_guest_45 (by decide) ?_
          refine f_callV C _ _ (K_X7_fails _) vX7_68 (by first | decide | omega) rfl rfl dX7_guest_46 rfl (Nat.le_of_ble_eq_true rfl) ⟨by decide, by decide⟩ (fun zr46 zw46 zp46 => ?_)
          obtain ⟨rfl, rfl⟩ := zp46
          refine f_iret C hr ?_ dX7_guest_49 ⟨?_, ?_⟩
          · rfl
          · first | with_reducible rfl | exact gl (by first | with_reducible rfl | (refine iF ?_; simp []; done) | (refine iT ?_; simp []; done) | (refine iB ?_; simp []; done) | (simp []; done) | (simp []; omega) | omega | rfl)
          · first | with_reducible rfl | exact wSet2 | rfl
      · exact absurd (h_27.symm.trans (hx.resolve_left h_20)) (by decide)
  · exact absurd (h_9.symm.trans zf0) (by decide)

end A19

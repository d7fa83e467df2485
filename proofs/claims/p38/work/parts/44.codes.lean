section A44
/-! ### the codes are laid -/
set_option maxRecDepth 20000 in
set_option maxHeartbeats 4000000 in
theorem K_J9_abs_0f7a4 (x : Int32) : CS yJ9_abs_0f7a4 cJ9_abs_0f7a4 1 (some .int) 0 0 [.int x] (.int (if 0 ≤ x then x else -x)) := by
  refine CS.of ok_J9_abs_0f7a4 (Nat.le_of_ble_eq_true rfl) (fun M9 G9 p9 l9 e9 s9 m9 ar9 be9 me9 co9 C hr => ?_)
  refine a_iload_n C dJ9_abs_0f7a4_0 rfl rfl ?_
  refine a_if_ge (tgt := 9) C dJ9_abs_0f7a4_1 (by decide) (fun h_1 => ?_) (fun h_1 => ?_)
  · refine a_iload_n C dJ9_abs_0f7a4_9 rfl rfl ?_
    refine a_iret C hr ?_ dJ9_abs_0f7a4_10 rfl rfl ⟨?_, rfl⟩
    · rfl
    · first | exact gl (if_pos h_1).symm | exact gl (if_neg h_1).symm
  · refine a_iload_n C dJ9_abs_0f7a4_4 rfl rfl ?_
    refine a_ineg C dJ9_abs_0f7a4_5 ?_
    refine a_goto (tgt := 10) C dJ9_abs_0f7a4_6 (by decide) ?_
    refine a_iret C hr ?_ dJ9_abs_0f7a4_10 rfl rfl ⟨?_, rfl⟩
    · rfl
    · first | exact gl (if_pos h_1).symm | exact gl (if_neg h_1).symm

set_option maxRecDepth 20000 in
set_option maxHeartbeats 4000000 in
theorem K_J9_max_7cf53 (x y : Int32) : CS yJ9_max_7cf53 cJ9_max_7cf53 2 (some .int) 0 0 [.int x, .int y] (.int (if x < y then y else x)) := by
  refine CS.of ok_J9_max_7cf53 (Nat.le_of_ble_eq_true rfl) (fun M9 G9 p9 l9 e9 s9 m9 ar9 be9 me9 co9 C hr => ?_)
  refine a_iload_n C dJ9_max_7cf53_0 rfl rfl ?_
  refine a_iload_n C dJ9_max_7cf53_1 rfl rfl ?_
  refine a_icmp_lt (tgt := 9) C dJ9_max_7cf53_2 (by decide) (fun h_2 => ?_) (fun h_2 => ?_)
  · refine a_iload_n C dJ9_max_7cf53_9 rfl rfl ?_
    refine a_iret C hr ?_ dJ9_max_7cf53_10 rfl rfl ⟨?_, rfl⟩
    · rfl
    · first | exact gl (if_pos h_2).symm | exact gl (if_neg h_2).symm
  · refine a_iload_n C dJ9_max_7cf53_5 rfl rfl ?_
    refine a_goto (tgt := 10) C dJ9_max_7cf53_6 (by decide) ?_
    refine a_iret C hr ?_ dJ9_max_7cf53_10 rfl rfl ⟨?_, rfl⟩
    · rfl
    · first | exact gl (if_pos h_2).symm | exact gl (if_neg h_2).symm

def mkP (c : Nat) : Nat → Nat
  | 0 => 0
  | n + 1 => mkP c n ||| ((1 * 2 ^ dep c n - 1) * 2 ^ (2 * n))
def lvQ (c : Nat) : Nat → Nat
  | 0 => 0
  | n + 1 => lvQ c n + dep c n
def spP (c : Nat) : Nat → Nat
  | 0 => 0
  | n + 1 => max (spP c n) (dfN (dep c n) (dep c (n - 1)))
theorem mkP_all : (List.range 81).all (fun c => mkP c 4 == mkN c) = true := by decide +kernel
theorem spP_all : (List.range 81).all (fun c => spP c 4 == spN c) = true := by decide +kernel
theorem mkP_4 {c : Nat} (hc : c < 81) : mkP c 4 = mkN c := beq_iff_eq.mp (all81 mkP_all hc)
theorem spP_4 {c : Nat} (hc : c < 81) : spP c 4 = spN c := beq_iff_eq.mp (all81 spP_all hc)
theorem lvQ_4 (c : Nat) : lvQ c 4 = lvN c := by
  show 0 + dep c 0 + dep c 1 + dep c 2 + dep c 3 = _
  unfold lvN
  omega
theorem spP_lt (c : Nat) : ∀ n, spP c n < 3
  | 0 => show 0 < 3 by decide
  | n + 1 => by
    have z := spP_lt c n
    have z1 := dep_lt c n
    have z2 := dep_lt c (n - 1)
    show max _ _ < 3
    unfold dfN
    omega
theorem shl_lt {d n : Nat} (hd : d < 3) (hn : n < 4) : (1 * 2 ^ d - 1) * 2 ^ (2 * n) < 2 ^ 32 := by
  have h : ∀ d, d < 3 → ∀ n, n < 4 → (1 * 2 ^ d - 1) * 2 ^ (2 * n) < 2 ^ 32 := by decide
  exact h d hd n hn
theorem one_lt {d : Nat} (hd : d < 3) : 1 * 2 ^ d < 2 ^ 32 ∧ 1 ≤ 1 * 2 ^ d := by
  have h : ∀ d, d < 3 → 1 * 2 ^ d < 2 ^ 32 ∧ 1 ≤ 1 * 2 ^ d := by decide
  exact h d hd
theorem abmx_all : (List.range 3).all (fun s => (List.range 3).all fun a => (List.range 3).all fun b => decide ((if nI s < (if 0 ≤ nI a - nI b then nI a - nI b else -(nI a - nI b)) then (if 0 ≤ nI a - nI b then nI a - nI b else -(nI a - nI b)) else nI s) = nI (max s (dfN a b)))) = true := by decide +kernel
theorem abmx {s a b : Nat} (hs : s < 3) (ha : a < 3) (hb : b < 3) : (if nI s < (if 0 ≤ nI a - nI b then nI a - nI b else -(nI a - nI b)) then (if 0 ≤ nI a - nI b then nI a - nI b else -(nI a - nI b)) else nI s) = nI (max s (dfN a b)) :=
  of_decide_eq_true (List.all_eq_true.mp (List.all_eq_true.mp (List.all_eq_true.mp abmx_all s (List.mem_range.mpr hs)) a (List.mem_range.mpr ha)) b (List.mem_range.mpr hb))
/-- the heap while the codes are laid -/
def hX1 (f : Nat → aC) (g1 g2 g3 g4 : Nat → Int32) : Nat → aC := fun a => if a = 50 then .inr (1, [.ref 51, .ref 52, .ref 53, .ref 54]) else if a = 51 then .inl (8, (81, .inl g1)) else if a = 52 then .inl (8, (81, .inl g2)) else if a = 53 then .inl (8, (81, .inl g3)) else if a = 54 then .inl (8, (81, .inl g4)) else f a
def MX1 (us : Nat) (f : Nat → aC) (g1 g2 g3 g4 : Nat → Int32) : aH := (55, 0, us + 324, hX1 f g1 g2 g3 g4)
theorem fun_if {α : Type} {f g : Nat → α} (h : ∀ a, f a = g a) : f = g := funext h
theorem MX1_1 {us : Nat} {f : Nat → aC} {g1 g2 g3 g4 g : Nat → Int32} : aPut (MX1 us f g1 g2 g3 g4) 51 (.inl (8, (81, .inl g))) = MX1 us f g g2 g3 g4 := by
  unfold aPut MX1 hX1 aUp
  congr 3
  funext a
  by_cases h : a = 51
  · subst h; rfl
  · simp [h]
theorem MX1_2 {us : Nat} {f : Nat → aC} {g1 g2 g3 g4 g : Nat → Int32} : aPut (MX1 us f g1 g2 g3 g4) 52 (.inl (8, (81, .inl g))) = MX1 us f g1 g g3 g4 := by
  unfold aPut MX1 hX1 aUp
  congr 3
  funext a
  by_cases h : a = 52
  · subst h; rfl
  · simp [h]
theorem MX1_3 {us : Nat} {f : Nat → aC} {g1 g2 g3 g4 g : Nat → Int32} : aPut (MX1 us f g1 g2 g3 g4) 53 (.inl (8, (81, .inl g))) = MX1 us f g1 g2 g g4 := by
  unfold aPut MX1 hX1 aUp
  congr 3
  funext a
  by_cases h : a = 53
  · subst h; rfl
  · simp [h]
theorem MX1_4 {us : Nat} {f : Nat → aC} {g1 g2 g3 g4 g : Nat → Int32} : aPut (MX1 us f g1 g2 g3 g4) 54 (.inl (8, (81, .inl g))) = MX1 us f g1 g2 g3 g := by
  unfold aPut MX1 hX1 aUp
  congr 3
  funext a
  by_cases h : a = 54
  · subst h; rfl
  · simp [h]
set_option maxRecDepth 20000 in
set_option maxHeartbeats 4000000 in
theorem K_X1_init {us : Nat} {f : Nat → aC} (hf : f 50 = .inr (1, [.null, .null, .null, .null])) : CM yX1_init cX1_init 5 none 2 43 [.ref 50] (51, 0, us, f) 4 324 (fun r M' => r = none ∧ M'.2.1 = 0 ∧ (∀ a, a < 50 → M'.2.2.2 a = f a) ∧ M'.2.2.2 50 = .inr (1, [.ref 51, .ref 52, .ref 53, .ref 54]) ∧ ∃ g1 g2 g3 g4 : Nat → Int32, M'.2.2.2 51 = .inl (8, (81, .inl g1)) ∧ M'.2.2.2 52 = .inl (8, (81, .inl g2)) ∧ M'.2.2.2 53 = .inl (8, (81, .inl g3)) ∧ M'.2.2.2 54 = .inl (8, (81, .inl g4)) ∧ ∀ j, j < 81 → g1 j = nI (mkN j) ∧ g2 j = nI (lvN j) ∧ g3 j = nI (spN j) ∧ g4 j = nI (woN j)) := by
  refine CM.of ok_X1_init (Nat.le_of_ble_eq_true rfl) (fun G9 p9 l9 e9 s9 m9 ar9 be9 me9 co9 C hr hin => ?_)
  have ZL38 : ∀ (zd38 : Nat) (c : Nat) (g1 g2 g3 g4 : Nat → Int32), 81 + 1 ≤ c + zd38 → c ≤ 81 → (∀ j, j < c → g1 j = nI (mkN j) ∧ g2 j = nI (lvN j) ∧ g3 j = nI (spN j) ∧ g4 j = nI (woN j)) → (∀ j, c ≤ j → g1 j = nI 0 ∧ g2 j = nI 0 ∧ g3 j = nI 0 ∧ g4 j = nI 0) → WA G9 p9 l9 e9 ({ frames := 2, cells := 4, slots := 324, locals := 43 } : Room) s9 m9 ar9 be9 me9 co9 (MQ be9 (aQc G9 (51, 0, us, f) 4 324 (fun r M' => r = none ∧ M'.2.1 = 0 ∧ (∀ a, a < 50 → M'.2.2.2 a = f a) ∧ M'.2.2.2 50 = .inr (1, [.ref 51, .ref 52, .ref 53, .ref 54]) ∧ ∃ g1 g2 g3 g4 : Nat → Int32, M'.2.2.2 51 = .inl (8, (81, .inl g1)) ∧ M'.2.2.2 52 = .inl (8, (81, .inl g2)) ∧ M'.2.2.2 53 = .inl (8, (81, .inl g3)) ∧ M'.2.2.2 54 = .inl (8, (81, .inl g4)) ∧ ∀ j, j < 81 → g1 j = nI (mkN j) ∧ g2 j = nI (lvN j) ∧ g3 j = nI (spN j) ∧ g4 j = nI (woN j))) ar9 s9 4 324 (aOld G9)) 5 51 us 38 [some (.ref 50), some (.int (nI c)), none, none, none] [] (MX1 us f g1 g2 g3 g4) := by
    intro zd38
    induction zd38 with
    | zero => intro c g1 g2 g3 g4 zm38 zh_c zh_l zh_z; exfalso; omega
    | succ zd38 zih38 =>
      intro c g1 g2 g3 g4 zm38 zh_c zh_l zh_z
      have ZL52 : ∀ (zd52 : Nat) (n : Nat) (g1 g2 g3 g4 : Nat → Int32), 4 + 1 ≤ n + zd52 → n ≤ 4 → c < 81 → (∀ j, j < c → g1 j = nI (mkN j) ∧ g2 j = nI (lvN j) ∧ g3 j = nI (spN j) ∧ g4 j = nI (woN j)) → (∀ j, c + 1 ≤ j → g1 j = nI 0 ∧ g2 j = nI 0 ∧ g3 j = nI 0 ∧ g4 j = nI 0) → g1 c = nI (mkP c n) → g2 c = nI (lvQ c n) → g3 c = nI (spP c n) → WA G9 p9 l9 e9 ({ frames := 2, cells := 4, slots := 324, locals := 43 } : Room) s9 m9 ar9 be9 me9 co9 (MQ be9 (aQc G9 (51, 0, us, f) 4 324 (fun r M' => r = none ∧ M'.2.1 = 0 ∧ (∀ a, a < 50 → M'.2.2.2 a = f a) ∧ M'.2.2.2 50 = .inr (1, [.ref 51, .ref 52, .ref 53, .ref 54]) ∧ ∃ g1 g2 g3 g4 : Nat → Int32, M'.2.2.2 51 = .inl (8, (81, .inl g1)) ∧ M'.2.2.2 52 = .inl (8, (81, .inl g2)) ∧ M'.2.2.2 53 = .inl (8, (81, .inl g3)) ∧ M'.2.2.2 54 = .inl (8, (81, .inl g4)) ∧ ∀ j, j < 81 → g1 j = nI (mkN j) ∧ g2 j = nI (lvN j) ∧ g3 j = nI (spN j) ∧ g4 j = nI (woN j))) ar9 s9 4 324 (aOld G9)) 5 51 us 52 [some (.ref 50), some (.int (nI c)), some (.int (nI (dep c (n - 1)))), some (.int (nI n)), none] [] (MX1 us f g1 g2 g3 g4) := by
        intro zd52
        induction zd52 with
        | zero => intro n g1 g2 g3 g4 zm52 zk_n h_41 zk_l zk_z zk_1 zk_2 zk_3; exfalso; omega
        | succ zd52 zih52 =>
          intro n g1 g2 g3 g4 zm52 zk_n h_41 zk_l zk_z zk_1 zk_2 zk_3
          have zq_d := dep_lt c n
          have zq_e := dep_lt c (n - 1)
          have zq_s := spP_lt c n
          have zq_o := one_lt zq_d
          refine a_iload_n C dX1_init_52 rfl rfl ?_
          refine a_iconst (v := nI 4) C dX1_init_53 (by decide) ?_
          first | refine n_icmp_ge (tgt := 125) C dX1_init_54 (by decide) (by first | decide | omega) (by first | decide | omega) (fun h_54 => ?_) (fun h_54 => ?_) | refine a_icmp_ge (tgt := 125) C dX1_init_54 (by decide) (fun h_54 => ?_) (fun h_54 => ?_)
          · obtain rfl : n = 4 := by omega
            refine a_aload_n C dX1_init_125 rfl rfl ?_
            refine a_getfF C fX1_21 dX1_init_126 (by first | decide | omega | exact Nat.le_of_ble_eq_true rfl) (by first | decide | omega) rfl rfl ?_
            refine a_iload_n C dX1_init_129 rfl rfl ?_
            refine a_iload_n C dX1_init_130 rfl rfl ?_
            refine s_callS C (K_X1_wornOnce (by omega)) sX1_37 rfl dX1_init_131 (Nat.le_of_ble_eq_true rfl) ⟨by decide, by decide⟩ ⟨by show 55 + 0 ≤ 51 + 4; decide, by show us + 324 ≤ us + 324; omega⟩ ?_
            refine a_iast C dX1_init_134 (by first | decide | omega | exact Nat.le_of_ble_eq_true rfl) (by decide) rfl rfl (by first | decide | omega) (by decide) ?_
            refine n_iinc C dX1_init_135 rfl (by decide) ?_
            refine a_goto (tgt := 38) C dX1_init_138 (by decide) ?_
            refine a_join (aLe_s ?_ (aLe_s ?_ (aLe_n (aLe_n (aLe_n aLe_nil))))) rfl MX1_4 (zih38 (c + 1) g1 g2 g3 (upd g4 c (nI (woN c))) (by omega) (by omega) (fun j hj => by
              by_cases e9 : j = c
              · subst e9; exact ⟨by rw [zk_1, mkP_4 h_41], by rw [zk_2, lvQ_4], by rw [zk_3, spP_4 h_41], upd_at⟩
              · have z9 := zk_l j (by omega); exact ⟨z9.1, z9.2.1, z9.2.2.1, (upd_ne e9).trans z9.2.2.2⟩) (fun j hj => by have z9 := zk_z j (by omega); exact ⟨z9.1, z9.2.1, z9.2.2.1, (upd_ne (by omega)).trans z9.2.2.2⟩))
            · first | with_reducible rfl | exact gl (by first | with_reducible rfl | (refine iF ?_; simp [h_54]; done) | (refine iT ?_; simp [h_54]; done) | (refine iB ?_; simp [h_54]; done) | (simp [h_54]; done) | (simp [h_54]; omega) | omega)
            · first | with_reducible rfl | exact gl (by first | with_reducible rfl | (refine iF ?_; simp [h_54]; done) | (refine iT ?_; simp [h_54]; done) | (refine iB ?_; simp [h_54]; done) | (simp [h_54]; done) | (simp [h_54]; omega) | omega)
          · refine a_iload_n C dX1_init_57 rfl rfl ?_
            refine a_iload_n C dX1_init_58 rfl rfl ?_
            refine s_callS C (K_X1_depthOf (by omega) (by omega)) sX1_24 rfl dX1_init_59 (Nat.le_of_ble_eq_true rfl) ⟨by decide, by decide⟩ ⟨by show 55 + 0 ≤ 51 + 4; decide, by show us + 324 ≤ us + 324; omega⟩ ?_
            refine a_istore C dX1_init_62 (by decide) ?_
            refine a_aload_n C dX1_init_64 rfl rfl ?_
            refine a_getfF C fX1_9 dX1_init_65 (by first | decide | omega | exact Nat.le_of_ble_eq_true rfl) (by first | decide | omega) rfl rfl ?_
            refine a_iload_n C dX1_init_68 rfl rfl ?_
            refine a_dup2 C dX1_init_69 rfl rfl ?_
            refine n_iald C dX1_init_70 (by first | decide | omega | exact Nat.le_of_ble_eq_true rfl) (by first | decide | omega) rfl rfl (by first | decide | omega) (by decide) zk_1 ?_
            refine a_iconst (v := nI 1) C dX1_init_71 (by decide) ?_
            refine a_iload C dX1_init_72 rfl ?_
            refine n_ishl C dX1_init_74 (by omega) zq_o.1 ?_
            refine a_iconst (v := nI 1) C dX1_init_75 (by decide) ?_
            refine n_isub C dX1_init_76 zq_o.2 ?_
            refine a_iconst (v := nI 2) C dX1_init_77 (by decide) ?_
            refine a_iload_n C dX1_init_78 rfl rfl ?_
            first | refine n_imul C dX1_init_79 ?_ | refine a_imul C dX1_init_79 ?_
            refine n_ishl C dX1_init_80 (by omega) (shl_lt zq_d (by omega)) ?_
            first | refine n_ior C dX1_init_81 ?_ | refine a_ior C dX1_init_81 ?_
            refine a_iast C dX1_init_82 (by first | decide | omega | exact Nat.le_of_ble_eq_true rfl) (by decide) rfl rfl (by first | decide | omega) (by decide) ?_
            refine a_eq rfl rfl MX1_1 ?_
            refine a_aload_n C dX1_init_83 rfl rfl ?_
            refine a_getfF C fX1_15 dX1_init_84 (by first | decide | omega | exact Nat.le_of_ble_eq_true rfl) (by first | decide | omega) rfl rfl ?_
            refine a_iload_n C dX1_init_87 rfl rfl ?_
            refine a_dup2 C dX1_init_88 rfl rfl ?_
            refine n_iald C dX1_init_89 (by first | decide | omega | exact Nat.le_of_ble_eq_true rfl) (by first | decide | omega) rfl rfl (by first | decide | omega) (by decide) zk_2 ?_
            refine a_iload C dX1_init_90 rfl ?_
            first | refine n_iadd C dX1_init_92 ?_ | refine a_iadd C dX1_init_92 ?_
            refine a_iast C dX1_init_93 (by first | decide | omega | exact Nat.le_of_ble_eq_true rfl) (by decide) rfl rfl (by first | decide | omega) (by decide) ?_
            refine a_eq rfl rfl MX1_2 ?_
            refine a_aload_n C dX1_init_94 rfl rfl ?_
            refine a_getfF C fX1_18 dX1_init_95 (by first | decide | omega | exact Nat.le_of_ble_eq_true rfl) (by first | decide | omega) rfl rfl ?_
            refine a_iload_n C dX1_init_98 rfl rfl ?_
            refine a_aload_n C dX1_init_99 rfl rfl ?_
            refine a_getfF C fX1_18 dX1_init_100 (by first | decide | omega | exact Nat.le_of_ble_eq_true rfl) (by first | decide | omega) rfl rfl ?_
            refine a_iload_n C dX1_init_103 rfl rfl ?_
            refine n_iald C dX1_init_104 (by first | decide | omega | exact Nat.le_of_ble_eq_true rfl) (by first | decide | omega) rfl rfl (by first | decide | omega) (by decide) zk_3 ?_
            refine a_iload C dX1_init_105 rfl ?_
            refine a_iload_n C dX1_init_107 rfl rfl ?_
            refine a_isub C dX1_init_108 ?_
            refine s_callS C (K_J9_abs_0f7a4 _) sX1_28 rfl dX1_init_109 (Nat.le_of_ble_eq_true rfl) ⟨by decide, by decide⟩ ⟨by show 55 + 0 ≤ 51 + 4; decide, by show us + 324 ≤ us + 324; omega⟩ ?_
            refine s_callS C (K_J9_max_7cf53 _ _) sX1_34 rfl dX1_init_112 (Nat.le_of_ble_eq_true rfl) ⟨by decide, by decide⟩ ⟨by show 55 + 0 ≤ 51 + 4; decide, by show us + 324 ≤ us + 324; omega⟩ ?_
            refine a_eq (st' := [.int (nI (spP c (n + 1))), .int (nI c), .ref 53]) rfl (by rw [abmx zq_s zq_d zq_e]; rfl) rfl ?_
            refine a_iast C dX1_init_115 (by first | decide | omega | exact Nat.le_of_ble_eq_true rfl) (by decide) rfl rfl (by first | decide | omega) (by decide) ?_
            refine a_iload C dX1_init_116 rfl ?_
            refine a_istore_n C dX1_init_118 rfl (by decide) ?_
            refine n_iinc C dX1_init_119 rfl (by decide) ?_
            refine a_goto (tgt := 52) C dX1_init_122 (by decide) ?_
            refine a_join (aLe_s ?_ (aLe_s ?_ (aLe_s ?_ (aLe_s ?_ (aLe_n aLe_nil))))) rfl MX1_3 (zih52 (n + 1) (upd g1 c (nI (mkP c (n + 1)))) (upd g2 c (nI (lvQ c (n + 1)))) (upd g3 c (nI (spP c (n + 1)))) g4 (by omega) (by omega) h_41 (fun j hj => by
              have z9 := zk_l j hj
              exact ⟨(upd_ne (by omega)).trans z9.1, (upd_ne (by omega)).trans z9.2.1, (upd_ne (by omega)).trans z9.2.2.1, z9.2.2.2⟩) (fun j hj => by
              have z9 := zk_z j hj
              exact ⟨(upd_ne (by omega)).trans z9.1, (upd_ne (by omega)).trans z9.2.1, (upd_ne (by omega)).trans z9.2.2.1, z9.2.2.2⟩) upd_at upd_at upd_at)
            · first | with_reducible rfl | exact gl (by first | with_reducible rfl | (refine iF ?_; simp [h_54]; done) | (refine iT ?_; simp [h_54]; done) | (refine iB ?_; simp [h_54]; done) | (simp [h_54]; done) | (simp [h_54]; omega) | omega)
            · first | with_reducible rfl | exact gl (by first | with_reducible rfl | (refine iF ?_; simp [h_54]; done) | (refine iT ?_; simp [h_54]; done) | (refine iB ?_; simp [h_54]; done) | (simp [h_54]; done) | (simp [h_54]; omega) | omega)
            · exact rfl
            · first | with_reducible rfl | exact gl (by first | with_reducible rfl | (refine iF ?_; simp [h_54]; done) | (refine iT ?_; simp [h_54]; done) | (refine iB ?_; simp [h_54]; done) | (simp [h_54]; done) | (simp [h_54]; omega) | omega)
      refine a_iload_n C dX1_init_38 rfl rfl ?_
      refine a_bipush (v := nI 81) C dX1_init_39 (by decide) ?_
      first | refine n_icmp_ge (tgt := 141) C dX1_init_41 (by decide) (by first | decide | omega) (by first | decide | omega) (fun h_41 => ?_) (fun h_41 => ?_) | refine a_icmp_ge (tgt := 141) C dX1_init_41 (by decide) (fun h_41 => ?_) (fun h_41 => ?_)
      · obtain rfl : c = 81 := by omega
        exact a_vret (M0 := (51, 0, us, f)) C hr dX1_init_141 rfl rfl ⟨rfl, rfl, fun a ha => by show hX1 f g1 g2 g3 g4 a = f a; unfold hX1; simp only [if_neg (show ¬ a = 50 by omega), if_neg (show ¬ a = 51 by omega), if_neg (show ¬ a = 52 by omega), if_neg (show ¬ a = 53 by omega), if_neg (show ¬ a = 54 by omega)], rfl, g1, g2, g3, g4, rfl, rfl, rfl, rfl, zh_l⟩
      · refine a_iload_n C dX1_init_44 rfl rfl ?_
        refine a_iconst (v := nI 0) C dX1_init_45 (by decide) ?_
        refine s_callS C (K_X1_depthOf (by omega) (by decide)) sX1_24 rfl dX1_init_46 (Nat.le_of_ble_eq_true rfl) ⟨by decide, by decide⟩ ⟨by show 55 + 0 ≤ 51 + 4; decide, by show us + 324 ≤ us + 324; omega⟩ ?_
        refine a_istore_n C dX1_init_49 rfl (by decide) ?_
        refine a_iconst (v := nI 0) C dX1_init_50 (by decide) ?_
        refine a_istore_n C dX1_init_51 rfl (by decide) ?_
        refine a_join (aLe_s ?_ (aLe_s ?_ (aLe_s ?_ (aLe_s ?_ (aLe_n aLe_nil))))) rfl rfl (ZL52 (4 + 1) 0 g1 g2 g3 g4 (by omega) (by omega) h_41 zh_l (fun j hj => zh_z j (by omega)) (zh_z c (Nat.le_refl _)).1 (zh_z c (Nat.le_refl _)).2.1 (zh_z c (Nat.le_refl _)).2.2.1)
        · first | with_reducible rfl | exact gl (by first | with_reducible rfl | (refine iF ?_; simp [h_41]; done) | (refine iT ?_; simp [h_41]; done) | (refine iB ?_; simp [h_41]; done) | (simp [h_41]; done) | (simp [h_41]; omega) | omega | rfl)
        · first | with_reducible rfl | exact gl (by first | with_reducible rfl | (refine iF ?_; simp [h_41]; done) | (refine iT ?_; simp [h_41]; done) | (refine iB ?_; simp [h_41]; done) | (simp [h_41]; done) | (simp [h_41]; omega) | omega | rfl)
        · first | with_reducible rfl | exact gl (by first | with_reducible rfl | (refine iF ?_; simp [h_41]; done) | (refine iT ?_; simp [h_41]; done) | (refine iB ?_; simp [h_41]; done) | (simp [h_41]; done) | (simp [h_41]; omega) | omega | rfl)
        · first | with_reducible rfl | exact gl (by first | with_reducible rfl | (refine iF ?_; simp [h_41]; done) | (refine iT ?_; simp [h_41]; done) | (refine iB ?_; simp [h_41]; done) | (simp [h_41]; done) | (simp [h_41]; omega) | omega | rfl)
  refine a_pad 4 ?_
  refine a_eq (L' := [some (.ref 50), none, none, none, none]) rfl rfl rfl ?_
  refine a_aload_n C dX1_init_0 rfl rfl ?_
  refine a_objI C oI_X1 jo_2 jo_3 dX1_init_1 ⟨by decide, by decide⟩ ?_
  refine a_aload_n C dX1_init_4 rfl rfl ?_
  refine a_bipush (v := nI 81) C dX1_init_5 (by decide) ?_
  refine a_newaI C dX1_init_7 (N := 81) rfl (by decide) (show 51 < 207 by decide) rfl ⟨show 51 + 1 ≤ 51 + 4 by decide, show us + 81 ≤ us + 324 by omega⟩ ?_
  refine a_eq (st' := [.ref 51, .ref 50]) rfl rfl rfl ?_
  refine a_putF C fX1_9 hin (fun _ _ _ h => by cases h; rfl) dX1_init_9 (show 50 < 52 by decide) (by decide) hf rfl rfl (by decide) ?_
  refine a_eq (M' := (aPut (aNew (51, 0, us, f) (.inl (8, (81, .inl (fun _ => 0)))) 81) 50 (.inr (1, [.ref 51, .null, .null, .null])))) rfl rfl rfl ?_
  refine a_aload_n C dX1_init_12 rfl rfl ?_
  refine a_bipush (v := nI 81) C dX1_init_13 (by decide) ?_
  refine a_newaI C dX1_init_15 (N := 81) rfl (by decide) (show 52 < 207 by decide) rfl ⟨show 52 + 1 ≤ 51 + 4 by decide, show us + 81 + 81 ≤ us + 324 by omega⟩ ?_
  refine a_eq (st' := [.ref 52, .ref 50]) rfl rfl rfl ?_
  refine a_putF C fX1_15 hin (fun _ _ _ h => by cases h; rfl) dX1_init_17 (show 50 < 53 by decide) (by decide) rfl rfl rfl (by decide) ?_
  refine a_eq (M' := (aPut (aNew (aPut (aNew (51, 0, us, f) (.inl (8, (81, .inl (fun _ => 0)))) 81) 50 (.inr (1, [.ref 51, .null, .null, .null]))) (.inl (8, (81, .inl (fun _ => 0)))) 81) 50 (.inr (1, [.ref 51, .ref 52, .null, .null])))) rfl rfl rfl ?_
  refine a_aload_n C dX1_init_20 rfl rfl ?_
  refine a_bipush (v := nI 81) C dX1_init_21 (by decide) ?_
  refine a_newaI C dX1_init_23 (N := 81) rfl (by decide) (show 53 < 207 by decide) rfl ⟨show 53 + 1 ≤ 51 + 4 by decide, show us + 81 + 81 + 81 ≤ us + 324 by omega⟩ ?_
  refine a_eq (st' := [.ref 53, .ref 50]) rfl rfl rfl ?_
  refine a_putF C fX1_18 hin (fun _ _ _ h => by cases h; rfl) dX1_init_25 (show 50 < 54 by decide) (by decide) rfl rfl rfl (by decide) ?_
  refine a_eq (M' := (aPut (aNew (aPut (aNew (aPut (aNew (51, 0, us, f) (.inl (8, (81, .inl (fun _ => 0)))) 81) 50 (.inr (1, [.ref 51, .null, .null, .null]))) (.inl (8, (81, .inl (fun _ => 0)))) 81) 50 (.inr (1, [.ref 51, .ref 52, .null, .null]))) (.inl (8, (81, .inl (fun _ => 0)))) 81) 50 (.inr (1, [.ref 51, .ref 52, .ref 53, .null])))) rfl rfl rfl ?_
  refine a_aload_n C dX1_init_28 rfl rfl ?_
  refine a_bipush (v := nI 81) C dX1_init_29 (by decide) ?_
  refine a_newaI C dX1_init_31 (N := 81) rfl (by decide) (show 54 < 207 by decide) rfl ⟨show 54 + 1 ≤ 51 + 4 by decide, show us + 81 + 81 + 81 + 81 ≤ us + 324 by omega⟩ ?_
  refine a_eq (st' := [.ref 54, .ref 50]) rfl rfl rfl ?_
  refine a_putF C fX1_21 hin (fun _ _ _ h => by cases h; rfl) dX1_init_33 (show 50 < 55 by decide) (by decide) rfl rfl rfl (by decide) ?_
  refine a_eq (M' := (aPut (aNew (aPut (aNew (aPut (aNew (aPut (aNew (51, 0, us, f) (.inl (8, (81, .inl (fun _ => 0)))) 81) 50 (.inr (1, [.ref 51, .null, .null, .null]))) (.inl (8, (81, .inl (fun _ => 0)))) 81) 50 (.inr (1, [.ref 51, .ref 52, .null, .null]))) (.inl (8, (81, .inl (fun _ => 0)))) 81) 50 (.inr (1, [.ref 51, .ref 52, .ref 53, .null]))) (.inl (8, (81, .inl (fun _ => 0)))) 81) 50 (.inr (1, [.ref 51, .ref 52, .ref 53, .ref 54])))) rfl rfl rfl ?_
  have zM9 : (aPut (aNew (aPut (aNew (aPut (aNew (aPut (aNew (51, 0, us, f) (.inl (8, (81, .inl (fun _ => 0)))) 81) 50 (.inr (1, [.ref 51, .null, .null, .null]))) (.inl (8, (81, .inl (fun _ => 0)))) 81) 50 (.inr (1, [.ref 51, .ref 52, .null, .null]))) (.inl (8, (81, .inl (fun _ => 0)))) 81) 50 (.inr (1, [.ref 51, .ref 52, .ref 53, .null]))) (.inl (8, (81, .inl (fun _ => 0)))) 81) 50 (.inr (1, [.ref 51, .ref 52, .ref 53, .ref 54]))) = MX1 us f (fun _ => 0) (fun _ => 0) (fun _ => 0) (fun _ => 0) := by
    unfold MX1 aPut aNew
    refine Prod.ext rfl (Prod.ext rfl (Prod.ext rfl (funext fun a => ?_)))
    show aUp _ _ _ a = hX1 f _ _ _ _ a
    unfold hX1
    simp only [aUp]
    by_cases h0 : a = 50
    · simp [h0]
    · by_cases h1 : a = 51
      · simp [h1]
      · by_cases h2 : a = 52
        · simp [h2]
        · by_cases h3 : a = 53
          · simp [h3]
          · by_cases h4 : a = 54
            · simp [h4]
            · simp [h0, h1, h2, h3, h4]
  refine a_iconst (v := nI 0) C dX1_init_36 (by decide) ?_
  refine a_istore_n C dX1_init_37 rfl (by decide) ?_
  refine a_join (aLe_s ?_ (aLe_s ?_ (aLe_n (aLe_n (aLe_n aLe_nil))))) rfl zM9 (ZL38 (81 + 1) 0 (fun _ => 0) (fun _ => 0) (fun _ => 0) (fun _ => 0) (by omega) (by omega) (fun j hj => absurd hj (Nat.not_lt_zero j)) (fun j _ => ⟨rfl, rfl, rfl, rfl⟩))
  · first | with_reducible rfl | exact gl (by first | with_reducible rfl | (refine iF ?_; simp []; done) | (refine iT ?_; simp []; done) | (refine iB ?_; simp []; done) | (simp []; done) | (simp []; omega) | omega | rfl)
  · first | with_reducible rfl | exact gl (by first | with_reducible rfl | (refine iF ?_; simp []; done) | (refine iT ?_; simp []; done) | (refine iB ?_; simp []; done) | (simp []; done) | (simp []; omega) | omega | rfl)
end A44

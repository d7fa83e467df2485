section A45
/-! ### a state is made -/
theorem dfv3 (G : aG) : ∀ j, j < 4 → defaultValue (tyC 3 j) = vp_V (([.int 0, .int 0, .int 0, .int 0] : List Value).map (aV G)) j := fun j hj => by
  match j, hj with
  | 0, _ => rfl
  | 1, _ => rfl
  | 2, _ => rfl
  | 3, _ => rfl
theorem dfv2 (G : aG) : ∀ j, j < 6 → defaultValue (tyC 2 j) = vp_V (([.int 0, .int 0, .int 0, .int 0, .int 0, .int 0] : List Value).map (aV G)) j := fun j hj => by
  match j, hj with
  | 0, _ => rfl
  | 1, _ => rfl
  | 2, _ => rfl
  | 3, _ => rfl
  | 4, _ => rfl
  | 5, _ => rfl
theorem dfv5 (G : aG) : ∀ j, j < 12 → defaultValue (tyC 5 j) = vp_V (([.null, .int 0, .null, .null, .null, .int 0, .int 0, .int 0, .int 0, .int 0, .int 0, .int 0] : List Value).map (aV G)) j := fun j hj => by
  match j, hj with
  | 0, _ => rfl
  | 1, _ => rfl
  | 2, _ => rfl
  | 3, _ => rfl
  | 4, _ => rfl
  | 5, _ => rfl
  | 6, _ => rfl
  | 7, _ => rfl
  | 8, _ => rfl
  | 9, _ => rfl
  | 10, _ => rfl
  | 11, _ => rfl
theorem dfv4 (G : aG) : ∀ j, j < 7 → defaultValue (tyC 4 j) = vp_V (([.null, .int 0, .int 0, .int 0, .int 0, .int 0, .int 0] : List Value).map (aV G)) j := fun j hj => by
  match j, hj with
  | 0, _ => rfl
  | 1, _ => rfl
  | 2, _ => rfl
  | 3, _ => rfl
  | 4, _ => rfl
  | 5, _ => rfl
  | 6, _ => rfl
theorem dfv1 (G : aG) : ∀ j, j < 4 → defaultValue (tyC 1 j) = vp_V (([.null, .null, .null, .null] : List Value).map (aV G)) j := fun j hj => by
  match j, hj with
  | 0, _ => rfl
  | 1, _ => rfl
  | 2, _ => rfl
  | 3, _ => rfl
theorem dfv0 (G : aG) : ∀ j, j < 13 → defaultValue (tyC 0 j) = vp_V (([.null, .null, .int 0, .null, .int 0, .null, .null, .null, .null, .null, .null, .null, .null] : List Value).map (aV G)) j := fun j hj => by
  match j, hj with
  | 0, _ => rfl
  | 1, _ => rfl
  | 2, _ => rfl
  | 3, _ => rfl
  | 4, _ => rfl
  | 5, _ => rfl
  | 6, _ => rfl
  | 7, _ => rfl
  | 8, _ => rfl
  | 9, _ => rfl
  | 10, _ => rfl
  | 11, _ => rfl
  | 12, _ => rfl
theorem dfv6 (G : aG) : ∀ j, j < 9 → defaultValue (tyC 6 j) = vp_V (([.null, .null, .null, .null, .null, .int 0, .null, .int 0, .int 0] : List Value).map (aV G)) j := fun j hj => by
  match j, hj with
  | 0, _ => rfl
  | 1, _ => rfl
  | 2, _ => rfl
  | 3, _ => rfl
  | 4, _ => rfl
  | 5, _ => rfl
  | 6, _ => rfl
  | 7, _ => rfl
  | 8, _ => rfl
theorem aH_ext {a b c : Nat} {f g : Nat → aC} (h : ∀ x, f x = g x) : ((a, b, c, f) : aH) = (a, b, c, g) := by rw [funext h]
def keyO : aC := .inr (2, [.int 0, .int 0, .int 0, .int 0, .int 0, .int 0])
def lckO : aC := .inr (3, [.int (-1), .int (-1), .int 0, .int 0])
def staO (b : Nat) : aC := .inr (5, [.ref (b + 1), .int 0, .ref (b + 2), .ref (b + 3), .ref (b + 4), .int 0, .int 0, .int 0, .int 0, .int 0, .int (-1), .int (-1)])
def set0 : Nat → Int32 := upd (upd (upd (upd (fun _ => 0) 0 (nI 2)) 1 (nI 2)) 2 (nI 4)) 3 (nI 1)
def kyF (b k : Nat) : Nat → Option Nat := fun j => if j < k then some (b + 5 + j) else none
def lkF (b q : Nat) : Nat → Option Nat := fun j => if j < q then some (b + 17 + j) else none
/-- the heap while a state is made: so many keys, so many locks -/
def hX5 (f : Nat → aC) (b k q : Nat) : Nat → aC := fun a => if a < b then f a else if a = b then staO b else if a = b + 1 then .inl (12, (12, .inr (.inr (.inr (.inr (kyF b k)))))) else if a = b + 2 then .inl (13, (6, .inr (.inr (.inr (.inr (lkF b q)))))) else if a = b + 3 then .inl (8, (4, .inl (fun _ => 0))) else if a = b + 4 then .inl (8, (4, .inl set0)) else if a < b + 5 + k then keyO else if a < b + 5 + k + q then lckO else f a
def MX5 (us : Nat) (f : Nat → aC) (b k q : Nat) : aH := (b + 5 + k + q, 0, us + 26 + 6 * k + 4 * q, hX5 f b k q)
theorem hX5_b {f : Nat → aC} {b k q : Nat} : hX5 f b k q b = staO b := by
  unfold hX5
  rw [if_neg (by omega), if_pos rfl]
theorem hX5_1 {f : Nat → aC} {b k q : Nat} : hX5 f b k q (b + 1) = .inl (12, (12, .inr (.inr (.inr (.inr (kyF b k)))))) := by
  unfold hX5
  rw [if_neg (by omega), if_neg (by omega), if_pos rfl]
theorem hX5_2 {f : Nat → aC} {b k q : Nat} : hX5 f b k q (b + 2) = .inl (13, (6, .inr (.inr (.inr (.inr (lkF b q)))))) := by
  unfold hX5
  rw [if_neg (by omega), if_neg (by omega), if_neg (by omega), if_pos rfl]
theorem kyF_0 {b : Nat} : kyF b 0 = fun _ => none := funext fun j => if_neg (Nat.not_lt_zero j)
theorem lkF_0 {b : Nat} : lkF b 0 = fun _ => none := funext fun j => if_neg (Nat.not_lt_zero j)
theorem ky_s {b k : Nat} : va_up (kyF b k) k (some (b + 5 + k)) = kyF b (k + 1) := by
  funext j
  unfold va_up kyF
  by_cases h : j = k
  · subst h; rw [if_pos rfl, if_pos (by omega)]
  · rw [if_neg h]
    by_cases h2 : j < k
    · rw [if_pos h2, if_pos (by omega)]
    · rw [if_neg h2, if_neg (by omega)]
theorem lk_s {b q : Nat} : va_up (lkF b q) q (some (b + 17 + q)) = lkF b (q + 1) := by
  funext j
  unfold va_up lkF
  by_cases h : j = q
  · subst h; rw [if_pos rfl, if_pos (by omega)]
  · rw [if_neg h]
    by_cases h2 : j < q
    · rw [if_pos h2, if_pos (by omega)]
    · rw [if_neg h2, if_neg (by omega)]
theorem MX5_k {us : Nat} {f : Nat → aC} {b k : Nat} : aPut (aNew (MX5 us f b k 0) keyO 6) (b + 1) (.inl (12, (12, .inr (.inr (.inr (.inr (va_up (kyF b k) k (some (b + 5 + k))))))))) = MX5 us f b (k + 1) 0 := by
  rw [ky_s]
  unfold aPut aNew MX5
  refine Prod.ext (by show b + 5 + k + 0 + 1 = b + 5 + (k + 1) + 0; omega) (Prod.ext rfl (Prod.ext (by show us + 26 + 6 * k + 4 * 0 + 6 = us + 26 + 6 * (k + 1) + 4 * 0; omega) (funext fun a => ?_)))
  show aUp (aUp (hX5 f b k 0) (b + 5 + k + 0) keyO) (b + 1) _ a = hX5 f b (k + 1) 0 a
  unfold aUp
  by_cases h1 : a = b + 1
  · subst h1; rw [if_pos rfl, hX5_1]
  · rw [if_neg h1]
    by_cases h2 : a = b + 5 + k + 0
    · rw [if_pos h2]
      subst h2
      unfold hX5
      rw [if_neg (by omega), if_neg (by omega), if_neg (by omega), if_neg (by omega), if_neg (by omega), if_neg (by omega), if_pos (by omega)]
    · rw [if_neg h2]
      unfold hX5
      by_cases h3 : a < b
      · rw [if_pos h3, if_pos h3]
      · rw [if_neg h3, if_neg h3]
        by_cases h4 : a < b + 5 + k
        · simp only [if_neg h1, if_pos h4, if_pos (show a < b + 5 + (k + 1) by omega)]
        · simp only [if_neg h1, if_neg (show ¬ a = b by omega), if_neg (show ¬ a = b + 2 by omega), if_neg (show ¬ a = b + 3 by omega), if_neg (show ¬ a = b + 4 by omega), if_neg h4, if_neg (show ¬ a < b + 5 + k + 0 by omega), if_neg (show ¬ a < b + 5 + (k + 1) by omega), if_neg (show ¬ a < b + 5 + (k + 1) + 0 by omega)]
theorem MX5_q {us : Nat} {f : Nat → aC} {b q : Nat} : aPut (aNew (MX5 us f b 12 q) lckO 4) (b + 2) (.inl (13, (6, .inr (.inr (.inr (.inr (va_up (lkF b q) q (some (b + 17 + q))))))))) = MX5 us f b 12 (q + 1) := by
  rw [lk_s]
  unfold aPut aNew MX5
  refine Prod.ext (by show b + 5 + 12 + q + 1 = b + 5 + 12 + (q + 1); omega) (Prod.ext rfl (Prod.ext (by show us + 26 + 6 * 12 + 4 * q + 4 = us + 26 + 6 * 12 + 4 * (q + 1); omega) (funext fun a => ?_)))
  show aUp (aUp (hX5 f b 12 q) (b + 5 + 12 + q) lckO) (b + 2) _ a = hX5 f b 12 (q + 1) a
  unfold aUp
  by_cases h1 : a = b + 2
  · subst h1; rw [if_pos rfl, hX5_2]
  · rw [if_neg h1]
    by_cases h2 : a = b + 5 + 12 + q
    · rw [if_pos h2]
      subst h2
      unfold hX5
      rw [if_neg (by omega), if_neg (by omega), if_neg (by omega), if_neg (by omega), if_neg (by omega), if_neg (by omega), if_neg (by omega), if_pos (by omega)]
    · rw [if_neg h2]
      unfold hX5
      by_cases h3 : a < b
      · rw [if_pos h3, if_pos h3]
      · rw [if_neg h3, if_neg h3]
        by_cases h4 : a < b + 5 + 12 + q
        · simp only [if_neg h1, if_pos h4, if_pos (show a < b + 5 + 12 + (q + 1) by omega)]
        · simp only [if_neg h1, if_neg (show ¬ a = b by omega), if_neg (show ¬ a = b + 1 by omega), if_neg (show ¬ a = b + 3 by omega), if_neg (show ¬ a = b + 4 by omega), if_neg (show ¬ a < b + 5 + 12 by omega), if_neg h4, if_neg (show ¬ a < b + 5 + 12 + (q + 1) by omega)]
set_option maxRecDepth 20000 in
set_option maxHeartbeats 4000000 in
theorem K_X5_init {us b : Nat} {f : Nat → aC} (hb : b + 23 ≤ 204) (hf : f b = .inr (5, [.null, .int 0, .null, .null, .null, .int 0, .int 0, .int 0, .int 0, .int 0, .int 0, .int 0])) : CY yX5_init cX5_init 2 none 2 40 [.ref b] (b + 1, 0, us, f) 22 122 (fun r M' => r = none ∧ M' = MX5 us f b 12 6) := by
  refine CY.of ok_X5_init (Nat.le_of_ble_eq_true rfl) (fun G9 p9 l9 e9 s9 m9 ar9 be9 me9 co9 C hr hin hAO => ?_)
  have ZL91 : ∀ (zd : Nat) (q : Nat), 6 + 1 ≤ q + zd → q ≤ 6 → WA G9 p9 l9 e9 ({ frames := 2, cells := 22, slots := 122, locals := 40 } : Room) s9 m9 ar9 be9 me9 co9 (MQ be9 (aQc G9 (b + 1, 0, us, f) 22 122 (fun r M' => r = none ∧ M' = MX5 us f b 12 6)) ar9 s9 22 122 (aOld G9)) 2 (b + 1) us 91 [some (.ref b), some (.int (nI q))] [] (MX5 us f b 12 q) := by
    intro zd
    induction zd with
    | zero => intro q zm zh; exfalso; omega
    | succ zd zih =>
      intro q zm zh
      refine a_iload_n C dX5_init_91 rfl rfl ?_
      refine a_bipush (v := nI 6) C dX5_init_92 (by decide) ?_
      refine n_icmp_ge (tgt := 116) C dX5_init_94 (by decide) (by omega) (by decide) (fun h_94 => ?_) (fun h_94 => ?_)
      · obtain rfl : q = 6 := by omega
        exact a_vret (M0 := (b + 1, 0, us, f)) C hr dX5_init_116 (show b + 5 + 12 + 6 + 0 = b + 1 + 0 + 22 by omega) (show us + 26 + 6 * 12 + 4 * 6 = us + 122 by omega) ⟨rfl, rfl⟩
      · refine a_aload_n C dX5_init_97 rfl rfl ?_
        refine a_getfF C fX5_19 dX5_init_98 (show b < b + 5 + 12 + q by omega) (show b < 1000 by omega) hX5_b rfl ?_
        refine a_iload_n C dX5_init_101 rfl rfl ?_
        refine a_new (ci := 3) (fs := [.int 0, .int 0, .int 0, .int 0]) C kX5_17 i_127 i_42 rfl (dfv3 G9) dX5_init_102 (show b + 5 + 12 + q < 207 by omega) rfl ⟨show b + 5 + 12 + q + 1 ≤ b + 1 + 22 by omega, show us + 26 + 6 * 12 + 4 * q + 4 ≤ us + 122 by omega⟩ ?_
        refine a_dup C dX5_init_105 rfl ?_
        refine a_callIN C [] (K_X3_init (o := b + 5 + 12 + q) (show b + 5 + 12 + q < b + 5 + 12 + q + 1 by omega) (show b + 5 + 12 + q < 1000 by omega) aNew_at) ok_X3_init C.2.2.2.2.2.1.2.1.2.2.2 i_129 rfl (by decide +kernel) dX5_init_106 rfl (Nat.le_of_ble_eq_true rfl) ⟨by decide, by decide⟩ ⟨show b + 5 + 12 + q + 1 + 0 + 0 ≤ b + 1 + 22 by omega, show us + 26 + 6 * 12 + 4 * q + 4 + 0 ≤ us + 122 by omega⟩ (fun r9 M9 hp9 _ _ => ?_)
        obtain ⟨rfl, rfl⟩ := hp9
        have zM : aPut (aPut (aNew (MX5 us f b 12 q) (.inr (3, [.int 0, .int 0, .int 0, .int 0])) 4) (b + 5 + 12 + q) (.inr (3, [.int (-1), .int 0, .int 0, .int 0]))) (b + 5 + 12 + q) (.inr (3, [.int (-1), .int (-1), .int 0, .int 0])) = aNew (MX5 us f b 12 q) lckO 4 := by
            show ((b + 5 + 12 + q + 1, 0, us + 26 + 6 * 12 + 4 * q + 4, aUp (aUp (aUp (hX5 f b 12 q) (b + 5 + 12 + q) (.inr (3, [.int 0, .int 0, .int 0, .int 0]))) (b + 5 + 12 + q) (.inr (3, [.int (-1), .int 0, .int 0, .int 0]))) (b + 5 + 12 + q) (.inr (3, [.int (-1), .int (-1), .int 0, .int 0]))) : aH) = (b + 5 + 12 + q + 1, 0, us + 26 + 6 * 12 + 4 * q + 4, aUp (hX5 f b 12 q) (b + 5 + 12 + q) lckO)
            refine aH_ext (fun a => ?_)
            unfold aUp
            by_cases h : a = b + 5 + 12 + q
            · rw [if_pos h, if_pos h]; rfl
            · rw [if_neg h, if_neg h, if_neg h, if_neg h]
        refine a_eq rfl rfl zM ?_
        refine a_astqL C dX5_init_109 (a := b + 2) (b := b + 5 + 12 + q) (j := q) (show b + 2 < b + 5 + 12 + q + 1 by omega) (show b + 2 < 1000 by omega) ((aNew_ne (show ¬ b + 2 = b + 5 + 12 + q by omega)).trans hX5_2) (show b + 5 + 12 + q < b + 5 + 12 + q + 1 by omega) (show b + 5 + 12 + q < 1000 by omega) aNew_at rfl h_94 (by decide) ?_
        refine a_eq rfl rfl (show _ = _ from MX5_q) ?_
        refine n_iinc C dX5_init_110 rfl (by decide) ?_
        refine a_goto (tgt := 91) C dX5_init_113 (by decide) ?_
        exact zih (q + 1) (by omega) (by omega)
  have ZL64 : ∀ (zd : Nat) (k : Nat), 12 + 1 ≤ k + zd → k ≤ 12 → WA G9 p9 l9 e9 ({ frames := 2, cells := 22, slots := 122, locals := 40 } : Room) s9 m9 ar9 be9 me9 co9 (MQ be9 (aQc G9 (b + 1, 0, us, f) 22 122 (fun r M' => r = none ∧ M' = MX5 us f b 12 6)) ar9 s9 22 122 (aOld G9)) 2 (b + 1) us 64 [some (.ref b), some (.int (nI k))] [] (MX5 us f b k 0) := by
    intro zd
    induction zd with
    | zero => intro k zm zh; exfalso; omega
    | succ zd zih =>
      intro k zm zh
      refine a_iload_n C dX5_init_64 rfl rfl ?_
      refine a_bipush (v := nI 12) C dX5_init_65 (by decide) ?_
      refine n_icmp_ge (tgt := 89) C dX5_init_67 (by decide) (by omega) (by decide) (fun h_67 => ?_) (fun h_67 => ?_)
      · obtain rfl : k = 12 := by omega
        refine a_iconst (v := nI 0) C dX5_init_89 (by decide) ?_
        refine a_istore_n C dX5_init_90 rfl (by decide) ?_
        exact ZL91 (6 + 1) 0 (by omega) (by omega)
      · refine a_aload_n C dX5_init_70 rfl rfl ?_
        refine a_getfF C fX5_11 dX5_init_71 (show b < b + 5 + k + 0 by omega) (show b < 1000 by omega) hX5_b rfl ?_
        refine a_iload_n C dX5_init_74 rfl rfl ?_
        refine a_new (ci := 2) (fs := [.int 0, .int 0, .int 0, .int 0, .int 0, .int 0]) C kX5_9 i_96 i_41 rfl (dfv2 G9) dX5_init_75 (show b + 5 + k + 0 < 207 by omega) rfl ⟨show b + 5 + k + 0 + 1 ≤ b + 1 + 22 by omega, show us + 26 + 6 * k + 4 * 0 + 6 ≤ us + 122 by omega⟩ ?_
        refine a_dup C dX5_init_78 rfl ?_
        refine a_callIN C [] (K_X2_init (o := b + 5 + k + 0)) ok_X2_init C.2.2.2.2.2.1.2.1.2.2.1 i_98 rfl (by decide +kernel) dX5_init_79 rfl (Nat.le_of_ble_eq_true rfl) ⟨by decide, by decide⟩ ⟨show b + 5 + k + 0 + 1 + 0 + 0 ≤ b + 1 + 22 by omega, show us + 26 + 6 * k + 4 * 0 + 6 + 0 ≤ us + 122 by omega⟩ (fun r9 M9 hp9 _ _ => ?_)
        obtain ⟨rfl, rfl⟩ := hp9
        refine a_astqK C dX5_init_82 (a := b + 1) (b := b + 5 + k) (j := k) (show b + 1 < b + 5 + k + 0 + 1 by omega) (show b + 1 < 1000 by omega) ((aNew_ne (show ¬ b + 1 = b + 5 + k + 0 by omega)).trans hX5_1) (show b + 5 + k < b + 5 + k + 0 + 1 by omega) (show b + 5 + k < 1000 by omega) aNew_at rfl h_67 (by decide) ?_
        refine a_eq rfl rfl (show _ = _ from MX5_k) ?_
        refine n_iinc C dX5_init_83 rfl (by decide) ?_
        refine a_goto (tgt := 64) C dX5_init_86 (by decide) ?_
        exact zih (k + 1) (by omega) (by omega)
  refine a_pad 1 ?_
  refine a_eq (L' := [some (.ref b), none]) rfl rfl rfl ?_
  refine a_aload_n C dX5_init_0 rfl rfl ?_
  refine a_objI C oI_X5 jo_2 jo_3 dX5_init_1 ⟨by decide, by decide⟩ ?_
  refine a_aload_n C dX5_init_4 rfl rfl ?_
  refine a_bipush (v := nI 12) C dX5_init_5 (by decide) ?_
  refine a_newqK C hAO.1 kX5_9 dX5_init_7 (N := 12) rfl (by decide) (show b + 1 < 207 by omega) rfl ⟨show b + 1 + 1 ≤ b + 1 + 22 by omega, show us + 12 ≤ us + 122 by omega⟩ ?_
  refine a_eq (st' := [.ref (b + 1), .ref b]) rfl rfl rfl ?_
  refine a_putF C fX5_11 hin (fun _ _ _ h => by cases h; rfl) dX5_init_10 (show b < b + 2 by omega) (show b < 1000 by omega) (((aNew_ne (show ¬ b = b + 1 by omega)).trans hf)) rfl rfl (Nat.le_of_ble_eq_true rfl) ?_
  refine a_eq (M' := (aPut (aNew (b + 1, 0, us, f) (.inl (12, (12, .inr (.inr (.inr (.inr (fun _ => none))))))) 12) b (.inr (5, [.ref (b + 1), .int 0, .null, .null, .null, .int 0, .int 0, .int 0, .int 0, .int 0, .int 0, .int 0])))) rfl rfl rfl ?_
  refine a_aload_n C dX5_init_13 rfl rfl ?_
  refine a_bipush (v := nI 6) C dX5_init_14 (by decide) ?_
  refine a_newqL C hAO.2.1 kX5_17 dX5_init_16 (N := 6) rfl (by decide) (show b + 2 < 207 by omega) rfl ⟨show b + 2 + 1 ≤ b + 1 + 22 by omega, show us + 12 + 6 ≤ us + 122 by omega⟩ ?_
  refine a_eq (st' := [.ref (b + 2), .ref b]) rfl rfl rfl ?_
  refine a_putF C fX5_19 hin (fun _ _ _ h => by cases h; rfl) dX5_init_19 (show b < b + 3 by omega) (show b < 1000 by omega) (((aNew_ne (show ¬ b = b + 2 by omega)).trans aPut_at)) rfl rfl (Nat.le_of_ble_eq_true rfl) ?_
  refine a_eq (M' := (aPut (aNew (aPut (aNew (b + 1, 0, us, f) (.inl (12, (12, .inr (.inr (.inr (.inr (fun _ => none))))))) 12) b (.inr (5, [.ref (b + 1), .int 0, .null, .null, .null, .int 0, .int 0, .int 0, .int 0, .int 0, .int 0, .int 0]))) (.inl (13, (6, .inr (.inr (.inr (.inr (fun _ => none))))))) 6) b (.inr (5, [.ref (b + 1), .int 0, .ref (b + 2), .null, .null, .int 0, .int 0, .int 0, .int 0, .int 0, .int 0, .int 0])))) rfl rfl rfl ?_
  refine a_aload_n C dX5_init_22 rfl rfl ?_
  refine a_iconst (v := nI 4) C dX5_init_23 (by decide) ?_
  refine a_newaI C dX5_init_24 (N := 4) rfl (by decide) (show b + 3 < 207 by omega) rfl ⟨show b + 3 + 1 ≤ b + 1 + 22 by omega, show us + 12 + 6 + 4 ≤ us + 122 by omega⟩ ?_
  refine a_eq (st' := [.ref (b + 3), .ref b]) rfl rfl rfl ?_
  refine a_putF C fX5_23 hin (fun _ _ _ h => by cases h; rfl) dX5_init_26 (show b < b + 4 by omega) (show b < 1000 by omega) (((aNew_ne (show ¬ b = b + 3 by omega)).trans aPut_at)) rfl rfl (Nat.le_of_ble_eq_true rfl) ?_
  refine a_eq (M' := (aPut (aNew (aPut (aNew (aPut (aNew (b + 1, 0, us, f) (.inl (12, (12, .inr (.inr (.inr (.inr (fun _ => none))))))) 12) b (.inr (5, [.ref (b + 1), .int 0, .null, .null, .null, .int 0, .int 0, .int 0, .int 0, .int 0, .int 0, .int 0]))) (.inl (13, (6, .inr (.inr (.inr (.inr (fun _ => none))))))) 6) b (.inr (5, [.ref (b + 1), .int 0, .ref (b + 2), .null, .null, .int 0, .int 0, .int 0, .int 0, .int 0, .int 0, .int 0]))) (.inl (8, (4, .inl (fun _ => 0)))) 4) b (.inr (5, [.ref (b + 1), .int 0, .ref (b + 2), .ref (b + 3), .null, .int 0, .int 0, .int 0, .int 0, .int 0, .int 0, .int 0])))) rfl rfl rfl ?_
  refine a_aload_n C dX5_init_29 rfl rfl ?_
  refine a_iconst (v := nI 4) C dX5_init_30 (by decide) ?_
  refine a_newaI C dX5_init_31 (N := 4) rfl (by decide) (show b + 4 < 207 by omega) rfl ⟨show b + 4 + 1 ≤ b + 1 + 22 by omega, show us + 12 + 6 + 4 + 4 ≤ us + 122 by omega⟩ ?_
  refine a_eq (st' := [.ref (b + 4), .ref b]) rfl rfl rfl ?_
  refine a_dup C dX5_init_33 rfl ?_
  refine a_iconst (v := nI 0) C dX5_init_34 (by decide) ?_
  refine a_iconst (v := nI 2) C dX5_init_35 (by decide) ?_
  refine a_iast C dX5_init_36 (a := b + 4) (j := 0) (show b + 4 < b + 5 by omega) (show b + 4 < 1000 by omega) aNew_at rfl (by decide) (by decide) ?_
  refine a_eq (M' := (aPut (aNew (aPut (aNew (aPut (aNew (aPut (aNew (b + 1, 0, us, f) (.inl (12, (12, .inr (.inr (.inr (.inr (fun _ => none))))))) 12) b (.inr (5, [.ref (b + 1), .int 0, .null, .null, .null, .int 0, .int 0, .int 0, .int 0, .int 0, .int 0, .int 0]))) (.inl (13, (6, .inr (.inr (.inr (.inr (fun _ => none))))))) 6) b (.inr (5, [.ref (b + 1), .int 0, .ref (b + 2), .null, .null, .int 0, .int 0, .int 0, .int 0, .int 0, .int 0, .int 0]))) (.inl (8, (4, .inl (fun _ => 0)))) 4) b (.inr (5, [.ref (b + 1), .int 0, .ref (b + 2), .ref (b + 3), .null, .int 0, .int 0, .int 0, .int 0, .int 0, .int 0, .int 0]))) (.inl (8, (4, .inl (fun _ => 0)))) 4) (b + 4) (.inl (8, (4, .inl (upd (fun _ => 0) 0 (nI 2))))))) rfl rfl rfl ?_
  refine a_dup C dX5_init_37 rfl ?_
  refine a_iconst (v := nI 1) C dX5_init_38 (by decide) ?_
  refine a_iconst (v := nI 2) C dX5_init_39 (by decide) ?_
  refine a_iast C dX5_init_40 (a := b + 4) (j := 1) (show b + 4 < b + 5 by omega) (show b + 4 < 1000 by omega) aPut_at rfl (by decide) (by decide) ?_
  refine a_eq (M' := (aPut (aPut (aNew (aPut (aNew (aPut (aNew (aPut (aNew (b + 1, 0, us, f) (.inl (12, (12, .inr (.inr (.inr (.inr (fun _ => none))))))) 12) b (.inr (5, [.ref (b + 1), .int 0, .null, .null, .null, .int 0, .int 0, .int 0, .int 0, .int 0, .int 0, .int 0]))) (.inl (13, (6, .inr (.inr (.inr (.inr (fun _ => none))))))) 6) b (.inr (5, [.ref (b + 1), .int 0, .ref (b + 2), .null, .null, .int 0, .int 0, .int 0, .int 0, .int 0, .int 0, .int 0]))) (.inl (8, (4, .inl (fun _ => 0)))) 4) b (.inr (5, [.ref (b + 1), .int 0, .ref (b + 2), .ref (b + 3), .null, .int 0, .int 0, .int 0, .int 0, .int 0, .int 0, .int 0]))) (.inl (8, (4, .inl (fun _ => 0)))) 4) (b + 4) (.inl (8, (4, .inl (upd (fun _ => 0) 0 (nI 2)))))) (b + 4) (.inl (8, (4, .inl (upd (upd (fun _ => 0) 0 (nI 2)) 1 (nI 2))))))) rfl rfl rfl ?_
  refine a_dup C dX5_init_41 rfl ?_
  refine a_iconst (v := nI 2) C dX5_init_42 (by decide) ?_
  refine a_iconst (v := nI 4) C dX5_init_43 (by decide) ?_
  refine a_iast C dX5_init_44 (a := b + 4) (j := 2) (show b + 4 < b + 5 by omega) (show b + 4 < 1000 by omega) aPut_at rfl (by decide) (by decide) ?_
  refine a_eq (M' := (aPut (aPut (aPut (aNew (aPut (aNew (aPut (aNew (aPut (aNew (b + 1, 0, us, f) (.inl (12, (12, .inr (.inr (.inr (.inr (fun _ => none))))))) 12) b (.inr (5, [.ref (b + 1), .int 0, .null, .null, .null, .int 0, .int 0, .int 0, .int 0, .int 0, .int 0, .int 0]))) (.inl (13, (6, .inr (.inr (.inr (.inr (fun _ => none))))))) 6) b (.inr (5, [.ref (b + 1), .int 0, .ref (b + 2), .null, .null, .int 0, .int 0, .int 0, .int 0, .int 0, .int 0, .int 0]))) (.inl (8, (4, .inl (fun _ => 0)))) 4) b (.inr (5, [.ref (b + 1), .int 0, .ref (b + 2), .ref (b + 3), .null, .int 0, .int 0, .int 0, .int 0, .int 0, .int 0, .int 0]))) (.inl (8, (4, .inl (fun _ => 0)))) 4) (b + 4) (.inl (8, (4, .inl (upd (fun _ => 0) 0 (nI 2)))))) (b + 4) (.inl (8, (4, .inl (upd (upd (fun _ => 0) 0 (nI 2)) 1 (nI 2)))))) (b + 4) (.inl (8, (4, .inl (upd (upd (upd (fun _ => 0) 0 (nI 2)) 1 (nI 2)) 2 (nI 4))))))) rfl rfl rfl ?_
  refine a_dup C dX5_init_45 rfl ?_
  refine a_iconst (v := nI 3) C dX5_init_46 (by decide) ?_
  refine a_iconst (v := nI 1) C dX5_init_47 (by decide) ?_
  refine a_iast C dX5_init_48 (a := b + 4) (j := 3) (show b + 4 < b + 5 by omega) (show b + 4 < 1000 by omega) aPut_at rfl (by decide) (by decide) ?_
  refine a_eq (M' := (aPut (aPut (aPut (aPut (aNew (aPut (aNew (aPut (aNew (aPut (aNew (b + 1, 0, us, f) (.inl (12, (12, .inr (.inr (.inr (.inr (fun _ => none))))))) 12) b (.inr (5, [.ref (b + 1), .int 0, .null, .null, .null, .int 0, .int 0, .int 0, .int 0, .int 0, .int 0, .int 0]))) (.inl (13, (6, .inr (.inr (.inr (.inr (fun _ => none))))))) 6) b (.inr (5, [.ref (b + 1), .int 0, .ref (b + 2), .null, .null, .int 0, .int 0, .int 0, .int 0, .int 0, .int 0, .int 0]))) (.inl (8, (4, .inl (fun _ => 0)))) 4) b (.inr (5, [.ref (b + 1), .int 0, .ref (b + 2), .ref (b + 3), .null, .int 0, .int 0, .int 0, .int 0, .int 0, .int 0, .int 0]))) (.inl (8, (4, .inl (fun _ => 0)))) 4) (b + 4) (.inl (8, (4, .inl (upd (fun _ => 0) 0 (nI 2)))))) (b + 4) (.inl (8, (4, .inl (upd (upd (fun _ => 0) 0 (nI 2)) 1 (nI 2)))))) (b + 4) (.inl (8, (4, .inl (upd (upd (upd (fun _ => 0) 0 (nI 2)) 1 (nI 2)) 2 (nI 4)))))) (b + 4) (.inl (8, (4, .inl (upd (upd (upd (upd (fun _ => 0) 0 (nI 2)) 1 (nI 2)) 2 (nI 4)) 3 (nI 1))))))) rfl rfl rfl ?_
  refine a_putF C fX5_27 hin (fun _ _ _ h => by cases h; rfl) dX5_init_49 (show b < b + 5 by omega) (show b < 1000 by omega) (((aPut_ne (show ¬ b = b + 4 by omega)).trans ((aPut_ne (show ¬ b = b + 4 by omega)).trans ((aPut_ne (show ¬ b = b + 4 by omega)).trans ((aPut_ne (show ¬ b = b + 4 by omega)).trans ((aNew_ne (show ¬ b = b + 4 by omega)).trans aPut_at)))))) rfl rfl (Nat.le_of_ble_eq_true rfl) ?_
  refine a_eq (M' := (aPut (aPut (aPut (aPut (aPut (aNew (aPut (aNew (aPut (aNew (aPut (aNew (b + 1, 0, us, f) (.inl (12, (12, .inr (.inr (.inr (.inr (fun _ => none))))))) 12) b (.inr (5, [.ref (b + 1), .int 0, .null, .null, .null, .int 0, .int 0, .int 0, .int 0, .int 0, .int 0, .int 0]))) (.inl (13, (6, .inr (.inr (.inr (.inr (fun _ => none))))))) 6) b (.inr (5, [.ref (b + 1), .int 0, .ref (b + 2), .null, .null, .int 0, .int 0, .int 0, .int 0, .int 0, .int 0, .int 0]))) (.inl (8, (4, .inl (fun _ => 0)))) 4) b (.inr (5, [.ref (b + 1), .int 0, .ref (b + 2), .ref (b + 3), .null, .int 0, .int 0, .int 0, .int 0, .int 0, .int 0, .int 0]))) (.inl (8, (4, .inl (fun _ => 0)))) 4) (b + 4) (.inl (8, (4, .inl (upd (fun _ => 0) 0 (nI 2)))))) (b + 4) (.inl (8, (4, .inl (upd (upd (fun _ => 0) 0 (nI 2)) 1 (nI 2)))))) (b + 4) (.inl (8, (4, .inl (upd (upd (upd (fun _ => 0) 0 (nI 2)) 1 (nI 2)) 2 (nI 4)))))) (b + 4) (.inl (8, (4, .inl (upd (upd (upd (upd (fun _ => 0) 0 (nI 2)) 1 (nI 2)) 2 (nI 4)) 3 (nI 1)))))) b (.inr (5, [.ref (b + 1), .int 0, .ref (b + 2), .ref (b + 3), .ref (b + 4), .int 0, .int 0, .int 0, .int 0, .int 0, .int 0, .int 0])))) rfl rfl rfl ?_
  refine a_aload_n C dX5_init_52 rfl rfl ?_
  refine a_iconst (v := (-1)) C dX5_init_53 (by decide) ?_
  refine a_putf C fX5_30 dX5_init_54 (show b < b + 5 by omega) (show b < 1000 by omega) (aPut_at) rfl rfl (Nat.le_of_ble_eq_true rfl) ?_
  refine a_eq (M' := (aPut (aPut (aPut (aPut (aPut (aPut (aNew (aPut (aNew (aPut (aNew (aPut (aNew (b + 1, 0, us, f) (.inl (12, (12, .inr (.inr (.inr (.inr (fun _ => none))))))) 12) b (.inr (5, [.ref (b + 1), .int 0, .null, .null, .null, .int 0, .int 0, .int 0, .int 0, .int 0, .int 0, .int 0]))) (.inl (13, (6, .inr (.inr (.inr (.inr (fun _ => none))))))) 6) b (.inr (5, [.ref (b + 1), .int 0, .ref (b + 2), .null, .null, .int 0, .int 0, .int 0, .int 0, .int 0, .int 0, .int 0]))) (.inl (8, (4, .inl (fun _ => 0)))) 4) b (.inr (5, [.ref (b + 1), .int 0, .ref (b + 2), .ref (b + 3), .null, .int 0, .int 0, .int 0, .int 0, .int 0, .int 0, .int 0]))) (.inl (8, (4, .inl (fun _ => 0)))) 4) (b + 4) (.inl (8, (4, .inl (upd (fun _ => 0) 0 (nI 2)))))) (b + 4) (.inl (8, (4, .inl (upd (upd (fun _ => 0) 0 (nI 2)) 1 (nI 2)))))) (b + 4) (.inl (8, (4, .inl (upd (upd (upd (fun _ => 0) 0 (nI 2)) 1 (nI 2)) 2 (nI 4)))))) (b + 4) (.inl (8, (4, .inl (upd (upd (upd (upd (fun _ => 0) 0 (nI 2)) 1 (nI 2)) 2 (nI 4)) 3 (nI 1)))))) b (.inr (5, [.ref (b + 1), .int 0, .ref (b + 2), .ref (b + 3), .ref (b + 4), .int 0, .int 0, .int 0, .int 0, .int 0, .int 0, .int 0]))) b (.inr (5, [.ref (b + 1), .int 0, .ref (b + 2), .ref (b + 3), .ref (b + 4), .int 0, .int 0, .int 0, .int 0, .int 0, .int (-1), .int 0])))) rfl rfl rfl ?_
  refine a_aload_n C dX5_init_57 rfl rfl ?_
  refine a_iconst (v := (-1)) C dX5_init_58 (by decide) ?_
  refine a_putf C fX5_34 dX5_init_59 (show b < b + 5 by omega) (show b < 1000 by omega) (aPut_at) rfl rfl (Nat.le_of_ble_eq_true rfl) ?_
  refine a_eq (M' := (aPut (aPut (aPut (aPut (aPut (aPut (aPut (aNew (aPut (aNew (aPut (aNew (aPut (aNew (b + 1, 0, us, f) (.inl (12, (12, .inr (.inr (.inr (.inr (fun _ => none))))))) 12) b (.inr (5, [.ref (b + 1), .int 0, .null, .null, .null, .int 0, .int 0, .int 0, .int 0, .int 0, .int 0, .int 0]))) (.inl (13, (6, .inr (.inr (.inr (.inr (fun _ => none))))))) 6) b (.inr (5, [.ref (b + 1), .int 0, .ref (b + 2), .null, .null, .int 0, .int 0, .int 0, .int 0, .int 0, .int 0, .int 0]))) (.inl (8, (4, .inl (fun _ => 0)))) 4) b (.inr (5, [.ref (b + 1), .int 0, .ref (b + 2), .ref (b + 3), .null, .int 0, .int 0, .int 0, .int 0, .int 0, .int 0, .int 0]))) (.inl (8, (4, .inl (fun _ => 0)))) 4) (b + 4) (.inl (8, (4, .inl (upd (fun _ => 0) 0 (nI 2)))))) (b + 4) (.inl (8, (4, .inl (upd (upd (fun _ => 0) 0 (nI 2)) 1 (nI 2)))))) (b + 4) (.inl (8, (4, .inl (upd (upd (upd (fun _ => 0) 0 (nI 2)) 1 (nI 2)) 2 (nI 4)))))) (b + 4) (.inl (8, (4, .inl (upd (upd (upd (upd (fun _ => 0) 0 (nI 2)) 1 (nI 2)) 2 (nI 4)) 3 (nI 1)))))) b (.inr (5, [.ref (b + 1), .int 0, .ref (b + 2), .ref (b + 3), .ref (b + 4), .int 0, .int 0, .int 0, .int 0, .int 0, .int 0, .int 0]))) b (.inr (5, [.ref (b + 1), .int 0, .ref (b + 2), .ref (b + 3), .ref (b + 4), .int 0, .int 0, .int 0, .int 0, .int 0, .int (-1), .int 0]))) b (.inr (5, [.ref (b + 1), .int 0, .ref (b + 2), .ref (b + 3), .ref (b + 4), .int 0, .int 0, .int 0, .int 0, .int 0, .int (-1), .int (-1)])))) rfl rfl rfl ?_
  refine a_iconst (v := nI 0) C dX5_init_62 (by decide) ?_
  refine a_istore_n C dX5_init_63 rfl (by decide) ?_
  have zM0 : (aPut (aPut (aPut (aPut (aPut (aPut (aPut (aNew (aPut (aNew (aPut (aNew (aPut (aNew (b + 1, 0, us, f) (.inl (12, (12, .inr (.inr (.inr (.inr (fun _ => none))))))) 12) b (.inr (5, [.ref (b + 1), .int 0, .null, .null, .null, .int 0, .int 0, .int 0, .int 0, .int 0, .int 0, .int 0]))) (.inl (13, (6, .inr (.inr (.inr (.inr (fun _ => none))))))) 6) b (.inr (5, [.ref (b + 1), .int 0, .ref (b + 2), .null, .null, .int 0, .int 0, .int 0, .int 0, .int 0, .int 0, .int 0]))) (.inl (8, (4, .inl (fun _ => 0)))) 4) b (.inr (5, [.ref (b + 1), .int 0, .ref (b + 2), .ref (b + 3), .null, .int 0, .int 0, .int 0, .int 0, .int 0, .int 0, .int 0]))) (.inl (8, (4, .inl (fun _ => 0)))) 4) (b + 4) (.inl (8, (4, .inl (upd (fun _ => 0) 0 (nI 2)))))) (b + 4) (.inl (8, (4, .inl (upd (upd (fun _ => 0) 0 (nI 2)) 1 (nI 2)))))) (b + 4) (.inl (8, (4, .inl (upd (upd (upd (fun _ => 0) 0 (nI 2)) 1 (nI 2)) 2 (nI 4)))))) (b + 4) (.inl (8, (4, .inl (upd (upd (upd (upd (fun _ => 0) 0 (nI 2)) 1 (nI 2)) 2 (nI 4)) 3 (nI 1)))))) b (.inr (5, [.ref (b + 1), .int 0, .ref (b + 2), .ref (b + 3), .ref (b + 4), .int 0, .int 0, .int 0, .int 0, .int 0, .int 0, .int 0]))) b (.inr (5, [.ref (b + 1), .int 0, .ref (b + 2), .ref (b + 3), .ref (b + 4), .int 0, .int 0, .int 0, .int 0, .int 0, .int (-1), .int 0]))) b (.inr (5, [.ref (b + 1), .int 0, .ref (b + 2), .ref (b + 3), .ref (b + 4), .int 0, .int 0, .int 0, .int 0, .int 0, .int (-1), .int (-1)]))) = MX5 us f b 0 0 := by
    unfold aPut aNew MX5
    refine Prod.ext (show b + 5 = b + 5 from rfl) (Prod.ext (show (0 : Nat) = 0 from rfl) (Prod.ext (by show us + 12 + 6 + 4 + 4 = us + 26 + 6 * 0 + 4 * 0; omega) (funext fun a => ?_)))
    show _ = hX5 f b 0 0 a
    unfold hX5
    simp only [aUp]
    by_cases h0 : a = b
    · subst h0; simp [staO]
    · by_cases h1 : a = b + 1
      · subst h1; simp [kyF_0, show ¬ b + 1 < b by omega]
      · by_cases h2 : a = b + 2
        · subst h2; simp [lkF_0, show ¬ b + 2 < b by omega]
        · by_cases h3 : a = b + 3
          · subst h3; simp [show ¬ b + 3 < b by omega]
          · by_cases h4 : a = b + 4
            · subst h4; simp [set0, show ¬ b + 4 < b by omega]
            · simp only [h0, if_neg h1, if_neg h2, if_neg h3, if_neg h4, if_false, ite_self]
              by_cases h5 : a < b
              · rw [if_pos h5]
              · rw [if_neg h5]
                have h6 : ¬ a < b + 5 + 0 := by omega
                have h7 : ¬ a < b + 5 + 0 + 0 := by omega
                rw [if_neg h6, if_neg h7]
  refine a_eq rfl rfl zM0 ?_
  exact ZL64 (12 + 1) 0 (by omega) (by omega)
end A45

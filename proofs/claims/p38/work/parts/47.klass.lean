section A47
/-! ### the class is made -/
section
variable {G : aG} {p : Program} {l : Launch} {e : Env} {R : Room} {s : State} {m : MethodId} {args : Array Value} {below : List Frame} {meth : Method} {c : Code} {Q : State → Prop} {n k0 u0 pc : Nat} {cc : ByteArray} {own : String} {L : aL} {st : List Value}
theorem a_up {N z u a : Nat} {f1 : Nat → aC} {x : aC} (k : ∀ f2 : Nat → aC, f2 a = x → (∀ b, ¬ b = a → f2 b = f1 b) → WA G p l e R s m args below meth c Q n k0 u0 pc L st (N, z, u, f2)) : WA G p l e R s m args below meth c Q n k0 u0 pc L st (aPut (N, z, u, f1) a x) :=
  k (aUp f1 a x) (if_pos rfl) (fun _ h => if_neg h)
theorem a_nw {N z u sl : Nat} {f1 : Nat → aC} {x : aC} (k : ∀ f2 : Nat → aC, f2 N = x → (∀ b, ¬ b = N → f2 b = f1 b) → WA G p l e R s m args below meth c Q n k0 u0 pc L st (N + 1, z, u + sl, f2)) : WA G p l e R s m args below meth c Q n k0 u0 pc L st (aNew (N, z, u, f1) x sl) :=
  k (aUp f1 N x) (if_pos rfl) (fun _ h => if_neg h)
end
def stH (b : Nat) : Nat → aC := hX5 (fun _ => keyO) b 12 6
theorem hX5_lo {f : Nat → aC} {b a : Nat} (h : a < b) : hX5 f b 12 6 a = f a := by
  unfold hX5
  rw [if_pos h]
theorem hX5_st {f : Nat → aC} {b x : Nat} (h : x < 23) : hX5 f b 12 6 (b + x) = stH b (b + x) := by
  unfold stH hX5
  have hz : ¬ b + x < b := by omega
  rw [if_neg hz, if_neg hz]
  by_cases h0 : b + x = b
  · rw [if_pos h0, if_pos h0]
  · rw [if_neg h0, if_neg h0]
    by_cases h1 : b + x = b + 1
    · rw [if_pos h1, if_pos h1]
    · rw [if_neg h1, if_neg h1]
      by_cases h2 : b + x = b + 2
      · rw [if_pos h2, if_pos h2]
      · rw [if_neg h2, if_neg h2]
        by_cases h3 : b + x = b + 3
        · rw [if_pos h3, if_pos h3]
        · rw [if_neg h3, if_neg h3]
          by_cases h4 : b + x = b + 4
          · rw [if_pos h4, if_pos h4]
          · rw [if_neg h4, if_neg h4]
            by_cases h5 : b + x < b + 5 + 12
            · rw [if_pos h5, if_pos h5]
            · rw [if_neg h5, if_neg h5, if_pos (by omega), if_pos (by omega)]
def svF (i : Nat) : Nat → Option Nat := fun j => if j < i then some (66 + 23 * j) else none
theorem svF_0 : (fun _ => none) = svF 0 := funext fun j => (if_neg (Nat.not_lt_zero j)).symm
theorem svF_s {i : Nat} : va_up (svF i) i (some (66 + 23 * i)) = svF (i + 1) := by
  funext j
  unfold va_up svF
  by_cases h : j = i
  · subst h; rw [if_pos rfl, if_pos (by omega)]
  · rw [if_neg h]
    by_cases h2 : j < i
    · rw [if_pos h2, if_pos (by omega)]
    · rw [if_neg h2, if_neg (by omega)]
def isA (F : Nat → aC) (a k N : Nat) : Prop := F a = .inl (k, (N, .inl (fun _ => 0)))
/-- the heap behind the class's constructor -/
def Md6 (F : Nat → aC) : Prop := F 0 = .inr (6, [.ref 50, .ref 55, .ref 1, .ref 3, .ref 26, .int 0, .ref 49, .int 5, .int 0]) ∧ F 1 = .inr (4, [.ref 2, .int 0, .int 0, .int 0, .int 0, .int 0, .int 0]) ∧ F 2 = .inl (10, (60, .inl (fun _ => 0))) ∧ (∀ x, x < 23 → F (3 + x) = stH 3 (3 + x)) ∧ (∀ x, x < 23 → F (26 + x) = stH 26 (26 + x)) ∧ F 50 = .inr (1, [.ref 51, .ref 52, .ref 53, .ref 54]) ∧ (∃ g1 g2 g3 g4 : Nat → Int32, F 51 = .inl (8, (81, .inl g1)) ∧ F 52 = .inl (8, (81, .inl g2)) ∧ F 53 = .inl (8, (81, .inl g3)) ∧ F 54 = .inl (8, (81, .inl g4)) ∧ ∀ j, j < 81 → g1 j = nI (mkN j) ∧ g2 j = nI (lvN j) ∧ g3 j = nI (spN j) ∧ g4 j = nI (woN j)) ∧ F 55 = .inr (0, [.ref 50, .ref 56, .int 0, .ref 57, .int 0, .ref 58, .ref 59, .ref 60, .ref 61, .ref 62, .ref 63, .ref 64, .ref 65]) ∧ F 56 = .inl (9, (81, .inl (fun _ => 0))) ∧ F 57 = .inl (8, (81, .inl (fun _ => 0))) ∧ F 58 = .inl (8, (81, .inl (fun _ => 0))) ∧ F 59 = .inl (8, (81, .inl (fun _ => 0))) ∧ F 60 = .inl (8, (81, .inl (fun _ => 0))) ∧ F 61 = .inl (8, (81, .inl (fun _ => 0))) ∧ F 62 = .inl (8, (81, .inl (fun _ => 0))) ∧ F 63 = .inl (9, (81, .inl (fun _ => 0))) ∧ F 64 = .inl (9, (81, .inl (fun _ => 0))) ∧ F 65 = .inl (8, (81, .inl (fun _ => 0)))
theorem Md6.to {F F2 : Nat → aC} (h : Md6 F) (e : ∀ a, a < 66 → ¬ a = 49 → F2 a = F a) : Md6 F2 := by
  unfold Md6
  rw [e 0 (by decide) (by decide), e 1 (by decide) (by decide), e 2 (by decide) (by decide), e 50 (by decide) (by decide), e 51 (by decide) (by decide), e 52 (by decide) (by decide), e 53 (by decide) (by decide), e 54 (by decide) (by decide), e 55 (by decide) (by decide), e 56 (by decide) (by decide), e 57 (by decide) (by decide), e 58 (by decide) (by decide), e 59 (by decide) (by decide), e 60 (by decide) (by decide), e 61 (by decide) (by decide), e 62 (by decide) (by decide), e 63 (by decide) (by decide), e 64 (by decide) (by decide), e 65 (by decide) (by decide)]
  exact ⟨h.1, h.2.1, h.2.2.1, fun x hx => (e (3 + x) (by omega) (by omega)).trans (h.2.2.2.1 x hx), fun x hx => (e (26 + x) (by omega) (by omega)).trans (h.2.2.2.2.1 x hx), h.2.2.2.2.2⟩
set_option maxRecDepth 20000 in
set_option maxHeartbeats 4000000 in
theorem K_X6_init {us : Nat} {f : Nat → aC} (hf : f 0 = .inr (6, [.null, .null, .null, .null, .null, .int 0, .null, .int 0, .int 0])) : CY yX6_init cX6_init 2 none 3 67 [.ref 0] (1, 0, us, f) 203 2296 (fun r M' => r = none ∧ ∃ F : Nat → aC, M' = (204, 0, us + 2296, F) ∧ Md6 F ∧ F 49 = .inl (14, (6, .inr (.inr (.inr (.inr (svF 6)))))) ∧ ∀ q, q < 6 → ∀ x, x < 23 → F (66 + 23 * q + x) = stH (66 + 23 * q) (66 + 23 * q + x)) := by
  refine CY.of ok_X6_init (Nat.le_of_ble_eq_true rfl) (fun G9 p9 l9 e9 s9 m9 ar9 be9 me9 co9 C hr hin hAO => ?_)
  have ZL79 : ∀ (zd : Nat) (i : Nat) (f9 : Nat → aC), 6 + 1 ≤ i + zd → i ≤ 6 → Md6 f9 → f9 49 = .inl (14, (6, .inr (.inr (.inr (.inr (svF i)))))) → (∀ q, q < i → ∀ x, x < 23 → f9 (66 + 23 * q + x) = stH (66 + 23 * q) (66 + 23 * q + x)) → WA G9 p9 l9 e9 ({ frames := 3, cells := 203, slots := 2296, locals := 67 } : Room) s9 m9 ar9 be9 me9 co9 (MQ be9 (aQc G9 (1, 0, us, f) 203 2296 (fun r M' => r = none ∧ ∃ F : Nat → aC, M' = (204, 0, us + 2296, F) ∧ Md6 F ∧ F 49 = .inl (14, (6, .inr (.inr (.inr (.inr (svF 6)))))) ∧ ∀ q, q < 6 → ∀ x, x < 23 → F (66 + 23 * q + x) = stH (66 + 23 * q) (66 + 23 * q + x))) ar9 s9 203 2296 (aOld G9)) 2 1 us 79 [some (.ref 0), some (.int (nI i))] [] (66 + 23 * i, 0, us + 1492 + 134 * i, f9) := by
    intro zd
    induction zd with
    | zero => intro i f9 zm zh; exfalso; omega
    | succ zd zih =>
      intro i f9 zm zh zh_m zh_v zh_q
      refine a_iload_n C dX6_init_79 rfl rfl ?_
      refine a_bipush (v := nI 6) C dX6_init_80 (by decide) ?_
      refine n_icmp_ge (tgt := 104) C dX6_init_82 (by decide) (by omega) (by decide) (fun h_82 => ?_) (fun h_82 => ?_)
      · obtain rfl : i = 6 := by omega
        exact a_vret (M0 := (1, 0, us, f)) C hr dX6_init_104 (show 66 + 23 * 6 + 0 = 1 + 0 + 203 by omega) (show us + 1492 + 134 * 6 = us + 2296 by omega) ⟨rfl, f9, by rw [show 66 + 23 * 6 = 204 by omega, show us + 1492 + 134 * 6 = us + 2296 by omega], zh_m, zh_v, zh_q⟩
      · refine a_aload_n C dX6_init_85 rfl rfl ?_
        refine a_getfF C fX6_26 dX6_init_86 (show 0 < 66 + 23 * i by omega) (by decide) zh_m.1 rfl ?_
        refine a_iload_n C dX6_init_89 rfl rfl ?_
        refine a_new (ci := 5) (fs := [.null, .int 0, .null, .null, .null, .int 0, .int 0, .int 0, .int 0, .int 0, .int 0, .int 0]) C kX6_16 i_87 i_40 rfl (dfv5 G9) dX6_init_90 (show 66 + 23 * i < 207 by omega) rfl ⟨show 66 + 23 * i + 1 ≤ 1 + 203 by omega, show us + 1492 + 134 * i + 12 ≤ us + 2296 by omega⟩ ?_
        refine a_nw (fun f10 zp_1 zp_2 => ?_)
        refine a_dup C dX6_init_93 rfl ?_
        refine a_callIX C hAO [] (K_X5_init (b := 66 + 23 * i) (f := f10) (show 66 + 23 * i + 23 ≤ 204 by omega) zp_1) iX6_18 dX6_init_94 rfl (Nat.le_of_ble_eq_true rfl) ⟨by decide, by decide⟩ ⟨show 66 + 23 * i + 1 + 0 + 22 ≤ 1 + 203 by omega, show us + 1492 + 134 * i + 12 + 122 ≤ us + 2296 by omega⟩ (fun r9 M9 hp9 _ _ => ?_)
        obtain ⟨rfl, rfl⟩ := hp9
        refine a_eq (st' := [.ref (66 + 23 * i), .int (nI i), .ref 49]) (M' := (66 + 23 * i + 23, 0, us + 1492 + 134 * i + 134, hX5 f10 (66 + 23 * i) 12 6)) rfl rfl (by unfold MX5; rw [show 66 + 23 * i + 5 + 12 + 6 = 66 + 23 * i + 23 by omega, show us + 1492 + 134 * i + 12 + 26 + 6 * 12 + 4 * 6 = us + 1492 + 134 * i + 134 by omega]) ?_
        refine a_astqS C dX6_init_97 (a := 49) (b := 66 + 23 * i) (j := i) (show 49 < 66 + 23 * i + 23 by omega) (by decide) ((hX5_lo (show 49 < 66 + 23 * i by omega)).trans ((zp_2 49 (by omega)).trans zh_v)) (show 66 + 23 * i < 66 + 23 * i + 23 by omega) (show 66 + 23 * i < 1000 by omega) hX5_b rfl h_82 (by decide) ?_
        refine a_up (fun f11 zp_3 zp_4 => ?_)
        refine n_iinc C dX6_init_98 rfl (by decide) ?_
        refine a_goto (tgt := 79) C dX6_init_101 (by decide) ?_
        refine a_eq (M' := (66 + 23 * (i + 1), 0, us + 1492 + 134 * (i + 1), f11)) rfl rfl (by rw [show 66 + 23 * i + 23 = 66 + 23 * (i + 1) by omega, show us + 1492 + 134 * i + 134 = us + 1492 + 134 * (i + 1) by omega]) ?_
        exact zih (i + 1) f11 (by omega) (by omega) (zh_m.to (fun a ha h9 => (zp_4 a h9).trans ((hX5_lo (by omega)).trans (zp_2 a (by omega))))) (zp_3.trans (by rw [svF_s])) (fun q hq x hx => by
          by_cases e9 : q = i
          · subst e9
            exact (zp_4 _ (by omega)).trans (hX5_st hx)
          · exact (zp_4 _ (by omega)).trans ((hX5_lo (by omega)).trans ((zp_2 _ (by omega)).trans (zh_q q (by omega) x hx))))
  refine a_pad 1 ?_
  refine a_eq (L' := [some (.ref 0), none]) rfl rfl rfl ?_
  refine a_aload_n C dX6_init_0 rfl rfl ?_
  refine a_objI C oI_X6 jo_2 jo_3 dX6_init_1 ⟨by decide, by decide⟩ ?_
  have zf0 : f 0 = .inr (6, [.null, .null, .null, .null, .null, .int 0, .null, .int 0, .int 0]) := hf
  refine a_aload_n C dX6_init_4 rfl rfl ?_
  refine a_new (ci := 4) (fs := [.null, .int 0, .int 0, .int 0, .int 0, .int 0, .int 0]) C kX6_7 i_64 i_39 rfl (dfv4 G9) dX6_init_5 (show 1 < 207 by decide) rfl ⟨show 1 + 1 ≤ 1 + 203 by decide, show us + 7 ≤ us + 2296 by omega⟩ ?_
  refine a_nw (fun f_1 zp_a1 zp_b1 => ?_)
  have zf0 : f_1 0 = .inr (6, [.null, .null, .null, .null, .null, .int 0, .null, .int 0, .int 0]) := (zp_b1 0 (by omega)).trans zf0
  refine a_eq (M' := (2, 0, us + 7, f_1)) rfl rfl rfl ?_
  refine a_dup C dX6_init_8 rfl ?_
  refine a_callIN C [] (K_X4_init zp_a1) ok_X4_init C.2.2.2.2.2.1.2.1.2.1 i_66 rfl (by decide +kernel) dX6_init_9 rfl (Nat.le_of_ble_eq_true rfl) ⟨by decide, by decide⟩ ⟨show 2 + 0 + 1 ≤ 1 + 203 by decide, show us + 7 + 60 ≤ us + 2296 by omega⟩ (fun r9 M9 hp9 hc9 hs9 => ?_)
  obtain ⟨za, zb, zc, f_2⟩ := M9
  obtain ⟨rfl, zq_0, zq_1, zq_o1, zq_o2⟩ := hp9
  obtain rfl : zb = 0 := zq_0
  obtain rfl : za = 3 := by have : za + 0 = 2 + 0 + 1 := hc9; omega
  obtain rfl : zc = us + 67 := by have : zc = us + 7 + 60 := hs9; omega
  refine a_eq (st' := [.ref 1, .ref 0]) (M' := (3, 0, us + 67, f_2)) rfl rfl rfl ?_
  have zf0 : f_2 0 = .inr (6, [.null, .null, .null, .null, .null, .int 0, .null, .int 0, .int 0]) := (zq_1 0 (show _ < 2 by omega) (show ¬ _ = 1 by omega)).trans zf0
  have zf1 : f_2 1 = .inr (4, [.ref 2, .int 0, .int 0, .int 0, .int 0, .int 0, .int 0]) := zq_o1
  have zf2 : f_2 2 = .inl (10, (60, .inl (fun _ => 0))) := zq_o2
  refine a_putF C fX6_10 hin (fun _ _ _ h => by cases h; rfl) dX6_init_12 (show 0 < 3 by decide) (by decide) zf0 rfl rfl (Nat.le_of_ble_eq_true rfl) ?_
  refine a_up (fun f_3 zp_a3 zp_b3 => ?_)
  have zf1 : f_3 1 = .inr (4, [.ref 2, .int 0, .int 0, .int 0, .int 0, .int 0, .int 0]) := (zp_b3 1 (by omega)).trans zf1
  have zf2 : f_3 2 = .inl (10, (60, .inl (fun _ => 0))) := (zp_b3 2 (by omega)).trans zf2
  have zf0 : f_3 0 = .inr (6, [.null, .null, .ref 1, .null, .null, .int 0, .null, .int 0, .int 0]) := zp_a3
  refine a_aload_n C dX6_init_15 rfl rfl ?_
  refine a_new (ci := 5) (fs := [.null, .int 0, .null, .null, .null, .int 0, .int 0, .int 0, .int 0, .int 0, .int 0, .int 0]) C kX6_16 i_87 i_40 rfl (dfv5 G9) dX6_init_16 (show 3 < 207 by decide) rfl ⟨show 3 + 1 ≤ 1 + 203 by decide, show us + 67 + 12 ≤ us + 2296 by omega⟩ ?_
  refine a_nw (fun f_4 zp_a4 zp_b4 => ?_)
  have zf0 : f_4 0 = .inr (6, [.null, .null, .ref 1, .null, .null, .int 0, .null, .int 0, .int 0]) := (zp_b4 0 (by omega)).trans zf0
  have zf1 : f_4 1 = .inr (4, [.ref 2, .int 0, .int 0, .int 0, .int 0, .int 0, .int 0]) := (zp_b4 1 (by omega)).trans zf1
  have zf2 : f_4 2 = .inl (10, (60, .inl (fun _ => 0))) := (zp_b4 2 (by omega)).trans zf2
  refine a_eq (M' := (4, 0, us + 79, f_4)) rfl rfl rfl ?_
  refine a_dup C dX6_init_19 rfl ?_
  refine a_callIX C hAO [] (K_X5_init (b := 3) (f := f_4) (by decide) zp_a4) iX6_18 dX6_init_20 rfl (Nat.le_of_ble_eq_true rfl) ⟨by decide, by decide⟩ ⟨show 4 + 0 + 22 ≤ 1 + 203 by decide, show us + 79 + 122 ≤ us + 2296 by omega⟩ (fun r9 M9 hp9 _ _ => ?_)
  obtain ⟨rfl, rfl⟩ := hp9
  refine a_eq (st' := [.ref 3, .ref 0]) (M' := (26, 0, us + 201, hX5 f_4 3 12 6)) rfl rfl (by unfold MX5; rw [show us + 79 + 26 + 6 * 12 + 4 * 6 = us + 201 by omega]) ?_
  obtain ⟨f_5, zp_a5, zp_b5, zp_c5⟩ : ∃ g9 : Nat → aC, g9 = hX5 f_4 3 12 6 ∧ (∀ a, a < 3 → g9 a = f_4 a) ∧ ∀ x, x < 23 → g9 (3 + x) = stH 3 (3 + x) := ⟨_, rfl, fun a ha => hX5_lo ha, fun x hx => hX5_st hx⟩
  refine a_eq (M' := (26, 0, us + 201, f_5)) rfl rfl (by rw [zp_a5]) ?_
  have zf0 : f_5 0 = .inr (6, [.null, .null, .ref 1, .null, .null, .int 0, .null, .int 0, .int 0]) := (zp_b5 0 (by omega)).trans zf0
  have zf1 : f_5 1 = .inr (4, [.ref 2, .int 0, .int 0, .int 0, .int 0, .int 0, .int 0]) := (zp_b5 1 (by omega)).trans zf1
  have zf2 : f_5 2 = .inl (10, (60, .inl (fun _ => 0))) := (zp_b5 2 (by omega)).trans zf2
  have zf3 : ∀ x, x < 23 → f_5 (3 + x) = stH 3 (3 + x) := zp_c5
  refine a_putF C fX6_19 hin (fun _ _ _ h => by cases h; rfl) dX6_init_23 (show 0 < 26 by decide) (by decide) zf0 rfl rfl (Nat.le_of_ble_eq_true rfl) ?_
  refine a_up (fun f_6 zp_a6 zp_b6 => ?_)
  have zf1 : f_6 1 = .inr (4, [.ref 2, .int 0, .int 0, .int 0, .int 0, .int 0, .int 0]) := (zp_b6 1 (by omega)).trans zf1
  have zf2 : f_6 2 = .inl (10, (60, .inl (fun _ => 0))) := (zp_b6 2 (by omega)).trans zf2
  have zf3 : ∀ x, x < 23 → f_6 (3 + x) = stH 3 (3 + x) := fun x hx => (zp_b6 (3 + x) (by omega)).trans (zf3 x hx)
  have zf0 : f_6 0 = .inr (6, [.null, .null, .ref 1, .ref 3, .null, .int 0, .null, .int 0, .int 0]) := zp_a6
  refine a_aload_n C dX6_init_26 rfl rfl ?_
  refine a_new (ci := 5) (fs := [.null, .int 0, .null, .null, .null, .int 0, .int 0, .int 0, .int 0, .int 0, .int 0, .int 0]) C kX6_16 i_87 i_40 rfl (dfv5 G9) dX6_init_27 (show 26 < 207 by decide) rfl ⟨show 26 + 1 ≤ 1 + 203 by decide, show us + 201 + 12 ≤ us + 2296 by omega⟩ ?_
  refine a_nw (fun f_7 zp_a7 zp_b7 => ?_)
  have zf0 : f_7 0 = .inr (6, [.null, .null, .ref 1, .ref 3, .null, .int 0, .null, .int 0, .int 0]) := (zp_b7 0 (by omega)).trans zf0
  have zf1 : f_7 1 = .inr (4, [.ref 2, .int 0, .int 0, .int 0, .int 0, .int 0, .int 0]) := (zp_b7 1 (by omega)).trans zf1
  have zf2 : f_7 2 = .inl (10, (60, .inl (fun _ => 0))) := (zp_b7 2 (by omega)).trans zf2
  have zf3 : ∀ x, x < 23 → f_7 (3 + x) = stH 3 (3 + x) := fun x hx => (zp_b7 (3 + x) (by omega)).trans (zf3 x hx)
  refine a_eq (M' := (27, 0, us + 213, f_7)) rfl rfl rfl ?_
  refine a_dup C dX6_init_30 rfl ?_
  refine a_callIX C hAO [] (K_X5_init (b := 26) (f := f_7) (by decide) zp_a7) iX6_18 dX6_init_31 rfl (Nat.le_of_ble_eq_true rfl) ⟨by decide, by decide⟩ ⟨show 27 + 0 + 22 ≤ 1 + 203 by decide, show us + 213 + 122 ≤ us + 2296 by omega⟩ (fun r9 M9 hp9 _ _ => ?_)
  obtain ⟨rfl, rfl⟩ := hp9
  refine a_eq (st' := [.ref 26, .ref 0]) (M' := (49, 0, us + 335, hX5 f_7 26 12 6)) rfl rfl (by unfold MX5; rw [show us + 213 + 26 + 6 * 12 + 4 * 6 = us + 335 by omega]) ?_
  obtain ⟨f_8, zp_a8, zp_b8, zp_c8⟩ : ∃ g9 : Nat → aC, g9 = hX5 f_7 26 12 6 ∧ (∀ a, a < 26 → g9 a = f_7 a) ∧ ∀ x, x < 23 → g9 (26 + x) = stH 26 (26 + x) := ⟨_, rfl, fun a ha => hX5_lo ha, fun x hx => hX5_st hx⟩
  refine a_eq (M' := (49, 0, us + 335, f_8)) rfl rfl (by rw [zp_a8]) ?_
  have zf0 : f_8 0 = .inr (6, [.null, .null, .ref 1, .ref 3, .null, .int 0, .null, .int 0, .int 0]) := (zp_b8 0 (by omega)).trans zf0
  have zf1 : f_8 1 = .inr (4, [.ref 2, .int 0, .int 0, .int 0, .int 0, .int 0, .int 0]) := (zp_b8 1 (by omega)).trans zf1
  have zf2 : f_8 2 = .inl (10, (60, .inl (fun _ => 0))) := (zp_b8 2 (by omega)).trans zf2
  have zf3 : ∀ x, x < 23 → f_8 (3 + x) = stH 3 (3 + x) := fun x hx => (zp_b8 (3 + x) (by omega)).trans (zf3 x hx)
  have zf4 : ∀ x, x < 23 → f_8 (26 + x) = stH 26 (26 + x) := zp_c8
  refine a_putF C fX6_23 hin (fun _ _ _ h => by cases h; rfl) dX6_init_34 (show 0 < 49 by decide) (by decide) zf0 rfl rfl (Nat.le_of_ble_eq_true rfl) ?_
  refine a_up (fun f_9 zp_a9 zp_b9 => ?_)
  have zf1 : f_9 1 = .inr (4, [.ref 2, .int 0, .int 0, .int 0, .int 0, .int 0, .int 0]) := (zp_b9 1 (by omega)).trans zf1
  have zf2 : f_9 2 = .inl (10, (60, .inl (fun _ => 0))) := (zp_b9 2 (by omega)).trans zf2
  have zf3 : ∀ x, x < 23 → f_9 (3 + x) = stH 3 (3 + x) := fun x hx => (zp_b9 (3 + x) (by omega)).trans (zf3 x hx)
  have zf4 : ∀ x, x < 23 → f_9 (26 + x) = stH 26 (26 + x) := fun x hx => (zp_b9 (26 + x) (by omega)).trans (zf4 x hx)
  have zf0 : f_9 0 = .inr (6, [.null, .null, .ref 1, .ref 3, .ref 26, .int 0, .null, .int 0, .int 0]) := zp_a9
  refine a_aload_n C dX6_init_37 rfl rfl ?_
  refine a_bipush (v := nI 6) C dX6_init_38 (by decide) ?_
  refine a_newqS C hAO.2.2 kX6_16 dX6_init_40 (N := 6) rfl (by decide) (show 49 < 207 by decide) rfl ⟨show 49 + 1 ≤ 1 + 203 by decide, show us + 335 + 6 ≤ us + 2296 by omega⟩ ?_
  refine a_nw (fun f_10 zp_a10 zp_b10 => ?_)
  have zf0 : f_10 0 = .inr (6, [.null, .null, .ref 1, .ref 3, .ref 26, .int 0, .null, .int 0, .int 0]) := (zp_b10 0 (by omega)).trans zf0
  have zf1 : f_10 1 = .inr (4, [.ref 2, .int 0, .int 0, .int 0, .int 0, .int 0, .int 0]) := (zp_b10 1 (by omega)).trans zf1
  have zf2 : f_10 2 = .inl (10, (60, .inl (fun _ => 0))) := (zp_b10 2 (by omega)).trans zf2
  have zf3 : ∀ x, x < 23 → f_10 (3 + x) = stH 3 (3 + x) := fun x hx => (zp_b10 (3 + x) (by omega)).trans (zf3 x hx)
  have zf4 : ∀ x, x < 23 → f_10 (26 + x) = stH 26 (26 + x) := fun x hx => (zp_b10 (26 + x) (by omega)).trans (zf4 x hx)
  have zf49 : f_10 49 = .inl (14, (6, .inr (.inr (.inr (.inr (svF 0)))))) := zp_a10.trans (by rw [svF_0])
  refine a_eq (st' := [.ref 49, .ref 0]) (M' := (50, 0, us + 341, f_10)) rfl rfl rfl ?_
  refine a_putF C fX6_26 hin (fun _ _ _ h => by cases h; rfl) dX6_init_43 (show 0 < 50 by decide) (by decide) zf0 rfl rfl (Nat.le_of_ble_eq_true rfl) ?_
  refine a_up (fun f_11 zp_a11 zp_b11 => ?_)
  have zf1 : f_11 1 = .inr (4, [.ref 2, .int 0, .int 0, .int 0, .int 0, .int 0, .int 0]) := (zp_b11 1 (by omega)).trans zf1
  have zf2 : f_11 2 = .inl (10, (60, .inl (fun _ => 0))) := (zp_b11 2 (by omega)).trans zf2
  have zf3 : ∀ x, x < 23 → f_11 (3 + x) = stH 3 (3 + x) := fun x hx => (zp_b11 (3 + x) (by omega)).trans (zf3 x hx)
  have zf4 : ∀ x, x < 23 → f_11 (26 + x) = stH 26 (26 + x) := fun x hx => (zp_b11 (26 + x) (by omega)).trans (zf4 x hx)
  have zf49 : f_11 49 = .inl (14, (6, .inr (.inr (.inr (.inr (svF 0)))))) := (zp_b11 49 (by omega)).trans zf49
  have zf0 : f_11 0 = .inr (6, [.null, .null, .ref 1, .ref 3, .ref 26, .int 0, .ref 49, .int 0, .int 0]) := zp_a11
  refine a_aload_n C dX6_init_46 rfl rfl ?_
  refine a_iconst (v := nI 5) C dX6_init_47 (by decide) ?_
  refine a_putf C fX6_30 dX6_init_48 (show 0 < 50 by decide) (by decide) zf0 rfl rfl (Nat.le_of_ble_eq_true rfl) ?_
  refine a_up (fun f_12 zp_a12 zp_b12 => ?_)
  have zf1 : f_12 1 = .inr (4, [.ref 2, .int 0, .int 0, .int 0, .int 0, .int 0, .int 0]) := (zp_b12 1 (by omega)).trans zf1
  have zf2 : f_12 2 = .inl (10, (60, .inl (fun _ => 0))) := (zp_b12 2 (by omega)).trans zf2
  have zf3 : ∀ x, x < 23 → f_12 (3 + x) = stH 3 (3 + x) := fun x hx => (zp_b12 (3 + x) (by omega)).trans (zf3 x hx)
  have zf4 : ∀ x, x < 23 → f_12 (26 + x) = stH 26 (26 + x) := fun x hx => (zp_b12 (26 + x) (by omega)).trans (zf4 x hx)
  have zf49 : f_12 49 = .inl (14, (6, .inr (.inr (.inr (.inr (svF 0)))))) := (zp_b12 49 (by omega)).trans zf49
  have zf0 : f_12 0 = .inr (6, [.null, .null, .ref 1, .ref 3, .ref 26, .int 0, .ref 49, .int 5, .int 0]) := zp_a12
  refine a_aload_n C dX6_init_51 rfl rfl ?_
  refine a_new (ci := 1) (fs := [.null, .null, .null, .null]) C kX6_34 i_198 i_43 rfl (dfv1 G9) dX6_init_52 (show 50 < 207 by decide) rfl ⟨show 50 + 1 ≤ 1 + 203 by decide, show us + 341 + 4 ≤ us + 2296 by omega⟩ ?_
  refine a_nw (fun f_13 zp_a13 zp_b13 => ?_)
  have zf0 : f_13 0 = .inr (6, [.null, .null, .ref 1, .ref 3, .ref 26, .int 0, .ref 49, .int 5, .int 0]) := (zp_b13 0 (by omega)).trans zf0
  have zf1 : f_13 1 = .inr (4, [.ref 2, .int 0, .int 0, .int 0, .int 0, .int 0, .int 0]) := (zp_b13 1 (by omega)).trans zf1
  have zf2 : f_13 2 = .inl (10, (60, .inl (fun _ => 0))) := (zp_b13 2 (by omega)).trans zf2
  have zf3 : ∀ x, x < 23 → f_13 (3 + x) = stH 3 (3 + x) := fun x hx => (zp_b13 (3 + x) (by omega)).trans (zf3 x hx)
  have zf4 : ∀ x, x < 23 → f_13 (26 + x) = stH 26 (26 + x) := fun x hx => (zp_b13 (26 + x) (by omega)).trans (zf4 x hx)
  have zf49 : f_13 49 = .inl (14, (6, .inr (.inr (.inr (.inr (svF 0)))))) := (zp_b13 49 (by omega)).trans zf49
  refine a_eq (M' := (51, 0, us + 345, f_13)) rfl rfl rfl ?_
  refine a_dup C dX6_init_55 rfl ?_
  refine a_callI C [] (K_X1_init zp_a13) iX6_36 dX6_init_56 rfl (Nat.le_of_ble_eq_true rfl) ⟨by decide, by decide⟩ ⟨show 51 + 0 + 4 ≤ 1 + 203 by decide, show us + 345 + 324 ≤ us + 2296 by omega⟩ (fun r9 M9 hp9 hc9 hs9 => ?_)
  obtain ⟨za, zb, zc, f_14⟩ := M9
  obtain ⟨rfl, zq_0, zq_1, zq_o1, zq_o2⟩ := hp9
  obtain rfl : zb = 0 := zq_0
  obtain rfl : za = 55 := by have : za + 0 = 51 + 0 + 4 := hc9; omega
  obtain rfl : zc = us + 669 := by have : zc = us + 345 + 324 := hs9; omega
  refine a_eq (st' := [.ref 50, .ref 0]) (M' := (55, 0, us + 669, f_14)) rfl rfl rfl ?_
  have zf0 : f_14 0 = .inr (6, [.null, .null, .ref 1, .ref 3, .ref 26, .int 0, .ref 49, .int 5, .int 0]) := (zq_1 0 (by omega)).trans zf0
  have zf1 : f_14 1 = .inr (4, [.ref 2, .int 0, .int 0, .int 0, .int 0, .int 0, .int 0]) := (zq_1 1 (by omega)).trans zf1
  have zf2 : f_14 2 = .inl (10, (60, .inl (fun _ => 0))) := (zq_1 2 (by omega)).trans zf2
  have zf3 : ∀ x, x < 23 → f_14 (3 + x) = stH 3 (3 + x) := fun x hx => (zq_1 (3 + x) (by omega)).trans (zf3 x hx)
  have zf4 : ∀ x, x < 23 → f_14 (26 + x) = stH 26 (26 + x) := fun x hx => (zq_1 (26 + x) (by omega)).trans (zf4 x hx)
  have zf49 : f_14 49 = .inl (14, (6, .inr (.inr (.inr (.inr (svF 0)))))) := (zq_1 49 (by omega)).trans zf49
  have zf50 : f_14 50 = .inr (1, [.ref 51, .ref 52, .ref 53, .ref 54]) := zq_o1
  have zf51 : ∃ g1 g2 g3 g4 : Nat → Int32, f_14 51 = .inl (8, (81, .inl g1)) ∧ f_14 52 = .inl (8, (81, .inl g2)) ∧ f_14 53 = .inl (8, (81, .inl g3)) ∧ f_14 54 = .inl (8, (81, .inl g4)) ∧ ∀ j, j < 81 → g1 j = nI (mkN j) ∧ g2 j = nI (lvN j) ∧ g3 j = nI (spN j) ∧ g4 j = nI (woN j) := zq_o2
  refine a_putF C fX6_37 hin (fun _ _ _ h => by cases h; rfl) dX6_init_59 (show 0 < 55 by decide) (by decide) zf0 rfl rfl (Nat.le_of_ble_eq_true rfl) ?_
  refine a_up (fun f_15 zp_a15 zp_b15 => ?_)
  have zf1 : f_15 1 = .inr (4, [.ref 2, .int 0, .int 0, .int 0, .int 0, .int 0, .int 0]) := (zp_b15 1 (by omega)).trans zf1
  have zf2 : f_15 2 = .inl (10, (60, .inl (fun _ => 0))) := (zp_b15 2 (by omega)).trans zf2
  have zf3 : ∀ x, x < 23 → f_15 (3 + x) = stH 3 (3 + x) := fun x hx => (zp_b15 (3 + x) (by omega)).trans (zf3 x hx)
  have zf4 : ∀ x, x < 23 → f_15 (26 + x) = stH 26 (26 + x) := fun x hx => (zp_b15 (26 + x) (by omega)).trans (zf4 x hx)
  have zf49 : f_15 49 = .inl (14, (6, .inr (.inr (.inr (.inr (svF 0)))))) := (zp_b15 49 (by omega)).trans zf49
  have zf50 : f_15 50 = .inr (1, [.ref 51, .ref 52, .ref 53, .ref 54]) := (zp_b15 50 (by omega)).trans zf50
  have zf51 : ∃ g1 g2 g3 g4 : Nat → Int32, f_15 51 = .inl (8, (81, .inl g1)) ∧ f_15 52 = .inl (8, (81, .inl g2)) ∧ f_15 53 = .inl (8, (81, .inl g3)) ∧ f_15 54 = .inl (8, (81, .inl g4)) ∧ ∀ j, j < 81 → g1 j = nI (mkN j) ∧ g2 j = nI (lvN j) ∧ g3 j = nI (spN j) ∧ g4 j = nI (woN j) := by
    obtain ⟨g1, g2, g3, g4, q1, q2, q3, q4, q5⟩ := zf51
    exact ⟨g1, g2, g3, g4, (zp_b15 51 (by omega)).trans q1, (zp_b15 52 (by omega)).trans q2, (zp_b15 53 (by omega)).trans q3, (zp_b15 54 (by omega)).trans q4, q5⟩
  have zf0 : f_15 0 = .inr (6, [.ref 50, .null, .ref 1, .ref 3, .ref 26, .int 0, .ref 49, .int 5, .int 0]) := zp_a15
  refine a_aload_n C dX6_init_62 rfl rfl ?_
  refine a_new (ci := 0) (fs := [.null, .null, .int 0, .null, .int 0, .null, .null, .null, .null, .null, .null, .null, .null]) C kX6_41 i_234 i_45 rfl (dfv0 G9) dX6_init_63 (show 55 < 207 by decide) rfl ⟨show 55 + 1 ≤ 1 + 203 by decide, show us + 669 + 13 ≤ us + 2296 by omega⟩ ?_
  refine a_nw (fun f_16 zp_a16 zp_b16 => ?_)
  have zf0 : f_16 0 = .inr (6, [.ref 50, .null, .ref 1, .ref 3, .ref 26, .int 0, .ref 49, .int 5, .int 0]) := (zp_b16 0 (by omega)).trans zf0
  have zf1 : f_16 1 = .inr (4, [.ref 2, .int 0, .int 0, .int 0, .int 0, .int 0, .int 0]) := (zp_b16 1 (by omega)).trans zf1
  have zf2 : f_16 2 = .inl (10, (60, .inl (fun _ => 0))) := (zp_b16 2 (by omega)).trans zf2
  have zf3 : ∀ x, x < 23 → f_16 (3 + x) = stH 3 (3 + x) := fun x hx => (zp_b16 (3 + x) (by omega)).trans (zf3 x hx)
  have zf4 : ∀ x, x < 23 → f_16 (26 + x) = stH 26 (26 + x) := fun x hx => (zp_b16 (26 + x) (by omega)).trans (zf4 x hx)
  have zf49 : f_16 49 = .inl (14, (6, .inr (.inr (.inr (.inr (svF 0)))))) := (zp_b16 49 (by omega)).trans zf49
  have zf50 : f_16 50 = .inr (1, [.ref 51, .ref 52, .ref 53, .ref 54]) := (zp_b16 50 (by omega)).trans zf50
  have zf51 : ∃ g1 g2 g3 g4 : Nat → Int32, f_16 51 = .inl (8, (81, .inl g1)) ∧ f_16 52 = .inl (8, (81, .inl g2)) ∧ f_16 53 = .inl (8, (81, .inl g3)) ∧ f_16 54 = .inl (8, (81, .inl g4)) ∧ ∀ j, j < 81 → g1 j = nI (mkN j) ∧ g2 j = nI (lvN j) ∧ g3 j = nI (spN j) ∧ g4 j = nI (woN j) := by
    obtain ⟨g1, g2, g3, g4, q1, q2, q3, q4, q5⟩ := zf51
    exact ⟨g1, g2, g3, g4, (zp_b16 51 (by omega)).trans q1, (zp_b16 52 (by omega)).trans q2, (zp_b16 53 (by omega)).trans q3, (zp_b16 54 (by omega)).trans q4, q5⟩
  refine a_eq (M' := (56, 0, us + 682, f_16)) rfl rfl rfl ?_
  refine a_dup C dX6_init_66 rfl ?_
  refine a_aload_n C dX6_init_67 rfl rfl ?_
  refine a_getfF C fX6_37 dX6_init_68 (show 0 < 56 by decide) (by decide) zf0 rfl ?_
  refine a_callI C [.ref 50] (K_X0_init zp_a16) iX6_43 dX6_init_71 rfl (Nat.le_of_ble_eq_true rfl) ⟨by decide, by decide⟩ ⟨show 56 + 0 + 10 ≤ 1 + 203 by decide, show us + 682 + 810 ≤ us + 2296 by omega⟩ (fun r9 M9 hp9 hc9 hs9 => ?_)
  obtain ⟨za, zb, zc, f_17⟩ := M9
  obtain ⟨rfl, zq_0, zq_1, zq_o1, zq_o2⟩ := hp9
  obtain rfl : zb = 0 := zq_0
  obtain rfl : za = 66 := by have : za + 0 = 56 + 0 + 10 := hc9; omega
  obtain rfl : zc = us + 1492 := by have : zc = us + 682 + 810 := hs9; omega
  refine a_eq (st' := [.ref 55, .ref 0]) (M' := (66, 0, us + 1492, f_17)) rfl rfl rfl ?_
  have zf0 : f_17 0 = .inr (6, [.ref 50, .null, .ref 1, .ref 3, .ref 26, .int 0, .ref 49, .int 5, .int 0]) := (zq_1 0 (show _ < 56 by omega) (show ¬ _ = 55 by omega)).trans zf0
  have zf1 : f_17 1 = .inr (4, [.ref 2, .int 0, .int 0, .int 0, .int 0, .int 0, .int 0]) := (zq_1 1 (show _ < 56 by omega) (show ¬ _ = 55 by omega)).trans zf1
  have zf2 : f_17 2 = .inl (10, (60, .inl (fun _ => 0))) := (zq_1 2 (show _ < 56 by omega) (show ¬ _ = 55 by omega)).trans zf2
  have zf3 : ∀ x, x < 23 → f_17 (3 + x) = stH 3 (3 + x) := fun x hx => (zq_1 (3 + x) (show _ < 56 by omega) (show ¬ _ = 55 by omega)).trans (zf3 x hx)
  have zf4 : ∀ x, x < 23 → f_17 (26 + x) = stH 26 (26 + x) := fun x hx => (zq_1 (26 + x) (show _ < 56 by omega) (show ¬ _ = 55 by omega)).trans (zf4 x hx)
  have zf49 : f_17 49 = .inl (14, (6, .inr (.inr (.inr (.inr (svF 0)))))) := (zq_1 49 (show _ < 56 by omega) (show ¬ _ = 55 by omega)).trans zf49
  have zf50 : f_17 50 = .inr (1, [.ref 51, .ref 52, .ref 53, .ref 54]) := (zq_1 50 (show _ < 56 by omega) (show ¬ _ = 55 by omega)).trans zf50
  have zf51 : ∃ g1 g2 g3 g4 : Nat → Int32, f_17 51 = .inl (8, (81, .inl g1)) ∧ f_17 52 = .inl (8, (81, .inl g2)) ∧ f_17 53 = .inl (8, (81, .inl g3)) ∧ f_17 54 = .inl (8, (81, .inl g4)) ∧ ∀ j, j < 81 → g1 j = nI (mkN j) ∧ g2 j = nI (lvN j) ∧ g3 j = nI (spN j) ∧ g4 j = nI (woN j) := by
    obtain ⟨g1, g2, g3, g4, q1, q2, q3, q4, q5⟩ := zf51
    exact ⟨g1, g2, g3, g4, (zq_1 51 (show _ < 56 by omega) (show ¬ _ = 55 by omega)).trans q1, (zq_1 52 (show _ < 56 by omega) (show ¬ _ = 55 by omega)).trans q2, (zq_1 53 (show _ < 56 by omega) (show ¬ _ = 55 by omega)).trans q3, (zq_1 54 (show _ < 56 by omega) (show ¬ _ = 55 by omega)).trans q4, q5⟩
  refine a_putF C fX6_46 hin (fun _ _ _ h => by cases h; rfl) dX6_init_74 (show 0 < 66 by decide) (by decide) zf0 rfl rfl (Nat.le_of_ble_eq_true rfl) ?_
  refine a_up (fun f_18 zp_a18 zp_b18 => ?_)
  have zf1 : f_18 1 = .inr (4, [.ref 2, .int 0, .int 0, .int 0, .int 0, .int 0, .int 0]) := (zp_b18 1 (by omega)).trans zf1
  have zf2 : f_18 2 = .inl (10, (60, .inl (fun _ => 0))) := (zp_b18 2 (by omega)).trans zf2
  have zf3 : ∀ x, x < 23 → f_18 (3 + x) = stH 3 (3 + x) := fun x hx => (zp_b18 (3 + x) (by omega)).trans (zf3 x hx)
  have zf4 : ∀ x, x < 23 → f_18 (26 + x) = stH 26 (26 + x) := fun x hx => (zp_b18 (26 + x) (by omega)).trans (zf4 x hx)
  have zf49 : f_18 49 = .inl (14, (6, .inr (.inr (.inr (.inr (svF 0)))))) := (zp_b18 49 (by omega)).trans zf49
  have zf50 : f_18 50 = .inr (1, [.ref 51, .ref 52, .ref 53, .ref 54]) := (zp_b18 50 (by omega)).trans zf50
  have zf51 : ∃ g1 g2 g3 g4 : Nat → Int32, f_18 51 = .inl (8, (81, .inl g1)) ∧ f_18 52 = .inl (8, (81, .inl g2)) ∧ f_18 53 = .inl (8, (81, .inl g3)) ∧ f_18 54 = .inl (8, (81, .inl g4)) ∧ ∀ j, j < 81 → g1 j = nI (mkN j) ∧ g2 j = nI (lvN j) ∧ g3 j = nI (spN j) ∧ g4 j = nI (woN j) := by
    obtain ⟨g1, g2, g3, g4, q1, q2, q3, q4, q5⟩ := zf51
    exact ⟨g1, g2, g3, g4, (zp_b18 51 (by omega)).trans q1, (zp_b18 52 (by omega)).trans q2, (zp_b18 53 (by omega)).trans q3, (zp_b18 54 (by omega)).trans q4, q5⟩
  have zf0 : f_18 0 = .inr (6, [.ref 50, .ref 55, .ref 1, .ref 3, .ref 26, .int 0, .ref 49, .int 5, .int 0]) := zp_a18
  refine a_iconst (v := nI 0) C dX6_init_77 (by decide) ?_
  refine a_istore_n C dX6_init_78 rfl (by decide) ?_
  refine a_eq (L' := [some (.ref 0), some (.int (nI 0))]) (M' := (66 + 23 * 0, 0, us + 1492 + 134 * 0, f_18)) rfl rfl rfl ?_
  exact ZL79 (6 + 1) 0 _ (by omega) (by omega) ⟨zf0, zf1, zf2, zf3, zf4, zf50, zf51, (zp_b18 55 (by omega)).trans zq_o1, (zp_b18 56 (by omega)).trans zq_o2.1, (zp_b18 57 (by omega)).trans zq_o2.2.1, (zp_b18 58 (by omega)).trans zq_o2.2.2.1, (zp_b18 59 (by omega)).trans zq_o2.2.2.2.1, (zp_b18 60 (by omega)).trans zq_o2.2.2.2.2.1, (zp_b18 61 (by omega)).trans zq_o2.2.2.2.2.2.1, (zp_b18 62 (by omega)).trans zq_o2.2.2.2.2.2.2.1, (zp_b18 63 (by omega)).trans zq_o2.2.2.2.2.2.2.2.1, (zp_b18 64 (by omega)).trans zq_o2.2.2.2.2.2.2.2.2.1, (zp_b18 65 (by omega)).trans zq_o2.2.2.2.2.2.2.2.2.2⟩ zf49 (fun q hq => absurd hq (Nat.not_lt_zero q))
end A47

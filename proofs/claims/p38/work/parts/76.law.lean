section A76
/-! ### the law: one turn, the loop, the start -/
variable {G : aG} {p : Program} {l : Launch} {e : Env} {s : State} {m : MethodId} {args : Array Value} {below : List Frame} {meth : Method} {c : Code} {Q : State → Prop} {N : Nat} {xs : Nat → Int32} {w : Wd} {A : St} {F : Nat → Bool} {i x us : Nat}
abbrev WL (G : aG) (p : Program) (l : Launch) (e : Env) (s : State) (m : MethodId) (args : Array Value) (below : List Frame) (meth : Method) (c : Code) (Q : State → Prop) (pc : Nat) (L : aL) (st : List Value) (M : aH) : Prop := WA G p l e room_1 s m args below meth c Q 15 0 0 pc L st M
def lE (i : Nat) (X Y : Int32) (t a : Nat) (b : Int32) (z : Int64) (v : Int32) : aL := [some (.ref 1003), some (.ref 0), some (.ref 204), some (.ref 205), some (.ref 206), some (.int (nI i)), some (.int X), some (.int Y), some (.int (nI t)), some (.int (nI a)), some (.int b), some (.long z), none, some (.int v), none]
def lZ (i : Nat) : aL := [some (.ref 1003), some (.ref 0), some (.ref 204), some (.ref 205), some (.ref 206), some (.int (nI i)), none, none, none, none, none, none, none, none, none]
theorem soD_le (A : St) (y : Int32) (b : Bool) : soD A y b ≤ 4 ∧ soU A y b ≤ 38 := by
  have h := soO_le A y
  unfold soD soU
  cases b <;> simp <;> omega
theorem SvC.fx {w v : Wd} {S : Nat → St} {sv lt : Nat} {K : List Nat} (h : SvC w S sv lt) (hF : Frm K w v) (hK : K.all (fun a => decide (55 ≤ a ∧ a < 66 ∨ 204 ≤ a)) = true) : SvC v S sv lt := by
  have hz : ∀ a, ¬ (55 ≤ a ∧ a < 66 ∨ 204 ≤ a) → v.1 a = w.1 a := fun a ha => hF.at a (fun z => ha (of_decide_eq_true (List.all_eq_true.mp hK a z)))
  exact SvC.fr h ⟨by rw [hz 0 (by omega)], by rw [hz 0 (by omega)]⟩ (fun a h1 h2 => hz a (by omega))
set_option maxRecDepth 20000 in
set_option maxHeartbeats 4000000 in
theorem lw_E (C : aCtx G p s m args meth c cL_law 15 RL) (hfl : l.flags = flags0) {X Y b v : Int32} {z : Int64} {t a sv lt : Nat} {A' : St} {S : Nat → St} (hA' : AOK A') (hD : DR w 3 A') (hL : LR w A) (hS : SvC w S sv lt) (hM : Mo w F) (hV : Due A t a b v A') (ht : t ≤ 10) (ha : a < 2 ^ 31) (hi : i < 44) (hb : 207 + x + 4 ≤ 600172 ∧ us + 38 ≤ 7300668)
    (k : ∀ (w' : Wd) (x' us' : Nat) (F' : Nat → Bool), x' ≤ x + 4 → us' ≤ us + 38 → DR w' 3 A' → LR w' A' → SvC w' S sv lt → Mo w' F' → WL G p l e s m args below meth c Q 81 (lZ (i + 1)) [] (fzM w' (0, x') us')) :
    WL G p l e s m args below meth c Q 603 (lE i X Y t a b z v) [] (fzM w (0, x) us) := by
  have K676 : ∀ (bb : Bool) (w2 : Wd) (y : Int32), LR w2 A' → Frm L3 w w2 → WL G p l e s m args below meth c Q 676 (aS1 (lE i X Y t a b z v) 14 (.int v)) [.int (bI bb), .int y, .ref 0] (fzM w2 (0, x) us) := by
    intro bb w2 y hL2 hF2
    have hD2 : DR w2 3 A' := hD.x0 hA' hF2 (by decide)
    have hM2 : Mo w2 F := hM.same (fun a h1 h2 => hF2.at a (by simp; omega))
    have hS2 : SvC w2 S sv lt := hS.fx hF2 (by decide)
    have hso := soD_le A' y bb
    refine a_aload_n C dL_law_676 rfl rfl ?_
    refine a_aload_n C dL_law_677 rfl rfl ?_
    refine a_aload C dL_law_678 rfl ?_
    refine l_callZ (x := x) (us := us) C hfl _ (K_L_isSo hD2 hL2 hA' hM2 y bb) sL_229 dL_law_680 rfl (Nat.le_of_ble_eq_true rfl) ⟨Nat.le_of_ble_eq_true rfl, Nat.le_of_ble_eq_true rfl⟩ ⟨by show 207 + x + soD A' y bb ≤ 0 + 600172; omega, by show us + soU A' y bb ≤ 0 + 7300668; omega⟩ (fun r3 w3 hp3 => ?_)
    obtain ⟨rfl, ⟨F', hM3⟩, hF3⟩ := hp3
    refine n_if_ne (tgt := 688) C dL_law_683 (by decide) (by decide) (fun h_683 => ?_) (fun h_683 => absurd h_683 (by decide))
    refine n_iinc C dL_law_688 rfl (by decide) ?_
    refine a_goto (tgt := 81) C dL_law_691 (by decide) ?_
    refine a_join (L' := lZ (i + 1)) ?_ rfl rfl (k w3 (x + soD A' y bb) (us + soU A' y bb) F' (by omega) (by omega) (hD2.x0 hA' hF3 (by decide)) (hL2.same (fun a h1 h2 => hF3.at a (by simp; omega))) (hS2.fx hF3 (by decide)) hM3)
    exact aLe_s rfl (aLe_s rfl (aLe_s rfl (aLe_s rfl (aLe_s rfl (aLe_s rfl (aLe_n (aLe_n (aLe_n (aLe_n (aLe_n (aLe_n (aLe_n (aLe_n (aLe_n aLe_nil))))))))))))))
  have K646 : ∀ w2 : Wd, LR w2 A' → Frm L3 w w2 → WL G p l e s m args below meth c Q 646 (lE i X Y t a b z v) [.int v] (fzM w2 (0, x) us) := by
    intro w2 hL2 hF2
    refine a_istore C dL_law_646 (by decide) ?_
    refine a_iload C dL_law_648 rfl ?_
    refine a_iload C dL_law_650 rfl ?_
    refine a_icmp_ne (tgt := 686) C dL_law_652 (by decide) (fun h => absurd rfl h) (fun _ => ?_)
    refine a_aload_n C dL_law_655 rfl rfl ?_
    refine a_iload C dL_law_656 rfl ?_
    refine a_bipush (v := nI 9) C dL_law_658 (by decide) ?_
    refine a_ishr C dL_law_660 ?_
    refine a_iload C dL_law_661 rfl ?_
    refine a_bipush (v := nI 11) C dL_law_663 (by decide) ?_
    refine n_irem C dL_law_665 (by omega) (by decide) (by decide) ?_
    refine a_bipush (v := nI 10) C dL_law_666 (by decide) ?_
    refine n_icmp_ne (tgt := 675) C dL_law_668 (by decide) (by omega) (by decide) (fun h_668 => ?_) (fun h_668 => ?_)
    · refine a_iconst (v := nI 0) C dL_law_675 (by decide) ?_
      exact K676 false w2 _ hL2 hF2
    · refine a_iconst (v := nI 1) C dL_law_671 (by decide) ?_
      refine a_goto (tgt := 676) C dL_law_672 (by decide) ?_
      exact K676 true w2 _ hL2 hF2
  have K617 : kdue t = true → WL G p l e s m args below meth c Q 617 (lE i X Y t a b z v) [] (fzM w (0, x) us) := by
    intro hk
    have z1 := hV w hL
    rw [if_pos hk] at z1
    refine a_iload C dL_law_617 rfl ?_
    refine a_iload C dL_law_619 rfl ?_
    refine a_iload C dL_law_621 rfl ?_
    refine a_aload_n C dL_law_623 rfl rfl ?_
    refine a_aload_n C dL_law_624 rfl rfl ?_
    refine a_aload C dL_law_625 rfl ?_
    refine g_callF C z1 sL_222 rfl dL_law_627 (Nat.le_of_ble_eq_true rfl) ⟨Nat.le_of_ble_eq_true rfl, Nat.le_of_ble_eq_true rfl⟩ ⟨by show 207 + 0 + x ≤ 0 + 600172; omega, by show us ≤ 0 + 7300668; omega⟩ (fun r2 w2 hp2 => ?_)
    obtain ⟨rfl, hL2, hF2⟩ := hp2
    refine a_goto (tgt := 646) C dL_law_630 (by decide) ?_
    exact K646 w2 hL2 hF2
  refine a_iload C dL_law_603 rfl ?_
  refine a_bipush (v := nI 6) C dL_law_605 (by decide) ?_
  refine n_icmp_lt (tgt := 617) C dL_law_607 (by decide) (by omega) (by decide) (fun h_607 => ?_) (fun h_607 => ?_)
  · exact K617 (by show (decide (t < 6) || t == 9) = true; rw [decide_eq_true h_607]; rfl)
  · refine a_iload C dL_law_610 rfl ?_
    refine a_bipush (v := nI 9) C dL_law_612 (by decide) ?_
    refine n_icmp_ne (tgt := 633) C dL_law_614 (by decide) (by omega) (by decide) (fun h_614 => ?_) (fun h_614 => ?_)
    · have z1 := hV w hL
      rw [if_neg (show ¬ kdue t = true by show ¬ (decide (t < 6) || t == 9) = true; rw [decide_eq_false (show ¬ t < 6 by omega), beq_eq_false_iff_ne.mpr h_614]; decide)] at z1
      refine a_iload C dL_law_633 rfl ?_
      refine a_iload C dL_law_635 rfl ?_
      refine a_iload C dL_law_637 rfl ?_
      refine a_aload_n C dL_law_639 rfl rfl ?_
      refine a_aload_n C dL_law_640 rfl rfl ?_
      refine a_aload C dL_law_641 rfl ?_
      refine g_callF C z1 sL_226 rfl dL_law_643 (Nat.le_of_ble_eq_true rfl) ⟨Nat.le_of_ble_eq_true rfl, Nat.le_of_ble_eq_true rfl⟩ ⟨by show 207 + 0 + x ≤ 0 + 600172; omega, by show us ≤ 0 + 7300668; omega⟩ (fun r2 w2 hp2 => ?_)
      obtain ⟨rfl, hL2, hF2⟩ := hp2
      exact K646 w2 hL2 hF2
    · exact K617 (by show (decide (t < 6) || t == 9) = true; rw [h_614]; decide)
theorem lcmp_0 (x : Int64) : lg_cmp x x = 0 := by
  unfold lg_cmp
  rw [if_neg (fun z => absurd (Int64.lt_iff_toInt_lt.mp z) (by omega)), if_pos rfl]
theorem FrS.L {w v : Wd} (h : FrS w v) (hL : LR w A) : LR v A := hL.same (fun a h1 h2 => h.1 a (by omega) (by omega))
theorem FrS.M {w v : Wd} (h : FrS w v) (hM : Mo w F) : Mo v F := hM.same (fun a h1 h2 => h.1 a (by omega) (by omega))
set_option maxRecDepth 20000 in
set_option maxHeartbeats 4000000 in
theorem lw_D (C : aCtx G p s m args meth c cL_law 15 RL) (hfl : l.flags = flags0) {X Y b : Int32} {t a sv lt : Nat} {S : Nat → St} (hA : AOK A) (hD : DR w 3 A) (hL : LR w A) (hS : SvC w S sv lt) (hM : Mo w F) (hv : Vld A t a b) (hb : 207 + x + 145 ≤ 600172 ∧ us + 870 ≤ 7300668)
    (k : ∀ (w' : Wd) (x' us' : Nat) (v : Int32) (A' : St) (S' : Nat → St) (sv' lt' : Nat) (z : Int64), x' ≤ x + 145 → us' ≤ us + 870 → AOK A' → DR w' 3 A' → LR w' A → SvC w' S' sv' lt' → Mo w' F → Due A t a b v A' → WL G p l e s m args below meth c Q 603 (lE i X Y t a b z v) [] (fzM w' (0, x') us')) :
    WL G p l e s m args below meth c Q 519 [some (.ref 1003), some (.ref 0), some (.ref 204), some (.ref 205), some (.ref 206), some (.int (nI i)), some (.int X), some (.int Y), some (.int (nI t)), some (.int (nI a)), none, none, none, none, none] [.int b] (fzM w (0, x) us) := by
  refine a_istore C dL_law_519 (by decide) ?_
  refine a_aload_n C dL_law_521 rfl rfl ?_
  obtain ⟨d, hd, hd12⟩ : ∃ d, d = 12 - kN A ∧ d ≤ 12 := ⟨12 - kN A, rfl, by omega⟩
  refine l_callS C hfl _ (K_L_told hD hA) sL_211 dL_law_522 rfl (Nat.le_of_ble_eq_true rfl) ⟨Nat.le_of_ble_eq_true rfl, Nat.le_of_ble_eq_true rfl⟩ ⟨by show 207 + 0 + x + 6 * (12 - kN A) ≤ 0 + 600172; omega, by show us + 36 * (12 - kN A) ≤ 0 + 7300668; omega⟩ (fun r1 w1 hp1 => ?_)
  obtain ⟨rfl, rfl⟩ := hp1
  refine a_lstore C dL_law_525 (by decide) ?_
  refine l_ex (ex2 := (0, x + 6 * d)) (us2 := us + 36 * d) (pr_eq (by rw [hd])) (by rw [hd]) ?_
  refine a_eq (L' := [some (.ref 1003), some (.ref 0), some (.ref 204), some (.ref 205), some (.ref 206), some (.int (nI i)), some (.int X), some (.int Y), some (.int (nI t)), some (.int (nI a)), some (.int b), some (.long (tldA A)), none, none, none]) rfl rfl rfl ?_
  refine a_aload_n C dL_law_527 rfl rfl ?_
  refine a_iload C dL_law_528 rfl ?_
  refine a_iload C dL_law_530 rfl ?_
  refine a_iload C dL_law_532 rfl ?_
  rcases stp_all hA hv with ⟨e9, he, hF9, hV⟩ | ⟨v9, A', hv9, hA', hK9, hV⟩
  · refine l_callS C hfl _ (hF9 w1 hD) sL_215 dL_law_534 rfl (Nat.le_of_ble_eq_true rfl) ⟨Nat.le_of_ble_eq_true rfl, Nat.le_of_ble_eq_true rfl⟩ ⟨by show 207 + 0 + (x + 6 * d) + 1 ≤ 0 + 600172; omega, by show us + 36 * d + 6 ≤ 0 + 7300668; omega⟩ (fun r2 w2 hp2 => ?_)
    obtain ⟨rfl, rfl⟩ := hp2
    refine a_istore C dL_law_537 (by decide) ?_
    refine a_eq (L' := lE i X Y t a b (tldA A) e9) rfl rfl rfl ?_
    refine a_iload C dL_law_539 rfl ?_
    refine a_bipush (v := (-100)) C dL_law_541 (by decide) ?_
    refine a_icmp_ge (tgt := 559) C dL_law_543 (by decide) (fun h => absurd he (Int32.not_lt.mpr h)) (fun _ => ?_)
    refine a_aload_n C dL_law_546 rfl rfl ?_
    refine l_callS C hfl _ (K_L_told hD hA) sL_211 dL_law_547 rfl (Nat.le_of_ble_eq_true rfl) ⟨Nat.le_of_ble_eq_true rfl, Nat.le_of_ble_eq_true rfl⟩ ⟨by show 207 + 0 + (x + 6 * d + 1) + 6 * (12 - kN A) ≤ 0 + 600172; omega, by show us + 36 * d + 6 + 36 * (12 - kN A) ≤ 0 + 7300668; omega⟩ (fun r3 w3 hp3 => ?_)
    obtain ⟨rfl, rfl⟩ := hp3
    refine a_lload C dL_law_550 rfl ?_
    refine a_lcmp C dL_law_552 ?_
    refine a_if_eq (tgt := 603) C dL_law_553 (by decide) (fun _ => ?_) (fun h => absurd (lcmp_0 _) h)
    refine l_ex (ex2 := (0, x + 6 * d + 1 + 6 * d)) (us2 := us + 36 * d + 6 + 36 * d) (pr_eq (by rw [← hd])) (by rw [← hd]) ?_
    exact k w3 _ _ e9 A S sv lt (tldA A) (by omega) (by omega) hA hD hL hS hM hV
  · refine l0_callS C hfl _ (hK9 w1 S sv lt hD hS) sL_215 dL_law_534 rfl (Nat.le_of_ble_eq_true rfl) ⟨Nat.le_of_ble_eq_true rfl, Nat.le_of_ble_eq_true rfl⟩ ⟨by show 207 + 0 + (x + 6 * d) ≤ 0 + 600172; omega, by show us + 36 * d ≤ 0 + 7300668; omega⟩ (fun r2 w2 hp2 => ?_)
    obtain ⟨rfl, hD2, hS2, hF2⟩ := hp2
    refine a_istore C dL_law_537 (by decide) ?_
    refine a_eq (L' := lE i X Y t a b (tldA A) v9) rfl rfl rfl ?_
    refine a_iload C dL_law_539 rfl ?_
    refine a_bipush (v := (-100)) C dL_law_541 (by decide) ?_
    refine a_icmp_ge (tgt := 559) C dL_law_543 (by decide) (fun _ => ?_) (fun h => absurd (Int32.not_lt.mp hv9) h)
    refine a_iload C dL_law_559 rfl ?_
    refine a_bipush (v := nI 24) C dL_law_561 (by decide) ?_
    refine a_ishr C dL_law_563 ?_
    refine a_iconst (v := nI 3) C dL_law_564 (by decide) ?_
    refine a_iand C dL_law_565 ?_
    refine a_if_ne (tgt := 603) C dL_law_566 (by decide) (fun _ => ?_) (fun _ => ?_)
    · exact k w2 _ _ v9 A' _ _ _ (tldA A) (by omega) (by omega) hA' hD2 (hF2.L hL) hS2 (hF2.M hM) hV
    · have hz : 0 < svN sv := by unfold svN; split <;> omega
      have hs6 := hS2.1.2
      refine a_aload_n C dL_law_569 rfl rfl ?_
      refine l0_callSW C hfl _ (H_undo (fr := 6) (lo := 90) (K_X6_undo hD2 hA' hS2 hz) (fun r w' h => ⟨_, h.1⟩)) sW_219 dL_law_570 rfl (Nat.le_of_ble_eq_true rfl) ⟨Nat.le_of_ble_eq_true rfl, Nat.le_of_ble_eq_true rfl⟩ ⟨by show 207 + 0 + (x + 6 * d) ≤ 0 + 600172; omega, by show us + 36 * d ≤ 0 + 7300668; omega⟩ (fun r3 w3 hp3 => ?_)
      obtain ⟨rfl, hD3, hS3, hF3⟩ := hp3
      have hD3' : DR w3 3 A := hD3
      refine n_if_lt (tgt := 601) C dL_law_573 (by decide) (by omega) ?_
      refine a_aload_n C dL_law_576 rfl rfl ?_
      refine l_callS C hfl _ (K_L_told hD3' hA) sL_211 dL_law_577 rfl (Nat.le_of_ble_eq_true rfl) ⟨Nat.le_of_ble_eq_true rfl, Nat.le_of_ble_eq_true rfl⟩ ⟨by show 207 + 0 + (x + 6 * d) + 6 * (12 - kN A) ≤ 0 + 600172; omega, by show us + 36 * d + 36 * (12 - kN A) ≤ 0 + 7300668; omega⟩ (fun r4 w4 hp4 => ?_)
      obtain ⟨rfl, rfl⟩ := hp4
      refine a_lload C dL_law_580 rfl ?_
      refine a_lcmp C dL_law_582 ?_
      refine a_if_ne (tgt := 601) C dL_law_583 (by decide) (fun h => absurd (lcmp_0 _) h) (fun _ => ?_)
      refine l_ex (ex2 := (0, x + 6 * d + 6 * d)) (us2 := us + 36 * d + 36 * d) (pr_eq (by rw [← hd])) (by rw [← hd]) ?_
      refine a_aload_n C dL_law_586 rfl rfl ?_
      refine a_iload C dL_law_587 rfl ?_
      refine a_iload C dL_law_589 rfl ?_
      refine a_iload C dL_law_591 rfl ?_
      refine l0_callS C hfl _ (hK9 w4 _ _ _ hD3' hS3) sL_215 dL_law_593 rfl (Nat.le_of_ble_eq_true rfl) ⟨Nat.le_of_ble_eq_true rfl, Nat.le_of_ble_eq_true rfl⟩ ⟨by show 207 + 0 + (x + 6 * d + 6 * d) ≤ 0 + 600172; omega, by show us + 36 * d + 36 * d ≤ 0 + 7300668; omega⟩ (fun r5 w5 hp5 => ?_)
      obtain ⟨rfl, hD5, hS5, hF5⟩ := hp5
      refine a_iload C dL_law_596 rfl ?_
      refine a_icmp_eq (tgt := 603) C dL_law_598 (by decide) (fun _ => ?_) (fun h => absurd rfl h)
      exact k w5 _ _ v9 A' _ _ _ (tldA A) (by omega) (by omega) hA' hD5 (hF5.L (hF3.L (hF2.L hL))) hS5 (hF5.M (hF3.M (hF2.M hM))) hV
set_option maxRecDepth 20000 in
theorem law_loop {b : Nat} (C : aCtx G p s m #[Value.ref b] meth c cL_law 15 RL) (hr : meth.sig.returnType = ret) (hs : G.2.1 = s.heap.size) (hfl : l.flags = flags0) (hX : aScr G s N xs) (hN : N ≤ 260) :
    ∀ (n i x us : Nat) (w : Wd) (A : St) (S : Nat → St) (sv lt : Nat) (F : Nat → Bool), 44 < i + n → i ≤ 44 → x ≤ 150 * i → us ≤ 2407 + 1000 * i → AOK A → DR w 3 A → LR w A → SvC w S sv lt → Mo w F → WL G p l e s m #[Value.ref b] below meth c (lw_Z below #[Value.ref b] s) 81 (lZ i) [] (fzM w (0, x) us) := by
  intro n
  induction n with
  | zero => intro i x us w A S sv lt F h1 h2; exact absurd h1 (by omega)
  | succ n ih =>
    intro i x us w A S sv lt F h1 h2 h3 h4 hA hD hL hS hM
    refine a_iload C dL_law_81 rfl ?_
    refine a_bipush (v := nI 44) C dL_law_83 (by decide) ?_
    refine n_icmp_ge (tgt := 694) C dL_law_85 (by decide) (by omega) (by decide) (fun _ => ?_) (fun hi => ?_)
    · refine a_iconst (v := 1) C dL_law_694 (by decide) ?_
      exact law_end C hr hs (by show 207 + 0 + x ≤ 600172; omega) (by show us ≤ 7300668; omega) dL_law_695
    · refine lw_A C hX (by omega) hL hA hi ⟨by omega, by omega⟩ (fun X Y t0 t ht h0 => ?_)
      refine lw_B C hL hA ⟨by omega, by omega⟩ ht (fun a ha => ?_)
      refine lw_C C hA ⟨by omega, by omega⟩ ht h0 ha (fun b9 hv => ?_)
      refine lw_D C hfl hA hD hL hS hM hv ⟨by omega, by omega⟩ (fun w' x' us' v A' S' sv' lt' z g1 g2 hA' hD' hL' hS' hM' hV => ?_)
      refine lw_E C hfl hA' hD' hL' hS' hM' hV ht (avd_lt hA ha) hi ⟨by omega, by omega⟩ (fun w2 x2 us2 F2 g3 g4 hD2 hL2 hS2 hM2 => ?_)
      exact ih (i + 1) x2 us2 w2 A' S' sv' lt' F2 (by omega) (by omega) (by omega) (by omega) hA' hD2 hL2 hS2 hM2
theorem new3 {F : Nat → aC} : aNew (aNew (aNew (204, 0, 2305, F) (.inl (8, (14, .inl (fun _ => 0)))) 14) (.inl (8, (64, .inl (fun _ => 0)))) 64) (.inl (8, (24, .inl (fun _ => 0)))) 24 = (207, 0, 2407, hL F) := by
  unfold aNew aUp hL
  congr 3
  funext a
  show (if a = 206 then _ else if a = 205 then _ else if a = 204 then _ else F a) = _
  by_cases h4 : a = 204
  · subst h4; rfl
  · by_cases h5 : a = 205
    · subst h5; rfl
    · by_cases h6 : a = 206
      · subst h6; rfl
      · rw [if_neg h6, if_neg h5, if_neg h4, if_neg h4, if_neg h5, if_neg h6]
def lY (i : Nat) : aL := lZ i
set_option maxRecDepth 20000 in
set_option maxHeartbeats 4000000 in
theorem law_start {b : Nat} (C : aCtx G p s m #[Value.ref b] meth c cL_law 15 RL) (hAO : aAO s) (hr : meth.sig.returnType = ret) (hs : G.2.1 = s.heap.size) (hfl : l.flags = flags0) (hX : aScr G s N xs) (hN : N ≤ 260) {f : Nat → aC} :
    WL G p l e s m #[Value.ref b] below meth c (lw_Z below #[Value.ref b] s) 0 [some (.ref 1003)] [] (0, 0, 0, f) := by
  have K47 : ∀ (n i : Nat) (v : Wd), 6 < i + n → i ≤ 6 → v.1 206 = lR i → Frm [206] w1 v → WL G p l e s m #[Value.ref b] below meth c (lw_Z below #[Value.ref b] s) 47 (lZ i) [] (fzM v (0, 0) 2407) := by
    intro n
    induction n with
    | zero => intro i v h1 h2; exact absurd h1 (by omega)
    | succ n ih =>
      intro i v h1 h2 h3 h4
      refine a_iload C dL_law_47 rfl ?_
      refine a_bipush (v := nI 6) C dL_law_49 (by decide) ?_
      refine n_icmp_ge (tgt := 78) C dL_law_51 (by decide) (by omega) (by decide) (fun g1 => ?_) (fun g1 => ?_)
      · have e6 : i = 6 := by omega
        subst e6
        refine a_iconst (v := nI 0) C dL_law_78 (by decide) ?_
        refine a_istore C dL_law_79 (by decide) ?_
        refine a_eq (L' := lZ 0) rfl rfl rfl ?_
        exact law_loop C hr hs hfl hX hN 45 0 0 2407 v (stI 6) (fun _ => stI 6) 0 5 (fun _ => false) (by omega) (by omega) (by omega) (by omega) st0_ok (v0_dr (w1_x h4)) (w0_lr h4 h3) (v0_sv (w1_x h4) _) (v0_mo (w1_x h4))
      · refine a_aload C dL_law_54 rfl ?_
        refine a_iconst (v := nI 4) C dL_law_56 (by decide) ?_
        refine a_iload C dL_law_57 rfl ?_
        refine n_imul C dL_law_59 ?_
        refine a_iconst (v := (-1)) C dL_law_60 (by decide) ?_
        refine f_iast C dL_law_61 (by decide) rfl rfl (by omega) (by decide) rfl ?_
        refine a_aload C dL_law_62 rfl ?_
        refine a_iconst (v := nI 4) C dL_law_64 (by decide) ?_
        refine a_iload C dL_law_65 rfl ?_
        refine n_imul C dL_law_67 ?_
        refine a_iconst (v := nI 1) C dL_law_68 (by decide) ?_
        refine n_iadd C dL_law_69 ?_
        refine a_iconst (v := (-1)) C dL_law_70 (by decide) ?_
        refine f_iast C dL_law_71 (by decide) rfl rfl (by omega) (by decide) rfl ?_
        refine n_iinc C dL_law_72 rfl (by decide) ?_
        refine a_goto (tgt := 47) C dL_law_75 (by decide) ?_
        refine a_eq (L' := lZ (i + 1)) rfl rfl rfl ?_
        exact ih (i + 1) _ (by omega) (by omega) (lR_s h3) ((h4.set (by decide)).set (by decide))
  refine a_pad 14 ?_
  refine a_eq (L' := [some (.ref 1003), none, none, none, none, none, none, none, none, none, none, none, none, none, none]) rfl rfl rfl ?_
  refine a_new (ci := 6) (fs := [.null, .null, .null, .null, .null, .int 0, .null, .int 0, .int 0]) C kL_11 inst_6 init_6 rfl (dfv6 G) dL_law_0 (show 0 < 207 by decide) rfl ⟨Nat.le_of_ble_eq_true rfl, Nat.le_of_ble_eq_true rfl⟩ ?_
  refine a_nw (fun f1 za1 zb1 => ?_)
  refine a_eq (st' := [.ref 0]) (M' := (1, 0, 9, f1)) rfl rfl rfl ?_
  refine a_dup C dL_law_3 rfl ?_
  refine a_callIX C hAO [] (K_X6_init (us := 9) (f := f1) za1) iL_206 dL_law_4 rfl (Nat.le_of_ble_eq_true rfl) ⟨Nat.le_of_ble_eq_true rfl, Nat.le_of_ble_eq_true rfl⟩ ⟨by show 1 + 0 + 203 ≤ 0 + 600172; omega, by show 9 + 2296 ≤ 0 + 7300668; omega⟩ (fun r9 M9 hp9 _ _ => ?_)
  obtain ⟨rfl, F, rfl, hM6, h49, hst⟩ := hp9
  refine a_eq (st' := [.ref 0]) (M' := (204, 0, 2305, F)) rfl rfl rfl ?_
  refine a_astore_n C dL_law_7 rfl (by decide) ?_
  refine a_bipush (v := nI 14) C dL_law_8 (by decide) ?_
  refine a_newaI C (N := 14) dL_law_10 rfl (by decide) (show 204 < 207 by decide) rfl ⟨by show 204 + 1 ≤ 0 + 600172; omega, by show 2305 + 14 ≤ 0 + 7300668; omega⟩ ?_
  refine a_astore_n C dL_law_12 rfl (by decide) ?_
  refine a_bipush (v := nI 64) C dL_law_13 (by decide) ?_
  refine a_newaI C (N := 64) dL_law_15 rfl (by decide) (show 205 < 207 by decide) rfl ⟨by show 205 + 1 ≤ 0 + 600172; omega, by show 2305 + 14 + 64 ≤ 0 + 7300668; omega⟩ ?_
  refine a_astore_n C dL_law_17 rfl (by decide) ?_
  refine a_bipush (v := nI 24) C dL_law_18 (by decide) ?_
  refine a_newaI C (N := 24) dL_law_20 rfl (by decide) (show 206 < 207 by decide) rfl ⟨by show 206 + 1 ≤ 0 + 600172; omega, by show 2305 + 14 + 64 + 24 ≤ 0 + 7300668; omega⟩ ?_
  refine a_eq (st' := [.ref 206]) rfl rfl new3 ?_
  refine a_astore C dL_law_22 (by decide) ?_
  refine a_eq (L' := [some (.ref 1003), some (.ref 0), some (.ref 204), some (.ref 205), some (.ref 206), none, none, none, none, none, none, none, none, none, none]) rfl rfl rfl ?_
  refine a_heap (f2 := fz w0) (hL_sm hM6 h49 hst) ?_
  refine a_eq (M' := fzM w0 (0, 0) 2407) rfl rfl rfl ?_
  refine a_aload_n C dL_law_24 rfl rfl ?_
  refine a_bipush (v := nI 6) C dL_law_25 (by decide) ?_
  refine a_iconst (v := nI 2) C dL_law_27 (by decide) ?_
  refine f_iast C dL_law_28 (by decide) rfl rfl (by decide) (by decide) rfl ?_
  refine a_aload_n C dL_law_29 rfl rfl ?_
  refine a_bipush (v := nI 7) C dL_law_30 (by decide) ?_
  refine a_iconst (v := nI 2) C dL_law_32 (by decide) ?_
  refine f_iast C dL_law_33 (by decide) rfl rfl (by decide) (by decide) rfl ?_
  refine a_aload_n C dL_law_34 rfl rfl ?_
  refine a_bipush (v := nI 8) C dL_law_35 (by decide) ?_
  refine a_iconst (v := nI 4) C dL_law_37 (by decide) ?_
  refine f_iast C dL_law_38 (by decide) rfl rfl (by decide) (by decide) rfl ?_
  refine a_aload_n C dL_law_39 rfl rfl ?_
  refine a_bipush (v := nI 9) C dL_law_40 (by decide) ?_
  refine a_iconst (v := nI 1) C dL_law_42 (by decide) ?_
  refine f_iast C dL_law_43 (by decide) rfl rfl (by decide) (by decide) rfl ?_
  refine a_iconst (v := nI 0) C dL_law_44 (by decide) ?_
  refine a_istore C dL_law_45 (by decide) ?_
  refine a_eq (L' := lZ 0) rfl rfl rfl ?_
  exact K47 7 0 w1 (by omega) (by omega) lR_0 Frm.rf
/-- the law comes to its end with true -/
theorem whole_start {p : Program} {e : Env} {s : State} {m : MethodId} {below : List Frame} {meth : Method} {c : Code} (l : Launch) (hflags : l.flags = flags0) {b L : Nat} {xs : Nat → Int32} (hL : L ≤ 260) (C0 : lw_At p s m meth c b L xs) : W p l e room_1 s m #[Value.ref b] below meth c s.heap [] 0 0 (lw_Z below #[Value.ref b] s) (entryFrame m ([Value.ref b] : List Value).toArray 15) := by
  obtain ⟨G, C, hAO, hs, hb, hX, hr⟩ := law_ctx C0
  subst hb
  have hl := aEn_entry G [.ref 1003] (n := 15) (by rw [aSz_ok]; decide)
  rw [lg_entry_eq]
  exact law_start (l := l) (e := e) (below := below) C hAO hr hs hflags hX hL (f := fun _ => .inl (8, (0, .inl (fun _ => 0)))) s.heap [] _ 0 0 hl (fun k q h => by simp [aW] at h) (by show s.heap.size = G.2.1 + (0 + 0); omega) va_S.rf rfl rfl
end A76

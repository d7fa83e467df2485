section A24
theorem wSet_th {w : Wd} {a b k : Nat} {x : Int32} (h : ¬ b = a) : (wSet w a k x).1 b = w.1 b := by simp [wSet, h]
def nxL (lt : Nat) : Nat := if lt < 5 then lt + 1 else 0
theorem nxL_lt (lt : Nat) : nxL lt < 6 := by
  unfold nxL
  split <;> omega
/-- the class's saved states: a ring, the latest at lt -/
def SvC (w : Wd) (S : Nat → St) (sv lt : Nat) : Prop := (w.1 0 8 = nI sv ∧ sv ≤ 6) ∧ (w.1 0 7 = nI lt ∧ lt < 6) ∧ ∀ q, q < sv → AOK (S q) ∧ DR w (66 + 23 * ((lt + 6 - q) % 6)) (S q)
def psh (A : St) (S : Nat → St) (q : Nat) : St := match q with
  | 0 => A
  | q + 1 => S q
def FrV (w w' : Wd) : Prop := (∀ a, ¬ a = 0 → (a < 66 ∨ 204 ≤ a) → w'.1 a = w.1 a) ∧ (∀ j, ¬ j = 7 → ¬ j = 8 → w'.1 0 j = w.1 0 j) ∧ w'.2 = w.2
theorem sv_end {w v u : Wd} {A : St} {S : Nat → St} {sv lt : Nat} (hA : AOK A) (hS : SvC w S sv lt) (hD : DR v (66 + 23 * nxL lt) A) (hF : FrB (66 + 23 * nxL lt) (wSet w 0 7 (nI (nxL lt))) v) (h8 : u.1 0 8 = nI (svN sv)) (hu : ∀ a, ¬ a = 0 → u.1 a = v.1 a) (hu0 : ∀ j, ¬ j = 8 → u.1 0 j = v.1 0 j) (hu2 : u.2 = v.2) :
    SvC u (psh A S) (svN sv) (nxL lt) ∧ FrV w u := by
  have hx := nxL_lt lt
  have hs := hS.1.2
  have hl := hS.2.1.2
  have hn : svN sv ≤ 6 := by unfold svN; split <;> omega
  have v0 : v.1 0 = (wSet w 0 7 (nI (nxL lt))).1 0 := hF.1 0 (by omega)
  refine ⟨⟨⟨h8, hn⟩, ⟨by rw [hu0 7 (by decide), v0]; exact wSet_at, hx⟩, fun q hq => ?_⟩, fun a a0 ha => ?_, fun j j7 j8 => ?_, ?_⟩
  · match q, hq with
    | 0, _ =>
      have e : (nxL lt + 6 - 0) % 6 = nxL lt := by omega
      rw [e]
      exact ⟨hA, hD.same hA (fun a h1 h2 => hu a (by omega))⟩
    | q + 1, hq =>
      have hq5 : q < sv ∧ q < 5 := by
        unfold svN at hq
        split at hq <;> omega
      have e : (nxL lt + 6 - (q + 1)) % 6 = (lt + 6 - q) % 6 := by
        unfold nxL
        split <;> omega
      have ne : ¬ (lt + 6 - q) % 6 = nxL lt := by
        unfold nxL
        split <;> omega
      rw [e]
      obtain ⟨z1, z2⟩ := hS.2.2 q hq5.1
      refine ⟨z1, z2.same z1 (fun a h1 h2 => ?_)⟩
      rw [hu a (by omega), hF.1 a (by omega), wSet_th (by omega)]
  · rw [hu a a0, hF.1 a (by omega), wSet_th a0]
  · rw [hu0 j j8, v0]
    exact wSet_ne (by omega)
  · exact hu2.trans hF.2
set_option maxRecDepth 20000 in
set_option maxHeartbeats 4000000 in
theorem K_X6_save {w : Wd} {A : St} {S : Nat → St} {sv lt : Nat} (hD : DR w 3 A) (hA : AOK A) (hS : SvC w S sv lt) : CF yX6_save cX6_save 1 none 2 62 [.ref 0] w (fun r w' => r = none ∧ SvC w' (psh A S) (svN sv) (nxL lt) ∧ FrV w w') := by
  have zq_s := hS.1.2
  have zq_l := hS.2.1.2
  have zq_x := nxL_lt lt
  have zq_D : DR (wSet w 0 7 (nI (nxL lt))) 3 A := hD.same hA (fun a h1 h2 => wSet_th (by omega))
  refine CF.of ok_X6_save (Nat.le_of_ble_eq_true rfl) (fun ex us G9 p9 l9 e9 s9 m9 ar9 be9 me9 co9 C hr => ?_)
  refine a_aload_n C dX6_save_0 rfl rfl ?_
  refine a_via 19 (nI (nxL lt)) ?_ (fun zJ19 => ?_)
  · refine f_putf C fX6_30 dX6_save_19 (by first | decide | omega) rfl rfl rfl (Nat.le_of_ble_eq_true rfl) rfl ?_
    refine a_aload_n C dX6_save_22 rfl rfl ?_
    refine a_getfF C fX6_26 dX6_save_23 (tw (by first | decide | omega)) (by first | decide | omega) rfl rfl ?_
    refine a_aload_n C dX6_save_26 rfl rfl ?_
    refine a_getf C fX6_30 dX6_save_27 (tw (by first | decide | omega)) (by first | decide | omega) rfl (gl wSet_at) ?_
    refine a_aaldS C dX6_save_30 (tw (by first | decide | omega)) (by first | decide | omega) rfl rfl (by first | decide | omega) (by decide) rfl ?_
    refine a_aload_n C dX6_save_31 rfl rfl ?_
    refine a_getfF C fX6_19 dX6_save_32 (tw (by first | decide | omega)) (by first | decide | omega) rfl rfl ?_
    refine f_callV C _ _ (K_X5_copyFrom (w := wSet w 0 7 (nI (nxL lt))) (A := A) (j := nxL lt + 2) (i := 0) (by omega) (by decide) (by omega) zq_D hA) vX6_227 (show 66 + 23 * nxL lt < 207 by omega) (fzc_state (j := nxL lt + 2) (by omega) _ _) rfl dX6_save_35 rfl (Nat.le_of_ble_eq_true rfl) ⟨by decide, by decide⟩ (fun zr35 zw35 zp35 => ?_)
    obtain ⟨rfl, zq_E, zq_F⟩ := zp35
    have zq_8 : zw35.1 0 8 = nI sv := by rw [zq_F.1 0 (Or.inl (by have := (stB_le (j := nxL lt + 2) (by omega)).1; omega))]; exact hS.1.1
    refine a_aload_n C dX6_save_38 rfl rfl ?_
    refine a_getf C fX6_235 dX6_save_39 (tw (by first | decide | omega)) (by first | decide | omega) rfl (gl zq_8) ?_
    refine a_bipush (v := nI 6) C dX6_save_42 (by decide) ?_
    refine n_icmp_ge (tgt := 57) C dX6_save_44 (by decide) (by first | decide | omega) (by first | decide | omega) (fun h_44 => ?_) (fun h_44 => ?_)
    · refine f_vret C hr dX6_save_57 ?_
      first | exact ⟨rfl, sv_end hA hS zq_E zq_F (by rw [zq_8]; unfold svN; rw [if_pos (by omega)]; congr 1; omega) (fun _ _ => rfl) (fun _ _ => rfl) rfl⟩ | exact ⟨rfl, sv_end hA hS zq_E zq_F (by unfold svN; rw [if_neg (by omega)]; exact wSet_at) (fun a ha => wSet_th ha) (fun j hj => wSet_ne (by omega)) rfl⟩
    · refine a_aload_n C dX6_save_47 rfl rfl ?_
      refine a_dup C dX6_save_48 rfl ?_
      refine a_getf C fX6_235 dX6_save_49 (tw (by first | decide | omega)) (by first | decide | omega) rfl (gl zq_8) ?_
      refine a_iconst (v := nI 1) C dX6_save_52 (by decide) ?_
      first | refine n_iadd C dX6_save_53 ?_ | refine a_iadd C dX6_save_53 ?_
      refine f_putf C fX6_235 dX6_save_54 (by first | decide | omega) rfl rfl rfl (Nat.le_of_ble_eq_true rfl) rfl ?_
      refine f_vret C hr dX6_save_57 ?_
      first | exact ⟨rfl, sv_end hA hS zq_E zq_F (by rw [zq_8]; unfold svN; rw [if_pos (by omega)]; congr 1; omega) (fun _ _ => rfl) (fun _ _ => rfl) rfl⟩ | exact ⟨rfl, sv_end hA hS zq_E zq_F (by unfold svN; rw [if_neg (by omega)]; exact wSet_at) (fun a ha => wSet_th ha) (fun j hj => wSet_ne (by omega)) rfl⟩
  · refine a_aload_n C dX6_save_1 rfl rfl ?_
    refine a_getf C fX6_30 dX6_save_2 (tw (by first | decide | omega)) (by first | decide | omega) rfl (gl hS.2.1.1) ?_
    refine a_iconst (v := nI 5) C dX6_save_5 (by decide) ?_
    refine n_icmp_ge (tgt := 18) C dX6_save_6 (by decide) (by first | decide | omega) (by first | decide | omega) (fun h_6 => ?_) (fun h_6 => ?_)
    · refine a_iconst (v := nI 0) C dX6_save_18 (by decide) ?_
      refine a_eq rfl (gl1 ?_) rfl zJ19
      · (unfold nxL; first | rw [if_pos (by omega)] | rw [if_neg (by omega)])
    · refine a_aload_n C dX6_save_9 rfl rfl ?_
      refine a_getf C fX6_30 dX6_save_10 (tw (by first | decide | omega)) (by first | decide | omega) rfl (gl hS.2.1.1) ?_
      refine a_iconst (v := nI 1) C dX6_save_13 (by decide) ?_
      first | refine n_iadd C dX6_save_14 ?_ | refine a_iadd C dX6_save_14 ?_
      refine a_goto (tgt := 19) C dX6_save_15 (by decide) ?_
      refine a_eq rfl (gl1 ?_) rfl zJ19
      · (unfold nxL; first | rw [if_pos (by omega)] | rw [if_neg (by omega)])

theorem add_end {w : Wd} {A : St} {c q : Nat} (hD : DR w 3 A) (hA : AOK A) (hn : kN A < 12) : DR (wSet (wSet (wRow w (3 + 5 + kN A) (k6 (w.1 (3 + 5 + kN A)) (nI c) (nI c) (nI 0) (nI q) (nI 0) (nI 0))) 3 1 (nI (kN A + 1))) 3 5 (A 1 + nI (sN A 1 * lvN c))) 3 (cutA A c q) := by
  have h1 : DN (wRow w (3 + 5 + kN A) (k6 (w.1 (3 + 5 + kN A)) (nI c) (nI c) (nI 0) (nI q) (nI 0) (nI 0))) 3 (upd (upd (upd (upd (upd (upd A (40 + 6 * kN A + 0) (nI c)) (40 + 6 * kN A + 1) (nI q)) (40 + 6 * kN A + 2) (nI 0)) (40 + 6 * kN A + 3) (nI c)) (40 + 6 * kN A + 4) (nI 0)) (40 + 6 * kN A + 5) (nI 0)) (kN A) := by
    intro i hi
    rw [upd_ne (by omega), upd_ne (by omega), upd_ne (by omega), upd_ne (by omega), upd_ne (by omega), upd_ne (by omega)]
    have ht : ¬ 3 + toI i = 3 + 5 + kN A := by
      unfold toI
      repeat' split
      all_goals omega
    rw [wRow_ne ht]
    exact hD.dn i hi
  have h2 := h1.ext (fun j hj => by
    rw [wRow_at]
    match j, hj with
    | 0, _ => rw [upd_ne (by omega), upd_ne (by omega), upd_ne (by omega), upd_ne (by omega), upd_ne (by omega), upd_at]; rfl
    | 1, _ => rw [upd_ne (by omega), upd_ne (by omega), upd_ne (by omega), upd_ne (by omega), upd_at]; rfl
    | 2, _ => rw [upd_ne (by omega), upd_ne (by omega), upd_ne (by omega), upd_at]; rfl
    | 3, _ => rw [upd_ne (by omega), upd_ne (by omega), upd_at]; rfl
    | 4, _ => rw [upd_ne (by omega), upd_at]; rfl
    | 5, _ => rw [upd_at]; rfl)
  have h3 := (h2.set (i := 0) (x := nI (kN A + 1)) (by omega) (by decide)).set (i := 1) (x := A 1 + nI (sN A 1 * lvN c)) (by omega) (by decide)
  refine h3.dr ?_
  show iN (cutA A c q 0) = kN A + 1
  unfold cutA
  rw [upd_ne (by omega), upd_at, iN_nI (by omega)]
set_option maxRecDepth 20000 in
set_option maxHeartbeats 4000000 in
theorem K_X6_addKey {w : Wd} {A : St} {c q : Nat} (hD : DR w 3 A) (hA : AOK A) (hn : kN A < 12) (hc : c < 81) (hq : q < 4) : CF yX6_addKey cX6_addKey 3 none 1 22 [.ref 0, .int (nI c), .int (nI q)] w (fun r w' => r = none ∧ DR w' 3 (cutA A c q) ∧ Fr w w') := by
  have hN := hD.dn
  refine CF.of ok_X6_addKey (Nat.le_of_ble_eq_true rfl) (fun ex us G9 p9 l9 e9 s9 m9 ar9 be9 me9 co9 C hr => ?_)
  refine a_aload_n C dX6_addKey_0 rfl rfl ?_
  refine a_getfF C fX6_19 dX6_addKey_1 (tw (by first | decide | omega)) (by first | decide | omega) rfl rfl ?_
  refine a_getfF C fX6_103 dX6_addKey_4 (tw (by first | decide | omega)) (by first | decide | omega) rfl rfl ?_
  refine a_aload_n C dX6_addKey_7 rfl rfl ?_
  refine a_getfF C fX6_19 dX6_addKey_8 (tw (by first | decide | omega)) (by first | decide | omega) rfl rfl ?_
  refine a_getf C fX6_80 dX6_addKey_11 (tw (by first | decide | omega)) (by first | decide | omega) rfl (gl (DR_n hD hA)) ?_
  refine a_aaldK C dX6_addKey_14 (tw (by first | decide | omega)) (by first | decide | omega) rfl rfl (by first | decide | omega) (by decide) rfl ?_
  refine a_iload_n C dX6_addKey_15 rfl rfl ?_
  refine a_iload_n C dX6_addKey_16 rfl rfl ?_
  refine f_callV C _ _ (K_X2_startWith (j := 0) (k := kN A) (by decide) hn) vX6_409 (show 3 + 5 + kN A < 207 by omega) (fz_key (j := 0) (by decide) hn) rfl dX6_addKey_17 rfl (Nat.le_of_ble_eq_true rfl) ⟨by decide, by decide⟩ (fun zr17 zw17 zp17 => ?_)
  obtain ⟨rfl, rfl⟩ := zp17
  refine a_wd (show _ = wRow w (3 + 5 + kN A) (k6 (w.1 (3 + 5 + kN A)) (nI c) (nI c) (nI 0) (nI q) (nI 0) (nI 0)) from rfl) ?_
  refine a_aload_n C dX6_addKey_20 rfl rfl ?_
  refine a_getfF C fX6_19 dX6_addKey_21 (tw (by first | decide | omega)) (by first | decide | omega) rfl rfl ?_
  refine a_dup C dX6_addKey_24 rfl ?_
  refine a_getf C fX6_80 dX6_addKey_25 (tw (by first | decide | omega)) (by first | decide | omega) rfl (gl (show _ = nI (kN A) from by rw [wRow_ne (by omega)]; exact hN.n.trans hA.n)) ?_
  refine a_iconst (v := nI 1) C dX6_addKey_28 (by decide) ?_
  first | refine n_iadd C dX6_addKey_29 ?_ | refine a_iadd C dX6_addKey_29 ?_
  refine f_putf C fX6_80 dX6_addKey_30 (by first | decide | omega) rfl rfl rfl (Nat.le_of_ble_eq_true rfl) rfl ?_
  refine a_aload_n C dX6_addKey_33 rfl rfl ?_
  refine a_getfF C fX6_19 dX6_addKey_34 (tw (by first | decide | omega)) (by first | decide | omega) rfl rfl ?_
  refine a_dup C dX6_addKey_37 rfl ?_
  refine a_getf C fX6_319 dX6_addKey_38 (tw (by first | decide | omega)) (by first | decide | omega) rfl (gl (show _ = A 1 from by rw [wSet_ne (by decide), wRow_ne (by omega)]; exact hN.c (i := 1) (by decide))) ?_
  refine a_aload_n C dX6_addKey_41 rfl rfl ?_
  refine a_getfF C fX6_19 dX6_addKey_42 (tw (by first | decide | omega)) (by first | decide | omega) rfl rfl ?_
  refine a_getfF C fX6_194 dX6_addKey_45 (tw (by first | decide | omega)) (by first | decide | omega) rfl rfl ?_
  refine a_iconst (v := nI 1) C dX6_addKey_48 (by decide) ?_
  refine n_iald C dX6_addKey_49 (tw (by first | decide | omega)) (by first | decide | omega) rfl rfl (by first | decide | omega) (by decide) (show _ = nI (sN A 1) from by rw [wSet_ne (by decide), wRow_ne (by omega)]; exact (hN.s (j := 1) (by decide)).trans (hA.s (by decide))) ?_
  refine a_aload_n C dX6_addKey_50 rfl rfl ?_
  refine a_getfF C fX6_37 dX6_addKey_51 (tw (by first | decide | omega)) (by first | decide | omega) rfl rfl ?_
  refine a_getfF C fX6_240 dX6_addKey_54 (tw (by first | decide | omega)) (by first | decide | omega) rfl rfl ?_
  refine a_iload_n C dX6_addKey_57 rfl rfl ?_
  refine n_iald C dX6_addKey_58 (tw (by first | decide | omega)) (by first | decide | omega) rfl rfl (by first | decide | omega) (by decide) rfl ?_
  first | refine n_imul C dX6_addKey_59 ?_ | refine a_imul C dX6_addKey_59 ?_
  first | refine n_iadd C dX6_addKey_60 ?_ | refine a_iadd C dX6_addKey_60 ?_
  refine f_putf C fX6_319 dX6_addKey_61 (by first | decide | omega) rfl rfl rfl (Nat.le_of_ble_eq_true rfl) rfl ?_
  refine f_vret C hr dX6_addKey_64 ?_
  exact ⟨rfl, add_end hD hA hn, (by repeat' (first | exact Fr_refl | (refine Fr_set (by omega) ?_) | (refine Fr_row (by omega) ?_)))⟩

theorem dee_kN {A : St} {k j : Nat} : kN (deeA A k j) = kN A := by
  unfold deeA
  rw [kN_upd (by omega), kN_upd (by omega)]
theorem tu4_kN {A : St} {k p : Nat} : kN (tu4A A k p) = kN A := by
  unfold tu4A tu1A
  rw [kN_upd (by omega), kN_upd (by omega), kN_upd (by omega), kN_upd (by omega)]
theorem tur_kN {A : St} {k p : Nat} : kN (turA A k p) = kN A := by
  unfold turA tu7A failA
  split
  · split
    · exact tu4_kN
    · rw [kN_upd (by omega), kN_upd (by omega), kN_upd (by omega)]
      exact tu4_kN
  · rw [kN_upd (by omega), kN_upd (by omega)]
theorem tu4_c {A : St} {k p : Nat} (hA : AOK A) (hk : k < 12) (hp : p < 6) : upd (upd (upd (upd A (40 + 6 * k + 4) (A (40 + 6 * k + 4) + nI 1)) (16 + 4 * p + 2) (A (16 + 4 * p + 2) + nI 1)) 2 (A 2 + nI 1)) (12 + oN A k) (A (12 + oN A k) + nI 1) = tu4A A k p := by
  have h := hA.o4 hk
  unfold tu4A tu1A
  rw [upd_comm (k := 2) (j := 12 + oN A k) (by omega), upd_comm (k := 16 + 4 * p + 2) (j := 12 + oN A k) (by omega)]
set_option maxRecDepth 20000 in
set_option maxHeartbeats 4000000 in
theorem K_X6_cutDeeper {w : Wd} {A : St} {k j : Nat} (hD : DR w 3 A) (hA : AOK A) (hk : k < kN A) (hj : j < 4) : CF yX6_cutDeeper cX6_cutDeeper 3 none 0 0 [.ref 0, .int (nI k), .int (nI j)] w (fun r w' => r = none ∧ DR w' 3 (deeA A k j) ∧ Fr w w') := by
  have zq_n := hA.n12
  have hN := hD.dn
  refine CF.of ok_X6_cutDeeper (Nat.le_of_ble_eq_true rfl) (fun ex us G9 p9 l9 e9 s9 m9 ar9 be9 me9 co9 C hr => ?_)
  refine a_aload_n C dX6_cutDeeper_0 rfl rfl ?_
  refine a_getfF C fX6_19 dX6_cutDeeper_1 (tw (by first | decide | omega)) (by first | decide | omega) rfl rfl ?_
  refine a_getfF C fX6_103 dX6_cutDeeper_4 (tw (by first | decide | omega)) (by first | decide | omega) rfl rfl ?_
  refine a_iload_n C dX6_cutDeeper_7 rfl rfl ?_
  refine a_aaldK C dX6_cutDeeper_8 (tw (by first | decide | omega)) (by first | decide | omega) rfl rfl (by first | decide | omega) (by decide) rfl ?_
  refine a_dup C dX6_cutDeeper_9 rfl ?_
  refine a_getf C fX6_107 dX6_cutDeeper_10 (tw (by first | decide | omega)) (by first | decide | omega) (fz_key (j := 0) (by decide) (by omega)) (gl (DR_kc hD hA (by omega))) ?_
  refine a_gets0 C gX6_412 dX6_cutDeeper_13 ?_
  refine a_iload_n C dX6_cutDeeper_16 rfl rfl ?_
  refine a_sald0 C dX6_cutDeeper_17 rfl (by first | decide | omega) nwv_eq ?_
  first | refine n_iadd C dX6_cutDeeper_18 ?_ | refine a_iadd C dX6_cutDeeper_18 ?_
  refine f_putf C fX6_107 dX6_cutDeeper_19 (by first | decide | omega) (fz_key (j := 0) (by decide) (by omega)) rfl rfl (Nat.le_of_ble_eq_true rfl) (fzc_key (j := 0) (by decide) (by omega) _ _) ?_
  refine a_dnK (k := k) (j := 0) hN zq_n (by omega) (by decide) (fun hN => ?_)
  refine a_aload_n C dX6_cutDeeper_22 rfl rfl ?_
  refine a_getfF C fX6_19 dX6_cutDeeper_23 (tw (by first | decide | omega)) (by first | decide | omega) rfl rfl ?_
  refine a_dup C dX6_cutDeeper_26 rfl ?_
  refine a_getf C fX6_319 dX6_cutDeeper_27 (tw (by first | decide | omega)) (by first | decide | omega) rfl (gl ((hN.c (i := 1) (by decide)).trans (show _ = A 1 from by (try unfold tu4A tu1A); (repeat rw [upd_ne (by omega)]) <;> rfl))) ?_
  refine a_aload_n C dX6_cutDeeper_30 rfl rfl ?_
  refine a_getfF C fX6_19 dX6_cutDeeper_31 (tw (by first | decide | omega)) (by first | decide | omega) rfl rfl ?_
  refine a_getfF C fX6_194 dX6_cutDeeper_34 (tw (by first | decide | omega)) (by first | decide | omega) rfl rfl ?_
  refine a_iconst (v := nI 1) C dX6_cutDeeper_37 (by decide) ?_
  refine n_iald C dX6_cutDeeper_38 (tw (by first | decide | omega)) (by first | decide | omega) rfl rfl (by first | decide | omega) (by decide) ((hN.s (j := 1) (by decide)).trans (show _ = nI (sN A 1) from by (try unfold tu4A tu1A); (repeat rw [upd_ne (by omega)]) <;> exact hA.s (j := 1) (by decide))) ?_
  first | refine n_iadd C dX6_cutDeeper_39 ?_ | refine a_iadd C dX6_cutDeeper_39 ?_
  refine f_putf C fX6_319 dX6_cutDeeper_40 (by first | decide | omega) rfl rfl rfl (Nat.le_of_ble_eq_true rfl) rfl ?_
  refine a_dnC 1 hN zq_n (by decide) (fun hN => ?_)
  refine f_vret C hr dX6_cutDeeper_43 ?_
  exact ⟨rfl, hN.dr dee_kN, (by repeat' (first | exact Fr_refl | (refine Fr_set (by omega) ?_) | (refine Fr_row (by omega) ?_)))⟩

set_option maxRecDepth 20000 in
set_option maxHeartbeats 4000000 in
theorem K_X6_tryKey {w : Wd} {A : St} {k p : Nat} (hD : DR w 3 A) (hA : AOK A) (hk : k < kN A) (hp : p < 6) : CF yX6_tryKey cX6_tryKey 6 (some .boolean) 2 45 [.ref 0, .int (nI k), .int (nI p)] w (fun r w' => r = some (.int (bI (opnA A (cN A k) p))) ∧ DR w' 3 (turA A k p) ∧ Fr w w') := by
  have zq_n := hA.n12
  have hN := hD.dn
  have zq_c := hA.c81 (k := k) (by omega)
  have zq_o := hA.o4 (k := k) (by omega)
  have zq_ok4 := tu4_ok hA (k := k) (p := p) (by omega) hp
  have zq_ae := tu4_ae hA (k := k) (p := p) (by omega) hp
  have zq_b := beh_lt hA (k := k) (by omega)
  have zfo : inR (nI (oN A k)) 4 = true := (inR_nI (by omega)).trans (decide_eq_true zq_o)
  refine CF.of ok_X6_tryKey (Nat.le_of_ble_eq_true rfl) (fun ex us G9 p9 l9 e9 s9 m9 ar9 be9 me9 co9 C hr => ?_)
  refine a_pad 3 ?_
  refine a_eq (L' := [some (.ref 0), some (.int (nI k)), some (.int (nI p)), none, none, none]) rfl rfl rfl ?_
  refine a_aload_n C dX6_tryKey_0 rfl rfl ?_
  refine a_getfF C fX6_19 dX6_tryKey_1 (tw (by first | decide | omega)) (by first | decide | omega) rfl rfl ?_
  refine a_getfF C fX6_103 dX6_tryKey_4 (tw (by first | decide | omega)) (by first | decide | omega) rfl rfl ?_
  refine a_iload_n C dX6_tryKey_7 rfl rfl ?_
  refine a_aaldK C dX6_tryKey_8 (tw (by first | decide | omega)) (by first | decide | omega) rfl rfl (by first | decide | omega) (by decide) rfl ?_
  refine a_astore_n C dX6_tryKey_9 rfl (by decide) ?_
  refine a_aload_n C dX6_tryKey_10 rfl rfl ?_
  refine a_getfF C fX6_19 dX6_tryKey_11 (tw (by first | decide | omega)) (by first | decide | omega) rfl rfl ?_
  refine a_getfF C fX6_149 dX6_tryKey_14 (tw (by first | decide | omega)) (by first | decide | omega) rfl rfl ?_
  refine a_iload_n C dX6_tryKey_17 rfl rfl ?_
  refine a_aaldL C dX6_tryKey_18 (tw (by first | decide | omega)) (by first | decide | omega) rfl rfl (by first | decide | omega) (by decide) rfl ?_
  refine a_astore C dX6_tryKey_19 (by decide) ?_
  refine a_aload_n C dX6_tryKey_21 rfl rfl ?_
  refine a_aload_n C dX6_tryKey_22 rfl rfl ?_
  refine a_getf C fX6_107 dX6_tryKey_23 (tw (by first | decide | omega)) (by first | decide | omega) (fz_key (j := 0) (by decide) (by omega)) (gl (DR_kc hD hA (by omega))) ?_
  refine a_iload_n C dX6_tryKey_26 rfl rfl ?_
  refine p_callV C (K_X6_opens hD hA (by first | assumption | decide | omega) (by first | assumption | decide | omega)) vX6_415 rfl (by first | decide | omega) rfl rfl dX6_tryKey_27 (Nat.le_of_ble_eq_true rfl) ⟨by decide, by decide⟩ ?_
  first | refine b_if_ne (tgt := 59) C dX6_tryKey_30 (by decide) (fun h_30 => ?_) (fun h_30 => ?_) | refine n_if_ne (tgt := 59) C dX6_tryKey_30 (by decide) (by first | decide | omega) (fun h_30 => ?_) (fun h_30 => ?_) | refine a_if_ne (tgt := 59) C dX6_tryKey_30 (by decide) (fun h_30 => ?_) (fun h_30 => ?_)
  · refine a_aload_n C dX6_tryKey_59 rfl rfl ?_
    refine a_dup C dX6_tryKey_60 rfl ?_
    refine a_getf C fX6_246 dX6_tryKey_61 (tw (by first | decide | omega)) (by first | decide | omega) (fz_key (j := 0) (by decide) (by omega)) (gl (DR_ku hD (by omega))) ?_
    refine a_iconst (v := nI 1) C dX6_tryKey_64 (by decide) ?_
    first | refine n_iadd C dX6_tryKey_65 ?_ | refine a_iadd C dX6_tryKey_65 ?_
    refine f_putf C fX6_246 dX6_tryKey_66 (by first | decide | omega) (fz_key (j := 0) (by decide) (by omega)) rfl rfl (Nat.le_of_ble_eq_true rfl) (fzc_key (j := 0) (by decide) (by omega) _ _) ?_
    refine a_dnK (k := k) (j := 4) hN zq_n (by omega) (by decide) (fun hN => ?_)
    refine a_aload C dX6_tryKey_69 rfl ?_
    refine a_dup C dX6_tryKey_71 rfl ?_
    refine a_getf C fX6_262 dX6_tryKey_72 (tw (by first | decide | omega)) (by first | decide | omega) (fz_lock (j := 0) (by decide) (by omega)) (gl ((hN.l (p := p) (j := 2) hp (by decide)).trans (show _ = A (16 + 4 * p + 2) from by (try unfold tu4A tu1A); (repeat rw [upd_ne (by omega)]) <;> rfl))) ?_
    refine a_iconst (v := nI 1) C dX6_tryKey_75 (by decide) ?_
    first | refine n_iadd C dX6_tryKey_76 ?_ | refine a_iadd C dX6_tryKey_76 ?_
    refine f_putf C fX6_262 dX6_tryKey_77 (by first | decide | omega) (fz_lock (j := 0) (by decide) (by omega)) rfl rfl (Nat.le_of_ble_eq_true rfl) (fzc_lock (j := 0) (by decide) (by omega) _ _) ?_
    refine a_dnL (q := p) (j := 2) hN zq_n (by omega) (by decide) (fun hN => ?_)
    refine a_aload_n C dX6_tryKey_80 rfl rfl ?_
    refine a_getfF C fX6_19 dX6_tryKey_81 (tw (by first | decide | omega)) (by first | decide | omega) rfl rfl ?_
    refine a_dup C dX6_tryKey_84 rfl ?_
    refine a_getf C fX6_322 dX6_tryKey_85 (tw (by first | decide | omega)) (by first | decide | omega) rfl (gl ((hN.c (i := 2) (by decide)).trans (show _ = A 2 from by (try unfold tu4A tu1A); (repeat rw [upd_ne (by omega)]) <;> rfl))) ?_
    refine a_iconst (v := nI 1) C dX6_tryKey_88 (by decide) ?_
    first | refine n_iadd C dX6_tryKey_89 ?_ | refine a_iadd C dX6_tryKey_89 ?_
    refine f_putf C fX6_322 dX6_tryKey_90 (by first | decide | omega) rfl rfl rfl (Nat.le_of_ble_eq_true rfl) rfl ?_
    refine a_dnC 2 hN zq_n (by decide) (fun hN => ?_)
    refine a_aload_n C dX6_tryKey_93 rfl rfl ?_
    refine a_getf C fX6_123 dX6_tryKey_94 (tw (by first | decide | omega)) (by first | decide | omega) (fz_key (j := 0) (by decide) (by omega)) (gl ((hN.k (k := k) (j := 1) hk (by decide)).trans (show _ = nI (oN A k) from by (try unfold tu4A tu1A); (repeat rw [upd_ne (by omega)]) <;> exact hA.o (by omega)))) ?_
    refine p_callS C ((K_X6_isPerson _)).cp sX6_54 rfl dX6_tryKey_97 (Nat.le_of_ble_eq_true rfl) ⟨by decide, by decide⟩ ?_
    refine b_if_eq (tgt := 119) C dX6_tryKey_100 (by decide) (fun h_100 => ?_) (fun h_100 => ?_)
    · exact absurd (h_100.symm.trans zfo) (by decide)
    · refine a_aload_n C dX6_tryKey_103 rfl rfl ?_
      refine a_getfF C fX6_19 dX6_tryKey_104 (tw (by first | decide | omega)) (by first | decide | omega) rfl rfl ?_
      refine a_getfF C fX6_277 dX6_tryKey_107 (tw (by first | decide | omega)) (by first | decide | omega) rfl rfl ?_
      refine a_aload_n C dX6_tryKey_110 rfl rfl ?_
      refine a_getf C fX6_123 dX6_tryKey_111 (tw (by first | decide | omega)) (by first | decide | omega) (fz_key (j := 0) (by decide) (by omega)) (gl ((hN.k (k := k) (j := 1) hk (by decide)).trans (show _ = nI (oN A k) from by (try unfold tu4A tu1A); (repeat rw [upd_ne (by omega)]) <;> exact hA.o (by omega)))) ?_
      refine a_dup2 C dX6_tryKey_114 rfl rfl ?_
      refine n_iald C dX6_tryKey_115 (tw (by first | decide | omega)) (by first | decide | omega) rfl rfl (by first | decide | omega) (by decide) ((hN.p zq_o).trans (show _ = A (12 + oN A k) from by (try unfold tu4A tu1A); (repeat rw [upd_ne (by omega)]) <;> rfl)) ?_
      refine a_iconst (v := nI 1) C dX6_tryKey_116 (by decide) ?_
      first | refine n_iadd C dX6_tryKey_117 ?_ | refine a_iadd C dX6_tryKey_117 ?_
      refine f_iast C dX6_tryKey_118 (by first | decide | omega) rfl rfl (by first | decide | omega) (by decide)  rfl ?_
      refine a_dnP hN zq_n zq_o (fun hN => ?_)
      have hN := hN.congr (B := tu4A A k p) (fun i _ => congrFun (tu4_c hA (by omega) hp) i)
      have hD4 := hN.dr tu4_kN
      refine a_aload_n C dX6_tryKey_119 rfl rfl ?_
      refine a_aload_n C dX6_tryKey_120 rfl rfl ?_
      refine a_getf C fX6_107 dX6_tryKey_121 (tw (by first | decide | omega)) (by first | decide | omega) (fz_key (j := 0) (by decide) (by omega)) (gl ((hN.k (k := k) (j := 0) hk (by decide)).trans (show _ = nI (cN A k) from by (try unfold tu4A tu1A); (repeat rw [upd_ne (by omega)]) <;> exact hA.c (by omega)))) ?_
      refine a_aload_n C dX6_tryKey_124 rfl rfl ?_
      refine a_getf C fX6_246 dX6_tryKey_125 (tw (by first | decide | omega)) (by first | decide | omega) (fz_key (j := 0) (by decide) (by omega)) (gl ((hN.k (k := k) (j := 4) hk (by decide)).trans (show _ = A (40 + 6 * k + 4) + nI 1 from by (try unfold tu4A tu1A); (repeat rw [upd_ne (by omega)]) <;> exact upd_at))) ?_
      refine p_callV C (K_X6_codeBehindUse hD4 zq_ok4 (A (40 + 6 * k + 4) + nI 1) zq_c) vX6_359 rfl (by first | decide | omega) rfl rfl dX6_tryKey_128 (Nat.le_of_ble_eq_true rfl) ⟨by decide, by decide⟩ ?_
      refine a_eq (st' := [.int (nI (behA A k))]) rfl (by rw [zq_ae.wr]; rfl) rfl ?_
      refine a_istore C dX6_tryKey_131 (by decide) ?_
      refine a_iload C dX6_tryKey_133 rfl ?_
      refine a_aload_n C dX6_tryKey_135 rfl rfl ?_
      refine a_getf C fX6_107 dX6_tryKey_136 (tw (by first | decide | omega)) (by first | decide | omega) (fz_key (j := 0) (by decide) (by omega)) (gl ((hN.k (k := k) (j := 0) hk (by decide)).trans (show _ = nI (cN A k) from by (try unfold tu4A tu1A); (repeat rw [upd_ne (by omega)]) <;> exact hA.c (by omega)))) ?_
      refine n_icmp_eq (tgt := 171) C dX6_tryKey_139 (by decide) (by first | decide | omega) (by first | decide | omega) (fun h_139 => ?_) (fun h_139 => ?_)
      · refine a_iconst (v := nI 1) C dX6_tryKey_171 (by decide) ?_
        refine f_iret C hr ?_ dX6_tryKey_172 ?_
        · rfl
        · first | exact ⟨bI_tru h_30, (hN.congr (fun i _ => congrFun (tur_4 h_30 h_139) i)).dr tur_kN, (by repeat' (first | exact Fr_refl | (refine Fr_set (by omega) ?_) | (refine Fr_row (by omega) ?_)))⟩ | exact ⟨bI_tru h_30, (hN.congr (fun i _ => congrFun (tur_7 h_30 h_139) i)).dr tur_kN, (by repeat' (first | exact Fr_refl | (refine Fr_set (by omega) ?_) | (refine Fr_row (by omega) ?_)))⟩
      · refine a_aload_n C dX6_tryKey_142 rfl rfl ?_
        refine a_iload C dX6_tryKey_143 rfl ?_
        refine f_putf C fX6_107 dX6_tryKey_145 (by first | decide | omega) (fz_key (j := 0) (by decide) (by omega)) rfl rfl (Nat.le_of_ble_eq_true rfl) (fzc_key (j := 0) (by decide) (by omega) _ _) ?_
        refine a_dnK (k := k) (j := 0) hN zq_n (by omega) (by decide) (fun hN => ?_)
        refine a_aload_n C dX6_tryKey_148 rfl rfl ?_
        refine a_dup C dX6_tryKey_149 rfl ?_
        refine a_getf C fX6_255 dX6_tryKey_150 (tw (by first | decide | omega)) (by first | decide | omega) (fz_key (j := 0) (by decide) (by omega)) (gl ((hN.k (k := k) (j := 5) hk (by decide)).trans (show _ = A (40 + 6 * k + 5) from by (try unfold tu4A tu1A); (repeat rw [upd_ne (by omega)]) <;> rfl))) ?_
        refine a_iconst (v := nI 1) C dX6_tryKey_153 (by decide) ?_
        first | refine n_iadd C dX6_tryKey_154 ?_ | refine a_iadd C dX6_tryKey_154 ?_
        refine f_putf C fX6_255 dX6_tryKey_155 (by first | decide | omega) (fz_key (j := 0) (by decide) (by omega)) rfl rfl (Nat.le_of_ble_eq_true rfl) (fzc_key (j := 0) (by decide) (by omega) _ _) ?_
        refine a_dnK (k := k) (j := 5) hN zq_n (by omega) (by decide) (fun hN => ?_)
        refine a_aload_n C dX6_tryKey_158 rfl rfl ?_
        refine a_getfF C fX6_19 dX6_tryKey_159 (tw (by first | decide | omega)) (by first | decide | omega) rfl rfl ?_
        refine a_dup C dX6_tryKey_162 rfl ?_
        refine a_getf C fX6_324 dX6_tryKey_163 (tw (by first | decide | omega)) (by first | decide | omega) rfl (gl ((hN.c (i := 4) (by decide)).trans (show _ = A 4 from by (try unfold tu4A tu1A); (repeat rw [upd_ne (by omega)]) <;> rfl))) ?_
        refine a_iconst (v := nI 1) C dX6_tryKey_166 (by decide) ?_
        first | refine n_iadd C dX6_tryKey_167 ?_ | refine a_iadd C dX6_tryKey_167 ?_
        refine f_putf C fX6_324 dX6_tryKey_168 (by first | decide | omega) rfl rfl rfl (Nat.le_of_ble_eq_true rfl) rfl ?_
        refine a_dnC 4 hN zq_n (by decide) (fun hN => ?_)
        refine a_iconst (v := nI 1) C dX6_tryKey_171 (by decide) ?_
        refine f_iret C hr ?_ dX6_tryKey_172 ?_
        · rfl
        · first | exact ⟨bI_tru h_30, (hN.congr (fun i _ => congrFun (tur_4 h_30 h_139) i)).dr tur_kN, (by repeat' (first | exact Fr_refl | (refine Fr_set (by omega) ?_) | (refine Fr_row (by omega) ?_)))⟩ | exact ⟨bI_tru h_30, (hN.congr (fun i _ => congrFun (tur_7 h_30 h_139) i)).dr tur_kN, (by repeat' (first | exact Fr_refl | (refine Fr_set (by omega) ?_) | (refine Fr_row (by omega) ?_)))⟩
  · refine a_aload C dX6_tryKey_33 rfl ?_
    refine a_dup C dX6_tryKey_35 rfl ?_
    refine a_getf C fX6_263 dX6_tryKey_36 (tw (by first | decide | omega)) (by first | decide | omega) (fz_lock (j := 0) (by decide) (by omega)) (gl (DR_lf hD (by omega))) ?_
    refine a_iconst (v := nI 1) C dX6_tryKey_39 (by decide) ?_
    first | refine n_iadd C dX6_tryKey_40 ?_ | refine a_iadd C dX6_tryKey_40 ?_
    refine f_putf C fX6_263 dX6_tryKey_41 (by first | decide | omega) (fz_lock (j := 0) (by decide) (by omega)) rfl rfl (Nat.le_of_ble_eq_true rfl) (fzc_lock (j := 0) (by decide) (by omega) _ _) ?_
    refine a_dnL (q := p) (j := 3) hN zq_n (by omega) (by decide) (fun hN => ?_)
    refine a_aload_n C dX6_tryKey_44 rfl rfl ?_
    refine a_getfF C fX6_19 dX6_tryKey_45 (tw (by first | decide | omega)) (by first | decide | omega) rfl rfl ?_
    refine a_dup C dX6_tryKey_48 rfl ?_
    refine a_getf C fX6_323 dX6_tryKey_49 (tw (by first | decide | omega)) (by first | decide | omega) rfl (gl ((hN.c (i := 3) (by decide)).trans (show _ = A 3 from by (try unfold tu4A tu1A); (repeat rw [upd_ne (by omega)]) <;> rfl))) ?_
    refine a_iconst (v := nI 1) C dX6_tryKey_52 (by decide) ?_
    first | refine n_iadd C dX6_tryKey_53 ?_ | refine a_iadd C dX6_tryKey_53 ?_
    refine f_putf C fX6_323 dX6_tryKey_54 (by first | decide | omega) rfl rfl rfl (Nat.le_of_ble_eq_true rfl) rfl ?_
    refine a_dnC 3 hN zq_n (by decide) (fun hN => ?_)
    refine a_iconst (v := nI 0) C dX6_tryKey_57 (by decide) ?_
    refine f_iret C hr ?_ dX6_tryKey_58 ?_
    · rfl
    · exact ⟨bI_fal h_30, (hN.congr (fun i _ => congrFun (tur_f h_30) i)).dr tur_kN, (by repeat' (first | exact Fr_refl | (refine Fr_set (by omega) ?_) | (refine Fr_row (by omega) ?_)))⟩

end A24

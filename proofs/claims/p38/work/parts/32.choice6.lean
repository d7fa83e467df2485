section A32
/-! ### the class's choice -/
variable {S T : Nat → Bool} {nx pv : OM}
/-- the search for all: those below c have had their turn -/
def Fc (S : Nat → Bool) (c : Nat) (nx pv : OM) (ZL ZR : Nat → Bool) : Prop := Mt S nx pv ∧ Cl S pv ZL ZR ∧ (∀ a, a < c → S a = true → nx a = none → ZL a = true) ∧ ∀ a, c ≤ a → nx a = none
theorem Fc.init : Fc S 0 (fun _ => none) (fun _ => none) (fun _ => false) (fun _ => false) :=
  ⟨⟨(fun _ _ h => nomatch h), (fun _ _ h => nomatch h)⟩, ⟨(fun _ h => nomatch h), (fun _ _ h => nomatch h), (fun _ h => nomatch h)⟩, (fun _ h => absurd h (Nat.not_lt_zero _)), fun _ _ => rfl⟩
theorem Fc.skip {c : Nat} {ZL ZR : Nat → Bool} (h : Fc S c nx pv ZL ZR) (hc : S c = false) : Fc S (c + 1) nx pv ZL ZR :=
  ⟨h.1, h.2.1, fun a ha h1 h2 => by
    by_cases e : a = c
    · subst e; rw [hc] at h1; cases h1
    · exact h.2.2.1 a (by omega) h1 h2, fun a ha => h.2.2.2 a (by omega)⟩
theorem Fc.sea {c : Nat} {ZL ZR : Nat → Bool} {nx' pv' : OM} (h : Fc S c nx pv ZL ZR) (hs : Sea S nx ZL c nx' pv') : ∃ ZL' ZR', Fc S (c + 1) nx' pv' ZL' ZR' := by
  obtain ⟨h1, ⟨ZL', ZR', c1, c2, c3⟩, h3⟩ := hs
  have k1 : ∀ x : Option Nat, x.isSome = false → x = none := fun x h => by cases x with
    | none => rfl
    | some k => cases h
  refine ⟨ZL', ZR', h1, c1, fun a ha y1 y2 => ?_, fun a ha => ?_⟩
  · by_cases e : a = c
    · subst e; exact c3 y2
    · refine c2 a (h.2.2.1 a (by omega) y1 (k1 _ ?_))
      rw [← h3 a e, y2]
      rfl
  · refine k1 _ ?_
    rw [h3 a (by omega), h.2.2.2 a (by omega)]
    rfl
theorem Fc.wdt {ZL ZR : Nat → Bool} (hS : Su S) (h : Fc S 81 nx pv ZL ZR) : wdt S = cntN (fun c => S c && (pv c).isNone) 81 := by
  rw [← tops_bots hS h.1]
  exact wdt_eq (konig hS h.1 h.2.1 (fun a h1 h2 => h.2.2.1 a (hS a h1) h1 h2))
def Sts (S : Nat → Bool) (pv : OM) (c cc : Nat) (sts : Nat → Nat) : Prop := (∀ j, j < cc → S (sts j) = true ∧ pv (sts j) = none ∧ sts j < c) ∧ (∀ b, b < c → S b = true → pv b = none → ∃ j, j < cc ∧ sts j = b) ∧ ∀ j k, j < cc → k < cc → sts j = sts k → j = k
def bN (S : Nat → Bool) (pv : OM) (c : Nat) : Nat := cntN (fun c => S c && (pv c).isNone) c
theorem bN_s {c : Nat} : bN S pv (c + 1) = bN S pv c + (if (S c && (pv c).isNone) = true then 1 else 0) := rfl
theorem bN_le (c : Nat) : bN S pv c ≤ c := cntN_le _ c
theorem Sts.no {c : Nat} {sts : Nat → Nat} (h : Sts S pv c (bN S pv c) sts) (hc : (S c && (pv c).isNone) = false) : Sts S pv (c + 1) (bN S pv (c + 1)) sts ∧ bN S pv (c + 1) = bN S pv c := by
  have e : bN S pv (c + 1) = bN S pv c := by rw [bN_s, hc]; rfl
  refine ⟨?_, e⟩
  rw [e]
  refine ⟨fun j hj => ⟨(h.1 j hj).1, (h.1 j hj).2.1, by have := (h.1 j hj).2.2; omega⟩, fun b hb h1 h2 => ?_, h.2.2⟩
  by_cases z : b = c
  · subst z; rw [h1, h2] at hc; cases hc
  · exact h.2.1 b (by omega) h1 h2
theorem Sts.yes {c : Nat} {sts : Nat → Nat} (h : Sts S pv c (bN S pv c) sts) (h1 : S c = true) (h2 : pv c = none) : Sts S pv (c + 1) (bN S pv (c + 1)) (nS sts (bN S pv c) c) ∧ bN S pv (c + 1) = bN S pv c + 1 := by
  have e : bN S pv (c + 1) = bN S pv c + 1 := by rw [bN_s, h1, h2]; rfl
  refine ⟨?_, e⟩
  rw [e]
  refine ⟨fun j hj => ?_, fun b hb y1 y2 => ?_, fun j k hj hk z => ?_⟩
  · by_cases e2 : j = bN S pv c
    · subst e2; rw [nS_at]; exact ⟨h1, h2, Nat.lt_succ_self c⟩
    · rw [nS_ne e2]
      have := h.1 j (by omega)
      exact ⟨this.1, this.2.1, by omega⟩
  · by_cases e2 : b = c
    · subst e2; exact ⟨_, Nat.lt_succ_self _, nS_at⟩
    · obtain ⟨j, j1, j2⟩ := h.2.1 b (by omega) y1 y2
      exact ⟨j, by omega, by rw [nS_ne (by omega)]; exact j2⟩
  · by_cases e1 : j = bN S pv c
    · by_cases e2 : k = bN S pv c
      · omega
      · subst e1
        rw [nS_at, nS_ne e2] at z
        have := (h.1 k (by omega)).2.2
        omega
    · by_cases e2 : k = bN S pv c
      · subst e2
        rw [nS_at, nS_ne e1] at z
        have := (h.1 j (by omega)).2.2
        omega
      · rw [nS_ne e1, nS_ne e2] at z
        exact h.2.2 j k (by omega) (by omega) z
/-- the chains of S as the class keeps them -/
def Chn (w : Wd) (S : Nat → Bool) (nx pv : OM) (sts : Nat → Nat) : Prop := (Mt S nx pv ∧ wdt S = bN S pv 81) ∧ RO (w.1 58) nx ∧ RO (w.1 59) pv ∧ w.1 55 2 = nI (wdt S) ∧ RN (w.1 60) sts (wdt S) ∧ Sts S pv 81 (wdt S) sts
theorem Chn.fr {w w' : Wd} {sts : Nat → Nat} (h : Chn w S nx pv sts) (h2 : w'.1 55 2 = w.1 55 2) (h3 : ∀ a, 58 ≤ a → a < 61 → w'.1 a = w.1 a) : Chn w' S nx pv sts :=
  ⟨h.1, by rw [h3 58 (by decide) (by decide)]; exact h.2.1, by rw [h3 59 (by decide) (by decide)]; exact h.2.2.1, h2.trans h.2.2.2.1, by rw [h3 60 (by decide) (by decide)]; exact h.2.2.2.2.1, h.2.2.2.2.2⟩
set_option maxRecDepth 20000 in
set_option maxHeartbeats 4000000 in
theorem K_X0_findChains {w : Wd} {S : Nat → Bool} (hS : Su S) (hf : ∀ c, c < 81 → w.1 56 c = bI (S c)) : CF yX0_findChains cX0_findChains 2 none 2 50 [.ref 55] w (fun r w' => r = none ∧ (∃ nx pv sts, Chn w' S nx pv sts) ∧ (∀ j, ¬ j = 2 → w'.1 55 j = w.1 55 j) ∧ Frm [55, 58, 59, 60, 61, 62] w w') := by
  refine CF.of ok_X0_findChains (Nat.le_of_ble_eq_true rfl) (fun ex us G9 p9 l9 e9 s9 m9 ar9 be9 me9 co9 C hr => ?_)
  have ZL51 : ∀ (zd51 : Nat) (c : Nat) (sts : Nat → Nat) (nx pv : OM) (ZL ZR : Nat → Bool) (u z : Wd), 81 + 1 ≤ c + zd51 → c ≤ 81 → RO (u.1 58) nx → RO (u.1 59) pv → Fc S 81 nx pv ZL ZR → Frm [58, 59, 61, 62] w u → Frm [55, 60] u z → z.1 55 2 = nI (bN S pv c) → (∀ j, ¬ j = 2 → z.1 55 j = u.1 55 j) → RN (z.1 60) sts (bN S pv c) → Sts S pv c (bN S pv c) sts → WA G9 p9 l9 e9 (RM 2 50) s9 m9 ar9 be9 me9 co9 (QF G9 be9 ar9 s9 w ex us (fun r w' => r = none ∧ (∃ nx pv sts, Chn w' S nx pv sts) ∧ (∀ j, ¬ j = 2 → w'.1 55 j = w.1 55 j) ∧ Frm [55, 58, 59, 60, 61, 62] w w')) 2 (207 + ex.1 + ex.2) us 51 [some (.ref 55), some (.int (nI c))] [] (fzM z ex us) := by
    intro zd51
    induction zd51 with
    | zero => intro c sts nx pv ZL ZR u z zm51 zh_c zh_n zh_p zh_C zh_F zh_G zh_2 zh_o zh_s zh_S; exfalso; omega
    | succ zd51 zih51 =>
      intro c sts nx pv ZL ZR u z zm51 zh_c zh_n zh_p zh_C zh_F zh_G zh_2 zh_o zh_s zh_S
      have zq_b : bN S pv c ≤ c := bN_le c
      have zq_p81 := zh_C.1.p81 hS
      refine a_iload_n C dX0_findChains_51 rfl rfl ?_
      refine a_bipush (v := nI 81) C dX0_findChains_52 (by decide) ?_
      first | refine n_icmp_ge (tgt := 102) C dX0_findChains_54 (by decide) (by first | decide | omega) (by first | decide | omega) (fun h_54 => ?_) (fun h_54 => ?_) | refine a_icmp_ge (tgt := 102) C dX0_findChains_54 (by decide) (fun h_54 => ?_) (fun h_54 => ?_)
      · obtain rfl : c = 81 := by omega
        have zq_w := zh_C.wdt hS
        have zq_w : wdt S = bN S pv 81 := zq_w
        refine f_vret C hr dX0_findChains_102 ?_
        exact ⟨rfl, ⟨nx, pv, sts, ⟨zh_C.1, zq_w⟩, by rw [zh_G.at 58 (by decide)]; exact zh_n, by rw [zh_G.at 59 (by decide)]; exact zh_p, by rw [zq_w]; exact zh_2, by rw [zq_w]; exact zh_s, by rw [zq_w]; exact zh_S⟩, fun j hj => by rw [zh_o j hj, zh_F.at 55 (by decide)], (zh_F.up (by decide)).tr (zh_G.up (by decide))⟩
      · refine a_aload_n C dX0_findChains_57 rfl rfl ?_
        refine a_getfF C fX0_9 dX0_findChains_58 (tw (by first | decide | omega)) (by first | decide | omega) rfl rfl ?_
        refine a_iload_n C dX0_findChains_61 rfl rfl ?_
        refine n_zald C dX0_findChains_62 (tw (by first | decide | omega)) (by first | decide | omega) rfl rfl (by first | decide | omega) (by decide) (show _ = bI (S c) from by rw [zh_G.at 56 (by decide), zh_F.at 56 (by decide)]; exact hf c (by omega)) ?_
        first | refine b_if_eq (tgt := 96) C dX0_findChains_63 (by decide) (fun h_63 => ?_) (fun h_63 => ?_) | refine n_if_eq (tgt := 96) C dX0_findChains_63 (by decide) (by first | decide | omega) (fun h_63 => ?_) (fun h_63 => ?_) | refine a_if_eq (tgt := 96) C dX0_findChains_63 (by decide) (fun h_63 => ?_) (fun h_63 => ?_)
        · have zq_no := zh_S.no (by rw [h_63]; rfl)
          obtain ⟨sts9, zy_S, zy_s, zy_2, zy_o, zy_G⟩ : ∃ sts9, Sts S pv (c + 1) (bN S pv (c + 1)) sts9 ∧ RN ((z).1 60) sts9 (bN S pv (c + 1)) ∧ (z).1 55 2 = nI (bN S pv (c + 1)) ∧ (∀ j, ¬ j = 2 → (z).1 55 j = u.1 55 j) ∧ Frm [55, 60] u (z) := ⟨sts, zq_no.1, by rw [zq_no.2]; exact zh_s, by rw [zq_no.2]; exact zh_2, zh_o, zh_G⟩
          refine n_iinc C dX0_findChains_96 rfl (by decide) ?_
          refine a_goto (tgt := 51) C dX0_findChains_99 (by decide) ?_
          refine a_join (aLe_s ?_ (aLe_s ?_ aLe_nil)) rfl rfl (zih51 (c + 1) sts9 nx pv ZL ZR u _ (by omega) (by omega) zh_n zh_p zh_C zh_F zy_G zy_2 zy_o zy_s zy_S)
          · first | with_reducible rfl | exact gl (by first | with_reducible rfl | (refine iF ?_; simp [h_54, h_63]; done) | (refine iT ?_; simp [h_54, h_63]; done) | (refine iB ?_; simp [h_54, h_63]; done) | (simp [h_54, h_63]; done) | (simp [h_54, h_63]; omega) | omega)
          · first | with_reducible rfl | exact gl (by first | with_reducible rfl | (refine iF ?_; simp [h_54, h_63]; done) | (refine iT ?_; simp [h_54, h_63]; done) | (refine iB ?_; simp [h_54, h_63]; done) | (simp [h_54, h_63]; done) | (simp [h_54, h_63]; omega) | omega)
        · refine a_aload_n C dX0_findChains_66 rfl rfl ?_
          refine a_getfF C fX0_22 dX0_findChains_67 (tw (by first | decide | omega)) (by first | decide | omega) rfl rfl ?_
          refine a_iload_n C dX0_findChains_70 rfl rfl ?_
          refine n_iald C dX0_findChains_71 (tw (by first | decide | omega)) (by first | decide | omega) rfl rfl (by first | decide | omega) (by decide) (show _ = oI (pv c) from by rw [zh_G.at 59 (by decide)]; exact zh_p c (by omega)) ?_
          refine a_iconst (v := (-1)) C dX0_findChains_72 (by decide) ?_
          refine a_icmp_ne (tgt := 96) C dX0_findChains_73 (by decide) (fun h_73 => ?_) (fun h_73 => ?_)
          · have zq_no := zh_S.no (by
              cases e9 : pv c with
              | none => exact absurd (by rw [e9]; rfl) h_73
              | some y => rw [h_63]; rfl)
            obtain ⟨sts9, zy_S, zy_s, zy_2, zy_o, zy_G⟩ : ∃ sts9, Sts S pv (c + 1) (bN S pv (c + 1)) sts9 ∧ RN ((z).1 60) sts9 (bN S pv (c + 1)) ∧ (z).1 55 2 = nI (bN S pv (c + 1)) ∧ (∀ j, ¬ j = 2 → (z).1 55 j = u.1 55 j) ∧ Frm [55, 60] u (z) := ⟨sts, zq_no.1, by rw [zq_no.2]; exact zh_s, by rw [zq_no.2]; exact zh_2, zh_o, zh_G⟩
            refine n_iinc C dX0_findChains_96 rfl (by decide) ?_
            refine a_goto (tgt := 51) C dX0_findChains_99 (by decide) ?_
            refine a_join (aLe_s ?_ (aLe_s ?_ aLe_nil)) rfl rfl (zih51 (c + 1) sts9 nx pv ZL ZR u _ (by omega) (by omega) zh_n zh_p zh_C zh_F zy_G zy_2 zy_o zy_s zy_S)
            · first | with_reducible rfl | exact gl (by first | with_reducible rfl | (refine iF ?_; simp [h_54, h_63]; done) | (refine iT ?_; simp [h_54, h_63]; done) | (refine iB ?_; simp [h_54, h_63]; done) | (simp [h_54, h_63]; done) | (simp [h_54, h_63]; omega) | omega)
            · first | with_reducible rfl | exact gl (by first | with_reducible rfl | (refine iF ?_; simp [h_54, h_63]; done) | (refine iT ?_; simp [h_54, h_63]; done) | (refine iB ?_; simp [h_54, h_63]; done) | (simp [h_54, h_63]; done) | (simp [h_54, h_63]; omega) | omega)
          · have zq_y := zh_S.yes h_63 (oI_n (fun k hk => zq_p81 c k hk) h_73)
            refine a_aload_n C dX0_findChains_76 rfl rfl ?_
            refine a_getfF C fX0_25 dX0_findChains_77 (tw (by first | decide | omega)) (by first | decide | omega) rfl rfl ?_
            refine a_aload_n C dX0_findChains_80 rfl rfl ?_
            refine a_getf C fX0_57 dX0_findChains_81 (tw (by first | decide | omega)) (by first | decide | omega) rfl (gl zh_2) ?_
            refine a_iload_n C dX0_findChains_84 rfl rfl ?_
            refine f_iast C dX0_findChains_85 (by first | decide | omega) rfl rfl (by first | decide | omega) (by decide)  rfl ?_
            refine a_aload_n C dX0_findChains_86 rfl rfl ?_
            refine a_dup C dX0_findChains_87 rfl ?_
            refine a_getf C fX0_57 dX0_findChains_88 (tw (by first | decide | omega)) (by first | decide | omega) rfl (gl (show _ = nI (bN S pv c) from by rw [wSet_th (by decide)]; exact zh_2)) ?_
            refine a_iconst (v := nI 1) C dX0_findChains_91 (by decide) ?_
            first | refine n_iadd C dX0_findChains_92 ?_ | refine a_iadd C dX0_findChains_92 ?_
            refine f_putf C fX0_57 dX0_findChains_93 (by first | decide | omega) rfl rfl rfl (Nat.le_of_ble_eq_true rfl) rfl ?_
            obtain ⟨sts9, zy_S, zy_s, zy_2, zy_o, zy_G⟩ : ∃ sts9, Sts S pv (c + 1) (bN S pv (c + 1)) sts9 ∧ RN ((wSet (wSet z 60 (bN S pv c) (nI c)) 55 2 (nI (bN S pv c + 1))).1 60) sts9 (bN S pv (c + 1)) ∧ (wSet (wSet z 60 (bN S pv c) (nI c)) 55 2 (nI (bN S pv c + 1))).1 55 2 = nI (bN S pv (c + 1)) ∧ (∀ j, ¬ j = 2 → (wSet (wSet z 60 (bN S pv c) (nI c)) 55 2 (nI (bN S pv c + 1))).1 55 j = u.1 55 j) ∧ Frm [55, 60] u (wSet (wSet z 60 (bN S pv c) (nI c)) 55 2 (nI (bN S pv c + 1))) := ⟨_, zq_y.1, by rw [zq_y.2, wSet_th (by decide), wSet_row1]; exact zh_s.push, by rw [zq_y.2]; exact wSet_at, fun j hj => by rw [wSet_ne (by omega), wSet_th (by decide)]; exact zh_o j hj, (zh_G.set (by decide)).set (by decide)⟩
            refine n_iinc C dX0_findChains_96 rfl (by decide) ?_
            refine a_goto (tgt := 51) C dX0_findChains_99 (by decide) ?_
            refine a_join (aLe_s ?_ (aLe_s ?_ aLe_nil)) rfl rfl (zih51 (c + 1) sts9 nx pv ZL ZR u _ (by omega) (by omega) zh_n zh_p zh_C zh_F zy_G zy_2 zy_o zy_s zy_S)
            · first | with_reducible rfl | exact gl (by first | with_reducible rfl | (refine iF ?_; simp [h_54, h_63]; done) | (refine iT ?_; simp [h_54, h_63]; done) | (refine iB ?_; simp [h_54, h_63]; done) | (simp [h_54, h_63]; done) | (simp [h_54, h_63]; omega) | omega)
            · first | with_reducible rfl | exact gl (by first | with_reducible rfl | (refine iF ?_; simp [h_54, h_63]; done) | (refine iT ?_; simp [h_54, h_63]; done) | (refine iB ?_; simp [h_54, h_63]; done) | (simp [h_54, h_63]; done) | (simp [h_54, h_63]; omega) | omega)
  have ZL18 : ∀ (zd18 : Nat) (c : Nat) (nx pv : OM) (ZL ZR : Nat → Bool) (z : Wd), 81 + 1 ≤ c + zd18 → c ≤ 81 → RO (z.1 58) nx → RO (z.1 59) pv → Fc S c nx pv ZL ZR → Frm [58, 59, 61, 62] w z → WA G9 p9 l9 e9 (RM 2 50) s9 m9 ar9 be9 me9 co9 (QF G9 be9 ar9 s9 w ex us (fun r w' => r = none ∧ (∃ nx pv sts, Chn w' S nx pv sts) ∧ (∀ j, ¬ j = 2 → w'.1 55 j = w.1 55 j) ∧ Frm [55, 58, 59, 60, 61, 62] w w')) 2 (207 + ex.1 + ex.2) us 18 [some (.ref 55), some (.int (nI c))] [] (fzM z ex us) := by
    intro zd18
    induction zd18 with
    | zero => intro c nx pv ZL ZR z zm18 zh_c zh_n zh_p zh_C zh_F; exfalso; omega
    | succ zd18 zih18 =>
      intro c nx pv ZL ZR z zm18 zh_c zh_n zh_p zh_C zh_F
      refine a_iload_n C dX0_findChains_18 rfl rfl ?_
      refine a_bipush (v := nI 81) C dX0_findChains_19 (by decide) ?_
      first | refine n_icmp_ge (tgt := 44) C dX0_findChains_21 (by decide) (by first | decide | omega) (by first | decide | omega) (fun h_21 => ?_) (fun h_21 => ?_) | refine a_icmp_ge (tgt := 44) C dX0_findChains_21 (by decide) (fun h_21 => ?_) (fun h_21 => ?_)
      · obtain rfl : c = 81 := by omega
        refine a_aload_n C dX0_findChains_44 rfl rfl ?_
        refine a_iconst (v := nI 0) C dX0_findChains_45 (by decide) ?_
        refine f_putf C fX0_57 dX0_findChains_46 (by first | decide | omega) rfl rfl rfl (Nat.le_of_ble_eq_true rfl) rfl ?_
        refine a_iconst (v := nI 0) C dX0_findChains_49 (by decide) ?_
        refine a_istore_n C dX0_findChains_50 rfl (by decide) ?_
        refine a_join (aLe_s ?_ (aLe_s ?_ aLe_nil)) rfl rfl (ZL51 (81 + 1) 0 (fun _ => 0) nx pv ZL ZR z (wSet z 55 2 (nI 0)) (by omega) (by omega) zh_n zh_p zh_C zh_F (Frm.rf.set (by decide)) wSet_at (fun j hj => wSet_ne (by omega)) (fun j hj => absurd hj (Nat.not_lt_zero j)) ⟨fun j hj => absurd hj (Nat.not_lt_zero j), fun b hb => absurd hb (Nat.not_lt_zero b), fun j k hj => absurd hj (Nat.not_lt_zero j)⟩)
        · first | with_reducible rfl | exact gl (by first | with_reducible rfl | (refine iF ?_; simp [h_21]; done) | (refine iT ?_; simp [h_21]; done) | (refine iB ?_; simp [h_21]; done) | (simp [h_21]; done) | (simp [h_21]; omega) | omega | rfl)
        · first | with_reducible rfl | exact gl (by first | with_reducible rfl | (refine iF ?_; simp [h_21]; done) | (refine iT ?_; simp [h_21]; done) | (refine iB ?_; simp [h_21]; done) | (simp [h_21]; done) | (simp [h_21]; omega) | omega | rfl)
      · refine a_aload_n C dX0_findChains_24 rfl rfl ?_
        refine a_getfF C fX0_9 dX0_findChains_25 (tw (by first | decide | omega)) (by first | decide | omega) rfl rfl ?_
        refine a_iload_n C dX0_findChains_28 rfl rfl ?_
        refine n_zald C dX0_findChains_29 (tw (by first | decide | omega)) (by first | decide | omega) rfl rfl (by first | decide | omega) (by decide) (show _ = bI (S c) from by rw [zh_F.at 56 (by decide)]; exact hf c (by omega)) ?_
        first | refine b_if_eq (tgt := 38) C dX0_findChains_30 (by decide) (fun h_30 => ?_) (fun h_30 => ?_) | refine n_if_eq (tgt := 38) C dX0_findChains_30 (by decide) (by first | decide | omega) (fun h_30 => ?_) (fun h_30 => ?_) | refine a_if_eq (tgt := 38) C dX0_findChains_30 (by decide) (fun h_30 => ?_) (fun h_30 => ?_)
        · obtain ⟨nx9, pv9, ZL9, ZR9, zy_n, zy_p, zy_C, zy_F⟩ : ∃ nx9 pv9 ZL9 ZR9, RO (z.1 58) nx9 ∧ RO (z.1 59) pv9 ∧ Fc S (c + 1) nx9 pv9 ZL9 ZR9 ∧ Frm [58, 59, 61, 62] w z := ⟨nx, pv, ZL, ZR, zh_n, zh_p, zh_C.skip h_30, zh_F⟩
          refine n_iinc C dX0_findChains_38 rfl (by decide) ?_
          refine a_goto (tgt := 18) C dX0_findChains_41 (by decide) ?_
          refine a_join (aLe_s ?_ (aLe_s ?_ aLe_nil)) rfl rfl (zih18 (c + 1) nx9 pv9 ZL9 ZR9 _ (by omega) (by omega) zy_n zy_p zy_C zy_F)
          · first | with_reducible rfl | exact gl (by first | with_reducible rfl | (refine iF ?_; simp [h_21, h_30]; done) | (refine iT ?_; simp [h_21, h_30]; done) | (refine iB ?_; simp [h_21, h_30]; done) | (simp [h_21, h_30]; done) | (simp [h_21, h_30]; omega) | omega)
          · first | with_reducible rfl | exact gl (by first | with_reducible rfl | (refine iF ?_; simp [h_21, h_30]; done) | (refine iT ?_; simp [h_21, h_30]; done) | (refine iB ?_; simp [h_21, h_30]; done) | (simp [h_21, h_30]; done) | (simp [h_21, h_30]; omega) | omega)
        · refine a_aload_n C dX0_findChains_33 rfl rfl ?_
          refine a_iload_n C dX0_findChains_34 rfl rfl ?_
          refine f_callV C _ _ (K_X0_findNext (w := z) (s := c) (nx := nx) (pv := pv) hS zh_C.1 (fun d hd => by rw [zh_F.at 56 (by decide)]; exact hf d hd) zh_n zh_p zh_C.2.1 h_30 (zh_C.2.2.2 c (Nat.le_refl _))) vX0_53 (by first | decide | omega) rfl rfl dX0_findChains_35 rfl (Nat.le_of_ble_eq_true rfl) ⟨by decide, by decide⟩ (fun zr35 zw35 zp35 => ?_)
          obtain ⟨rfl, nx9, pv9, zy_n, zy_p, zy_S, zy_G⟩ := zp35
          obtain ⟨ZL9, ZR9, zy_C⟩ := zh_C.sea zy_S
          have zy_F := zh_F.tr zy_G
          refine n_iinc C dX0_findChains_38 rfl (by decide) ?_
          refine a_goto (tgt := 18) C dX0_findChains_41 (by decide) ?_
          refine a_join (aLe_s ?_ (aLe_s ?_ aLe_nil)) rfl rfl (zih18 (c + 1) nx9 pv9 ZL9 ZR9 _ (by omega) (by omega) zy_n zy_p zy_C zy_F)
          · first | with_reducible rfl | exact gl (by first | with_reducible rfl | (refine iF ?_; simp [h_21, h_30]; done) | (refine iT ?_; simp [h_21, h_30]; done) | (refine iB ?_; simp [h_21, h_30]; done) | (simp [h_21, h_30]; done) | (simp [h_21, h_30]; omega) | omega)
          · first | with_reducible rfl | exact gl (by first | with_reducible rfl | (refine iF ?_; simp [h_21, h_30]; done) | (refine iT ?_; simp [h_21, h_30]; done) | (refine iB ?_; simp [h_21, h_30]; done) | (simp [h_21, h_30]; done) | (simp [h_21, h_30]; omega) | omega)
  refine a_pad 1 ?_
  refine a_eq (L' := [some (.ref 55), none]) rfl rfl rfl ?_
  refine a_aload_n C dX0_findChains_0 rfl rfl ?_
  refine a_getfF C fX0_19 dX0_findChains_1 (tw (by first | decide | omega)) (by first | decide | omega) rfl rfl ?_
  refine a_iconst (v := (-1)) C dX0_findChains_4 (by decide) ?_
  refine f_callS C _ (K_J7_fill_53178 (a := 58) (by decide) (fun _ _ => rfl) (-1)) sX0_47 dX0_findChains_5 rfl (Nat.le_of_ble_eq_true rfl) ⟨by decide, by decide⟩ (fun zr5 zw5 zp5 => ?_)
  obtain ⟨rfl, rfl⟩ := zp5
  refine a_aload_n C dX0_findChains_8 rfl rfl ?_
  refine a_getfF C fX0_22 dX0_findChains_9 (tw (by first | decide | omega)) (by first | decide | omega) rfl rfl ?_
  refine a_iconst (v := (-1)) C dX0_findChains_12 (by decide) ?_
  refine f_callS C _ (K_J7_fill_53178 (a := 59) (by decide) (fun _ _ => rfl) (-1)) sX0_47 dX0_findChains_13 rfl (Nat.le_of_ble_eq_true rfl) ⟨by decide, by decide⟩ (fun zr13 zw13 zp13 => ?_)
  obtain ⟨rfl, rfl⟩ := zp13
  refine a_iconst (v := nI 0) C dX0_findChains_16 (by decide) ?_
  refine a_istore_n C dX0_findChains_17 rfl (by decide) ?_
  refine a_join (aLe_s ?_ (aLe_s ?_ aLe_nil)) rfl rfl (ZL18 (81 + 1) 0 (fun _ => none) (fun _ => none) (fun _ => false) (fun _ => false) _ (by omega) (by omega) (by rw [wRow_ne (by decide), wRow_at]; exact RO.fil) (by rw [wRow_at]; exact RO.fil) Fc.init ((Frm.rf.row (by decide)).row (by decide)))
  · first | with_reducible rfl | exact gl (by first | with_reducible rfl | (refine iF ?_; simp []; done) | (refine iT ?_; simp []; done) | (refine iB ?_; simp []; done) | (simp []; done) | (simp []; omega) | omega | rfl)
  · first | with_reducible rfl | exact gl (by first | with_reducible rfl | (refine iF ?_; simp []; done) | (refine iT ?_; simp []; done) | (refine iB ?_; simp []; done) | (simp []; done) | (simp []; omega) | omega | rfl)

set_option maxRecDepth 20000 in
set_option maxHeartbeats 4000000 in
theorem K_X0_leftFrom {w : Wd} (hS : Su S) (hM : Mt S nx pv) {oo : Option Nat} (ho : ∀ k, oo = some k → k < 81) (hn : RO (w.1 58) nx) (hl : ∀ c, c < 81 → w.1 64 c = bI (T c)) : CF yX0_leftFrom cX0_leftFrom 4 (some .int) 0 0 [.ref 55, .int (oI oo)] w (fun r w' => w = w' ∧ ∃ x, r = some (.int (oI x)) ∧ LF nx T oo x) := by
  have zq_o81 := hM.o81 hS
  refine CF.of ok_X0_leftFrom (Nat.le_of_ble_eq_true rfl) (fun ex us G9 p9 l9 e9 s9 m9 ar9 be9 me9 co9 C hr => ?_)
  have ZL4 : ∀ (zd4 : Nat) (k : Nat) (x : Option Nat), 81 + 1 ≤ k + zd4 → k ≤ 81 → (∀ c, x = some c → k ≤ c ∧ c < 81) → (∀ r, LF nx T x r → LF nx T oo r) → WA G9 p9 l9 e9 (RM 0 0) s9 m9 ar9 be9 me9 co9 (QF G9 be9 ar9 s9 w ex us (fun r w' => w = w' ∧ ∃ x, r = some (.int (oI x)) ∧ LF nx T oo x)) 4 (207 + ex.1 + ex.2) us 4 [some (.ref 55), none, some (.int (oI x)), some (.int (nI k))] [] (fzM w ex us) := by
    intro zd4
    induction zd4 with
    | zero => intro k x zm4 zh_k zh_x zh_L; exfalso; omega
    | succ zd4 zih4 =>
      intro k x zm4 zh_k zh_x zh_L
      refine a_iload_n C dX0_leftFrom_4 rfl rfl ?_
      refine a_bipush (v := nI 81) C dX0_leftFrom_5 (by decide) ?_
      first | refine n_icmp_ge (tgt := 37) C dX0_leftFrom_7 (by decide) (by first | decide | omega) (by first | decide | omega) (fun h_7 => ?_) (fun h_7 => ?_) | refine a_icmp_ge (tgt := 37) C dX0_leftFrom_7 (by decide) (fun h_7 => ?_) (fun h_7 => ?_)
      · have zq_end : LF nx T x x := by
          cases x with
          | none => exact LF.none
          | some c => have := zh_x c rfl; omega
        refine a_iload_n C dX0_leftFrom_37 rfl rfl ?_
        refine f_iret C hr ?_ dX0_leftFrom_38 ?_
        · rfl
        · exact ⟨rfl, _, rfl, zh_L _ zq_end⟩
      · refine a_iload_n C dX0_leftFrom_10 rfl rfl ?_
        refine a_iconst (v := (-1)) C dX0_leftFrom_11 (by decide) ?_
        refine a_icmp_eq (tgt := 37) C dX0_leftFrom_12 (by decide) (fun h_12 => ?_) (fun h_12 => ?_)
        · obtain rfl := oI_n (fun c hc => (zh_x c hc).2) h_12
          have zq_end : LF nx T none none := LF.none
          refine a_iload_n C dX0_leftFrom_37 rfl rfl ?_
          refine f_iret C hr ?_ dX0_leftFrom_38 ?_
          · rfl
          · exact ⟨rfl, _, rfl, zh_L _ zq_end⟩
        · obtain ⟨x9, rfl⟩ := oI_s h_12
          have zq_x := zh_x x9 rfl
          refine a_aload_n C dX0_leftFrom_15 rfl rfl ?_
          refine a_getfF C fX0_37 dX0_leftFrom_16 (tw (by first | decide | omega)) (by first | decide | omega) rfl rfl ?_
          refine a_iload_n C dX0_leftFrom_19 rfl rfl ?_
          refine n_zald C dX0_leftFrom_20 (tw (by first | decide | omega)) (by first | decide | omega) rfl rfl (by first | decide | omega) (by decide) (hl x9 zq_x.2) ?_
          first | refine b_if_ne (tgt := 37) C dX0_leftFrom_21 (by decide) (fun h_21 => ?_) (fun h_21 => ?_) | refine n_if_ne (tgt := 37) C dX0_leftFrom_21 (by decide) (by first | decide | omega) (fun h_21 => ?_) (fun h_21 => ?_) | refine a_if_ne (tgt := 37) C dX0_leftFrom_21 (by decide) (fun h_21 => ?_) (fun h_21 => ?_)
          · have zq_end : LF nx T (some x9) (some x9) := LF.here h_21
            refine a_iload_n C dX0_leftFrom_37 rfl rfl ?_
            refine f_iret C hr ?_ dX0_leftFrom_38 ?_
            · rfl
            · exact ⟨rfl, _, rfl, zh_L _ zq_end⟩
          · refine a_aload_n C dX0_leftFrom_24 rfl rfl ?_
            refine a_getfF C fX0_19 dX0_leftFrom_25 (tw (by first | decide | omega)) (by first | decide | omega) rfl rfl ?_
            refine a_iload_n C dX0_leftFrom_28 rfl rfl ?_
            refine n_iald C dX0_leftFrom_29 (tw (by first | decide | omega)) (by first | decide | omega) rfl rfl (by first | decide | omega) (by decide) (hn x9 zq_x.2) ?_
            refine a_istore_n C dX0_leftFrom_30 rfl (by decide) ?_
            refine n_iinc C dX0_leftFrom_31 rfl (by decide) ?_
            refine a_goto (tgt := 4) C dX0_leftFrom_34 (by decide) ?_
            refine a_join (aLe_s ?_ (aLe_n (aLe_s ?_ (aLe_s ?_ aLe_nil)))) rfl rfl (zih4 (k + 1) (nx x9) (by omega) (by omega) (fun c hc => by have z9 := hM.1 _ _ hc; have z8 := und_lt (hS _ z9.2.1) (hS _ z9.2.2.1) z9.2.2.2; have z7 := hS _ z9.2.2.1; omega) (fun r h => zh_L r (LF.step h_21 h)))
            · first | with_reducible rfl | exact gl (by first | with_reducible rfl | (refine iF ?_; simp [h_7, h_21]; done) | (refine iT ?_; simp [h_7, h_21]; done) | (refine iB ?_; simp [h_7, h_21]; done) | (simp [h_7, h_21]; done) | (simp [h_7, h_21]; omega) | omega)
            · first | with_reducible rfl | exact gl (by first | with_reducible rfl | (refine iF ?_; simp [h_7, h_21]; done) | (refine iT ?_; simp [h_7, h_21]; done) | (refine iB ?_; simp [h_7, h_21]; done) | (simp [h_7, h_21]; done) | (simp [h_7, h_21]; omega) | omega)
            · first | with_reducible rfl | exact gl (by first | with_reducible rfl | (refine iF ?_; simp [h_7, h_21]; done) | (refine iT ?_; simp [h_7, h_21]; done) | (refine iB ?_; simp [h_7, h_21]; done) | (simp [h_7, h_21]; done) | (simp [h_7, h_21]; omega) | omega)
  refine a_pad 2 ?_
  refine a_eq (L' := [some (.ref 55), some (.int (oI oo)), none, none]) rfl rfl rfl ?_
  refine a_iload_n C dX0_leftFrom_0 rfl rfl ?_
  refine a_istore_n C dX0_leftFrom_1 rfl (by decide) ?_
  refine a_iconst (v := nI 0) C dX0_leftFrom_2 (by decide) ?_
  refine a_istore_n C dX0_leftFrom_3 rfl (by decide) ?_
  refine a_join (aLe_s ?_ (aLe_n (aLe_s ?_ (aLe_s ?_ aLe_nil)))) rfl rfl (ZL4 (81 + 1) 0 oo (by omega) (by omega) (fun c hc => ⟨Nat.zero_le _, ho c hc⟩) (fun r h => h))
  · first | with_reducible rfl | exact gl (by first | with_reducible rfl | (refine iF ?_; simp []; done) | (refine iT ?_; simp []; done) | (refine iB ?_; simp []; done) | (simp []; done) | (simp []; omega) | omega | rfl)
  · first | with_reducible rfl | exact gl (by first | with_reducible rfl | (refine iF ?_; simp []; done) | (refine iT ?_; simp []; done) | (refine iB ?_; simp []; done) | (simp []; done) | (simp []; omega) | omega | rfl)
  · first | with_reducible rfl | exact gl (by first | with_reducible rfl | (refine iF ?_; simp []; done) | (refine iT ?_; simp []; done) | (refine iB ?_; simp []; done) | (simp []; done) | (simp []; omega) | omega | rfl)

theorem RN.at {f : Nat → Int32} {q : Nat → Nat} {n a x : Nat} (h : RN f q n) : RN (upd f a (nI x)) (nS q a x) n := fun j hj => by
  by_cases e : j = a
  · subst e
    rw [upd_at, nS_at]
  · rw [upd_ne e, nS_ne e]
    exact h j hj
theorem has_f {m : Nat} (h : ¬ ∃ A, Sub A T ∧ Anti A ∧ cntN A 81 = m) : decide (wdt T = m) = false := decide_eq_false (fun z => h (wdt_has z))
set_option maxRecDepth 20000 in
set_option maxHeartbeats 4000000 in
theorem K_X0_canBeApart {w : Wd} (hS : Su S) (hM : Mt S nx pv) (hT : Sub T S) {m : Nat} {lo st : Nat → Nat} (hn : RO (w.1 58) nx) (hl : ∀ c, c < 81 → w.1 64 c = bI (T c)) (ho : RN (w.1 65) lo m) (hm : m ≤ 81) (hL : Lo S T nx pv m lo st) (hw : wdt T ≤ m) (hH : Hit T nx m lo) : CF yX0_canBeApart cX0_canBeApart 7 (some .boolean) 1 23 [.ref 55, .int (nI m)] w (fun r w' => r = some (.int (bI (decide (wdt T = m)))) ∧ Frm [65] w w') := by
  have zq_o81 := hM.o81 hS
  refine CF.of ok_X0_canBeApart (Nat.le_of_ble_eq_true rfl) (fun ex us G9 p9 l9 e9 s9 m9 ar9 be9 me9 co9 C hr => ?_)
  have ZL4 : ∀ (zd4 : Nat) (r : Nat) (mv : Bool) (lo : Nat → Nat) (B : Nat → Bool) (z : Wd), 82 + 1 ≤ r + zd4 → r ≤ 82 → RN (z.1 65) lo m → Lo S T nx pv m lo st → Hit T nx m lo → Co nx m lo B → (mv = true → r ≤ cntN B 81) → (mv = false → ∀ i j, i < m → j < m → und (lo i) (lo j) = false) → Frm [65] w z → WA G9 p9 l9 e9 (RM 1 23) s9 m9 ar9 be9 me9 co9 (QF G9 be9 ar9 s9 w ex us (fun r w' => r = some (.int (bI (decide (wdt T = m)))) ∧ Frm [65] w w')) 7 (207 + ex.1 + ex.2) us 4 [some (.ref 55), some (.int (nI m)), some (.int (bI mv)), some (.int (nI r)), none, none, none] [] (fzM z ex us) := by
    intro zd4
    induction zd4 with
    | zero => intro r mv lo B z zm4 zh_r zh_o zh_L zh_H zh_B zh_c zh_u zh_F; exfalso; omega
    | succ zd4 zih4 =>
      intro r mv lo B z zm4 zh_r zh_o zh_L zh_H zh_B zh_c zh_u zh_F
      have ZL19 : ∀ (zd19 : Nat) (a : Nat) (mv : Bool) (lo : Nat → Nat) (B : Nat → Bool) (z : Wd), 81 + 1 ≤ a + zd19 → r ≤ 81 → a ≤ m → RN (z.1 65) lo m → Lo S T nx pv m lo st → Hit T nx m lo → Co nx m lo B → r + (if mv = true then 1 else 0) ≤ cntN B 81 → (mv = false → ∀ i j, i < a → j < m → und (lo i) (lo j) = false) → Frm [65] w z → WA G9 p9 l9 e9 (RM 1 23) s9 m9 ar9 be9 me9 co9 (QF G9 be9 ar9 s9 w ex us (fun r w' => r = some (.int (bI (decide (wdt T = m)))) ∧ Frm [65] w w')) 7 (207 + ex.1 + ex.2) us 19 [some (.ref 55), some (.int (nI m)), some (.int (bI mv)), some (.int (nI r)), some (.int (nI a)), none, none] [] (fzM z ex us) := by
        intro zd19
        induction zd19 with
        | zero => intro a mv lo B z zm19 zh_r zh_a zh_o zh_L zh_H zh_B zh_c zh_u zh_F; exfalso; omega
        | succ zd19 zih19 =>
          intro a mv lo B z zm19 zh_r zh_a zh_o zh_L zh_H zh_B zh_c zh_u zh_F
          have ZL28 : ∀ (zd28 : Nat) (b : Nat) (mv : Bool) (lo : Nat → Nat) (B : Nat → Bool) (z : Wd), 81 + 1 ≤ b + zd28 → r ≤ 81 → a < m → b ≤ m → RN (z.1 65) lo m → Lo S T nx pv m lo st → Hit T nx m lo → Co nx m lo B → r + (if mv = true then 1 else 0) ≤ cntN B 81 → (mv = false → (∀ i j, i < a → j < m → und (lo i) (lo j) = false) ∧ ∀ j, j < b → und (lo a) (lo j) = false) → Frm [65] w z → WA G9 p9 l9 e9 (RM 1 23) s9 m9 ar9 be9 me9 co9 (QF G9 be9 ar9 s9 w ex us (fun r w' => r = some (.int (bI (decide (wdt T = m)))) ∧ Frm [65] w w')) 7 (207 + ex.1 + ex.2) us 28 [some (.ref 55), some (.int (nI m)), some (.int (bI mv)), some (.int (nI r)), some (.int (nI a)), some (.int (nI b)), none] [] (fzM z ex us) := by
            intro zd28
            induction zd28 with
            | zero => intro b mv lo B z zm28 zh_r zh_a zh_b zh_o zh_L zh_H zh_B zh_c zh_u zh_F; exfalso; omega
            | succ zd28 zih28 =>
              intro b mv lo B z zm28 zh_r zh_a zh_b zh_o zh_L zh_H zh_B zh_c zh_u zh_F
              have zq_a := hS _ (hT _ (zh_L.1 a zh_a).1)
              refine a_iload C dX0_canBeApart_28 rfl ?_
              refine a_iload_n C dX0_canBeApart_30 rfl rfl ?_
              first | refine n_icmp_ge (tgt := 101) C dX0_canBeApart_31 (by decide) (by first | decide | omega) (by first | decide | omega) (fun h_31 => ?_) (fun h_31 => ?_) | refine a_icmp_ge (tgt := 101) C dX0_canBeApart_31 (by decide) (fun h_31 => ?_) (fun h_31 => ?_)
              · refine n_iinc C dX0_canBeApart_101 rfl (by decide) ?_
                refine a_goto (tgt := 19) C dX0_canBeApart_104 (by decide) ?_
                refine a_join (aLe_s ?_ (aLe_s ?_ (aLe_s ?_ (aLe_s ?_ (aLe_s ?_ (aLe_n (aLe_n aLe_nil))))))) rfl rfl (zih19 (a + 1) mv lo B z (by omega) zh_r (by omega) zh_o zh_L zh_H zh_B zh_c (fun h i j hi hj => by
                  by_cases e9 : i = a
                  · subst e9; exact (zh_u h).2 j (by omega)
                  · exact (zh_u h).1 i j (by omega) hj) zh_F)
                · first | with_reducible rfl | exact gl (by first | with_reducible rfl | (refine iF ?_; simp [h_31]; done) | (refine iT ?_; simp [h_31]; done) | (refine iB ?_; simp [h_31]; done) | (simp [h_31]; done) | (simp [h_31]; omega) | omega)
                · first | with_reducible rfl | exact gl (by first | with_reducible rfl | (refine iF ?_; simp [h_31]; done) | (refine iT ?_; simp [h_31]; done) | (refine iB ?_; simp [h_31]; done) | (simp [h_31]; done) | (simp [h_31]; omega) | omega)
                · first | with_reducible rfl | exact gl (by first | with_reducible rfl | (refine iF ?_; simp [h_31]; done) | (refine iT ?_; simp [h_31]; done) | (refine iB ?_; simp [h_31]; done) | (simp [h_31]; done) | (simp [h_31]; omega) | omega)
                · first | with_reducible rfl | exact gl (by first | with_reducible rfl | (refine iF ?_; simp [h_31]; done) | (refine iT ?_; simp [h_31]; done) | (refine iB ?_; simp [h_31]; done) | (simp [h_31]; done) | (simp [h_31]; omega) | omega)
                · first | with_reducible rfl | exact gl (by first | with_reducible rfl | (refine iF ?_; simp [h_31]; done) | (refine iT ?_; simp [h_31]; done) | (refine iB ?_; simp [h_31]; done) | (simp [h_31]; done) | (simp [h_31]; omega) | omega)
              · have zq_b := hS _ (hT _ (zh_L.1 b h_31).1)
                refine a_aload_n C dX0_canBeApart_34 rfl rfl ?_
                refine a_getfF C fX0_43 dX0_canBeApart_35 (tw (by first | decide | omega)) (by first | decide | omega) rfl rfl ?_
                refine a_aload_n C dX0_canBeApart_38 rfl rfl ?_
                refine a_getfF C fX0_40 dX0_canBeApart_39 (tw (by first | decide | omega)) (by first | decide | omega) rfl rfl ?_
                refine a_iload C dX0_canBeApart_42 rfl ?_
                refine n_iald C dX0_canBeApart_44 (tw (by first | decide | omega)) (by first | decide | omega) rfl rfl (by first | decide | omega) (by decide) (zh_o a zh_a) ?_
                refine a_aload_n C dX0_canBeApart_45 rfl rfl ?_
                refine a_getfF C fX0_40 dX0_canBeApart_46 (tw (by first | decide | omega)) (by first | decide | omega) rfl rfl ?_
                refine a_iload C dX0_canBeApart_49 rfl ?_
                refine n_iald C dX0_canBeApart_51 (tw (by first | decide | omega)) (by first | decide | omega) rfl rfl (by first | decide | omega) (by decide) (zh_o b h_31) ?_
                refine p_callV C (K_X1_liesUnder (by first | assumption | decide | omega) (by first | assumption | decide | omega)) vX0_61 rfl (by first | decide | omega) rfl rfl dX0_canBeApart_52 (Nat.le_of_ble_eq_true rfl) ⟨by decide, by decide⟩ ?_
                first | refine b_if_eq (tgt := 95) C dX0_canBeApart_55 (by decide) (fun h_55 => ?_) (fun h_55 => ?_) | refine n_if_eq (tgt := 95) C dX0_canBeApart_55 (by decide) (by first | decide | omega) (fun h_55 => ?_) (fun h_55 => ?_) | refine a_if_eq (tgt := 95) C dX0_canBeApart_55 (by decide) (fun h_55 => ?_) (fun h_55 => ?_)
                · refine n_iinc C dX0_canBeApart_95 rfl (by decide) ?_
                  refine a_goto (tgt := 28) C dX0_canBeApart_98 (by decide) ?_
                  refine a_join (aLe_s ?_ (aLe_s ?_ (aLe_s ?_ (aLe_s ?_ (aLe_s ?_ (aLe_s ?_ (aLe_n aLe_nil))))))) rfl rfl (zih28 (b + 1) mv lo B z (by omega) zh_r zh_a (by omega) zh_o zh_L zh_H zh_B zh_c (fun h => ⟨(zh_u h).1, fun j hj => by
                    by_cases e9 : j = b
                    · subst e9; exact h_55
                    · exact (zh_u h).2 j (by omega)⟩) zh_F)
                  · first | with_reducible rfl | exact gl (by first | with_reducible rfl | (refine iF ?_; simp [h_31, h_55]; done) | (refine iT ?_; simp [h_31, h_55]; done) | (refine iB ?_; simp [h_31, h_55]; done) | (simp [h_31, h_55]; done) | (simp [h_31, h_55]; omega) | omega)
                  · first | with_reducible rfl | exact gl (by first | with_reducible rfl | (refine iF ?_; simp [h_31, h_55]; done) | (refine iT ?_; simp [h_31, h_55]; done) | (refine iB ?_; simp [h_31, h_55]; done) | (simp [h_31, h_55]; done) | (simp [h_31, h_55]; omega) | omega)
                  · first | with_reducible rfl | exact gl (by first | with_reducible rfl | (refine iF ?_; simp [h_31, h_55]; done) | (refine iT ?_; simp [h_31, h_55]; done) | (refine iB ?_; simp [h_31, h_55]; done) | (simp [h_31, h_55]; done) | (simp [h_31, h_55]; omega) | omega)
                  · first | with_reducible rfl | exact gl (by first | with_reducible rfl | (refine iF ?_; simp [h_31, h_55]; done) | (refine iT ?_; simp [h_31, h_55]; done) | (refine iB ?_; simp [h_31, h_55]; done) | (simp [h_31, h_55]; done) | (simp [h_31, h_55]; omega) | omega)
                  · first | with_reducible rfl | exact gl (by first | with_reducible rfl | (refine iF ?_; simp [h_31, h_55]; done) | (refine iT ?_; simp [h_31, h_55]; done) | (refine iB ?_; simp [h_31, h_55]; done) | (simp [h_31, h_55]; done) | (simp [h_31, h_55]; omega) | omega)
                  · first | with_reducible rfl | exact gl (by first | with_reducible rfl | (refine iF ?_; simp [h_31, h_55]; done) | (refine iT ?_; simp [h_31, h_55]; done) | (refine iB ?_; simp [h_31, h_55]; done) | (simp [h_31, h_55]; done) | (simp [h_31, h_55]; omega) | omega)
                · refine a_aload_n C dX0_canBeApart_58 rfl rfl ?_
                  refine a_aload_n C dX0_canBeApart_59 rfl rfl ?_
                  refine a_getfF C fX0_19 dX0_canBeApart_60 (tw (by first | decide | omega)) (by first | decide | omega) rfl rfl ?_
                  refine a_aload_n C dX0_canBeApart_63 rfl rfl ?_
                  refine a_getfF C fX0_40 dX0_canBeApart_64 (tw (by first | decide | omega)) (by first | decide | omega) rfl rfl ?_
                  refine a_iload C dX0_canBeApart_67 rfl ?_
                  refine n_iald C dX0_canBeApart_69 (tw (by first | decide | omega)) (by first | decide | omega) rfl rfl (by first | decide | omega) (by decide) (zh_o a zh_a) ?_
                  refine n_iald C dX0_canBeApart_70 (tw (by first | decide | omega)) (by first | decide | omega) rfl rfl (by first | decide | omega) (by decide) (show _ = oI (nx (lo a)) from by rw [zh_F.at 58 (by decide)]; exact hn _ zq_a) ?_
                  refine f_callV C _ _ (K_X0_leftFrom (w := z) (nx := nx) (T := T) (oo := nx (lo a)) hS hM (zq_o81 (lo a)) (by rw [zh_F.at 58 (by decide)]; exact hn) (fun c hc => by rw [zh_F.at 64 (by decide)]; exact hl c hc)) vX0_83 (by first | decide | omega) rfl rfl dX0_canBeApart_71 rfl (Nat.le_of_ble_eq_true rfl) ⟨by decide, by decide⟩ (fun zr71 zw71 zp71 => ?_)
                  obtain ⟨rfl, x9, rfl, zy_L⟩ := zp71
                  refine a_istore C dX0_canBeApart_74 (by decide) ?_
                  refine a_iload C dX0_canBeApart_76 rfl ?_
                  refine a_iconst (v := (-1)) C dX0_canBeApart_78 (by decide) ?_
                  refine a_icmp_ne (tgt := 84) C dX0_canBeApart_79 (by decide) (fun h_79 => ?_) (fun h_79 => ?_)
                  · obtain ⟨x8, rfl⟩ := oI_s h_79
                    obtain ⟨zy_1, zy_2, zy_3, zy_4⟩ := mv_some hS hM hT zh_L zh_H zh_B zh_a h_31 h_55 zy_L rfl
                    refine a_aload_n C dX0_canBeApart_84 rfl rfl ?_
                    refine a_getfF C fX0_40 dX0_canBeApart_85 (tw (by first | decide | omega)) (by first | decide | omega) rfl rfl ?_
                    refine a_iload C dX0_canBeApart_88 rfl ?_
                    refine a_iload C dX0_canBeApart_90 rfl ?_
                    refine f_iast C dX0_canBeApart_92 (by first | decide | omega) rfl rfl (by first | decide | omega) (by decide)  rfl ?_
                    refine a_iconst (v := bI true) C dX0_canBeApart_93 (by decide) ?_
                    refine a_istore_n C dX0_canBeApart_94 rfl (by decide) ?_
                    refine n_iinc C dX0_canBeApart_95 rfl (by decide) ?_
                    refine a_goto (tgt := 28) C dX0_canBeApart_98 (by decide) ?_
                    refine a_join (aLe_s ?_ (aLe_s ?_ (aLe_s ?_ (aLe_s ?_ (aLe_s ?_ (aLe_s ?_ (aLe_n aLe_nil))))))) rfl rfl (zih28 (b + 1) true (nS lo a x8) (bS B (lo a)) _ (by omega) zh_r zh_a (by omega) (by rw [wSet_row1]; exact RN.at zh_o) zy_1 zy_2 zy_3 (by rw [zy_4]; show r + 1 ≤ cntN B 81 + 1; omega) (fun h => nomatch h) (zh_F.set (by decide)))
                    · first | with_reducible rfl | exact gl (by first | with_reducible rfl | (refine iF ?_; simp [h_31, h_55]; done) | (refine iT ?_; simp [h_31, h_55]; done) | (refine iB ?_; simp [h_31, h_55]; done) | (simp [h_31, h_55]; done) | (simp [h_31, h_55]; omega) | omega)
                    · first | with_reducible rfl | exact gl (by first | with_reducible rfl | (refine iF ?_; simp [h_31, h_55]; done) | (refine iT ?_; simp [h_31, h_55]; done) | (refine iB ?_; simp [h_31, h_55]; done) | (simp [h_31, h_55]; done) | (simp [h_31, h_55]; omega) | omega)
                    · first | with_reducible rfl | exact gl (by first | with_reducible rfl | (refine iF ?_; simp [h_31, h_55]; done) | (refine iT ?_; simp [h_31, h_55]; done) | (refine iB ?_; simp [h_31, h_55]; done) | (simp [h_31, h_55]; done) | (simp [h_31, h_55]; omega) | omega)
                    · first | with_reducible rfl | exact gl (by first | with_reducible rfl | (refine iF ?_; simp [h_31, h_55]; done) | (refine iT ?_; simp [h_31, h_55]; done) | (refine iB ?_; simp [h_31, h_55]; done) | (simp [h_31, h_55]; done) | (simp [h_31, h_55]; omega) | omega)
                    · first | with_reducible rfl | exact gl (by first | with_reducible rfl | (refine iF ?_; simp [h_31, h_55]; done) | (refine iT ?_; simp [h_31, h_55]; done) | (refine iB ?_; simp [h_31, h_55]; done) | (simp [h_31, h_55]; done) | (simp [h_31, h_55]; omega) | omega)
                    · first | with_reducible rfl | exact gl (by first | with_reducible rfl | (refine iF ?_; simp [h_31, h_55]; done) | (refine iT ?_; simp [h_31, h_55]; done) | (refine iB ?_; simp [h_31, h_55]; done) | (simp [h_31, h_55]; done) | (simp [h_31, h_55]; omega) | omega)
                  · have zq_x := oI_n (fun c hc => hS _ (hT _ (zy_L.1 c hc).1)) h_79
                    have zq_no := has_f (mv_none hS hM hT zh_L zh_H zh_a h_31 h_55 zy_L zq_x)
                    refine a_iconst (v := nI 0) C dX0_canBeApart_82 (by decide) ?_
                    refine f_iret C hr ?_ dX0_canBeApart_83 ?_
                    · first | exact bI_narrow _ | rfl
                    · exact ⟨bI_fal zq_no, zh_F⟩
          refine a_iload C dX0_canBeApart_19 rfl ?_
          refine a_iload_n C dX0_canBeApart_21 rfl rfl ?_
          first | refine n_icmp_ge (tgt := 107) C dX0_canBeApart_22 (by decide) (by first | decide | omega) (by first | decide | omega) (fun h_22 => ?_) (fun h_22 => ?_) | refine a_icmp_ge (tgt := 107) C dX0_canBeApart_22 (by decide) (fun h_22 => ?_) (fun h_22 => ?_)
          · refine n_iinc C dX0_canBeApart_107 rfl (by decide) ?_
            refine a_goto (tgt := 4) C dX0_canBeApart_110 (by decide) ?_
            refine a_join (aLe_s ?_ (aLe_s ?_ (aLe_s ?_ (aLe_s ?_ (aLe_n (aLe_n (aLe_n aLe_nil))))))) rfl rfl (zih4 (r + 1) mv lo B z (by omega) (by omega) zh_o zh_L zh_H zh_B (fun h => by rw [h] at zh_c; exact zh_c) (fun h i j hi hj => zh_u h i j (by omega) hj) zh_F)
            · first | with_reducible rfl | exact gl (by first | with_reducible rfl | (refine iF ?_; simp [h_22]; done) | (refine iT ?_; simp [h_22]; done) | (refine iB ?_; simp [h_22]; done) | (simp [h_22]; done) | (simp [h_22]; omega) | omega)
            · first | with_reducible rfl | exact gl (by first | with_reducible rfl | (refine iF ?_; simp [h_22]; done) | (refine iT ?_; simp [h_22]; done) | (refine iB ?_; simp [h_22]; done) | (simp [h_22]; done) | (simp [h_22]; omega) | omega)
            · first | with_reducible rfl | exact gl (by first | with_reducible rfl | (refine iF ?_; simp [h_22]; done) | (refine iT ?_; simp [h_22]; done) | (refine iB ?_; simp [h_22]; done) | (simp [h_22]; done) | (simp [h_22]; omega) | omega)
            · first | with_reducible rfl | exact gl (by first | with_reducible rfl | (refine iF ?_; simp [h_22]; done) | (refine iT ?_; simp [h_22]; done) | (refine iB ?_; simp [h_22]; done) | (simp [h_22]; done) | (simp [h_22]; omega) | omega)
          · refine a_iconst (v := nI 0) C dX0_canBeApart_25 (by decide) ?_
            refine a_istore C dX0_canBeApart_26 (by decide) ?_
            refine a_join (aLe_s ?_ (aLe_s ?_ (aLe_s ?_ (aLe_s ?_ (aLe_s ?_ (aLe_s ?_ (aLe_n aLe_nil))))))) rfl rfl (ZL28 (81 + 1) 0 mv lo B z (by omega) zh_r (by omega) (by omega) zh_o zh_L zh_H zh_B zh_c (fun h => ⟨zh_u h, fun j hj => absurd hj (Nat.not_lt_zero j)⟩) zh_F)
            · first | with_reducible rfl | exact gl (by first | with_reducible rfl | (refine iF ?_; simp [h_22]; done) | (refine iT ?_; simp [h_22]; done) | (refine iB ?_; simp [h_22]; done) | (simp [h_22]; done) | (simp [h_22]; omega) | omega | rfl)
            · first | with_reducible rfl | exact gl (by first | with_reducible rfl | (refine iF ?_; simp [h_22]; done) | (refine iT ?_; simp [h_22]; done) | (refine iB ?_; simp [h_22]; done) | (simp [h_22]; done) | (simp [h_22]; omega) | omega | rfl)
            · first | with_reducible rfl | exact gl (by first | with_reducible rfl | (refine iF ?_; simp [h_22]; done) | (refine iT ?_; simp [h_22]; done) | (refine iB ?_; simp [h_22]; done) | (simp [h_22]; done) | (simp [h_22]; omega) | omega | rfl)
            · first | with_reducible rfl | exact gl (by first | with_reducible rfl | (refine iF ?_; simp [h_22]; done) | (refine iT ?_; simp [h_22]; done) | (refine iB ?_; simp [h_22]; done) | (simp [h_22]; done) | (simp [h_22]; omega) | omega | rfl)
            · first | with_reducible rfl | exact gl (by first | with_reducible rfl | (refine iF ?_; simp [h_22]; done) | (refine iT ?_; simp [h_22]; done) | (refine iB ?_; simp [h_22]; done) | (simp [h_22]; done) | (simp [h_22]; omega) | omega | rfl)
            · first | with_reducible rfl | exact gl (by first | with_reducible rfl | (refine iF ?_; simp [h_22]; done) | (refine iT ?_; simp [h_22]; done) | (refine iB ?_; simp [h_22]; done) | (simp [h_22]; done) | (simp [h_22]; omega) | omega | rfl)
      refine a_iload_n C dX0_canBeApart_4 rfl rfl ?_
      first | refine b_if_eq (tgt := 113) C dX0_canBeApart_5 (by decide) (fun h_5 => ?_) (fun h_5 => ?_) | refine n_if_eq (tgt := 113) C dX0_canBeApart_5 (by decide) (by first | decide | omega) (fun h_5 => ?_) (fun h_5 => ?_) | refine a_if_eq (tgt := 113) C dX0_canBeApart_5 (by decide) (fun h_5 => ?_) (fun h_5 => ?_)
      · refine a_iload_n C dX0_canBeApart_113 rfl rfl ?_
        first | refine b_if_ne (tgt := 121) C dX0_canBeApart_114 (by decide) (fun h_114 => ?_) (fun h_114 => ?_) | refine n_if_ne (tgt := 121) C dX0_canBeApart_114 (by decide) (by first | decide | omega) (fun h_114 => ?_) (fun h_114 => ?_) | refine a_if_ne (tgt := 121) C dX0_canBeApart_114 (by decide) (fun h_114 => ?_) (fun h_114 => ?_)
        · exact absurd (h_114.symm.trans h_5) (by decide)
        · refine a_iconst (v := nI 1) C dX0_canBeApart_117 (by decide) ?_
          refine a_goto (tgt := 122) C dX0_canBeApart_118 (by decide) ?_
          refine f_iret C hr ?_ dX0_canBeApart_122 ?_
          · first | exact bI_narrow _ | rfl
          · obtain ⟨A9, a1, a2, a3⟩ := zh_L.anti hM hT hS (zh_u h_5)
            have z9 := wdt_ge a1 a2
            exact ⟨bI_tru (decide_eq_true (by omega)), zh_F⟩
      · refine a_iload_n C dX0_canBeApart_8 rfl rfl ?_
        refine a_bipush (v := nI 81) C dX0_canBeApart_9 (by decide) ?_
        first | refine n_icmp_gt (tgt := 113) C dX0_canBeApart_11 (by decide) (by first | decide | omega) (by first | decide | omega) (fun h_11 => ?_) (fun h_11 => ?_) | refine a_icmp_gt (tgt := 113) C dX0_canBeApart_11 (by decide) (fun h_11 => ?_) (fun h_11 => ?_)
        · exfalso; have z9 := cntN_le B 81; have z8 := zh_c h_5; omega
        · refine a_iconst (v := bI false) C dX0_canBeApart_14 (by decide) ?_
          refine a_istore_n C dX0_canBeApart_15 rfl (by decide) ?_
          refine a_iconst (v := nI 0) C dX0_canBeApart_16 (by decide) ?_
          refine a_istore C dX0_canBeApart_17 (by decide) ?_
          refine a_join (aLe_s ?_ (aLe_s ?_ (aLe_s ?_ (aLe_s ?_ (aLe_s ?_ (aLe_n (aLe_n aLe_nil))))))) rfl rfl (ZL19 (81 + 1) 0 false lo B z (by omega) (by omega) (by omega) zh_o zh_L zh_H zh_B (zh_c h_5) (fun _ i j hi => absurd hi (Nat.not_lt_zero i)) zh_F)
          · first | with_reducible rfl | exact gl (by first | with_reducible rfl | (refine iF ?_; simp [h_5, h_11]; done) | (refine iT ?_; simp [h_5, h_11]; done) | (refine iB ?_; simp [h_5, h_11]; done) | (simp [h_5, h_11]; done) | (simp [h_5, h_11]; omega) | omega | rfl)
          · first | with_reducible rfl | exact gl (by first | with_reducible rfl | (refine iF ?_; simp [h_5, h_11]; done) | (refine iT ?_; simp [h_5, h_11]; done) | (refine iB ?_; simp [h_5, h_11]; done) | (simp [h_5, h_11]; done) | (simp [h_5, h_11]; omega) | omega | rfl)
          · first | with_reducible rfl | exact gl (by first | with_reducible rfl | (refine iF ?_; simp [h_5, h_11]; done) | (refine iT ?_; simp [h_5, h_11]; done) | (refine iB ?_; simp [h_5, h_11]; done) | (simp [h_5, h_11]; done) | (simp [h_5, h_11]; omega) | omega | rfl)
          · first | with_reducible rfl | exact gl (by first | with_reducible rfl | (refine iF ?_; simp [h_5, h_11]; done) | (refine iT ?_; simp [h_5, h_11]; done) | (refine iB ?_; simp [h_5, h_11]; done) | (simp [h_5, h_11]; done) | (simp [h_5, h_11]; omega) | omega | rfl)
          · first | with_reducible rfl | exact gl (by first | with_reducible rfl | (refine iF ?_; simp [h_5, h_11]; done) | (refine iT ?_; simp [h_5, h_11]; done) | (refine iB ?_; simp [h_5, h_11]; done) | (simp [h_5, h_11]; done) | (simp [h_5, h_11]; omega) | omega | rfl)
  refine a_pad 5 ?_
  refine a_eq (L' := [some (.ref 55), some (.int (nI m)), none, none, none, none, none]) rfl rfl rfl ?_
  refine a_iconst (v := bI true) C dX0_canBeApart_0 (by decide) ?_
  refine a_istore_n C dX0_canBeApart_1 rfl (by decide) ?_
  refine a_iconst (v := nI 0) C dX0_canBeApart_2 (by decide) ?_
  refine a_istore_n C dX0_canBeApart_3 rfl (by decide) ?_
  refine a_join (aLe_s ?_ (aLe_s ?_ (aLe_s ?_ (aLe_s ?_ (aLe_n (aLe_n (aLe_n aLe_nil))))))) rfl rfl (ZL4 (82 + 1) 0 true lo (fun _ => false) w (by omega) (by omega) ho hL hH (fun d hd => nomatch hd) (fun _ => Nat.zero_le _) (fun h => nomatch h) Frm.rf)
  · first | with_reducible rfl | exact gl (by first | with_reducible rfl | (refine iF ?_; simp []; done) | (refine iT ?_; simp []; done) | (refine iB ?_; simp []; done) | (simp []; done) | (simp []; omega) | omega | rfl)
  · first | with_reducible rfl | exact gl (by first | with_reducible rfl | (refine iF ?_; simp []; done) | (refine iT ?_; simp []; done) | (refine iB ?_; simp []; done) | (simp []; done) | (simp []; omega) | omega | rfl)
  · first | with_reducible rfl | exact gl (by first | with_reducible rfl | (refine iF ?_; simp []; done) | (refine iT ?_; simp []; done) | (refine iB ?_; simp []; done) | (simp []; done) | (simp []; omega) | omega | rfl)
  · first | with_reducible rfl | exact gl (by first | with_reducible rfl | (refine iF ?_; simp []; done) | (refine iT ?_; simp []; done) | (refine iB ?_; simp []; done) | (simp []; done) | (simp []; omega) | omega | rfl)

theorem lf_dec {m l W t : Nat} (h1 : m + (l + 1) ≤ W) (h2 : t ≤ m) : decide (l + 1 + t = W) = (decide (m = W - l - 1) && decide (t = m)) := by
  by_cases e1 : m = W - l - 1
  · by_cases e2 : t = m
    · rw [decide_eq_true e1, decide_eq_true e2, decide_eq_true (by omega)]; rfl
    · rw [decide_eq_true e1, decide_eq_false e2, decide_eq_false (by omega)]; rfl
  · rw [decide_eq_false e1, decide_eq_false (by omega)]; rfl
/-- the lowest codes that are left, of the first ch chains -/
def Lw (S T : Nat → Bool) (nx pv : OM) (sts : Nat → Nat) (ch m : Nat) (lo st : Nat → Nat) : Prop := m ≤ ch ∧ Lo S T nx pv m lo st ∧ (∀ i, i < m → ∃ c, c < ch ∧ st i = sts c) ∧ ∀ d, T d = true → (∃ c, c < ch ∧ Rc nx (sts c) d) → ∃ i, i < m ∧ Rc nx (lo i) d
theorem Lw.no {sts : Nat → Nat} {ch m : Nat} {lo st : Nat → Nat} (h : Lw S T nx pv sts ch m lo st) (h2 : LF nx T (some (sts ch)) none) : Lw S T nx pv sts (ch + 1) m lo st := by
  refine ⟨by have := h.1; omega, h.2.1, fun i hi => ?_, fun d hd ⟨c, c1, c2⟩ => ?_⟩
  · obtain ⟨c, c1, c2⟩ := h.2.2.1 i hi
    exact ⟨c, by omega, c2⟩
  · by_cases e : c = ch
    · subst e
      obtain ⟨x, hx, -⟩ := h2.2 _ d rfl c2 hd
      cases hx
    · exact h.2.2.2 d hd ⟨c, by omega, c2⟩
theorem Lw.yes {sts : Nat → Nat} {ch m cc x : Nat} {lo st : Nat → Nat} (hs : Sts S pv 81 cc sts) (hch : ch < cc) (h : Lw S T nx pv sts ch m lo st) (h2 : LF nx T (some (sts ch)) (some x)) : Lw S T nx pv sts (ch + 1) (m + 1) (nS lo m x) (nS st m (sts ch)) := by
  obtain ⟨x1, y, y1, y2⟩ := h2.1 x rfl
  cases y1
  obtain ⟨s1, s2, -⟩ := hs.1 ch hch
  refine ⟨by have := h.1; omega, ⟨fun i hi => ?_, fun i j hi hj e => ?_⟩, fun i hi => ?_, fun d hd ⟨c, c1, c2⟩ => ?_⟩
  · by_cases e : i = m
    · subst e
      rw [nS_at, nS_at]
      exact ⟨x1, y2, s2, s1⟩
    · rw [nS_ne e, nS_ne e]
      exact h.2.1.1 i (by omega)
  · by_cases e1 : i = m
    · by_cases e2 : j = m
      · omega
      · subst e1
        rw [nS_at, nS_ne e2] at e
        obtain ⟨c, c1, c2⟩ := h.2.2.1 j (by omega)
        have := hs.2.2 ch c hch (by omega) (by rw [e, c2])
        omega
    · by_cases e2 : j = m
      · subst e2
        rw [nS_at, nS_ne e1] at e
        obtain ⟨c, c1, c2⟩ := h.2.2.1 i (by omega)
        have := hs.2.2 ch c hch (by omega) (by rw [← e, c2])
        omega
      · rw [nS_ne e1, nS_ne e2] at e
        exact h.2.1.2 i j (by omega) (by omega) e
  · by_cases e : i = m
    · subst e
      exact ⟨ch, by omega, by rw [nS_at]⟩
    · obtain ⟨c, c1, c2⟩ := h.2.2.1 i (by omega)
      exact ⟨c, by omega, by rw [nS_ne e]; exact c2⟩
  · by_cases e : c = ch
    · subst e
      obtain ⟨x', hx, hr⟩ := h2.2 _ d rfl c2 hd
      cases hx
      exact ⟨m, by omega, by rw [nS_at]; exact hr⟩
    · obtain ⟨i, i1, i2⟩ := h.2.2.2 d hd ⟨c, by omega, c2⟩
      exact ⟨i, by omega, by rw [nS_ne (by omega)]; exact i2⟩
theorem Lw.cv {sts : Nat → Nat} {m cc : Nat} {lo st : Nat → Nat} (hS : Su S) (hM : Mt S nx pv) (hT : Sub T S) (hs : Sts S pv 81 cc sts) (h : Lw S T nx pv sts cc m lo st) : Cv T nx m lo := fun d hd => by
  obtain ⟨t, t1, t2, t3⟩ := bot_ex hS hM 81 d (hT d hd) (hS _ (hT d hd))
  obtain ⟨c, c1, c2⟩ := hs.2.1 t (hS _ t3) t3 t2
  exact h.2.2.2 d hd ⟨c, c1, by rw [c2]; exact t1⟩
theorem remS_sub (l : List Nat) : Sub (remS S l) S := fun d hd => (Bool.and_eq_true_iff.mp hd).1
end A32

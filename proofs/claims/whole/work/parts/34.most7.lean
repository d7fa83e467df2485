section A34
/-! ### the reference's chains -/
theorem ovL_s (c : Nat) : ovL (c + 1) = ovL c ++ upL c := by
  unfold ovL
  rw [List.range_succ, List.flatMap_append]
  simp
theorem ovS_s (c : Nat) : ovS (c + 1) = ovS c + (upL c).length := by
  unfold ovS
  rw [ovL_s, List.length_append]
theorem ovL_pre (m : Nat) : ∀ d, ∃ r, ovL (m + d) = ovL m ++ r
  | 0 => ⟨[], (List.append_nil _).symm⟩
  | d + 1 => by
    obtain ⟨r, h⟩ := ovL_pre m d
    exact ⟨r ++ upL (m + d), by rw [← Nat.add_assoc, ovL_s, h, List.append_assoc]⟩
theorem ovS_81 : ovS 81 = 1215 := by decide +kernel
theorem ovS_mono {a b : Nat} (h : a ≤ b) : ovS a ≤ ovS b := by
  obtain ⟨r, e⟩ := ovL_pre a (b - a)
  rw [show a + (b - a) = b by omega] at e
  unfold ovS
  rw [e, List.length_append]
  omega
theorem ovS_le {c : Nat} (h : c ≤ 81) : ovS c ≤ 1215 := by rw [← ovS_81]; exact ovS_mono h
theorem ovC_at {c j : Nat} (hc : c < 81) (hj : j < (upL c).length) : ovC (ovS c + j) = (upL c).getD j 0 := by
  obtain ⟨r, e⟩ := ovL_pre (c + 1) (80 - c)
  rw [show c + 1 + (80 - c) = 81 by omega, ovL_s c, List.append_assoc] at e
  unfold ovC ovS
  rw [e, List.getD_eq_getElem?_getD, List.getElem?_append_right (by omega), Nat.add_sub_cancel_left, List.getElem?_append_left hj, ← List.getD_eq_getElem?_getD]
theorem ovC_in {c e : Nat} (hc : c < 81) (h1 : ovS c ≤ e) (h2 : e < ovS (c + 1)) : ovC e < 81 ∧ und c (ovC e) = true := by
  rw [ovS_s] at h2
  obtain ⟨j, rfl⟩ : ∃ j, e = ovS c + j := ⟨e - ovS c, by omega⟩
  have hj : j < (upL c).length := by omega
  rw [ovC_at hc hj]
  have hm : (upL c).getD j 0 ∈ upL c := by
    rw [List.getD_eq_getElem?_getD, List.getElem?_eq_getElem hj]
    exact List.getElem_mem hj
  have z := List.mem_filter.mp hm
  exact ⟨List.mem_range.mp z.1, z.2⟩
theorem ovC_all {c b : Nat} (hc : c < 81) (hb : b < 81) (hu : und c b = true) : ∃ e, ovS c ≤ e ∧ e < ovS (c + 1) ∧ ovC e = b := by
  have hm : b ∈ upL c := List.mem_filter.mpr ⟨List.mem_range.mpr hb, hu⟩
  obtain ⟨j, hj, e⟩ := List.mem_iff_getElem.mp hm
  refine ⟨ovS c + j, by omega, by rw [ovS_s]; omega, ?_⟩
  rw [ovC_at hc hj, List.getD_eq_getElem?_getD, List.getElem?_eq_getElem hj]
  exact e
variable {S T : Nat → Bool} {nx pv : OM}
def De (S : Nat → Bool) (rf : OM) (a e : Nat) : Prop := ∀ x, ovS a ≤ x → x < e → S (ovC x) = true → ¬ rf (ovC x) = none
theorem De.s {rf : OM} {a e : Nat} (h : De S rf a e) (h2 : S (ovC e) = true → ¬ rf (ovC e) = none) : De S rf a (e + 1) := fun x h1 h3 h4 => by
  by_cases z : x = e
  · subst z; exact h2 h4
  · exact h x h1 (by omega) h4
theorem De.push {rf : OM} {a e b y : Nat} (h : De S rf a e) : De S (oS rf b (some y)) a e := fun x h1 h2 h3 => oS_some (h x h1 h2 h3)
theorem De.all {rf : OM} {a e : Nat} (hS : Su S) (ha : a < 81) (he : ovS (a + 1) ≤ e) (h : De S rf a e) : ∀ b, S b = true → und a b = true → ¬ rf b = none := fun b h1 h2 => by
  obtain ⟨x, x1, x2, x3⟩ := ovC_all ha (hS b h1) h2
  rw [← x3]
  exact h x x1 (by omega) (by rw [x3]; exact h1)
set_option maxRecDepth 20000 in
set_option maxHeartbeats 4000000 in
theorem K_X7_matchBack {w : Wd} {S ZL ZR : Nat → Bool} {nx pv : OM} (hS : Su S) (hM : Mt S nx pv) {nx1 pv1 rf : OM} {q : Nat → Nat} {s n over ii : Nat} (hs : S s = true) (hn : RO (w.1 212) nx1) (hp : RO (w.1 213) pv1) (hrf : RO (w.1 214) rf) (hC : Cl S pv ZL ZR) (hn81 : n ≤ 81) (hW : Wb S nx pv nx1 pv1 s rf q n ZR over ii) : CF yX7_matchBack cX7_matchBack 7 none 0 0 [.ref 204, .int (nI s), .int (nI over)] w (fun r w' => r = none ∧ ∃ nx' pv', RO (w'.1 212) nx' ∧ RO (w'.1 213) pv' ∧ Dne S nx s ZL ZR nx' pv' ∧ Frm [212, 213] w w') := by
  have zq_s := hS s hs
  refine CF.of ok_X7_matchBack (Nat.le_of_ble_eq_true rfl) (fun ex us G9 p9 l9 e9 s9 m9 ar9 be9 me9 co9 C hr => ?_)
  have ZL5 : ∀ (zd5 : Nat) (d : Nat) (x : Int32) (b : Bool) (nx1 pv1 : OM) (z : Wd), d < zd5 → RO (z.1 212) nx1 → RO (z.1 213) pv1 → Frm [212, 213] w z → (b = true → ∃ over ii, x = nI over ∧ ii < d ∧ Wb S nx pv nx1 pv1 s rf q n ZR over ii) → (b = false → Dne S nx s ZL ZR nx1 pv1) → WA G9 p9 l9 e9 (RM 0 0) s9 m9 ar9 be9 me9 co9 (QF G9 be9 ar9 s9 w ex us (fun r w' => r = none ∧ ∃ nx' pv', RO (w'.1 212) nx' ∧ RO (w'.1 213) pv' ∧ Dne S nx s ZL ZR nx' pv' ∧ Frm [212, 213] w w')) 7 (219 + ex) us 5 [some (.ref 204), some (.int (nI s)), none, some (.int x), some (.int (bI b)), none, none] [] (fzM z ex us) := by
    intro zd5
    induction zd5 with
    | zero => intro d x b nx1 pv1 z zm5 zh_n zh_p zh_F zh_W zh_D; exfalso; omega
    | succ zd5 zih5 =>
      intro d x b nx1 pv1 z zm5 zh_n zh_p zh_F zh_W zh_D
      refine a_iload C dX7_matchBack_5 rfl ?_
      first | refine b_if_eq (tgt := 62) C dX7_matchBack_7 (by decide) (fun h_7 => ?_) (fun h_7 => ?_) | refine n_if_eq (tgt := 62) C dX7_matchBack_7 (by decide) (by first | decide | omega) (fun h_7 => ?_) (fun h_7 => ?_) | refine a_if_eq (tgt := 62) C dX7_matchBack_7 (by decide) (fun h_7 => ?_) (fun h_7 => ?_)
      · refine f_vret C hr dX7_matchBack_62 ?_
        exact ⟨rfl, nx1, pv1, zh_n, zh_p, zh_D h_7, zh_F⟩
      · obtain ⟨over, ii, rfl, zq_i, zq_W⟩ := zh_W h_7
        have zq_o := hS _ zq_W.1.2.2.1
        have zq_q := hS _ zq_W.1.2.2.2.1
        have zq_g := zq_W.go hM hC
        refine a_aload_n C dX7_matchBack_10 rfl rfl ?_
        refine a_getfF C fX7_37 dX7_matchBack_11 (show _ < 219 from (by first | decide | omega)) (by first | decide | omega) rfl rfl ?_
        refine a_iload_n C dX7_matchBack_14 rfl rfl ?_
        refine n_iald C dX7_matchBack_15 (show _ < 219 from (by first | decide | omega)) (by first | decide | omega) rfl rfl (by first | decide | omega) (by decide) (show _ = nI (q ii) from by rw [zh_F.at 214 (by decide), hrf over zq_o, zq_W.1.2.1]; rfl) ?_
        refine a_istore C dX7_matchBack_16 (by decide) ?_
        refine a_aload_n C dX7_matchBack_18 rfl rfl ?_
        refine a_getfF C fX7_31 dX7_matchBack_19 (show _ < 219 from (by first | decide | omega)) (by first | decide | omega) rfl rfl ?_
        refine a_iload C dX7_matchBack_22 rfl ?_
        refine n_iald C dX7_matchBack_24 (show _ < 219 from (by first | decide | omega)) (by first | decide | omega) rfl rfl (by first | decide | omega) (by decide) (zh_n _ zq_q) ?_
        refine a_istore C dX7_matchBack_25 (by decide) ?_
        refine a_aload_n C dX7_matchBack_27 rfl rfl ?_
        refine a_getfF C fX7_31 dX7_matchBack_28 (show _ < 219 from (by first | decide | omega)) (by first | decide | omega) rfl rfl ?_
        refine a_iload C dX7_matchBack_31 rfl ?_
        refine a_iload_n C dX7_matchBack_33 rfl rfl ?_
        refine f_iast C dX7_matchBack_34 (by first | decide | omega) rfl rfl (by first | decide | omega) (by decide)  rfl ?_
        refine a_aload_n C dX7_matchBack_35 rfl rfl ?_
        refine a_getfF C fX7_34 dX7_matchBack_36 (show _ < 219 from (by first | decide | omega)) (by first | decide | omega) rfl rfl ?_
        refine a_iload_n C dX7_matchBack_39 rfl rfl ?_
        refine a_iload C dX7_matchBack_40 rfl ?_
        refine f_iast C dX7_matchBack_42 (by first | decide | omega) rfl rfl (by first | decide | omega) (by decide)  rfl ?_
        refine a_iload C dX7_matchBack_43 rfl ?_
        refine a_istore_n C dX7_matchBack_45 rfl (by decide) ?_
        refine a_iload C dX7_matchBack_46 rfl ?_
        refine a_iload_n C dX7_matchBack_48 rfl rfl ?_
        refine n_icmp_eq (tgt := 56) C dX7_matchBack_49 (by decide) (by first | decide | omega) (by first | decide | omega) (fun h_49 => ?_) (fun h_49 => ?_)
        · obtain ⟨b9, zy_b, zy_W, zy_D⟩ : ∃ b9, b9 = false ∧ (b9 = true → ∃ over9 ii9, oI (nx1 (q ii)) = nI over9 ∧ ii9 < d - 1 ∧ Wb S nx pv (oS nx1 (q ii) (some over)) (oS pv1 over (some (q ii))) s rf q n ZR over9 ii9) ∧ (b9 = false → Dne S nx s ZL ZR (oS nx1 (q ii) (some over)) (oS pv1 over (some (q ii)))) := ⟨false, rfl, (fun h => nomatch h), fun _ => by
            rcases zq_g with g | ⟨c9, i9, g1, g2, g3, g4⟩
            · exact g.2.2
            · exact absurd h_49 g3⟩
          refine a_iconst (v := bI false) C dX7_matchBack_56 (by decide) ?_
          refine a_istore C dX7_matchBack_57 (by decide) ?_
          refine a_goto (tgt := 5) C dX7_matchBack_59 (by decide) ?_
          refine a_join (aLe_s ?_ (aLe_s ?_ (aLe_n (aLe_s ?_ (aLe_s ?_ (aLe_n (aLe_n aLe_nil))))))) rfl rfl (zih5 (d - 1) _ b9 (oS nx1 (q ii) (some over)) (oS pv1 over (some (q ii))) _ (by omega) (by rw [wSet_th (by decide), wSet_row1]; exact zh_n.set (x := some over)) (by rw [wSet_row1, wSet_th (by decide)]; exact zh_p.set (x := some (q ii))) ((zh_F.set (by decide)).set (by decide)) zy_W zy_D)
          · first | with_reducible rfl | exact gl (by first | with_reducible rfl | (refine iF ?_; simp [h_7, (eq_true h_49), (beq_iff_eq.mpr h_49), (bne_eq_false_iff_eq.mpr h_49)]; done) | (refine iT ?_; simp [h_7, (eq_true h_49), (beq_iff_eq.mpr h_49), (bne_eq_false_iff_eq.mpr h_49)]; done) | (refine iB ?_; simp [h_7, (eq_true h_49), (beq_iff_eq.mpr h_49), (bne_eq_false_iff_eq.mpr h_49)]; done) | (simp [h_7, (eq_true h_49), (beq_iff_eq.mpr h_49), (bne_eq_false_iff_eq.mpr h_49)]; done) | (simp [h_7, (eq_true h_49), (beq_iff_eq.mpr h_49), (bne_eq_false_iff_eq.mpr h_49)]; omega) | omega)
          · first | with_reducible rfl | exact gl (by first | with_reducible rfl | (refine iF ?_; simp [h_7, (eq_true h_49), (beq_iff_eq.mpr h_49), (bne_eq_false_iff_eq.mpr h_49)]; done) | (refine iT ?_; simp [h_7, (eq_true h_49), (beq_iff_eq.mpr h_49), (bne_eq_false_iff_eq.mpr h_49)]; done) | (refine iB ?_; simp [h_7, (eq_true h_49), (beq_iff_eq.mpr h_49), (bne_eq_false_iff_eq.mpr h_49)]; done) | (simp [h_7, (eq_true h_49), (beq_iff_eq.mpr h_49), (bne_eq_false_iff_eq.mpr h_49)]; done) | (simp [h_7, (eq_true h_49), (beq_iff_eq.mpr h_49), (bne_eq_false_iff_eq.mpr h_49)]; omega) | omega)
          · first | with_reducible rfl | exact gl (by first | with_reducible rfl | (refine iF ?_; simp [h_7, (eq_true h_49), (beq_iff_eq.mpr h_49), (bne_eq_false_iff_eq.mpr h_49)]; done) | (refine iT ?_; simp [h_7, (eq_true h_49), (beq_iff_eq.mpr h_49), (bne_eq_false_iff_eq.mpr h_49)]; done) | (refine iB ?_; simp [h_7, (eq_true h_49), (beq_iff_eq.mpr h_49), (bne_eq_false_iff_eq.mpr h_49)]; done) | (simp [h_7, (eq_true h_49), (beq_iff_eq.mpr h_49), (bne_eq_false_iff_eq.mpr h_49)]; done) | (simp [h_7, (eq_true h_49), (beq_iff_eq.mpr h_49), (bne_eq_false_iff_eq.mpr h_49)]; omega) | omega)
          · exact gl (by rw [zy_b])
        · obtain ⟨b9, zy_b, zy_W, zy_D⟩ : ∃ b9, b9 = true ∧ (b9 = true → ∃ over9 ii9, oI (nx1 (q ii)) = nI over9 ∧ ii9 < d - 1 ∧ Wb S nx pv (oS nx1 (q ii) (some over)) (oS pv1 over (some (q ii))) s rf q n ZR over9 ii9) ∧ (b9 = false → Dne S nx s ZL ZR (oS nx1 (q ii) (some over)) (oS pv1 over (some (q ii)))) := ⟨true, rfl, fun _ => by
            rcases zq_g with g | ⟨c9, i9, g1, g2, g3, g4⟩
            · exact absurd g.2.1 h_49
            · exact ⟨c9, i9, by rw [g2]; rfl, by omega, g4⟩, fun h => nomatch h⟩
          refine a_iconst (v := bI true) C dX7_matchBack_52 (by decide) ?_
          refine a_goto (tgt := 57) C dX7_matchBack_53 (by decide) ?_
          refine a_istore C dX7_matchBack_57 (by decide) ?_
          refine a_goto (tgt := 5) C dX7_matchBack_59 (by decide) ?_
          refine a_join (aLe_s ?_ (aLe_s ?_ (aLe_n (aLe_s ?_ (aLe_s ?_ (aLe_n (aLe_n aLe_nil))))))) rfl rfl (zih5 (d - 1) _ b9 (oS nx1 (q ii) (some over)) (oS pv1 over (some (q ii))) _ (by omega) (by rw [wSet_th (by decide), wSet_row1]; exact zh_n.set (x := some over)) (by rw [wSet_row1, wSet_th (by decide)]; exact zh_p.set (x := some (q ii))) ((zh_F.set (by decide)).set (by decide)) zy_W zy_D)
          · first | with_reducible rfl | exact gl (by first | with_reducible rfl | (refine iF ?_; simp [h_7, h_49, (beq_eq_false_iff_ne.mpr h_49), (bne_iff_ne.mpr h_49)]; done) | (refine iT ?_; simp [h_7, h_49, (beq_eq_false_iff_ne.mpr h_49), (bne_iff_ne.mpr h_49)]; done) | (refine iB ?_; simp [h_7, h_49, (beq_eq_false_iff_ne.mpr h_49), (bne_iff_ne.mpr h_49)]; done) | (simp [h_7, h_49, (beq_eq_false_iff_ne.mpr h_49), (bne_iff_ne.mpr h_49)]; done) | (simp [h_7, h_49, (beq_eq_false_iff_ne.mpr h_49), (bne_iff_ne.mpr h_49)]; omega) | omega)
          · first | with_reducible rfl | exact gl (by first | with_reducible rfl | (refine iF ?_; simp [h_7, h_49, (beq_eq_false_iff_ne.mpr h_49), (bne_iff_ne.mpr h_49)]; done) | (refine iT ?_; simp [h_7, h_49, (beq_eq_false_iff_ne.mpr h_49), (bne_iff_ne.mpr h_49)]; done) | (refine iB ?_; simp [h_7, h_49, (beq_eq_false_iff_ne.mpr h_49), (bne_iff_ne.mpr h_49)]; done) | (simp [h_7, h_49, (beq_eq_false_iff_ne.mpr h_49), (bne_iff_ne.mpr h_49)]; done) | (simp [h_7, h_49, (beq_eq_false_iff_ne.mpr h_49), (bne_iff_ne.mpr h_49)]; omega) | omega)
          · first | with_reducible rfl | exact gl (by first | with_reducible rfl | (refine iF ?_; simp [h_7, h_49, (beq_eq_false_iff_ne.mpr h_49), (bne_iff_ne.mpr h_49)]; done) | (refine iT ?_; simp [h_7, h_49, (beq_eq_false_iff_ne.mpr h_49), (bne_iff_ne.mpr h_49)]; done) | (refine iB ?_; simp [h_7, h_49, (beq_eq_false_iff_ne.mpr h_49), (bne_iff_ne.mpr h_49)]; done) | (simp [h_7, h_49, (beq_eq_false_iff_ne.mpr h_49), (bne_iff_ne.mpr h_49)]; done) | (simp [h_7, h_49, (beq_eq_false_iff_ne.mpr h_49), (bne_iff_ne.mpr h_49)]; omega) | omega)
          · exact gl (by rw [zy_b])
  refine a_pad 4 ?_
  refine a_eq (L' := [some (.ref 204), some (.int (nI s)), some (.int (nI over)), none, none, none, none]) rfl rfl rfl ?_
  refine a_iload_n C dX7_matchBack_0 rfl rfl ?_
  refine a_istore_n C dX7_matchBack_1 rfl (by decide) ?_
  refine a_iconst (v := bI true) C dX7_matchBack_2 (by decide) ?_
  refine a_istore C dX7_matchBack_3 (by decide) ?_
  refine a_join (aLe_s ?_ (aLe_s ?_ (aLe_n (aLe_s ?_ (aLe_s ?_ (aLe_n (aLe_n aLe_nil))))))) rfl rfl (ZL5 (ii + 2) (ii + 1) (nI over) true nx1 pv1 w (by omega) hn hp Frm.rf (fun _ => ⟨over, ii, rfl, by omega, hW⟩) (fun h => nomatch h))
  · first | with_reducible rfl | exact gl (by first | with_reducible rfl | (refine iF ?_; simp []; done) | (refine iT ?_; simp []; done) | (refine iB ?_; simp []; done) | (simp []; done) | (simp []; omega) | omega | rfl)
  · first | with_reducible rfl | exact gl (by first | with_reducible rfl | (refine iF ?_; simp []; done) | (refine iT ?_; simp []; done) | (refine iB ?_; simp []; done) | (simp []; done) | (simp []; omega) | omega | rfl)
  · first | with_reducible rfl | exact gl (by first | with_reducible rfl | (refine iF ?_; simp []; done) | (refine iT ?_; simp []; done) | (refine iB ?_; simp []; done) | (simp []; done) | (simp []; omega) | omega | rfl)
  · first | with_reducible rfl | exact gl (by first | with_reducible rfl | (refine iF ?_; simp []; done) | (refine iT ?_; simp []; done) | (refine iB ?_; simp []; done) | (simp []; done) | (simp []; omega) | omega | rfl)

set_option maxRecDepth 20000 in
set_option maxHeartbeats 4000000 in
theorem K_X7_matches {w : Wd} {S ZL ZR : Nat → Bool} {nx pv : OM} (hS : Su S) (hM : Mt S nx pv) {s : Nat} (hf : ∀ c, c < 81 → w.1 211 c = bI (S c)) (hn : RO (w.1 212) nx) (hp : RO (w.1 213) pv) (hC : Cl S pv ZL ZR) (hs : S s = true) (hsn : nx s = none) : CF yX7_matches cX7_matches 6 (some .boolean) 1 26 [.ref 204, .int (nI s)] w (fun r w' => ∃ b, r = some (.int (bI b)) ∧ ∃ nx' pv', RO (w'.1 212) nx' ∧ RO (w'.1 213) pv' ∧ Sea S nx ZL s nx' pv' ∧ (nx' s).isSome = b ∧ Frm [212, 213, 214, 215] w w') := by
  have zq_s81 := hS s hs
  have zq_p81 := hM.p81 hS
  refine CF.of ok_X7_matches (Nat.le_of_ble_eq_true rfl) (fun ex us G9 p9 l9 e9 s9 m9 ar9 be9 me9 co9 C hr => ?_)
  have ZL32 : ∀ (zd32 : Nat) (k n : Nat) (rf : OM) (q : Nat → Nat) (z : Wd), 81 + 1 ≤ k + zd32 → n ≤ 81 → k ≤ n → Bf S nx pv s rf q n → Dn S rf q k → RN (z.1 215) q n → RO (z.1 214) rf → Frm [214, 215] w z → WA G9 p9 l9 e9 (RM 1 26) s9 m9 ar9 be9 me9 co9 (QF G9 be9 ar9 s9 w ex us (fun r w' => ∃ b, r = some (.int (bI b)) ∧ ∃ nx' pv', RO (w'.1 212) nx' ∧ RO (w'.1 213) pv' ∧ Sea S nx ZL s nx' pv' ∧ (nx' s).isSome = b ∧ Frm [212, 213, 214, 215] w w')) 6 (219 + ex) us 32 [some (.ref 204), some (.int (nI s)), some (.int (nI n)), some (.int (nI k)), none, none] [] (fzM z ex us) := by
    intro zd32
    induction zd32 with
    | zero => intro k n rf q z zm32 zq_n81 zh_k zh_B zh_d zh_q zh_r zh_F; exfalso; omega
    | succ zd32 zih32 =>
      intro k n rf q z zm32 zq_n81 zh_k zh_B zh_d zh_q zh_r zh_F
      have ZL50 : ∀ (zd50 : Nat) (e n lw : Nat) (rf : OM) (q : Nat → Nat) (z : Wd), 1215 + 1 ≤ e + zd50 → e ≤ 1215 → e ≤ ovS (lw + 1) → ovS lw ≤ e → k < n → Bf S nx pv s rf q n → Dn S rf q k → lw = q k → De S rf lw e → RN (z.1 215) q n → RO (z.1 214) rf → Frm [214, 215] w z → WA G9 p9 l9 e9 (RM 1 26) s9 m9 ar9 be9 me9 co9 (QF G9 be9 ar9 s9 w ex us (fun r w' => ∃ b, r = some (.int (bI b)) ∧ ∃ nx' pv', RO (w'.1 212) nx' ∧ RO (w'.1 213) pv' ∧ Sea S nx ZL s nx' pv' ∧ (nx' s).isSome = b ∧ Frm [212, 213, 214, 215] w w')) 6 (219 + ex) us 50 [some (.ref 204), some (.int (nI s)), some (.int (nI n)), some (.int (nI k)), some (.int (nI e)), none] [] (fzM z ex us) := by
        intro zd50
        induction zd50 with
        | zero => intro e n lw rf q z zm50 zh_e0 zh_e zh_e2 zh_k zh_B zh_d zh_l zh_h zh_q zh_r zh_F; exfalso; omega
        | succ zd50 zih50 =>
          intro e n lw rf q z zm50 zh_e0 zh_e zh_e2 zh_k zh_B zh_d zh_l zh_h zh_q zh_r zh_F
          have zq_n81 := zh_B.le hS
          have zq_lS : S lw = true := by rw [zh_l]; exact zh_B.qS hM zh_k
          have zq_l81 := hS lw zq_lS
          have zq_ov := ovS_le (show lw + 1 ≤ 81 by omega)
          refine a_iload C dX7_matches_50 rfl ?_
          refine a_aload_n C dX7_matches_52 rfl rfl ?_
          refine a_getfF C fX7_22 dX7_matches_53 (show _ < 219 from (by first | decide | omega)) (by first | decide | omega) rfl rfl ?_
          refine a_aload_n C dX7_matches_56 rfl rfl ?_
          refine a_getfF C fX7_40 dX7_matches_57 (show _ < 219 from (by first | decide | omega)) (by first | decide | omega) rfl rfl ?_
          refine a_iload_n C dX7_matches_60 rfl rfl ?_
          refine n_iald C dX7_matches_61 (show _ < 219 from (by first | decide | omega)) (by first | decide | omega) rfl rfl (by first | decide | omega) (by decide) (show _ = nI lw from by rw [zh_l]; exact zh_q k zh_k) ?_
          refine a_iconst (v := nI 1) C dX7_matches_62 (by decide) ?_
          first | refine n_iadd C dX7_matches_63 ?_ | refine a_iadd C dX7_matches_63 ?_
          refine n_iald C dX7_matches_64 (show _ < 219 from (by first | decide | omega)) (by first | decide | omega) rfl rfl (by first | decide | omega) (by decide) rfl ?_
          first | refine n_icmp_ge (tgt := 154) C dX7_matches_65 (by decide) (by first | decide | omega) (by first | decide | omega) (fun h_65 => ?_) (fun h_65 => ?_) | refine a_icmp_ge (tgt := 154) C dX7_matches_65 (by decide) (fun h_65 => ?_) (fun h_65 => ?_)
          · refine n_iinc C dX7_matches_154 rfl (by decide) ?_
            refine a_goto (tgt := 32) C dX7_matches_157 (by decide) ?_
            refine a_join (aLe_s ?_ (aLe_s ?_ (aLe_s ?_ (aLe_s ?_ (aLe_n (aLe_n aLe_nil)))))) rfl rfl (zih32 (k + 1) n rf q z (by omega) zq_n81 (by omega) zh_B (zh_d.next (fun b h1 h2 => zh_h.all hS zq_l81 h_65 b h1 (by rw [zh_l]; exact h2))) zh_q zh_r zh_F)
            · first | with_reducible rfl | exact gl (by first | with_reducible rfl | (refine iF ?_; simp [h_65]; done) | (refine iT ?_; simp [h_65]; done) | (refine iB ?_; simp [h_65]; done) | (simp [h_65]; done) | (simp [h_65]; omega) | omega)
            · first | with_reducible rfl | exact gl (by first | with_reducible rfl | (refine iF ?_; simp [h_65]; done) | (refine iT ?_; simp [h_65]; done) | (refine iB ?_; simp [h_65]; done) | (simp [h_65]; done) | (simp [h_65]; omega) | omega)
            · first | with_reducible rfl | exact gl (by first | with_reducible rfl | (refine iF ?_; simp [h_65]; done) | (refine iT ?_; simp [h_65]; done) | (refine iB ?_; simp [h_65]; done) | (simp [h_65]; done) | (simp [h_65]; omega) | omega)
            · first | with_reducible rfl | exact gl (by first | with_reducible rfl | (refine iF ?_; simp [h_65]; done) | (refine iT ?_; simp [h_65]; done) | (refine iB ?_; simp [h_65]; done) | (simp [h_65]; done) | (simp [h_65]; omega) | omega)
          · have zq_c := ovC_in zq_l81 zh_e2 h_65
            refine a_aload_n C dX7_matches_68 rfl rfl ?_
            refine a_getfF C fX7_25 dX7_matches_69 (show _ < 219 from (by first | decide | omega)) (by first | decide | omega) rfl rfl ?_
            refine a_iload C dX7_matches_72 rfl ?_
            refine n_iald C dX7_matches_74 (show _ < 219 from (by first | decide | omega)) (by first | decide | omega) rfl rfl (by first | decide | omega) (by decide) rfl ?_
            refine a_istore C dX7_matches_75 (by decide) ?_
            refine a_aload_n C dX7_matches_77 rfl rfl ?_
            refine a_getfF C fX7_28 dX7_matches_78 (show _ < 219 from (by first | decide | omega)) (by first | decide | omega) rfl rfl ?_
            refine a_iload C dX7_matches_81 rfl ?_
            refine n_iald C dX7_matches_83 (show _ < 219 from (by first | decide | omega)) (by first | decide | omega) rfl rfl (by first | decide | omega) (by decide) (show _ = bI (S (ovC e)) from by rw [zh_F.at 211 (by decide)]; exact hf _ zq_c.1) ?_
            refine a_iconst (v := nI 1) C dX7_matches_84 (by decide) ?_
            refine b_icmp1_ne (tgt := 148) C dX7_matches_85 (by decide) (fun h_85 => ?_) (fun h_85 => ?_)
            · refine n_iinc C dX7_matches_148 rfl (by decide) ?_
              refine a_goto (tgt := 50) C dX7_matches_151 (by decide) ?_
              refine a_join (aLe_s ?_ (aLe_s ?_ (aLe_s ?_ (aLe_s ?_ (aLe_s ?_ (aLe_n aLe_nil)))))) rfl rfl (zih50 (e + 1) n lw rf q z (by omega) (by omega) h_65 (by omega) zh_k zh_B zh_d zh_l (zh_h.s (fun h1 => by rw [h_85] at h1; cases h1)) zh_q zh_r zh_F)
              · first | with_reducible rfl | exact gl (by first | with_reducible rfl | (refine iF ?_; simp [h_65, h_85]; done) | (refine iT ?_; simp [h_65, h_85]; done) | (refine iB ?_; simp [h_65, h_85]; done) | (simp [h_65, h_85]; done) | (simp [h_65, h_85]; omega) | omega)
              · first | with_reducible rfl | exact gl (by first | with_reducible rfl | (refine iF ?_; simp [h_65, h_85]; done) | (refine iT ?_; simp [h_65, h_85]; done) | (refine iB ?_; simp [h_65, h_85]; done) | (simp [h_65, h_85]; done) | (simp [h_65, h_85]; omega) | omega)
              · first | with_reducible rfl | exact gl (by first | with_reducible rfl | (refine iF ?_; simp [h_65, h_85]; done) | (refine iT ?_; simp [h_65, h_85]; done) | (refine iB ?_; simp [h_65, h_85]; done) | (simp [h_65, h_85]; done) | (simp [h_65, h_85]; omega) | omega)
              · first | with_reducible rfl | exact gl (by first | with_reducible rfl | (refine iF ?_; simp [h_65, h_85]; done) | (refine iT ?_; simp [h_65, h_85]; done) | (refine iB ?_; simp [h_65, h_85]; done) | (simp [h_65, h_85]; done) | (simp [h_65, h_85]; omega) | omega)
              · first | with_reducible rfl | exact gl (by first | with_reducible rfl | (refine iF ?_; simp [h_65, h_85]; done) | (refine iT ?_; simp [h_65, h_85]; done) | (refine iB ?_; simp [h_65, h_85]; done) | (simp [h_65, h_85]; done) | (simp [h_65, h_85]; omega) | omega)
            · refine a_aload_n C dX7_matches_88 rfl rfl ?_
              refine a_getfF C fX7_37 dX7_matches_89 (show _ < 219 from (by first | decide | omega)) (by first | decide | omega) rfl rfl ?_
              refine a_iload C dX7_matches_92 rfl ?_
              refine n_iald C dX7_matches_94 (show _ < 219 from (by first | decide | omega)) (by first | decide | omega) rfl rfl (by first | decide | omega) (by decide) (zh_r _ zq_c.1) ?_
              refine a_iconst (v := (-1)) C dX7_matches_95 (by decide) ?_
              refine a_icmp_ne (tgt := 148) C dX7_matches_96 (by decide) (fun h_96 => ?_) (fun h_96 => ?_)
              · have zq_r : ¬ rf (ovC e) = none := fun z9 => h_96 (by rw [z9]; rfl)
                refine n_iinc C dX7_matches_148 rfl (by decide) ?_
                refine a_goto (tgt := 50) C dX7_matches_151 (by decide) ?_
                refine a_join (aLe_s ?_ (aLe_s ?_ (aLe_s ?_ (aLe_s ?_ (aLe_s ?_ (aLe_n aLe_nil)))))) rfl rfl (zih50 (e + 1) n lw rf q z (by omega) (by omega) h_65 (by omega) zh_k zh_B zh_d zh_l (zh_h.s (fun _ => zq_r)) zh_q zh_r zh_F)
                · first | with_reducible rfl | exact gl (by first | with_reducible rfl | (refine iF ?_; simp [h_65, h_85]; done) | (refine iT ?_; simp [h_65, h_85]; done) | (refine iB ?_; simp [h_65, h_85]; done) | (simp [h_65, h_85]; done) | (simp [h_65, h_85]; omega) | omega)
                · first | with_reducible rfl | exact gl (by first | with_reducible rfl | (refine iF ?_; simp [h_65, h_85]; done) | (refine iT ?_; simp [h_65, h_85]; done) | (refine iB ?_; simp [h_65, h_85]; done) | (simp [h_65, h_85]; done) | (simp [h_65, h_85]; omega) | omega)
                · first | with_reducible rfl | exact gl (by first | with_reducible rfl | (refine iF ?_; simp [h_65, h_85]; done) | (refine iT ?_; simp [h_65, h_85]; done) | (refine iB ?_; simp [h_65, h_85]; done) | (simp [h_65, h_85]; done) | (simp [h_65, h_85]; omega) | omega)
                · first | with_reducible rfl | exact gl (by first | with_reducible rfl | (refine iF ?_; simp [h_65, h_85]; done) | (refine iT ?_; simp [h_65, h_85]; done) | (refine iB ?_; simp [h_65, h_85]; done) | (simp [h_65, h_85]; done) | (simp [h_65, h_85]; omega) | omega)
                · first | with_reducible rfl | exact gl (by first | with_reducible rfl | (refine iF ?_; simp [h_65, h_85]; done) | (refine iT ?_; simp [h_65, h_85]; done) | (refine iB ?_; simp [h_65, h_85]; done) | (simp [h_65, h_85]; done) | (simp [h_65, h_85]; omega) | omega)
              · have zq_r := oI_n (fun c hc => hS _ (zh_B.2.2.1 _ c hc).2.1) h_96
                refine a_aload_n C dX7_matches_99 rfl rfl ?_
                refine a_getfF C fX7_37 dX7_matches_100 (show _ < 219 from (by first | decide | omega)) (by first | decide | omega) rfl rfl ?_
                refine a_iload C dX7_matches_103 rfl ?_
                refine a_aload_n C dX7_matches_105 rfl rfl ?_
                refine a_getfF C fX7_40 dX7_matches_106 (show _ < 219 from (by first | decide | omega)) (by first | decide | omega) rfl rfl ?_
                refine a_iload_n C dX7_matches_109 rfl rfl ?_
                refine n_iald C dX7_matches_110 (show _ < 219 from (by first | decide | omega)) (by first | decide | omega) rfl rfl (by first | decide | omega) (by decide) (show _ = nI lw from by rw [zh_l]; exact zh_q k zh_k) ?_
                refine f_iast C dX7_matches_111 (by first | decide | omega) rfl rfl (by first | decide | omega) (by decide)  rfl ?_
                refine a_aload_n C dX7_matches_112 rfl rfl ?_
                refine a_getfF C fX7_34 dX7_matches_113 (show _ < 219 from (by first | decide | omega)) (by first | decide | omega) rfl rfl ?_
                refine a_iload C dX7_matches_116 rfl ?_
                refine n_iald C dX7_matches_118 (show _ < 219 from (by first | decide | omega)) (by first | decide | omega) rfl rfl (by first | decide | omega) (by decide) (show _ = oI (pv (ovC e)) from by rw [wSet_th (by decide), zh_F.at 213 (by decide)]; exact hp _ zq_c.1) ?_
                refine a_iconst (v := (-1)) C dX7_matches_119 (by decide) ?_
                refine a_icmp_ne (tgt := 132) C dX7_matches_120 (by decide) (fun h_120 => ?_) (fun h_120 => ?_)
                · obtain ⟨x9, zq_p⟩ := oI_s h_120
                  have zq_room := zh_B.room hS zq_lS h_85 zq_c.2 zq_r
                  have zq_B := zh_B.push (b := ovC e) hS hM zh_k h_85 (by rw [← zh_l]; exact zq_c.2) zq_r zq_p
                  rw [← zh_l] at zq_B
                  refine a_aload_n C dX7_matches_132 rfl rfl ?_
                  refine a_getfF C fX7_40 dX7_matches_133 (show _ < 219 from (by first | decide | omega)) (by first | decide | omega) rfl rfl ?_
                  refine a_iload_n C dX7_matches_136 rfl rfl ?_
                  refine a_aload_n C dX7_matches_137 rfl rfl ?_
                  refine a_getfF C fX7_34 dX7_matches_138 (show _ < 219 from (by first | decide | omega)) (by first | decide | omega) rfl rfl ?_
                  refine a_iload C dX7_matches_141 rfl ?_
                  refine n_iald C dX7_matches_143 (show _ < 219 from (by first | decide | omega)) (by first | decide | omega) rfl rfl (by first | decide | omega) (by decide) (show _ = nI x9 from by rw [wSet_th (by decide), zh_F.at 213 (by decide), hp _ zq_c.1, zq_p]; rfl) ?_
                  refine f_iast C dX7_matches_144 (by first | decide | omega) rfl rfl (by first | decide | omega) (by decide)  rfl ?_
                  refine n_iinc C dX7_matches_145 rfl (by decide) ?_
                  refine n_iinc C dX7_matches_148 rfl (by decide) ?_
                  refine a_goto (tgt := 50) C dX7_matches_151 (by decide) ?_
                  refine a_join (aLe_s ?_ (aLe_s ?_ (aLe_s ?_ (aLe_s ?_ (aLe_s ?_ (aLe_n aLe_nil)))))) rfl rfl (zih50 (e + 1) (n + 1) lw (oS rf (ovC e) (some lw)) (nS q n x9) _ (by omega) (by omega) h_65 (by omega) (by omega) zq_B (zh_d.push (by omega)) (by rw [nS_ne (by omega)]; exact zh_l) (zh_h.push.s (fun _ => by rw [oS_at]; exact fun z9 => by cases z9)) (by rw [wSet_row1, wSet_th (by decide)]; exact zh_q.push) (by rw [wSet_th (by decide), wSet_row1]; exact zh_r.set (x := some lw)) ((zh_F.set (by decide)).set (by decide)))
                  · first | with_reducible rfl | exact gl (by first | with_reducible rfl | (refine iF ?_; simp [h_65, h_85]; done) | (refine iT ?_; simp [h_65, h_85]; done) | (refine iB ?_; simp [h_65, h_85]; done) | (simp [h_65, h_85]; done) | (simp [h_65, h_85]; omega) | omega)
                  · first | with_reducible rfl | exact gl (by first | with_reducible rfl | (refine iF ?_; simp [h_65, h_85]; done) | (refine iT ?_; simp [h_65, h_85]; done) | (refine iB ?_; simp [h_65, h_85]; done) | (simp [h_65, h_85]; done) | (simp [h_65, h_85]; omega) | omega)
                  · first | with_reducible rfl | exact gl (by first | with_reducible rfl | (refine iF ?_; simp [h_65, h_85]; done) | (refine iT ?_; simp [h_65, h_85]; done) | (refine iB ?_; simp [h_65, h_85]; done) | (simp [h_65, h_85]; done) | (simp [h_65, h_85]; omega) | omega)
                  · first | with_reducible rfl | exact gl (by first | with_reducible rfl | (refine iF ?_; simp [h_65, h_85]; done) | (refine iT ?_; simp [h_65, h_85]; done) | (refine iB ?_; simp [h_65, h_85]; done) | (simp [h_65, h_85]; done) | (simp [h_65, h_85]; omega) | omega)
                  · first | with_reducible rfl | exact gl (by first | with_reducible rfl | (refine iF ?_; simp [h_65, h_85]; done) | (refine iT ?_; simp [h_65, h_85]; done) | (refine iB ?_; simp [h_65, h_85]; done) | (simp [h_65, h_85]; done) | (simp [h_65, h_85]; omega) | omega)
                · have zq_p := oI_n (fun c hc => zq_p81 _ c hc) h_120
                  refine a_aload_n C dX7_matches_123 rfl rfl ?_
                  refine a_iload_n C dX7_matches_124 rfl rfl ?_
                  refine a_iload C dX7_matches_125 rfl ?_
                  refine f_callV C _ _ (K_X7_matchBack (w := wSet z 214 (ovC e) (nI lw)) (nx := nx) (pv := pv) (nx1 := nx) (pv1 := pv) (rf := oS rf (ovC e) (some lw)) (q := q) (s := s) (n := n) (over := ovC e) (ii := k) (ZL := ZL) (ZR := ZR) hS hM hs (by rw [wSet_th (by decide), zh_F.at 212 (by decide)]; exact hn) (by rw [wSet_th (by decide), zh_F.at 213 (by decide)]; exact hp) (by rw [wSet_row1]; exact zh_r.set (x := some lw)) hC zq_n81 (by have z9 := zh_B.found hM zh_k h_85 (by rw [← zh_l]; exact zq_c.2) zq_r zq_p hC; rw [← zh_l] at z9; exact z9)) vX7_246 (by first | decide | omega) rfl rfl dX7_matches_127 rfl (Nat.le_of_ble_eq_true rfl) ⟨by decide, by decide⟩ (fun zr127 zw127 zp127 => ?_)
                  obtain ⟨rfl, nx9, pv9, zy_n, zy_p, zy_D, zy_F⟩ := zp127
                  refine a_iconst (v := bI true) C dX7_matches_130 (by decide) ?_
                  refine f_iret C hr ?_ dX7_matches_131 ?_
                  · exact bI_narrow _
                  · exact ⟨true, rfl, nx9, pv9, zy_n, zy_p, Sea.done zy_D, by rw [zy_D.2.2 s, beq_self_eq_true, Bool.or_true], ((zh_F.up (by decide)).set (by decide)).tr (zy_F.up (by decide))⟩
      refine a_iload_n C dX7_matches_32 rfl rfl ?_
      refine a_iload_n C dX7_matches_33 rfl rfl ?_
      first | refine n_icmp_ge (tgt := 160) C dX7_matches_34 (by decide) (by first | decide | omega) (by first | decide | omega) (fun h_34 => ?_) (fun h_34 => ?_) | refine a_icmp_ge (tgt := 160) C dX7_matches_34 (by decide) (fun h_34 => ?_) (fun h_34 => ?_)
      · refine a_iconst (v := bI false) C dX7_matches_160 (by decide) ?_
        refine f_iret C hr ?_ dX7_matches_161 ?_
        · exact bI_narrow _
        · obtain rfl : k = n := by omega
          exact ⟨false, rfl, nx, pv, by rw [zh_F.at 212 (by decide)]; exact hn, by rw [zh_F.at 213 (by decide)]; exact hp, Sea.fail hM zh_B zh_d hC, by rw [hsn]; rfl, zh_F.up (by decide)⟩
      · have zq_qk := hS _ (zh_B.qS hM h_34)
        refine a_aload_n C dX7_matches_37 rfl rfl ?_
        refine a_getfF C fX7_22 dX7_matches_38 (show _ < 219 from (by first | decide | omega)) (by first | decide | omega) rfl rfl ?_
        refine a_aload_n C dX7_matches_41 rfl rfl ?_
        refine a_getfF C fX7_40 dX7_matches_42 (show _ < 219 from (by first | decide | omega)) (by first | decide | omega) rfl rfl ?_
        refine a_iload_n C dX7_matches_45 rfl rfl ?_
        refine n_iald C dX7_matches_46 (show _ < 219 from (by first | decide | omega)) (by first | decide | omega) rfl rfl (by first | decide | omega) (by decide) (zh_q k h_34) ?_
        refine n_iald C dX7_matches_47 (show _ < 219 from (by first | decide | omega)) (by first | decide | omega) rfl rfl (by first | decide | omega) (by decide) rfl ?_
        refine a_istore C dX7_matches_48 (by decide) ?_
        refine a_join (aLe_s ?_ (aLe_s ?_ (aLe_s ?_ (aLe_s ?_ (aLe_s ?_ (aLe_n aLe_nil)))))) rfl rfl (ZL50 (1215 + 1) (ovS (q k)) n (q k) rf q z (by omega) (ovS_le (by omega)) (ovS_mono (by omega)) (Nat.le_refl _) h_34 zh_B zh_d rfl (fun x h1 h2 => absurd h2 (by omega)) zh_q zh_r zh_F)
        · first | with_reducible rfl | exact gl (by first | with_reducible rfl | (refine iF ?_; simp [h_34]; done) | (refine iT ?_; simp [h_34]; done) | (refine iB ?_; simp [h_34]; done) | (simp [h_34]; done) | (simp [h_34]; omega) | omega | rfl)
        · first | with_reducible rfl | exact gl (by first | with_reducible rfl | (refine iF ?_; simp [h_34]; done) | (refine iT ?_; simp [h_34]; done) | (refine iB ?_; simp [h_34]; done) | (simp [h_34]; done) | (simp [h_34]; omega) | omega | rfl)
        · first | with_reducible rfl | exact gl (by first | with_reducible rfl | (refine iF ?_; simp [h_34]; done) | (refine iT ?_; simp [h_34]; done) | (refine iB ?_; simp [h_34]; done) | (simp [h_34]; done) | (simp [h_34]; omega) | omega | rfl)
        · first | with_reducible rfl | exact gl (by first | with_reducible rfl | (refine iF ?_; simp [h_34]; done) | (refine iT ?_; simp [h_34]; done) | (refine iB ?_; simp [h_34]; done) | (simp [h_34]; done) | (simp [h_34]; omega) | omega | rfl)
        · first | with_reducible rfl | exact gl (by first | with_reducible rfl | (refine iF ?_; simp [h_34]; done) | (refine iT ?_; simp [h_34]; done) | (refine iB ?_; simp [h_34]; done) | (simp [h_34]; done) | (simp [h_34]; omega) | omega | rfl)
  have ZL2 : ∀ (zd2 : Nat) (k : Nat), 81 + 1 ≤ k + zd2 → k ≤ 81 → WA G9 p9 l9 e9 (RM 1 26) s9 m9 ar9 be9 me9 co9 (QF G9 be9 ar9 s9 w ex us (fun r w' => ∃ b, r = some (.int (bI b)) ∧ ∃ nx' pv', RO (w'.1 212) nx' ∧ RO (w'.1 213) pv' ∧ Sea S nx ZL s nx' pv' ∧ (nx' s).isSome = b ∧ Frm [212, 213, 214, 215] w w')) 6 (219 + ex) us 2 [some (.ref 204), some (.int (nI s)), some (.int (nI k)), none, none, none] [] (fzM (wRow w 214 (fil (w.1 214) (-1) k)) ex us) := by
    intro zd2
    induction zd2 with
    | zero => intro k zm2 zh2_0; exfalso; omega
    | succ zd2 zih2 =>
      intro k zm2 zh2_0
      refine a_iload_n C dX7_matches_2 rfl rfl ?_
      refine a_bipush (v := nI 81) C dX7_matches_3 (by decide) ?_
      first | refine n_icmp_ge (tgt := 21) C dX7_matches_5 (by decide) (by first | decide | omega) (by first | decide | omega) (fun h_5 => ?_) (fun h_5 => ?_) | refine a_icmp_ge (tgt := 21) C dX7_matches_5 (by decide) (fun h_5 => ?_) (fun h_5 => ?_)
      · obtain rfl : k = 81 := by omega
        refine a_aload_n C dX7_matches_21 rfl rfl ?_
        refine a_getfF C fX7_40 dX7_matches_22 (show _ < 219 from (by first | decide | omega)) (by first | decide | omega) rfl rfl ?_
        refine a_iconst (v := nI 0) C dX7_matches_25 (by decide) ?_
        refine a_iload_n C dX7_matches_26 rfl rfl ?_
        refine f_iast C dX7_matches_27 (by first | decide | omega) rfl rfl (by first | decide | omega) (by decide)  rfl ?_
        refine a_iconst (v := nI 1) C dX7_matches_28 (by decide) ?_
        refine a_istore_n C dX7_matches_29 rfl (by decide) ?_
        refine a_iconst (v := nI 0) C dX7_matches_30 (by decide) ?_
        refine a_istore_n C dX7_matches_31 rfl (by decide) ?_
        refine a_join (aLe_s ?_ (aLe_s ?_ (aLe_s ?_ (aLe_s ?_ (aLe_n (aLe_n aLe_nil)))))) rfl rfl (ZL32 (81 + 1) 0 1 (fun _ => none) (fun _ => s) _ (by omega) (by omega) (by omega) (Bf.init hs hsn rfl) (fun i b hi => absurd hi (Nat.not_lt_zero i)) (by rw [wSet_row1]; exact RN.one) (by rw [wSet_th (by decide), wRow_at]; exact RO.fil) ((Frm.rf.row (by decide)).set (by decide)))
        · first | with_reducible rfl | exact gl (by first | with_reducible rfl | (refine iF ?_; simp [h_5]; done) | (refine iT ?_; simp [h_5]; done) | (refine iB ?_; simp [h_5]; done) | (simp [h_5]; done) | (simp [h_5]; omega) | omega | rfl)
        · first | with_reducible rfl | exact gl (by first | with_reducible rfl | (refine iF ?_; simp [h_5]; done) | (refine iT ?_; simp [h_5]; done) | (refine iB ?_; simp [h_5]; done) | (simp [h_5]; done) | (simp [h_5]; omega) | omega | rfl)
        · first | with_reducible rfl | exact gl (by first | with_reducible rfl | (refine iF ?_; simp [h_5]; done) | (refine iT ?_; simp [h_5]; done) | (refine iB ?_; simp [h_5]; done) | (simp [h_5]; done) | (simp [h_5]; omega) | omega | rfl)
        · first | with_reducible rfl | exact gl (by first | with_reducible rfl | (refine iF ?_; simp [h_5]; done) | (refine iT ?_; simp [h_5]; done) | (refine iB ?_; simp [h_5]; done) | (simp [h_5]; done) | (simp [h_5]; omega) | omega | rfl)
      · refine a_aload_n C dX7_matches_8 rfl rfl ?_
        refine a_getfF C fX7_37 dX7_matches_9 (show _ < 219 from (by first | decide | omega)) (by first | decide | omega) rfl rfl ?_
        refine a_iload_n C dX7_matches_12 rfl rfl ?_
        refine a_iconst (v := (-1)) C dX7_matches_13 (by decide) ?_
        refine f_iast C dX7_matches_14 (by first | decide | omega) rfl rfl (by first | decide | omega) (by decide)  rfl ?_
        refine a_wd (wSet_row.trans (by rw [fil_s])) ?_
        refine n_iinc C dX7_matches_15 rfl (by decide) ?_
        refine a_goto (tgt := 2) C dX7_matches_18 (by decide) ?_
        refine a_join (aLe_s ?_ (aLe_s ?_ (aLe_s ?_ (aLe_n (aLe_n (aLe_n aLe_nil)))))) rfl rfl (zih2 (k + 1) (by omega) (by omega))
        · first | with_reducible rfl | exact gl (by first | with_reducible rfl | (refine iF ?_; simp [h_5]; done) | (refine iT ?_; simp [h_5]; done) | (refine iB ?_; simp [h_5]; done) | (simp [h_5]; done) | (simp [h_5]; omega) | omega)
        · first | with_reducible rfl | exact gl (by first | with_reducible rfl | (refine iF ?_; simp [h_5]; done) | (refine iT ?_; simp [h_5]; done) | (refine iB ?_; simp [h_5]; done) | (simp [h_5]; done) | (simp [h_5]; omega) | omega)
        · first | with_reducible rfl | exact gl (by first | with_reducible rfl | (refine iF ?_; simp [h_5]; done) | (refine iT ?_; simp [h_5]; done) | (refine iB ?_; simp [h_5]; done) | (simp [h_5]; done) | (simp [h_5]; omega) | omega)
  refine a_pad 4 ?_
  refine a_eq (L' := [some (.ref 204), some (.int (nI s)), none, none, none, none]) rfl rfl rfl ?_
  refine a_wd (show w = wRow w 214 (fil (w.1 214) (-1) 0) from by rw [fil_0]; exact wRow_self rfl) ?_
  refine a_iconst (v := nI 0) C dX7_matches_0 (by decide) ?_
  refine a_istore_n C dX7_matches_1 rfl (by decide) ?_
  refine a_join (aLe_s ?_ (aLe_s ?_ (aLe_s ?_ (aLe_n (aLe_n (aLe_n aLe_nil)))))) rfl rfl (ZL2 (81 + 1) 0 (by omega) (by omega))
  · first | with_reducible rfl | exact gl (by first | with_reducible rfl | (refine iF ?_; simp []; done) | (refine iT ?_; simp []; done) | (refine iB ?_; simp []; done) | (simp []; done) | (simp []; omega) | omega | rfl)
  · first | with_reducible rfl | exact gl (by first | with_reducible rfl | (refine iF ?_; simp []; done) | (refine iT ?_; simp []; done) | (refine iB ?_; simp []; done) | (simp []; done) | (simp []; omega) | omega | rfl)
  · first | with_reducible rfl | exact gl (by first | with_reducible rfl | (refine iF ?_; simp []; done) | (refine iT ?_; simp []; done) | (refine iB ?_; simp []; done) | (simp []; done) | (simp []; omega) | omega | rfl)

def uN (S : Nat → Bool) (nx : OM) (c : Nat) : Nat := cntN (fun a => S a && (nx a).isNone) c
theorem uN_s {c : Nat} : uN S nx (c + 1) = uN S nx c + (if (S c && (nx c).isNone) = true then 1 else 0) := rfl
theorem iso_n {x y : Option Nat} (h : x.isSome = y.isSome) : x.isNone = y.isNone := by cases x <;> cases y <;> first | rfl | cases h
theorem uN_cg {nx' : OM} {c : Nat} (h : ∀ a, ¬ a = c → (nx' a).isSome = (nx a).isSome) : uN S nx' c = uN S nx c := cntN_cg c (fun a ha => by rw [iso_n (h a (by omega))])
theorem Fc_uw {ZL ZR : Nat → Bool} (hS : Su S) (h : Fc S 81 nx pv ZL ZR) : wdt S = uN S nx 81 := wdt_eq (konig hS h.1 h.2.1 (fun a h1 h2 => h.2.2.1 a (hS a h1) h1 h2))
theorem uN_le (c : Nat) : uN S nx c ≤ c := cntN_le _ c
set_option maxRecDepth 20000 in
set_option maxHeartbeats 4000000 in
theorem K_X7_fewestChains {w : Wd} (hS : Su S) (hf : ∀ c, c < 81 → w.1 211 c = bI (S c)) : CF yX7_fewestChains cX7_fewestChains 3 (some .int) 2 51 [.ref 204] w (fun r w' => r = some (.int (nI (wdt S))) ∧ Frm [212, 213, 214, 215] w w') := by
  refine CF.of ok_X7_fewestChains (Nat.le_of_ble_eq_true rfl) (fun ex us G9 p9 l9 e9 s9 m9 ar9 be9 me9 co9 C hr => ?_)
  have ZL32 : ∀ (zd32 : Nat) (c : Nat) (nx pv : OM) (ZL ZR : Nat → Bool) (z : Wd), 81 + 1 ≤ c + zd32 → c ≤ 81 → RO (z.1 212) nx → RO (z.1 213) pv → Fc S c nx pv ZL ZR → Frm [212, 213, 214, 215] w z → WA G9 p9 l9 e9 (RM 2 51) s9 m9 ar9 be9 me9 co9 (QF G9 be9 ar9 s9 w ex us (fun r w' => r = some (.int (nI (wdt S))) ∧ Frm [212, 213, 214, 215] w w')) 3 (219 + ex) us 32 [some (.ref 204), some (.int (nI (uN S nx c))), some (.int (nI c))] [] (fzM z ex us) := by
    intro zd32
    induction zd32 with
    | zero => intro c nx pv ZL ZR z zm32 zh_c zh_n zh_p zh_C zh_F; exfalso; omega
    | succ zd32 zih32 =>
      intro c nx pv ZL ZR z zm32 zh_c zh_n zh_p zh_C zh_F
      have zq_u : uN S nx c ≤ c := uN_le c
      refine a_iload_n C dX7_fewestChains_32 rfl rfl ?_
      refine a_bipush (v := nI 81) C dX7_fewestChains_33 (by decide) ?_
      first | refine n_icmp_ge (tgt := 70) C dX7_fewestChains_35 (by decide) (by first | decide | omega) (by first | decide | omega) (fun h_35 => ?_) (fun h_35 => ?_) | refine a_icmp_ge (tgt := 70) C dX7_fewestChains_35 (by decide) (fun h_35 => ?_) (fun h_35 => ?_)
      · obtain rfl : c = 81 := by omega
        refine a_iload_n C dX7_fewestChains_70 rfl rfl ?_
        refine f_iret C hr ?_ dX7_fewestChains_71 ?_
        · rfl
        · exact ⟨by rw [Fc_uw hS zh_C], zh_F⟩
      · refine a_iload_n C dX7_fewestChains_38 rfl rfl ?_
        refine a_aload_n C dX7_fewestChains_39 rfl rfl ?_
        refine a_getfF C fX7_28 dX7_fewestChains_40 (show _ < 219 from (by first | decide | omega)) (by first | decide | omega) rfl rfl ?_
        refine a_iload_n C dX7_fewestChains_43 rfl rfl ?_
        refine n_iald C dX7_fewestChains_44 (show _ < 219 from (by first | decide | omega)) (by first | decide | omega) rfl rfl (by first | decide | omega) (by decide) (show _ = bI (S c) from by rw [zh_F.at 211 (by decide)]; exact hf c (by omega)) ?_
        refine a_iconst (v := nI 1) C dX7_fewestChains_45 (by decide) ?_
        refine b_icmp1_ne (tgt := 61) C dX7_fewestChains_46 (by decide) (fun h_46 => ?_) (fun h_46 => ?_)
        · obtain ⟨nx9, pv9, ZL9, ZR9, zy_n, zy_p, zy_C, zy_u, zy_F⟩ : ∃ nx9 pv9 ZL9 ZR9, RO ((z).1 212) nx9 ∧ RO ((z).1 213) pv9 ∧ Fc S (c + 1) nx9 pv9 ZL9 ZR9 ∧ uN S nx9 (c + 1) = uN S nx c ∧ Frm [212, 213, 214, 215] w (z) := ⟨nx, pv, ZL, ZR, zh_n, zh_p, zh_C.skip h_46, by rw [uN_s, h_46]; rfl, zh_F⟩
          refine a_iconst (v := nI 0) C dX7_fewestChains_61 (by decide) ?_
          first | refine n_iadd C dX7_fewestChains_62 ?_ | refine a_iadd C dX7_fewestChains_62 ?_
          refine a_istore_n C dX7_fewestChains_63 rfl (by decide) ?_
          refine n_iinc C dX7_fewestChains_64 rfl (by decide) ?_
          refine a_goto (tgt := 32) C dX7_fewestChains_67 (by decide) ?_
          refine a_join (aLe_s ?_ (aLe_s ?_ (aLe_s ?_ aLe_nil))) rfl rfl (zih32 (c + 1) nx9 pv9 ZL9 ZR9 _ (by omega) (by omega) zy_n zy_p zy_C zy_F)
          · first | with_reducible rfl | exact gl (by first | with_reducible rfl | (refine iF ?_; simp [h_35, h_46]; done) | (refine iT ?_; simp [h_35, h_46]; done) | (refine iB ?_; simp [h_35, h_46]; done) | (simp [h_35, h_46]; done) | (simp [h_35, h_46]; omega) | omega)
          · exact gl (congrArg nI (by omega))
          · first | with_reducible rfl | exact gl (by first | with_reducible rfl | (refine iF ?_; simp [h_35, h_46]; done) | (refine iT ?_; simp [h_35, h_46]; done) | (refine iB ?_; simp [h_35, h_46]; done) | (simp [h_35, h_46]; done) | (simp [h_35, h_46]; omega) | omega)
        · refine a_aload_n C dX7_fewestChains_49 rfl rfl ?_
          refine a_iload_n C dX7_fewestChains_50 rfl rfl ?_
          refine f_callV C _ _ (K_X7_matches (w := z) (s := c) (nx := nx) (pv := pv) hS zh_C.1 (fun d hd => by rw [zh_F.at 211 (by decide)]; exact hf d hd) zh_n zh_p zh_C.2.1 h_46 (zh_C.2.2.2 c (Nat.le_refl _))) vX7_250 (by first | decide | omega) rfl rfl dX7_fewestChains_51 rfl (Nat.le_of_ble_eq_true rfl) ⟨by decide, by decide⟩ (fun zr51 zw51 zp51 => ?_)
          obtain ⟨b9, rfl, nx8, pv8, zr_n, zr_p, zr_S, zr_b, zr_G⟩ := zp51
          obtain ⟨ZL8, ZR8, zr_C⟩ := zh_C.sea zr_S
          first | refine b_if_ne (tgt := 61) C dX7_fewestChains_54 (by decide) (fun h_54 => ?_) (fun h_54 => ?_) | refine n_if_ne (tgt := 61) C dX7_fewestChains_54 (by decide) (by first | decide | omega) (fun h_54 => ?_) (fun h_54 => ?_) | refine a_if_ne (tgt := 61) C dX7_fewestChains_54 (by decide) (fun h_54 => ?_) (fun h_54 => ?_)
          · obtain ⟨nx9, pv9, ZL9, ZR9, zy_n, zy_p, zy_C, zy_u, zy_F⟩ : ∃ nx9 pv9 ZL9 ZR9, RO ((zw51).1 212) nx9 ∧ RO ((zw51).1 213) pv9 ∧ Fc S (c + 1) nx9 pv9 ZL9 ZR9 ∧ uN S nx9 (c + 1) = uN S nx c ∧ Frm [212, 213, 214, 215] w (zw51) := ⟨nx8, pv8, ZL8, ZR8, zr_n, zr_p, zr_C, by rw [uN_s, uN_cg zr_S.2.2, iso_n (y := some 0) (zr_b.trans h_54)]; simp, zh_F.tr zr_G⟩
            refine a_iconst (v := nI 0) C dX7_fewestChains_61 (by decide) ?_
            first | refine n_iadd C dX7_fewestChains_62 ?_ | refine a_iadd C dX7_fewestChains_62 ?_
            refine a_istore_n C dX7_fewestChains_63 rfl (by decide) ?_
            refine n_iinc C dX7_fewestChains_64 rfl (by decide) ?_
            refine a_goto (tgt := 32) C dX7_fewestChains_67 (by decide) ?_
            refine a_join (aLe_s ?_ (aLe_s ?_ (aLe_s ?_ aLe_nil))) rfl rfl (zih32 (c + 1) nx9 pv9 ZL9 ZR9 _ (by omega) (by omega) zy_n zy_p zy_C zy_F)
            · first | with_reducible rfl | exact gl (by first | with_reducible rfl | (refine iF ?_; simp [h_35, h_46, h_54]; done) | (refine iT ?_; simp [h_35, h_46, h_54]; done) | (refine iB ?_; simp [h_35, h_46, h_54]; done) | (simp [h_35, h_46, h_54]; done) | (simp [h_35, h_46, h_54]; omega) | omega)
            · exact gl (congrArg nI (by omega))
            · first | with_reducible rfl | exact gl (by first | with_reducible rfl | (refine iF ?_; simp [h_35, h_46, h_54]; done) | (refine iT ?_; simp [h_35, h_46, h_54]; done) | (refine iB ?_; simp [h_35, h_46, h_54]; done) | (simp [h_35, h_46, h_54]; done) | (simp [h_35, h_46, h_54]; omega) | omega)
          · obtain ⟨nx9, pv9, ZL9, ZR9, zy_n, zy_p, zy_C, zy_u, zy_F⟩ : ∃ nx9 pv9 ZL9 ZR9, RO ((zw51).1 212) nx9 ∧ RO ((zw51).1 213) pv9 ∧ Fc S (c + 1) nx9 pv9 ZL9 ZR9 ∧ uN S nx9 (c + 1) = uN S nx c + 1 ∧ Frm [212, 213, 214, 215] w (zw51) := ⟨nx8, pv8, ZL8, ZR8, zr_n, zr_p, zr_C, by rw [uN_s, uN_cg zr_S.2.2, iso_n (y := none) (zr_b.trans h_54), h_46]; rfl, zh_F.tr zr_G⟩
            refine a_iconst (v := nI 1) C dX7_fewestChains_57 (by decide) ?_
            refine a_goto (tgt := 62) C dX7_fewestChains_58 (by decide) ?_
            first | refine n_iadd C dX7_fewestChains_62 ?_ | refine a_iadd C dX7_fewestChains_62 ?_
            refine a_istore_n C dX7_fewestChains_63 rfl (by decide) ?_
            refine n_iinc C dX7_fewestChains_64 rfl (by decide) ?_
            refine a_goto (tgt := 32) C dX7_fewestChains_67 (by decide) ?_
            refine a_join (aLe_s ?_ (aLe_s ?_ (aLe_s ?_ aLe_nil))) rfl rfl (zih32 (c + 1) nx9 pv9 ZL9 ZR9 _ (by omega) (by omega) zy_n zy_p zy_C zy_F)
            · first | with_reducible rfl | exact gl (by first | with_reducible rfl | (refine iF ?_; simp [h_35, h_46, h_54]; done) | (refine iT ?_; simp [h_35, h_46, h_54]; done) | (refine iB ?_; simp [h_35, h_46, h_54]; done) | (simp [h_35, h_46, h_54]; done) | (simp [h_35, h_46, h_54]; omega) | omega)
            · exact gl (congrArg nI (by omega))
            · first | with_reducible rfl | exact gl (by first | with_reducible rfl | (refine iF ?_; simp [h_35, h_46, h_54]; done) | (refine iT ?_; simp [h_35, h_46, h_54]; done) | (refine iB ?_; simp [h_35, h_46, h_54]; done) | (simp [h_35, h_46, h_54]; done) | (simp [h_35, h_46, h_54]; omega) | omega)
  have ZL4 : ∀ (zd4 : Nat) (k : Nat), 81 + 1 ≤ k + zd4 → k ≤ 81 → WA G9 p9 l9 e9 (RM 2 51) s9 m9 ar9 be9 me9 co9 (QF G9 be9 ar9 s9 w ex us (fun r w' => r = some (.int (nI (wdt S))) ∧ Frm [212, 213, 214, 215] w w')) 3 (219 + ex) us 4 [some (.ref 204), some (.int (nI 0)), some (.int (nI k))] [] (fzM (wRow (wRow w 212 (fil (w.1 212) (-1) k)) 213 (fil (w.1 213) (-1) k)) ex us) := by
    intro zd4
    induction zd4 with
    | zero => intro k zm4 zh4_0; exfalso; omega
    | succ zd4 zih4 =>
      intro k zm4 zh4_0
      refine a_iload_n C dX7_fewestChains_4 rfl rfl ?_
      refine a_bipush (v := nI 81) C dX7_fewestChains_5 (by decide) ?_
      first | refine n_icmp_ge (tgt := 30) C dX7_fewestChains_7 (by decide) (by first | decide | omega) (by first | decide | omega) (fun h_7 => ?_) (fun h_7 => ?_) | refine a_icmp_ge (tgt := 30) C dX7_fewestChains_7 (by decide) (fun h_7 => ?_) (fun h_7 => ?_)
      · obtain rfl : k = 81 := by omega
        refine a_iconst (v := nI 0) C dX7_fewestChains_30 (by decide) ?_
        refine a_istore_n C dX7_fewestChains_31 rfl (by decide) ?_
        refine a_join (aLe_s ?_ (aLe_s ?_ (aLe_s ?_ aLe_nil))) rfl rfl (ZL32 (81 + 1) 0 (fun _ => none) (fun _ => none) (fun _ => false) (fun _ => false) _ (by omega) (by omega) (by rw [wRow_ne (by decide), wRow_at]; exact RO.fil) (by rw [wRow_at]; exact RO.fil) Fc.init ((Frm.rf.row (by decide)).row (by decide)))
        · first | with_reducible rfl | exact gl (by first | with_reducible rfl | (refine iF ?_; simp [h_7]; done) | (refine iT ?_; simp [h_7]; done) | (refine iB ?_; simp [h_7]; done) | (simp [h_7]; done) | (simp [h_7]; omega) | omega | rfl)
        · first | with_reducible rfl | exact gl (by first | with_reducible rfl | (refine iF ?_; simp [h_7]; done) | (refine iT ?_; simp [h_7]; done) | (refine iB ?_; simp [h_7]; done) | (simp [h_7]; done) | (simp [h_7]; omega) | omega | rfl)
        · first | with_reducible rfl | exact gl (by first | with_reducible rfl | (refine iF ?_; simp [h_7]; done) | (refine iT ?_; simp [h_7]; done) | (refine iB ?_; simp [h_7]; done) | (simp [h_7]; done) | (simp [h_7]; omega) | omega | rfl)
      · refine a_aload_n C dX7_fewestChains_10 rfl rfl ?_
        refine a_getfF C fX7_31 dX7_fewestChains_11 (show _ < 219 from (by first | decide | omega)) (by first | decide | omega) rfl rfl ?_
        refine a_iload_n C dX7_fewestChains_14 rfl rfl ?_
        refine a_iconst (v := (-1)) C dX7_fewestChains_15 (by decide) ?_
        refine f_iast C dX7_fewestChains_16 (by first | decide | omega) rfl rfl (by first | decide | omega) (by decide)  rfl ?_
        refine a_wd (show _ = wRow (wRow w 212 (fil (w.1 212) (-1) (k + 1))) 213 (fil (w.1 213) (-1) k) from by rw [wSet_is, wRow_ne (by decide), wRow_at, fil_s, ← wRow_comm (by decide), wRow_row]) ?_
        refine a_aload_n C dX7_fewestChains_17 rfl rfl ?_
        refine a_getfF C fX7_34 dX7_fewestChains_18 (show _ < 219 from (by first | decide | omega)) (by first | decide | omega) rfl rfl ?_
        refine a_iload_n C dX7_fewestChains_21 rfl rfl ?_
        refine a_iconst (v := (-1)) C dX7_fewestChains_22 (by decide) ?_
        refine f_iast C dX7_fewestChains_23 (by first | decide | omega) rfl rfl (by first | decide | omega) (by decide)  rfl ?_
        refine a_wd (show _ = wRow (wRow w 212 (fil (w.1 212) (-1) (k + 1))) 213 (fil (w.1 213) (-1) (k + 1)) from wSet_row.trans (by rw [fil_s])) ?_
        refine n_iinc C dX7_fewestChains_24 rfl (by decide) ?_
        refine a_goto (tgt := 4) C dX7_fewestChains_27 (by decide) ?_
        refine a_join (aLe_s ?_ (aLe_s ?_ (aLe_s ?_ aLe_nil))) rfl rfl (zih4 (k + 1) (by omega) (by omega))
        · first | with_reducible rfl | exact gl (by first | with_reducible rfl | (refine iF ?_; simp [h_7]; done) | (refine iT ?_; simp [h_7]; done) | (refine iB ?_; simp [h_7]; done) | (simp [h_7]; done) | (simp [h_7]; omega) | omega)
        · first | with_reducible rfl | exact gl (by first | with_reducible rfl | (refine iF ?_; simp [h_7]; done) | (refine iT ?_; simp [h_7]; done) | (refine iB ?_; simp [h_7]; done) | (simp [h_7]; done) | (simp [h_7]; omega) | omega)
        · first | with_reducible rfl | exact gl (by first | with_reducible rfl | (refine iF ?_; simp [h_7]; done) | (refine iT ?_; simp [h_7]; done) | (refine iB ?_; simp [h_7]; done) | (simp [h_7]; done) | (simp [h_7]; omega) | omega)
  refine a_pad 2 ?_
  refine a_eq (L' := [some (.ref 204), none, none]) rfl rfl rfl ?_
  refine a_iconst (v := nI 0) C dX7_fewestChains_0 (by decide) ?_
  refine a_istore_n C dX7_fewestChains_1 rfl (by decide) ?_
  refine a_wd (show w = wRow (wRow w 212 (fil (w.1 212) (-1) 0)) 213 (fil (w.1 213) (-1) 0) from by rw [fil_0, fil_0, ← wRow_self (w := w) (a := 212) rfl]; exact wRow_self rfl) ?_
  refine a_iconst (v := nI 0) C dX7_fewestChains_2 (by decide) ?_
  refine a_istore_n C dX7_fewestChains_3 rfl (by decide) ?_
  refine a_join (aLe_s ?_ (aLe_s ?_ (aLe_s ?_ aLe_nil))) rfl rfl (ZL4 (81 + 1) 0 (by omega) (by omega))
  · first | with_reducible rfl | exact gl (by first | with_reducible rfl | (refine iF ?_; simp []; done) | (refine iT ?_; simp []; done) | (refine iB ?_; simp []; done) | (simp []; done) | (simp []; omega) | omega | rfl)
  · first | with_reducible rfl | exact gl (by first | with_reducible rfl | (refine iF ?_; simp []; done) | (refine iT ?_; simp []; done) | (refine iB ?_; simp []; done) | (simp []; done) | (simp []; omega) | omega | rfl)
  · first | with_reducible rfl | exact gl (by first | with_reducible rfl | (refine iF ?_; simp []; done) | (refine iT ?_; simp []; done) | (refine iB ?_; simp []; done) | (simp []; done) | (simp []; omega) | omega | rfl)

set_option maxRecDepth 20000 in
set_option maxHeartbeats 4000000 in
theorem K_X7_layFree {w : Wd} {A : St} (hR : RR w A) (hA : AOK A)  : CF yX7_layFree cX7_layFree 2 none 5 112 [.ref 204] w (fun r w' => r = none ∧ (∀ c, c < 81 → w'.1 216 c = bI (fS A c)) ∧ Frm [216] w w') := by
  refine CF.of ok_X7_layFree (Nat.le_of_ble_eq_true rfl) (fun ex us G9 p9 l9 e9 s9 m9 ar9 be9 me9 co9 C hr => ?_)
  have ZL2 : ∀ (zd2 : Nat) (c : Nat) (z : Wd), 81 + 1 ≤ c + zd2 → c ≤ 81 → (∀ e, e < c → z.1 216 e = bI (fS A e)) → Frm [216] w z → WA G9 p9 l9 e9 (RM 5 112) s9 m9 ar9 be9 me9 co9 (QF G9 be9 ar9 s9 w ex us (fun r w' => r = none ∧ (∀ c, c < 81 → w'.1 216 c = bI (fS A c)) ∧ Frm [216] w w')) 2 (219 + ex) us 2 [some (.ref 204), some (.int (nI c))] [] (fzM z ex us) := by
    intro zd2
    induction zd2 with
    | zero => intro c z zm2 zh_c zh_l zh_F; exfalso; omega
    | succ zd2 zih2 =>
      intro c z zm2 zh_c zh_l zh_F
      have zq_R : RR z A := (zh_F.at 205 (by decide)).trans hR
      refine a_iload_n C dX7_layFree_2 rfl rfl ?_
      refine a_bipush (v := nI 81) C dX7_layFree_3 (by decide) ?_
      first | refine n_icmp_ge (tgt := 33) C dX7_layFree_5 (by decide) (by first | decide | omega) (by first | decide | omega) (fun h_5 => ?_) (fun h_5 => ?_) | refine a_icmp_ge (tgt := 33) C dX7_layFree_5 (by decide) (fun h_5 => ?_) (fun h_5 => ?_)
      · obtain rfl : c = 81 := by omega
        refine f_vret C hr dX7_layFree_33 ?_
        exact ⟨rfl, zh_l, zh_F⟩
      · refine a_aload_n C dX7_layFree_8 rfl rfl ?_
        refine a_getfF C fX7_43 dX7_layFree_9 (show _ < 219 from (by first | decide | omega)) (by first | decide | omega) rfl rfl ?_
        refine a_iload_n C dX7_layFree_12 rfl rfl ?_
        refine a_via 26 (bI (fS A c)) ?_ (fun zJ26 => ?_)
        · refine f_iast C dX7_layFree_26 (by first | decide | omega) rfl rfl (by first | decide | omega) (by decide)  rfl ?_
          refine n_iinc C dX7_layFree_27 rfl (by decide) ?_
          refine a_goto (tgt := 2) C dX7_layFree_30 (by decide) ?_
          refine a_join (aLe_s ?_ (aLe_s ?_ aLe_nil)) rfl rfl (zih2 (c + 1) _ (by omega) (by omega) (fun e he => by
            rw [wSet_row1]
            by_cases e9 : e = c
            · subst e9; exact upd_at
            · rw [upd_ne e9]; exact zh_l e (by omega)) (zh_F.set (by decide)))
          · first | with_reducible rfl | exact gl (by first | with_reducible rfl | (refine iF ?_; simp [h_5]; done) | (refine iT ?_; simp [h_5]; done) | (refine iB ?_; simp [h_5]; done) | (simp [h_5]; done) | (simp [h_5]; omega) | omega)
          · first | with_reducible rfl | exact gl (by first | with_reducible rfl | (refine iF ?_; simp [h_5]; done) | (refine iT ?_; simp [h_5]; done) | (refine iB ?_; simp [h_5]; done) | (simp [h_5]; done) | (simp [h_5]; omega) | omega)
        · refine a_aload_n C dX7_layFree_13 rfl rfl ?_
          refine a_iload_n C dX7_layFree_14 rfl rfl ?_
          refine p_callV C (K_X7_isFreeCode zq_R hA (by omega)) vX7_218 rfl (by first | decide | omega) rfl rfl dX7_layFree_15 (Nat.le_of_ble_eq_true rfl) ⟨by decide, by decide⟩ ?_
          first | refine b_if_eq (tgt := 25) C dX7_layFree_18 (by decide) (fun h_18 => ?_) (fun h_18 => ?_) | refine n_if_eq (tgt := 25) C dX7_layFree_18 (by decide) (by first | decide | omega) (fun h_18 => ?_) (fun h_18 => ?_) | refine a_if_eq (tgt := 25) C dX7_layFree_18 (by decide) (fun h_18 => ?_) (fun h_18 => ?_)
          · refine a_iconst (v := nI 0) C dX7_layFree_25 (by decide) ?_
            refine a_eq rfl (gl1 ?_) rfl zJ26
            · first | exact iT (by rw [fS_at (by omega)]; exact h_18) | exact iF (by rw [fS_at (by omega)]; exact h_18)
          · refine a_iconst (v := nI 1) C dX7_layFree_21 (by decide) ?_
            refine a_goto (tgt := 26) C dX7_layFree_22 (by decide) ?_
            refine a_eq rfl (gl1 ?_) rfl zJ26
            · first | exact iT (by rw [fS_at (by omega)]; exact h_18) | exact iF (by rw [fS_at (by omega)]; exact h_18)
  refine a_pad 1 ?_
  refine a_eq (L' := [some (.ref 204), none]) rfl rfl rfl ?_
  refine a_iconst (v := nI 0) C dX7_layFree_0 (by decide) ?_
  refine a_istore_n C dX7_layFree_1 rfl (by decide) ?_
  refine a_join (aLe_s ?_ (aLe_s ?_ aLe_nil)) rfl rfl (ZL2 (81 + 1) 0 w (by omega) (by omega) (fun e he => absurd he (Nat.not_lt_zero e)) Frm.rf)
  · first | with_reducible rfl | exact gl (by first | with_reducible rfl | (refine iF ?_; simp []; done) | (refine iT ?_; simp []; done) | (refine iB ?_; simp []; done) | (simp []; done) | (simp []; omega) | omega | rfl)
  · first | with_reducible rfl | exact gl (by first | with_reducible rfl | (refine iF ?_; simp []; done) | (refine iT ?_; simp []; done) | (refine iB ?_; simp []; done) | (simp []; done) | (simp []; omega) | omega | rfl)

set_option maxRecDepth 20000 in
set_option maxHeartbeats 4000000 in
theorem K_X7_mostByChains {w : Wd} {A : St} (hR : RR w A) (hA : AOK A)  : CF yX7_mostByChains cX7_mostByChains 2 (some .int) 6 133 [.ref 204] w (fun r w' => r = some (.int (nI (wdt (fS A)))) ∧ (∀ c, c < 81 → w'.1 216 c = bI (fS A c)) ∧ Frm [211, 212, 213, 214, 215, 216] w w') := by
  refine CF.of ok_X7_mostByChains (Nat.le_of_ble_eq_true rfl) (fun ex us G9 p9 l9 e9 s9 m9 ar9 be9 me9 co9 C hr => ?_)
  have ZL6 : ∀ (zd6 : Nat) (c : Nat) (u z : Wd), 81 + 1 ≤ c + zd6 → c ≤ 81 → (∀ e, e < 81 → u.1 216 e = bI (fS A e)) → Frm [216] w u → (∀ e, e < c → z.1 211 e = bI (fS A e)) → Frm [211] u z → WA G9 p9 l9 e9 (RM 6 133) s9 m9 ar9 be9 me9 co9 (QF G9 be9 ar9 s9 w ex us (fun r w' => r = some (.int (nI (wdt (fS A)))) ∧ (∀ c, c < 81 → w'.1 216 c = bI (fS A c)) ∧ Frm [211, 212, 213, 214, 215, 216] w w')) 2 (219 + ex) us 6 [some (.ref 204), some (.int (nI c))] [] (fzM z ex us) := by
    intro zd6
    induction zd6 with
    | zero => intro c u z zm6 zh_c zh_f zh_F zh_l zh_G; exfalso; omega
    | succ zd6 zih6 =>
      intro c u z zm6 zh_c zh_f zh_F zh_l zh_G
      refine a_iload_n C dX7_mostByChains_6 rfl rfl ?_
      refine a_bipush (v := nI 81) C dX7_mostByChains_7 (by decide) ?_
      first | refine n_icmp_ge (tgt := 30) C dX7_mostByChains_9 (by decide) (by first | decide | omega) (by first | decide | omega) (fun h_9 => ?_) (fun h_9 => ?_) | refine a_icmp_ge (tgt := 30) C dX7_mostByChains_9 (by decide) (fun h_9 => ?_) (fun h_9 => ?_)
      · obtain rfl : c = 81 := by omega
        refine a_aload_n C dX7_mostByChains_30 rfl rfl ?_
        refine f_callV C _ _ (K_X7_fewestChains (w := z) (S := fS A) (fS_su A) zh_l) vX7_256 (by first | decide | omega) rfl rfl dX7_mostByChains_31 rfl (Nat.le_of_ble_eq_true rfl) ⟨by decide, by decide⟩ (fun zr31 zw31 zp31 => ?_)
        obtain ⟨rfl, zy_F⟩ := zp31
        refine f_iret C hr ?_ dX7_mostByChains_34 ?_
        · rfl
        · exact ⟨rfl, fun d hd => by rw [zy_F.at 216 (by decide), zh_G.at 216 (by decide)]; exact zh_f d hd, ((zh_F.up (by decide)).tr (zh_G.up (by decide))).tr (zy_F.up (by decide))⟩
      · refine a_aload_n C dX7_mostByChains_12 rfl rfl ?_
        refine a_getfF C fX7_28 dX7_mostByChains_13 (show _ < 219 from (by first | decide | omega)) (by first | decide | omega) rfl rfl ?_
        refine a_iload_n C dX7_mostByChains_16 rfl rfl ?_
        refine a_aload_n C dX7_mostByChains_17 rfl rfl ?_
        refine a_getfF C fX7_43 dX7_mostByChains_18 (show _ < 219 from (by first | decide | omega)) (by first | decide | omega) rfl rfl ?_
        refine a_iload_n C dX7_mostByChains_21 rfl rfl ?_
        refine n_iald C dX7_mostByChains_22 (show _ < 219 from (by first | decide | omega)) (by first | decide | omega) rfl rfl (by first | decide | omega) (by decide) (show _ = bI (fS A c) from by rw [zh_G.at 216 (by decide)]; exact zh_f c (by omega)) ?_
        refine f_iast C dX7_mostByChains_23 (by first | decide | omega) rfl rfl (by first | decide | omega) (by decide)  rfl ?_
        refine n_iinc C dX7_mostByChains_24 rfl (by decide) ?_
        refine a_goto (tgt := 6) C dX7_mostByChains_27 (by decide) ?_
        refine a_join (aLe_s ?_ (aLe_s ?_ aLe_nil)) rfl rfl (zih6 (c + 1) u _ (by omega) (by omega) zh_f zh_F (fun e he => by
          rw [wSet_row1]
          by_cases e9 : e = c
          · subst e9; exact upd_at
          · rw [upd_ne e9]; exact zh_l e (by omega)) (zh_G.set (by decide)))
        · first | with_reducible rfl | exact gl (by first | with_reducible rfl | (refine iF ?_; simp [h_9]; done) | (refine iT ?_; simp [h_9]; done) | (refine iB ?_; simp [h_9]; done) | (simp [h_9]; done) | (simp [h_9]; omega) | omega)
        · first | with_reducible rfl | exact gl (by first | with_reducible rfl | (refine iF ?_; simp [h_9]; done) | (refine iT ?_; simp [h_9]; done) | (refine iB ?_; simp [h_9]; done) | (simp [h_9]; done) | (simp [h_9]; omega) | omega)
  refine a_pad 1 ?_
  refine a_eq (L' := [some (.ref 204), none]) rfl rfl rfl ?_
  refine a_aload_n C dX7_mostByChains_0 rfl rfl ?_
  refine f_callV C _ _ (K_X7_layFree hR hA) vX7_253 (by first | decide | omega) rfl rfl dX7_mostByChains_1 rfl (Nat.le_of_ble_eq_true rfl) ⟨by decide, by decide⟩ (fun zr1 zw1 zp1 => ?_)
  obtain ⟨rfl, zq_f, zq_F⟩ := zp1
  refine a_iconst (v := nI 0) C dX7_mostByChains_4 (by decide) ?_
  refine a_istore_n C dX7_mostByChains_5 rfl (by decide) ?_
  refine a_join (aLe_s ?_ (aLe_s ?_ aLe_nil)) rfl rfl (ZL6 (81 + 1) 0 zw1 zw1 (by omega) (by omega) zq_f zq_F (fun e he => absurd he (Nat.not_lt_zero e)) Frm.rf)
  · first | with_reducible rfl | exact gl (by first | with_reducible rfl | (refine iF ?_; simp []; done) | (refine iT ?_; simp []; done) | (refine iB ?_; simp []; done) | (simp []; done) | (simp []; omega) | omega | rfl)
  · first | with_reducible rfl | exact gl (by first | with_reducible rfl | (refine iF ?_; simp []; done) | (refine iT ?_; simp []; done) | (refine iB ?_; simp []; done) | (simp []; done) | (simp []; omega) | omega | rfl)

theorem allN_iff {P : Nat → Bool} : ∀ n, allN P n = true ↔ ∀ k, k < n → P k = true
  | 0 => ⟨fun _ k h => absurd h (Nat.not_lt_zero k), fun _ => rfl⟩
  | n + 1 => by
    show (allN P n && P n) = true ↔ _
    rw [Bool.and_eq_true, allN_iff n]
    refine ⟨fun h k hk => ?_, fun h => ⟨fun k hk => h k (by omega), h n (by omega)⟩⟩
    by_cases e : k = n
    · subst e; exact h.2
    · exact h.1 k (by omega)
def apP (l : List Nat) (c k : Nat) : Bool := !crs (l.getD k 0) c
theorem aprt_all {l : List Nat} {c : Nat} : allN (apP l c) l.length = aprt l c := by
  rw [Bool.eq_iff_iff, allN_iff]
  refine ⟨fun h => List.all_eq_true.mpr fun x hx => ?_, fun h k hk => ?_⟩
  · obtain ⟨k, hk, e⟩ := List.mem_iff_getElem.mp hx
    have z := h k hk
    unfold apP at z
    rw [List.getD_eq_getElem?_getD, List.getElem?_eq_getElem hk] at z
    rw [← e]
    exact z
  · unfold apP
    rw [aprt_at h hk]
    rfl
theorem allN_s {P : Nat → Bool} {n : Nat} : allN P (n + 1) = (allN P n && P n) := rfl
set_option maxRecDepth 20000 in
set_option maxHeartbeats 4000000 in
theorem K_X7_isApart {w : Wd} {l : List Nat} {c : Nat} (h21 : w.1 204 21 = nI l.length) (hch : RN (w.1 217) (fun j => l.getD j 0) l.length) (hl : ∀ j, j < l.length → l.getD j 0 < 81) (hll : l.length ≤ 81) (hc : c < 81) : CP yX7_isApart cX7_isApart 4 (some .boolean) 4 85 [.ref 204, .int (nI c)] w (.int (bI (aprt l c))) := by
  refine CF.of ok_X7_isApart (Nat.le_of_ble_eq_true rfl) (fun ex us G9 p9 l9 e9 s9 m9 ar9 be9 me9 co9 C hr => ?_)
  have ZL4 : ∀ (zd4 : Nat) (k : Nat), l.length + 1 ≤ k + zd4 → k ≤ l.length → WA G9 p9 l9 e9 (RM 4 85) s9 m9 ar9 be9 me9 co9 (QP G9 be9 ar9 s9 w ex us (.int (bI (aprt l c)))) 4 (219 + ex) us 4 [some (.ref 204), some (.int (nI c)), some (.int (bI (allN (apP l c) k))), some (.int (nI k))] [] (fzM w ex us) := by
    intro zd4
    induction zd4 with
    | zero => intro k zm4 zh4_0; exfalso; omega
    | succ zd4 zih4 =>
      intro k zm4 zh4_0
      refine a_iload_n C dX7_isApart_4 rfl rfl ?_
      refine a_aload_n C dX7_isApart_5 rfl rfl ?_
      refine a_getf C fX7_259 dX7_isApart_6 (show _ < 219 from (by first | decide | omega)) (by first | decide | omega) rfl (gl h21) ?_
      first | refine n_icmp_ge (tgt := 41) C dX7_isApart_9 (by decide) (by first | decide | omega) (by first | decide | omega) (fun h_9 => ?_) (fun h_9 => ?_) | refine a_icmp_ge (tgt := 41) C dX7_isApart_9 (by decide) (fun h_9 => ?_) (fun h_9 => ?_)
      · refine a_iload_n C dX7_isApart_41 rfl rfl ?_
        refine f_iret C hr ?_ dX7_isApart_42 ⟨?_, rfl⟩
        · exact bI_narrow _
        · obtain rfl : k = l.length := by omega
          exact gl (by rw [aprt_all])
      · refine a_via 34 (bI (allN (apP l c) (k + 1))) ?_ (fun zJ34 => ?_)
        · refine a_istore_n C dX7_isApart_34 rfl (by decide) ?_
          refine n_iinc C dX7_isApart_35 rfl (by decide) ?_
          refine a_goto (tgt := 4) C dX7_isApart_38 (by decide) ?_
          refine a_join (aLe_s ?_ (aLe_s ?_ (aLe_s ?_ (aLe_s ?_ aLe_nil)))) rfl rfl (zih4 (k + 1) (by omega) (by omega))
          · first | with_reducible rfl | exact gl (by first | with_reducible rfl | (refine iF ?_; simp [h_9]; done) | (refine iT ?_; simp [h_9]; done) | (refine iB ?_; simp [h_9]; done) | (simp [h_9]; done) | (simp [h_9]; omega) | omega)
          · first | with_reducible rfl | exact gl (by first | with_reducible rfl | (refine iF ?_; simp [h_9]; done) | (refine iT ?_; simp [h_9]; done) | (refine iB ?_; simp [h_9]; done) | (simp [h_9]; done) | (simp [h_9]; omega) | omega)
          · first | with_reducible rfl | exact gl (by first | with_reducible rfl | (refine iF ?_; simp [h_9]; done) | (refine iT ?_; simp [h_9]; done) | (refine iB ?_; simp [h_9]; done) | (simp [h_9]; done) | (simp [h_9]; omega) | omega)
          · first | with_reducible rfl | exact gl (by first | with_reducible rfl | (refine iF ?_; simp [h_9]; done) | (refine iT ?_; simp [h_9]; done) | (refine iB ?_; simp [h_9]; done) | (simp [h_9]; done) | (simp [h_9]; omega) | omega)
        · refine a_iload_n C dX7_isApart_12 rfl rfl ?_
          first | refine b_if_eq (tgt := 33) C dX7_isApart_13 (by decide) (fun h_13 => ?_) (fun h_13 => ?_) | refine n_if_eq (tgt := 33) C dX7_isApart_13 (by decide) (by first | decide | omega) (fun h_13 => ?_) (fun h_13 => ?_) | refine a_if_eq (tgt := 33) C dX7_isApart_13 (by decide) (fun h_13 => ?_) (fun h_13 => ?_)
          · refine a_iconst (v := nI 0) C dX7_isApart_33 (by decide) ?_
            refine a_eq rfl (gl1 ?_) rfl zJ34
            · first | exact iT (by rw [allN_s, h_13]; unfold apP; rw [h_26]; rfl) | exact iF (by rw [allN_s, h_13]; rfl) | exact iF (by rw [allN_s, h_13]; unfold apP; rw [h_26]; rfl)
          · refine a_aload_n C dX7_isApart_16 rfl rfl ?_
            refine a_getfF C fX7_46 dX7_isApart_17 (show _ < 219 from (by first | decide | omega)) (by first | decide | omega) rfl rfl ?_
            refine a_iload_n C dX7_isApart_20 rfl rfl ?_
            refine n_iald C dX7_isApart_21 (show _ < 219 from (by first | decide | omega)) (by first | decide | omega) rfl rfl (by first | decide | omega) (by decide) (hch k h_9) ?_
            refine a_iload_n C dX7_isApart_22 rfl rfl ?_
            refine p_callS C ((KC_isCrossed (hl k h_9) hc)).cp sX7_227 rfl dX7_isApart_23 (Nat.le_of_ble_eq_true rfl) ⟨by decide, by decide⟩ ?_
            first | refine b_if_ne (tgt := 33) C dX7_isApart_26 (by decide) (fun h_26 => ?_) (fun h_26 => ?_) | refine n_if_ne (tgt := 33) C dX7_isApart_26 (by decide) (by first | decide | omega) (fun h_26 => ?_) (fun h_26 => ?_) | refine a_if_ne (tgt := 33) C dX7_isApart_26 (by decide) (fun h_26 => ?_) (fun h_26 => ?_)
            · refine a_iconst (v := nI 0) C dX7_isApart_33 (by decide) ?_
              refine a_eq rfl (gl1 ?_) rfl zJ34
              · first | exact iT (by rw [allN_s, h_13]; unfold apP; rw [h_26]; rfl) | exact iF (by rw [allN_s, h_13]; rfl) | exact iF (by rw [allN_s, h_13]; unfold apP; rw [h_26]; rfl)
            · refine a_iconst (v := nI 1) C dX7_isApart_29 (by decide) ?_
              refine a_goto (tgt := 34) C dX7_isApart_30 (by decide) ?_
              refine a_eq rfl (gl1 ?_) rfl zJ34
              · first | exact iT (by rw [allN_s, h_13]; unfold apP; rw [h_26]; rfl) | exact iF (by rw [allN_s, h_13]; rfl) | exact iF (by rw [allN_s, h_13]; unfold apP; rw [h_26]; rfl)
  refine a_pad 2 ?_
  refine a_eq (L' := [some (.ref 204), some (.int (nI c)), none, none]) rfl rfl rfl ?_
  refine a_iconst (v := bI true) C dX7_isApart_0 (by decide) ?_
  refine a_istore_n C dX7_isApart_1 rfl (by decide) ?_
  refine a_iconst (v := nI 0) C dX7_isApart_2 (by decide) ?_
  refine a_istore_n C dX7_isApart_3 rfl (by decide) ?_
  refine a_join (aLe_s ?_ (aLe_s ?_ (aLe_s ?_ (aLe_s ?_ aLe_nil)))) rfl rfl (ZL4 (l.length + 1) 0 (by omega) (by omega))
  · first | with_reducible rfl | exact gl (by first | with_reducible rfl | (refine iF ?_; simp []; done) | (refine iT ?_; simp []; done) | (refine iB ?_; simp []; done) | (simp []; done) | (simp []; omega) | omega | rfl)
  · first | with_reducible rfl | exact gl (by first | with_reducible rfl | (refine iF ?_; simp []; done) | (refine iT ?_; simp []; done) | (refine iB ?_; simp []; done) | (simp []; done) | (simp []; omega) | omega | rfl)
  · first | with_reducible rfl | exact gl (by first | with_reducible rfl | (refine iF ?_; simp []; done) | (refine iT ?_; simp []; done) | (refine iB ?_; simp []; done) | (simp []; done) | (simp []; omega) | omega | rfl)
  · first | with_reducible rfl | exact gl (by first | with_reducible rfl | (refine iF ?_; simp []; done) | (refine iT ?_; simp []; done) | (refine iB ?_; simp []; done) | (simp []; done) | (simp []; omega) | omega | rfl)

/-- the reference's choice -/
def Ch7 (w : Wd) (A : St) : Prop := w.1 204 21 = nI (chs (fS A) 81).length ∧ RN (w.1 217) (fun j => (chs (fS A) 81).getD j 0) (chs (fS A) 81).length
theorem RN.cut {f : Nat → Int32} {q : Nat → Nat} {n : Nat} {x : Int32} (h : RN f q n) : RN (upd f n x) q n := fun j hj => by rw [upd_ne (by omega)]; exact h j hj
theorem chs_l81 {F : Nat → Bool} (hF : Su F) (c : Nat) {j : Nat} (hj : j < (chs F c).length) : (chs F c).getD j 0 < 81 := hF _ ((chs_ap F c).1 j hj)
set_option maxRecDepth 20000 in
set_option maxHeartbeats 4000000 in
theorem K_X7_choose {w : Wd} {A : St} (hR : RR w A) (hA : AOK A)  : CF yX7_choose cX7_choose 4 none 7 154 [.ref 204] w (fun r w' => r = none ∧ Ch7 w' A ∧ (∀ j, ¬ j = 21 → w'.1 204 j = w.1 204 j) ∧ Frm [204, 211, 212, 213, 214, 215, 216, 217] w w') := by
  have zq_w := wdt81 (fS A)
  have zq_S := fS_su A
  refine CF.of ok_X7_choose (Nat.le_of_ble_eq_true rfl) (fun ex us G9 p9 l9 e9 s9 m9 ar9 be9 me9 co9 C hr => ?_)
  have ZL12 : ∀ (zd12 : Nat) (c : Nat) (l : List Nat) (z : Wd), 81 + 1 ≤ c + zd12 → c ≤ 81 → l = chs (fS A) c → z.1 204 21 = nI l.length → RN (z.1 217) (fun j => l.getD j 0) l.length → (∀ e, e < 81 → z.1 216 e = bI (fS A e)) → (∀ j, ¬ j = 21 → z.1 204 j = w.1 204 j) → Frm [204, 211, 212, 213, 214, 215, 216, 217] w z → WA G9 p9 l9 e9 (RM 7 154) s9 m9 ar9 be9 me9 co9 (QF G9 be9 ar9 s9 w ex us (fun r w' => r = none ∧ Ch7 w' A ∧ (∀ j, ¬ j = 21 → w'.1 204 j = w.1 204 j) ∧ Frm [204, 211, 212, 213, 214, 215, 216, 217] w w')) 4 (219 + ex) us 12 [some (.ref 204), some (.int (nI (wdt (fS A)))), some (.int (nI c)), none] [] (fzM z ex us) := by
    intro zd12
    induction zd12 with
    | zero => intro c l z zm12 zh_c zh_l zh_2 zh_7 zh_6 zh_o zh_F; exfalso; omega
    | succ zd12 zih12 =>
      intro c l z zm12 zh_c zh_l zh_2 zh_7 zh_6 zh_o zh_F
      have zq_l : l.length ≤ wdt (fS A) := by rw [zh_l]; exact chs_len (fS A) c
      have zq_81 : ∀ j, j < l.length → l.getD j 0 < 81 := fun j hj => by rw [zh_l] at hj ⊢; exact chs_l81 zq_S c hj
      have ZL66 : ∀ (zd66 : Nat) (d : Nat) (z2 : Wd), 81 + 1 ≤ d + zd66 → d ≤ 81 → (∀ e, e < d → z2.1 211 e = bI (remS (fS A) (l ++ [c]) e)) → Frm [211] (wSet (wSet z 217 l.length (nI c)) 204 21 (nI (l.length + 1))) z2 → l.length < wdt (fS A) → fS A c = true → aprt l c = true → c < 81 → WA G9 p9 l9 e9 (RM 7 154) s9 m9 ar9 be9 me9 co9 (QF G9 be9 ar9 s9 w ex us (fun r w' => r = none ∧ Ch7 w' A ∧ (∀ j, ¬ j = 21 → w'.1 204 j = w.1 204 j) ∧ Frm [204, 211, 212, 213, 214, 215, 216, 217] w w')) 4 (219 + ex) us 66 [some (.ref 204), some (.int (nI (wdt (fS A)))), some (.int (nI c)), some (.int (nI d))] [] (fzM z2 ex us) := by
        intro zd66
        induction zd66 with
        | zero => intro d z2 zm66 zk_d zk_l zk_F h_23 h_33 h_41 h_15; exfalso; omega
        | succ zd66 zih66 =>
          intro d z2 zm66 zk_d zk_l zk_F h_23 h_33 h_41 h_15
          have zq_2 : z2.1 204 21 = nI (l ++ [c]).length := by rw [zk_F.at 204 (by decide), apt_len]; exact wSet_at
          have zq_7 : RN (z2.1 217) (fun j => (l ++ [c]).getD j 0) (l ++ [c]).length := by rw [zk_F.at 217 (by decide), wSet_th (by decide), wSet_row1]; exact zh_7.sn
          have zq_L : ∀ j, j < (l ++ [c]).length → (l ++ [c]).getD j 0 < 81 := fun j hj => by
            rw [apt_len] at hj
            by_cases e9 : j = l.length
            · subst e9; rw [getD_r]; exact h_15
            · rw [getD_l (by omega)]; exact zq_81 j (by omega)
          have zq_n : (l ++ [c]).length ≤ 81 := by rw [apt_len]; omega
          have zq_6 : ∀ e, e < 81 → z2.1 216 e = bI (fS A e) := fun e he => by rw [zk_F.at 216 (by decide), wSet_th (by decide), wSet_th (by decide)]; exact zh_6 e he
          refine a_iload_n C dX7_choose_66 rfl rfl ?_
          refine a_bipush (v := nI 81) C dX7_choose_67 (by decide) ?_
          first | refine n_icmp_ge (tgt := 107) C dX7_choose_69 (by decide) (by first | decide | omega) (by first | decide | omega) (fun h_69 => ?_) (fun h_69 => ?_) | refine a_icmp_ge (tgt := 107) C dX7_choose_69 (by decide) (fun h_69 => ?_) (fun h_69 => ?_)
          · obtain rfl : d = 81 := by omega
            refine a_aload_n C dX7_choose_107 rfl rfl ?_
            refine a_dup C dX7_choose_108 rfl ?_
            refine a_getf C fX7_259 dX7_choose_109 (show _ < 219 from (by first | decide | omega)) (by first | decide | omega) rfl (gl (show _ = nI (l.length + 1) from by rw [zq_2, apt_len])) ?_
            refine a_aload_n C dX7_choose_112 rfl rfl ?_
            refine a_getf C fX7_259 dX7_choose_113 (show _ < 219 from (by first | decide | omega)) (by first | decide | omega) rfl (gl (show _ = nI (l.length + 1) from by rw [zq_2, apt_len])) ?_
            refine a_aload_n C dX7_choose_116 rfl rfl ?_
            refine f_callV C _ _ (K_X7_fewestChains (w := z2) (S := remS (fS A) (l ++ [c])) (fun d hd => zq_S d (remS_sub _ d hd)) zk_l) vX7_256 (by first | decide | omega) rfl rfl dX7_choose_117 rfl (Nat.le_of_ble_eq_true rfl) ⟨by decide, by decide⟩ (fun zr117 zw117 zp117 => ?_)
            obtain ⟨rfl, zr_F⟩ := zp117
            have zr_w := wdt81 (remS (fS A) (l ++ [c]))
            have zq_R : remS (fS A) l c = true := by unfold remS; rw [h_33, h_41]; rfl
            first | refine n_iadd C dX7_choose_120 ?_ | refine a_iadd C dX7_choose_120 ?_
            refine a_iload_n C dX7_choose_121 rfl rfl ?_
            refine n_icmp_ne (tgt := 129) C dX7_choose_122 (by decide) (by first | decide | omega) (by first | decide | omega) (fun h_122 => ?_) (fun h_122 => ?_)
            · obtain ⟨l9, zy_l, zy_2, zy_7, zy_6, zy_o, zy_F⟩ : ∃ l9, l9 = chs (fS A) (c + 1) ∧ (wSet zw117 204 21 (nI (l.length + 1 - 1))).1 204 21 = nI l9.length ∧ RN ((wSet zw117 204 21 (nI (l.length + 1 - 1))).1 217) (fun j => l9.getD j 0) l9.length ∧ (∀ e, e < 81 → (wSet zw117 204 21 (nI (l.length + 1 - 1))).1 216 e = bI (fS A e)) ∧ (∀ j, ¬ j = 21 → (wSet zw117 204 21 (nI (l.length + 1 - 1))).1 204 j = w.1 204 j) ∧ Frm [204, 211, 212, 213, 214, 215, 216, 217] w (wSet zw117 204 21 (nI (l.length + 1 - 1))) := ⟨l, by rw [chs_n2 (by rw [← zh_l]; exact h_122)]; exact zh_l, wSet_at.trans (by rw [Nat.add_sub_cancel]), by rw [wSet_th (by decide), zr_F.at 217 (by decide), zk_F.at 217 (by decide), wSet_th (by decide), wSet_row1]; exact zh_7.cut, fun e he => by rw [wSet_th (by decide), zr_F.at 216 (by decide)]; exact zq_6 e he, fun j hj => by rw [wSet_ne (by omega), zr_F.at 204 (by decide), zk_F.at 204 (by decide), wSet_ne (by omega), wSet_th (by decide)]; exact zh_o j hj, (((((zh_F.set (by decide)).set (by decide)).tr (zk_F.up (by decide))).tr (zr_F.up (by decide))).set (by decide))⟩
              refine a_iconst (v := nI 1) C dX7_choose_129 (by decide) ?_
              refine n_isub C dX7_choose_130 (by omega) ?_
              refine f_putf C fX7_259 dX7_choose_131 (by first | decide | omega) rfl rfl rfl (Nat.le_of_ble_eq_true rfl) rfl ?_
              refine n_iinc C dX7_choose_134 rfl (by decide) ?_
              refine a_goto (tgt := 12) C dX7_choose_137 (by decide) ?_
              refine a_join (aLe_s ?_ (aLe_s ?_ (aLe_s ?_ (aLe_n aLe_nil)))) rfl rfl (zih12 (c + 1) l9 _ (by omega) (by omega) zy_l zy_2 zy_7 zy_6 zy_o zy_F)
              · first | with_reducible rfl | exact gl (by first | with_reducible rfl | (refine iF ?_; simp [h_69, h_122, (beq_eq_false_iff_ne.mpr h_122), (bne_iff_ne.mpr h_122)]; done) | (refine iT ?_; simp [h_69, h_122, (beq_eq_false_iff_ne.mpr h_122), (bne_iff_ne.mpr h_122)]; done) | (refine iB ?_; simp [h_69, h_122, (beq_eq_false_iff_ne.mpr h_122), (bne_iff_ne.mpr h_122)]; done) | (simp [h_69, h_122, (beq_eq_false_iff_ne.mpr h_122), (bne_iff_ne.mpr h_122)]; done) | (simp [h_69, h_122, (beq_eq_false_iff_ne.mpr h_122), (bne_iff_ne.mpr h_122)]; omega) | omega)
              · first | with_reducible rfl | exact gl (by first | with_reducible rfl | (refine iF ?_; simp [h_69, h_122, (beq_eq_false_iff_ne.mpr h_122), (bne_iff_ne.mpr h_122)]; done) | (refine iT ?_; simp [h_69, h_122, (beq_eq_false_iff_ne.mpr h_122), (bne_iff_ne.mpr h_122)]; done) | (refine iB ?_; simp [h_69, h_122, (beq_eq_false_iff_ne.mpr h_122), (bne_iff_ne.mpr h_122)]; done) | (simp [h_69, h_122, (beq_eq_false_iff_ne.mpr h_122), (bne_iff_ne.mpr h_122)]; done) | (simp [h_69, h_122, (beq_eq_false_iff_ne.mpr h_122), (bne_iff_ne.mpr h_122)]; omega) | omega)
              · first | with_reducible rfl | exact gl (by first | with_reducible rfl | (refine iF ?_; simp [h_69, h_122, (beq_eq_false_iff_ne.mpr h_122), (bne_iff_ne.mpr h_122)]; done) | (refine iT ?_; simp [h_69, h_122, (beq_eq_false_iff_ne.mpr h_122), (bne_iff_ne.mpr h_122)]; done) | (refine iB ?_; simp [h_69, h_122, (beq_eq_false_iff_ne.mpr h_122), (bne_iff_ne.mpr h_122)]; done) | (simp [h_69, h_122, (beq_eq_false_iff_ne.mpr h_122), (bne_iff_ne.mpr h_122)]; done) | (simp [h_69, h_122, (beq_eq_false_iff_ne.mpr h_122), (bne_iff_ne.mpr h_122)]; omega) | omega)
            · obtain ⟨l9, zy_l, zy_2, zy_7, zy_6, zy_o, zy_F⟩ : ∃ l9, l9 = chs (fS A) (c + 1) ∧ (wSet zw117 204 21 (nI (l.length + 1 - 0))).1 204 21 = nI l9.length ∧ RN ((wSet zw117 204 21 (nI (l.length + 1 - 0))).1 217) (fun j => l9.getD j 0) l9.length ∧ (∀ e, e < 81 → (wSet zw117 204 21 (nI (l.length + 1 - 0))).1 216 e = bI (fS A e)) ∧ (∀ j, ¬ j = 21 → (wSet zw117 204 21 (nI (l.length + 1 - 0))).1 204 j = w.1 204 j) ∧ Frm [204, 211, 212, 213, 214, 215, 216, 217] w (wSet zw117 204 21 (nI (l.length + 1 - 0))) := ⟨l ++ [c], by rw [chs_y (by rw [← zh_l]; exact h_23) (by rw [← zh_l]; exact zq_R) (by rw [← zh_l]; exact h_122), zh_l], wSet_at.trans (by rw [apt_len]; rfl), by rw [wSet_th (by decide), zr_F.at 217 (by decide)]; exact zq_7, fun e he => by rw [wSet_th (by decide), zr_F.at 216 (by decide)]; exact zq_6 e he, fun j hj => by rw [wSet_ne (by omega), zr_F.at 204 (by decide), zk_F.at 204 (by decide), wSet_ne (by omega), wSet_th (by decide)]; exact zh_o j hj, (((((zh_F.set (by decide)).set (by decide)).tr (zk_F.up (by decide))).tr (zr_F.up (by decide))).set (by decide))⟩
              refine a_iconst (v := nI 0) C dX7_choose_125 (by decide) ?_
              refine a_goto (tgt := 130) C dX7_choose_126 (by decide) ?_
              refine n_isub C dX7_choose_130 (by omega) ?_
              refine f_putf C fX7_259 dX7_choose_131 (by first | decide | omega) rfl rfl rfl (Nat.le_of_ble_eq_true rfl) rfl ?_
              refine n_iinc C dX7_choose_134 rfl (by decide) ?_
              refine a_goto (tgt := 12) C dX7_choose_137 (by decide) ?_
              refine a_join (aLe_s ?_ (aLe_s ?_ (aLe_s ?_ (aLe_n aLe_nil)))) rfl rfl (zih12 (c + 1) l9 _ (by omega) (by omega) zy_l zy_2 zy_7 zy_6 zy_o zy_F)
              · first | with_reducible rfl | exact gl (by first | with_reducible rfl | (refine iF ?_; simp [h_69, (eq_true h_122), (beq_iff_eq.mpr h_122), (bne_eq_false_iff_eq.mpr h_122)]; done) | (refine iT ?_; simp [h_69, (eq_true h_122), (beq_iff_eq.mpr h_122), (bne_eq_false_iff_eq.mpr h_122)]; done) | (refine iB ?_; simp [h_69, (eq_true h_122), (beq_iff_eq.mpr h_122), (bne_eq_false_iff_eq.mpr h_122)]; done) | (simp [h_69, (eq_true h_122), (beq_iff_eq.mpr h_122), (bne_eq_false_iff_eq.mpr h_122)]; done) | (simp [h_69, (eq_true h_122), (beq_iff_eq.mpr h_122), (bne_eq_false_iff_eq.mpr h_122)]; omega) | omega)
              · first | with_reducible rfl | exact gl (by first | with_reducible rfl | (refine iF ?_; simp [h_69, (eq_true h_122), (beq_iff_eq.mpr h_122), (bne_eq_false_iff_eq.mpr h_122)]; done) | (refine iT ?_; simp [h_69, (eq_true h_122), (beq_iff_eq.mpr h_122), (bne_eq_false_iff_eq.mpr h_122)]; done) | (refine iB ?_; simp [h_69, (eq_true h_122), (beq_iff_eq.mpr h_122), (bne_eq_false_iff_eq.mpr h_122)]; done) | (simp [h_69, (eq_true h_122), (beq_iff_eq.mpr h_122), (bne_eq_false_iff_eq.mpr h_122)]; done) | (simp [h_69, (eq_true h_122), (beq_iff_eq.mpr h_122), (bne_eq_false_iff_eq.mpr h_122)]; omega) | omega)
              · first | with_reducible rfl | exact gl (by first | with_reducible rfl | (refine iF ?_; simp [h_69, (eq_true h_122), (beq_iff_eq.mpr h_122), (bne_eq_false_iff_eq.mpr h_122)]; done) | (refine iT ?_; simp [h_69, (eq_true h_122), (beq_iff_eq.mpr h_122), (bne_eq_false_iff_eq.mpr h_122)]; done) | (refine iB ?_; simp [h_69, (eq_true h_122), (beq_iff_eq.mpr h_122), (bne_eq_false_iff_eq.mpr h_122)]; done) | (simp [h_69, (eq_true h_122), (beq_iff_eq.mpr h_122), (bne_eq_false_iff_eq.mpr h_122)]; done) | (simp [h_69, (eq_true h_122), (beq_iff_eq.mpr h_122), (bne_eq_false_iff_eq.mpr h_122)]; omega) | omega)
          · refine a_aload_n C dX7_choose_72 rfl rfl ?_
            refine a_getfF C fX7_28 dX7_choose_73 (show _ < 219 from (by first | decide | omega)) (by first | decide | omega) rfl rfl ?_
            refine a_iload_n C dX7_choose_76 rfl rfl ?_
            refine a_via 100 (bI (remS (fS A) (l ++ [c]) d)) ?_ (fun zJ100 => ?_)
            · refine f_iast C dX7_choose_100 (by first | decide | omega) rfl rfl (by first | decide | omega) (by decide)  rfl ?_
              refine n_iinc C dX7_choose_101 rfl (by decide) ?_
              refine a_goto (tgt := 66) C dX7_choose_104 (by decide) ?_
              refine a_join (aLe_s ?_ (aLe_s ?_ (aLe_s ?_ (aLe_s ?_ aLe_nil)))) rfl rfl (zih66 (d + 1) _ (by omega) (by omega) (fun e he => by
                rw [wSet_row1]
                by_cases e9 : e = d
                · subst e9; exact upd_at
                · rw [upd_ne e9]; exact zk_l e (by omega)) (zk_F.set (by decide)) h_23 h_33 h_41 h_15)
              · first | with_reducible rfl | exact gl (by first | with_reducible rfl | (refine iF ?_; simp [h_69]; done) | (refine iT ?_; simp [h_69]; done) | (refine iB ?_; simp [h_69]; done) | (simp [h_69]; done) | (simp [h_69]; omega) | omega)
              · first | with_reducible rfl | exact gl (by first | with_reducible rfl | (refine iF ?_; simp [h_69]; done) | (refine iT ?_; simp [h_69]; done) | (refine iB ?_; simp [h_69]; done) | (simp [h_69]; done) | (simp [h_69]; omega) | omega)
              · first | with_reducible rfl | exact gl (by first | with_reducible rfl | (refine iF ?_; simp [h_69]; done) | (refine iT ?_; simp [h_69]; done) | (refine iB ?_; simp [h_69]; done) | (simp [h_69]; done) | (simp [h_69]; omega) | omega)
              · first | with_reducible rfl | exact gl (by first | with_reducible rfl | (refine iF ?_; simp [h_69]; done) | (refine iT ?_; simp [h_69]; done) | (refine iB ?_; simp [h_69]; done) | (simp [h_69]; done) | (simp [h_69]; omega) | omega)
            · refine a_aload_n C dX7_choose_77 rfl rfl ?_
              refine a_getfF C fX7_43 dX7_choose_78 (show _ < 219 from (by first | decide | omega)) (by first | decide | omega) rfl rfl ?_
              refine a_iload_n C dX7_choose_81 rfl rfl ?_
              refine n_iald C dX7_choose_82 (show _ < 219 from (by first | decide | omega)) (by first | decide | omega) rfl rfl (by first | decide | omega) (by decide) (zq_6 d (by omega)) ?_
              refine a_iconst (v := nI 1) C dX7_choose_83 (by decide) ?_
              refine b_icmp1_ne (tgt := 99) C dX7_choose_84 (by decide) (fun h_84 => ?_) (fun h_84 => ?_)
              · refine a_iconst (v := nI 0) C dX7_choose_99 (by decide) ?_
                refine a_eq rfl (gl1 ?_) rfl zJ100
                · first | exact iT (by unfold remS; rw [h_84, h_92]; rfl) | exact iF (by unfold remS; rw [h_84]; rfl) | exact iF (by unfold remS; rw [h_84, h_92]; rfl)
              · refine a_aload_n C dX7_choose_87 rfl rfl ?_
                refine a_iload_n C dX7_choose_88 rfl rfl ?_
                refine p_callV C (K_X7_isApart (w := z2) (l := l ++ [c]) zq_2 zq_7 zq_L zq_n (by omega)) vX7_265 rfl (by first | decide | omega) rfl rfl dX7_choose_89 (Nat.le_of_ble_eq_true rfl) ⟨by decide, by decide⟩ ?_
                first | refine b_if_eq (tgt := 99) C dX7_choose_92 (by decide) (fun h_92 => ?_) (fun h_92 => ?_) | refine n_if_eq (tgt := 99) C dX7_choose_92 (by decide) (by first | decide | omega) (fun h_92 => ?_) (fun h_92 => ?_) | refine a_if_eq (tgt := 99) C dX7_choose_92 (by decide) (fun h_92 => ?_) (fun h_92 => ?_)
                · refine a_iconst (v := nI 0) C dX7_choose_99 (by decide) ?_
                  refine a_eq rfl (gl1 ?_) rfl zJ100
                  · first | exact iT (by unfold remS; rw [h_84, h_92]; rfl) | exact iF (by unfold remS; rw [h_84]; rfl) | exact iF (by unfold remS; rw [h_84, h_92]; rfl)
                · refine a_iconst (v := nI 1) C dX7_choose_95 (by decide) ?_
                  refine a_goto (tgt := 100) C dX7_choose_96 (by decide) ?_
                  refine a_eq rfl (gl1 ?_) rfl zJ100
                  · first | exact iT (by unfold remS; rw [h_84, h_92]; rfl) | exact iF (by unfold remS; rw [h_84]; rfl) | exact iF (by unfold remS; rw [h_84, h_92]; rfl)
      refine a_iload_n C dX7_choose_12 rfl rfl ?_
      refine a_bipush (v := nI 81) C dX7_choose_13 (by decide) ?_
      first | refine n_icmp_ge (tgt := 140) C dX7_choose_15 (by decide) (by first | decide | omega) (by first | decide | omega) (fun h_15 => ?_) (fun h_15 => ?_) | refine a_icmp_ge (tgt := 140) C dX7_choose_15 (by decide) (fun h_15 => ?_) (fun h_15 => ?_)
      · obtain rfl : c = 81 := by omega
        have zq_e : chs (fS A) 81 = l := zh_l.symm
        refine f_vret C hr dX7_choose_140 ?_
        exact ⟨rfl, ⟨by rw [zq_e]; exact zh_2, by rw [zq_e]; exact zh_7⟩, zh_o, zh_F⟩
      · refine a_aload_n C dX7_choose_18 rfl rfl ?_
        refine a_getf C fX7_259 dX7_choose_19 (show _ < 219 from (by first | decide | omega)) (by first | decide | omega) rfl (gl zh_2) ?_
        refine a_iload_n C dX7_choose_22 rfl rfl ?_
        first | refine n_icmp_ge (tgt := 140) C dX7_choose_23 (by decide) (by first | decide | omega) (by first | decide | omega) (fun h_23 => ?_) (fun h_23 => ?_) | refine a_icmp_ge (tgt := 140) C dX7_choose_23 (by decide) (fun h_23 => ?_) (fun h_23 => ?_)
        · have zq_e : chs (fS A) 81 = l := by rw [zh_l]; exact chs_e81 (by omega) (by rw [← zh_l]; omega)
          refine f_vret C hr dX7_choose_140 ?_
          exact ⟨rfl, ⟨by rw [zq_e]; exact zh_2, by rw [zq_e]; exact zh_7⟩, zh_o, zh_F⟩
        · refine a_aload_n C dX7_choose_26 rfl rfl ?_
          refine a_getfF C fX7_43 dX7_choose_27 (show _ < 219 from (by first | decide | omega)) (by first | decide | omega) rfl rfl ?_
          refine a_iload_n C dX7_choose_30 rfl rfl ?_
          refine n_iald C dX7_choose_31 (show _ < 219 from (by first | decide | omega)) (by first | decide | omega) rfl rfl (by first | decide | omega) (by decide) (zh_6 c h_15) ?_
          refine a_iconst (v := nI 1) C dX7_choose_32 (by decide) ?_
          refine b_icmp1_ne (tgt := 134) C dX7_choose_33 (by decide) (fun h_33 => ?_) (fun h_33 => ?_)
          · obtain ⟨l9, zy_l, zy_2, zy_7, zy_6, zy_o, zy_F⟩ : ∃ l9, l9 = chs (fS A) (c + 1) ∧ (z).1 204 21 = nI l9.length ∧ RN ((z).1 217) (fun j => l9.getD j 0) l9.length ∧ (∀ e, e < 81 → (z).1 216 e = bI (fS A e)) ∧ (∀ j, ¬ j = 21 → (z).1 204 j = w.1 204 j) ∧ Frm [204, 211, 212, 213, 214, 215, 216, 217] w (z) := ⟨l, by rw [chs_n1 (by rw [← zh_l]; unfold remS; rw [h_33]; rfl)]; exact zh_l, zh_2, zh_7, zh_6, zh_o, zh_F⟩
            refine n_iinc C dX7_choose_134 rfl (by decide) ?_
            refine a_goto (tgt := 12) C dX7_choose_137 (by decide) ?_
            refine a_join (aLe_s ?_ (aLe_s ?_ (aLe_s ?_ (aLe_n aLe_nil)))) rfl rfl (zih12 (c + 1) l9 _ (by omega) (by omega) zy_l zy_2 zy_7 zy_6 zy_o zy_F)
            · first | with_reducible rfl | exact gl (by first | with_reducible rfl | (refine iF ?_; simp [h_15, h_23, h_33]; done) | (refine iT ?_; simp [h_15, h_23, h_33]; done) | (refine iB ?_; simp [h_15, h_23, h_33]; done) | (simp [h_15, h_23, h_33]; done) | (simp [h_15, h_23, h_33]; omega) | omega)
            · first | with_reducible rfl | exact gl (by first | with_reducible rfl | (refine iF ?_; simp [h_15, h_23, h_33]; done) | (refine iT ?_; simp [h_15, h_23, h_33]; done) | (refine iB ?_; simp [h_15, h_23, h_33]; done) | (simp [h_15, h_23, h_33]; done) | (simp [h_15, h_23, h_33]; omega) | omega)
            · first | with_reducible rfl | exact gl (by first | with_reducible rfl | (refine iF ?_; simp [h_15, h_23, h_33]; done) | (refine iT ?_; simp [h_15, h_23, h_33]; done) | (refine iB ?_; simp [h_15, h_23, h_33]; done) | (simp [h_15, h_23, h_33]; done) | (simp [h_15, h_23, h_33]; omega) | omega)
          · refine a_aload_n C dX7_choose_36 rfl rfl ?_
            refine a_iload_n C dX7_choose_37 rfl rfl ?_
            refine p_callV C (K_X7_isApart (l := l) zh_2 zh_7 zq_81 (by omega) h_15) vX7_265 rfl (by first | decide | omega) rfl rfl dX7_choose_38 (Nat.le_of_ble_eq_true rfl) ⟨by decide, by decide⟩ ?_
            first | refine b_if_eq (tgt := 134) C dX7_choose_41 (by decide) (fun h_41 => ?_) (fun h_41 => ?_) | refine n_if_eq (tgt := 134) C dX7_choose_41 (by decide) (by first | decide | omega) (fun h_41 => ?_) (fun h_41 => ?_) | refine a_if_eq (tgt := 134) C dX7_choose_41 (by decide) (fun h_41 => ?_) (fun h_41 => ?_)
            · obtain ⟨l9, zy_l, zy_2, zy_7, zy_6, zy_o, zy_F⟩ : ∃ l9, l9 = chs (fS A) (c + 1) ∧ (z).1 204 21 = nI l9.length ∧ RN ((z).1 217) (fun j => l9.getD j 0) l9.length ∧ (∀ e, e < 81 → (z).1 216 e = bI (fS A e)) ∧ (∀ j, ¬ j = 21 → (z).1 204 j = w.1 204 j) ∧ Frm [204, 211, 212, 213, 214, 215, 216, 217] w (z) := ⟨l, by rw [chs_n1 (by rw [← zh_l]; unfold remS; rw [h_41, Bool.and_false])]; exact zh_l, zh_2, zh_7, zh_6, zh_o, zh_F⟩
              refine n_iinc C dX7_choose_134 rfl (by decide) ?_
              refine a_goto (tgt := 12) C dX7_choose_137 (by decide) ?_
              refine a_join (aLe_s ?_ (aLe_s ?_ (aLe_s ?_ (aLe_n aLe_nil)))) rfl rfl (zih12 (c + 1) l9 _ (by omega) (by omega) zy_l zy_2 zy_7 zy_6 zy_o zy_F)
              · first | with_reducible rfl | exact gl (by first | with_reducible rfl | (refine iF ?_; simp [h_15, h_23, h_33, h_41]; done) | (refine iT ?_; simp [h_15, h_23, h_33, h_41]; done) | (refine iB ?_; simp [h_15, h_23, h_33, h_41]; done) | (simp [h_15, h_23, h_33, h_41]; done) | (simp [h_15, h_23, h_33, h_41]; omega) | omega)
              · first | with_reducible rfl | exact gl (by first | with_reducible rfl | (refine iF ?_; simp [h_15, h_23, h_33, h_41]; done) | (refine iT ?_; simp [h_15, h_23, h_33, h_41]; done) | (refine iB ?_; simp [h_15, h_23, h_33, h_41]; done) | (simp [h_15, h_23, h_33, h_41]; done) | (simp [h_15, h_23, h_33, h_41]; omega) | omega)
              · first | with_reducible rfl | exact gl (by first | with_reducible rfl | (refine iF ?_; simp [h_15, h_23, h_33, h_41]; done) | (refine iT ?_; simp [h_15, h_23, h_33, h_41]; done) | (refine iB ?_; simp [h_15, h_23, h_33, h_41]; done) | (simp [h_15, h_23, h_33, h_41]; done) | (simp [h_15, h_23, h_33, h_41]; omega) | omega)
            · refine a_aload_n C dX7_choose_44 rfl rfl ?_
              refine a_getfF C fX7_46 dX7_choose_45 (show _ < 219 from (by first | decide | omega)) (by first | decide | omega) rfl rfl ?_
              refine a_aload_n C dX7_choose_48 rfl rfl ?_
              refine a_getf C fX7_259 dX7_choose_49 (show _ < 219 from (by first | decide | omega)) (by first | decide | omega) rfl (gl zh_2) ?_
              refine a_iload_n C dX7_choose_52 rfl rfl ?_
              refine f_iast C dX7_choose_53 (by first | decide | omega) rfl rfl (by first | decide | omega) (by decide)  rfl ?_
              refine a_aload_n C dX7_choose_54 rfl rfl ?_
              refine a_dup C dX7_choose_55 rfl ?_
              refine a_getf C fX7_259 dX7_choose_56 (show _ < 219 from (by first | decide | omega)) (by first | decide | omega) rfl (gl (show _ = nI l.length from by rw [wSet_th (by decide)]; exact zh_2)) ?_
              refine a_iconst (v := nI 1) C dX7_choose_59 (by decide) ?_
              first | refine n_iadd C dX7_choose_60 ?_ | refine a_iadd C dX7_choose_60 ?_
              refine f_putf C fX7_259 dX7_choose_61 (by first | decide | omega) rfl rfl rfl (Nat.le_of_ble_eq_true rfl) rfl ?_
              refine a_iconst (v := nI 0) C dX7_choose_64 (by decide) ?_
              refine a_istore_n C dX7_choose_65 rfl (by decide) ?_
              refine a_join (aLe_s ?_ (aLe_s ?_ (aLe_s ?_ (aLe_s ?_ aLe_nil)))) rfl rfl (ZL66 (81 + 1) 0 (wSet (wSet z 217 l.length (nI c)) 204 21 (nI (l.length + 1))) (by omega) (by omega) (fun e he => absurd he (Nat.not_lt_zero e)) Frm.rf h_23 h_33 h_41 h_15)
              · first | with_reducible rfl | exact gl (by first | with_reducible rfl | (refine iF ?_; simp [h_15, h_23, h_33, h_41]; done) | (refine iT ?_; simp [h_15, h_23, h_33, h_41]; done) | (refine iB ?_; simp [h_15, h_23, h_33, h_41]; done) | (simp [h_15, h_23, h_33, h_41]; done) | (simp [h_15, h_23, h_33, h_41]; omega) | omega | rfl)
              · first | with_reducible rfl | exact gl (by first | with_reducible rfl | (refine iF ?_; simp [h_15, h_23, h_33, h_41]; done) | (refine iT ?_; simp [h_15, h_23, h_33, h_41]; done) | (refine iB ?_; simp [h_15, h_23, h_33, h_41]; done) | (simp [h_15, h_23, h_33, h_41]; done) | (simp [h_15, h_23, h_33, h_41]; omega) | omega | rfl)
              · first | with_reducible rfl | exact gl (by first | with_reducible rfl | (refine iF ?_; simp [h_15, h_23, h_33, h_41]; done) | (refine iT ?_; simp [h_15, h_23, h_33, h_41]; done) | (refine iB ?_; simp [h_15, h_23, h_33, h_41]; done) | (simp [h_15, h_23, h_33, h_41]; done) | (simp [h_15, h_23, h_33, h_41]; omega) | omega | rfl)
              · first | with_reducible rfl | exact gl (by first | with_reducible rfl | (refine iF ?_; simp [h_15, h_23, h_33, h_41]; done) | (refine iT ?_; simp [h_15, h_23, h_33, h_41]; done) | (refine iB ?_; simp [h_15, h_23, h_33, h_41]; done) | (simp [h_15, h_23, h_33, h_41]; done) | (simp [h_15, h_23, h_33, h_41]; omega) | omega | rfl)
  refine a_pad 3 ?_
  refine a_eq (L' := [some (.ref 204), none, none, none]) rfl rfl rfl ?_
  refine a_aload_n C dX7_choose_0 rfl rfl ?_
  refine f_callV C _ _ (K_X7_mostByChains hR hA) vX7_262 (by first | decide | omega) rfl rfl dX7_choose_1 rfl (Nat.le_of_ble_eq_true rfl) ⟨by decide, by decide⟩ (fun zr1 zw1 zp1 => ?_)
  obtain ⟨rfl, zq_f, zq_F⟩ := zp1
  refine a_istore_n C dX7_choose_4 rfl (by decide) ?_
  refine a_aload_n C dX7_choose_5 rfl rfl ?_
  refine a_iconst (v := nI 0) C dX7_choose_6 (by decide) ?_
  refine f_putf C fX7_259 dX7_choose_7 (by first | decide | omega) rfl rfl rfl (Nat.le_of_ble_eq_true rfl) rfl ?_
  refine a_iconst (v := nI 0) C dX7_choose_10 (by decide) ?_
  refine a_istore_n C dX7_choose_11 rfl (by decide) ?_
  refine a_join (aLe_s ?_ (aLe_s ?_ (aLe_s ?_ (aLe_n aLe_nil)))) rfl rfl (ZL12 (81 + 1) 0 [] (wSet zw1 204 21 (nI 0)) (by omega) (by omega) rfl wSet_at (fun j hj => absurd hj (Nat.not_lt_zero j)) (fun e he => by rw [wSet_th (by decide)]; exact zq_f e he) (fun j hj => by rw [wSet_ne (by omega), zq_F.at 204 (by decide)]) ((zq_F.up (by decide)).set (by decide)))
  · first | with_reducible rfl | exact gl (by first | with_reducible rfl | (refine iF ?_; simp []; done) | (refine iT ?_; simp []; done) | (refine iB ?_; simp []; done) | (simp []; done) | (simp []; omega) | omega | rfl)
  · first | with_reducible rfl | exact gl (by first | with_reducible rfl | (refine iF ?_; simp []; done) | (refine iT ?_; simp []; done) | (refine iB ?_; simp []; done) | (simp []; done) | (simp []; omega) | omega | rfl)
  · first | with_reducible rfl | exact gl (by first | with_reducible rfl | (refine iF ?_; simp []; done) | (refine iT ?_; simp []; done) | (refine iB ?_; simp []; done) | (simp []; done) | (simp []; omega) | omega | rfl)

set_option maxRecDepth 20000 in
set_option maxHeartbeats 4000000 in
theorem K_X7_tellsMost {w : Wd} {A : St} (hR : RR w A) (hA : AOK A) {j : Nat} (hj : j < 2) : CF yX7_tellsMost cX7_tellsMost 2 (some .int) 8 177 [.ref 204, .int (nI j)] w (fun r w' => r = some (.int (nI (mstA A j))) ∧ (∀ j, ¬ j = 21 → w'.1 204 j = w.1 204 j) ∧ Frm [204, 211, 212, 213, 214, 215, 216, 217] w w') := by
  refine CF.of ok_X7_tellsMost (Nat.le_of_ble_eq_true rfl) (fun ex us G9 p9 l9 e9 s9 m9 ar9 be9 me9 co9 C hr => ?_)
  refine a_iload_n C dX7_tellsMost_0 rfl rfl ?_
  refine n_if_ne (tgt := 9) C dX7_tellsMost_1 (by decide) (by first | decide | omega)  (fun h_1 => ?_) (fun h_1 => ?_)
  · refine a_aload_n C dX7_tellsMost_9 rfl rfl ?_
    refine f_callV C _ _ (K_X7_choose hR hA) vX7_268 (by first | decide | omega) rfl rfl dX7_tellsMost_10 rfl (Nat.le_of_ble_eq_true rfl) ⟨by decide, by decide⟩ (fun zr10 zw10 zp10 => ?_)
    obtain ⟨rfl, zq_C, zq_o, zq_F⟩ := zp10
    refine a_aload_n C dX7_tellsMost_13 rfl rfl ?_
    refine a_getf C fX7_259 dX7_tellsMost_14 (show _ < 219 from (by first | decide | omega)) (by first | decide | omega) rfl (gl zq_C.1) ?_
    refine f_iret C hr ?_ dX7_tellsMost_17 ?_
    · rfl
    · exact ⟨by unfold mstA; rw [if_neg h_1], zq_o, zq_F⟩
  · refine a_aload_n C dX7_tellsMost_4 rfl rfl ?_
    refine f_callV C _ _ (K_X7_mostByChains hR hA) vX7_262 (by first | decide | omega) rfl rfl dX7_tellsMost_5 rfl (Nat.le_of_ble_eq_true rfl) ⟨by decide, by decide⟩ (fun zr5 zw5 zp5 => ?_)
    obtain ⟨rfl, zq_f, zq_F⟩ := zp5
    refine f_iret C hr ?_ dX7_tellsMost_8 ?_
    · rfl
    · exact ⟨by unfold mstA; rw [if_pos h_1], fun j _ => by rw [zq_F.at 204 (by decide)], zq_F.up (by decide)⟩

set_option maxRecDepth 20000 in
set_option maxHeartbeats 4000000 in
theorem K_X7_tellsPick {w : Wd} {A : St} (hR : RR w A) (hA : AOK A) (x : Int32) (h0 : ¬ x < 0) : CF yX7_tellsPick cX7_tellsPick 2 (some .int) 8 177 [.ref 204, .int x] w (fun r w' => r = some (.int (pckA A x)) ∧ (∀ j, ¬ j = 21 → w'.1 204 j = w.1 204 j) ∧ Frm [204, 211, 212, 213, 214, 215, 216, 217] w w') := by
  have zq_81 := chs81 A
  refine CF.of ok_X7_tellsPick (Nat.le_of_ble_eq_true rfl) (fun ex us G9 p9 l9 e9 s9 m9 ar9 be9 me9 co9 C hr => ?_)
  refine a_aload_n C dX7_tellsPick_0 rfl rfl ?_
  refine f_callV C _ _ (K_X7_choose hR hA) vX7_268 (by first | decide | omega) rfl rfl dX7_tellsPick_1 rfl (Nat.le_of_ble_eq_true rfl) ⟨by decide, by decide⟩ (fun zr1 zw1 zp1 => ?_)
  obtain ⟨rfl, zq_C, zq_o, zq_F⟩ := zp1
  refine a_iload_n C dX7_tellsPick_4 rfl rfl ?_
  refine a_aload_n C dX7_tellsPick_5 rfl rfl ?_
  refine a_getf C fX7_259 dX7_tellsPick_6 (show _ < 219 from (by first | decide | omega)) (by first | decide | omega) rfl (gl zq_C.1) ?_
  refine a_icmp_ge (tgt := 21) C dX7_tellsPick_9 (by decide) (fun h_9 => ?_) (fun h_9 => ?_)
  · have zq_n := Int32.not_lt.mpr h_9
    refine a_iconst (v := (-1)) C dX7_tellsPick_21 (by decide) ?_
    refine f_iret C hr ?_ dX7_tellsPick_22 ?_
    · rfl
    · first | exact ⟨by unfold pckA; rw [if_neg zq_n], zq_o, zq_F⟩ | exact ⟨by unfold pckA; rw [if_pos (Int32.not_le.mp h_9), iN_nI (by omega)], zq_o, zq_F⟩
  · obtain ⟨k, zq_k, rfl⟩ := x_nI h0 (by omega) (Int32.not_le.mp h_9)
    refine a_aload_n C dX7_tellsPick_12 rfl rfl ?_
    refine a_getfF C fX7_46 dX7_tellsPick_13 (show _ < 219 from (by first | decide | omega)) (by first | decide | omega) rfl rfl ?_
    refine a_iload_n C dX7_tellsPick_16 rfl rfl ?_
    refine n_iald C dX7_tellsPick_17 (show _ < 219 from (by first | decide | omega)) (by first | decide | omega) rfl rfl (by first | decide | omega) (by decide) (zq_C.2 k zq_k) ?_
    refine a_goto (tgt := 22) C dX7_tellsPick_18 (by decide) ?_
    refine f_iret C hr ?_ dX7_tellsPick_22 ?_
    · rfl
    · first | exact ⟨by unfold pckA; rw [if_neg zq_n], zq_o, zq_F⟩ | exact ⟨by unfold pckA; rw [if_pos (Int32.not_le.mp h_9), iN_nI (by omega)], zq_o, zq_F⟩

set_option maxRecDepth 20000 in
set_option maxHeartbeats 4000000 in
theorem K_X7_most {w : Wd} {A : St} (hR : RR w A) (hA : AOK A) {j : Nat} (hj : j < 2) : CF yX7_most cX7_most 2 (some .int) 9 198 [.ref 204, .int (nI j)] w (fun r w' => r = some (.int (nI (mstA A j))) ∧ w'.1 204 0 = nI 0 ∧ (∀ j, ¬ j = 0 → ¬ j = 21 → w'.1 204 j = w.1 204 j) ∧ Frm [204, 211, 212, 213, 214, 215, 216, 217] w w') := by
  have zf0 : decide (nI 0 ≤ nI j ∧ nI j ≤ nI 1) = true := win_eq (by decide) ((inR_nI (by omega)).trans (decide_eq_true (by omega)))
  have hR : RR (wSet w 204 0 (nI 0)) A := hR
  refine CF.of ok_X7_most (Nat.le_of_ble_eq_true rfl) (fun ex us G9 p9 l9 e9 s9 m9 ar9 be9 me9 co9 C hr => ?_)
  refine a_aload_n C dX7_most_0 rfl rfl ?_
  refine a_iconst (v := nI 0) C dX7_most_1 (by decide) ?_
  refine f_putf C fX7_53 dX7_most_2 (by first | decide | omega) rfl rfl rfl (Nat.le_of_ble_eq_true rfl) rfl ?_
  refine a_iload_n C dX7_most_5 rfl rfl ?_
  refine a_iconst (v := nI 0) C dX7_most_6 (by decide) ?_
  refine a_iconst (v := nI 1) C dX7_most_7 (by decide) ?_
  refine p_callS C ((K_X7_within _ _ _)).cp sX7_57 rfl dX7_most_8 (Nat.le_of_ble_eq_true rfl) ⟨by decide, by decide⟩ ?_
  refine b_if_eq (tgt := 22) C dX7_most_11 (by decide) (fun h_11 => ?_) (fun h_11 => ?_)
  · exact absurd (h_11.symm.trans zf0) (by decide)
  · refine a_aload_n C dX7_most_14 rfl rfl ?_
    refine a_iload_n C dX7_most_15 rfl rfl ?_
    refine f_callV C _ _ (K_X7_tellsMost hR hA hj) vX7_271 (by first | decide | omega) rfl rfl dX7_most_16 rfl (Nat.le_of_ble_eq_true rfl) ⟨by decide, by decide⟩ (fun zr16 zw16 zp16 => ?_)
    obtain ⟨rfl, zy_o, zy_F⟩ := zp16
    refine a_goto (tgt := 27) C dX7_most_19 (by decide) ?_
    refine f_iret C hr ?_ dX7_most_27 ?_
    · rfl
    · exact ⟨rfl, (zy_o 0 (by decide)).trans wSet_at, fun j h1 h2 => (zy_o j h2).trans (wSet_ne (by omega)), (Frm.rf.set (by decide)).tr zy_F⟩

set_option maxRecDepth 20000 in
set_option maxHeartbeats 4000000 in
theorem K_X7_most_0 {w : Wd} {A : St} (hR : RR w A) (hA : AOK A) (x : Int32) (hf : inR x 2 = false) : CF yX7_most cX7_most 2 (some .int) 9 198 [.ref 204, .int x] w (FA w (.int (nI 0)) 1) := by
  have zf0 : decide (nI 0 ≤ x ∧ x ≤ nI 1) = false := win_eq (by decide) hf
  refine CF.of ok_X7_most (Nat.le_of_ble_eq_true rfl) (fun ex us G9 p9 l9 e9 s9 m9 ar9 be9 me9 co9 C hr => ?_)
  refine a_aload_n C dX7_most_0 rfl rfl ?_
  refine a_iconst (v := nI 0) C dX7_most_1 (by decide) ?_
  refine f_putf C fX7_53 dX7_most_2 (by first | decide | omega) rfl rfl rfl (Nat.le_of_ble_eq_true rfl) rfl ?_
  refine a_iload_n C dX7_most_5 rfl rfl ?_
  refine a_iconst (v := nI 0) C dX7_most_6 (by decide) ?_
  refine a_iconst (v := nI 1) C dX7_most_7 (by decide) ?_
  refine p_callS C ((K_X7_within _ _ _)).cp sX7_57 rfl dX7_most_8 (Nat.le_of_ble_eq_true rfl) ⟨by decide, by decide⟩ ?_
  refine b_if_eq (tgt := 22) C dX7_most_11 (by decide) (fun h_11 => ?_) (fun h_11 => ?_)
  · refine a_aload_n C dX7_most_22 rfl rfl ?_
    refine a_iconst (v := nI 1) C dX7_most_23 (by decide) ?_
    refine f_callV C _ _ (K_X7_fails _) vX7_68 (by first | decide | omega) rfl rfl dX7_most_24 rfl (Nat.le_of_ble_eq_true rfl) ⟨by decide, by decide⟩ (fun zr24 zw24 zp24 => ?_)
    obtain ⟨rfl, rfl⟩ := zp24
    refine f_iret C hr ?_ dX7_most_27 ⟨?_, ?_⟩
    · rfl
    · first | with_reducible rfl | exact gl (by first | with_reducible rfl | (refine iF ?_; simp []; done) | (refine iT ?_; simp []; done) | (refine iB ?_; simp []; done) | (simp []; done) | (simp []; omega) | omega | rfl)
    · first | with_reducible rfl | exact wSet2 | rfl
  · exact absurd (h_11.symm.trans zf0) (by decide)

set_option maxRecDepth 20000 in
set_option maxHeartbeats 4000000 in
theorem K_X7_pick {w : Wd} {A : St} (hR : RR w A) (hA : AOK A) (x : Int32) (h0 : ¬ x < 0) : CF yX7_pick cX7_pick 2 (some .int) 9 198 [.ref 204, .int x] w (fun r w' => r = some (.int (pckA A x)) ∧ w'.1 204 0 = nI 0 ∧ (∀ j, ¬ j = 0 → ¬ j = 21 → w'.1 204 j = w.1 204 j) ∧ Frm [204, 211, 212, 213, 214, 215, 216, 217] w w') := by
  have hR : RR (wSet w 204 0 (nI 0)) A := hR
  refine CF.of ok_X7_pick (Nat.le_of_ble_eq_true rfl) (fun ex us G9 p9 l9 e9 s9 m9 ar9 be9 me9 co9 C hr => ?_)
  refine a_aload_n C dX7_pick_0 rfl rfl ?_
  refine a_iconst (v := nI 0) C dX7_pick_1 (by decide) ?_
  refine f_putf C fX7_53 dX7_pick_2 (by first | decide | omega) rfl rfl rfl (Nat.le_of_ble_eq_true rfl) rfl ?_
  refine a_iload_n C dX7_pick_5 rfl rfl ?_
  refine a_if_ge (tgt := 17) C dX7_pick_6 (by decide) (fun h_6 => ?_) (fun h_6 => ?_)
  · refine a_aload_n C dX7_pick_17 rfl rfl ?_
    refine a_iload_n C dX7_pick_18 rfl rfl ?_
    refine f_callV C _ _ (K_X7_tellsPick hR hA x h0) vX7_274 (by first | decide | omega) rfl rfl dX7_pick_19 rfl (Nat.le_of_ble_eq_true rfl) ⟨by decide, by decide⟩ (fun zr19 zw19 zp19 => ?_)
    obtain ⟨rfl, zy_o, zy_F⟩ := zp19
    refine f_iret C hr ?_ dX7_pick_22 ?_
    · rfl
    · exact ⟨rfl, (zy_o 0 (by decide)).trans wSet_at, fun j h1 h2 => (zy_o j h2).trans (wSet_ne (by omega)), (Frm.rf.set (by decide)).tr zy_F⟩
  · exact absurd (Int32.not_le.mp h_6) h0

set_option maxRecDepth 20000 in
set_option maxHeartbeats 4000000 in
theorem K_X7_pick_0 {w : Wd} {A : St} (hR : RR w A) (hA : AOK A) (x : Int32) (h0 : x < 0) : CF yX7_pick cX7_pick 2 (some .int) 9 198 [.ref 204, .int x] w (FA w (.int (nI 0)) 1) := by
  refine CF.of ok_X7_pick (Nat.le_of_ble_eq_true rfl) (fun ex us G9 p9 l9 e9 s9 m9 ar9 be9 me9 co9 C hr => ?_)
  refine a_aload_n C dX7_pick_0 rfl rfl ?_
  refine a_iconst (v := nI 0) C dX7_pick_1 (by decide) ?_
  refine f_putf C fX7_53 dX7_pick_2 (by first | decide | omega) rfl rfl rfl (Nat.le_of_ble_eq_true rfl) rfl ?_
  refine a_iload_n C dX7_pick_5 rfl rfl ?_
  refine a_if_ge (tgt := 17) C dX7_pick_6 (by decide) (fun h_6 => ?_) (fun h_6 => ?_)
  · exact absurd h0 (Int32.not_lt.mpr h_6)
  · refine a_aload_n C dX7_pick_9 rfl rfl ?_
    refine a_iconst (v := nI 1) C dX7_pick_10 (by decide) ?_
    refine f_callV C _ _ (K_X7_fails _) vX7_68 (by first | decide | omega) rfl rfl dX7_pick_11 rfl (Nat.le_of_ble_eq_true rfl) ⟨by decide, by decide⟩ (fun zr11 zw11 zp11 => ?_)
    obtain ⟨rfl, rfl⟩ := zp11
    refine a_goto (tgt := 22) C dX7_pick_14 (by decide) ?_
    refine f_iret C hr ?_ dX7_pick_22 ⟨?_, ?_⟩
    · rfl
    · first | with_reducible rfl | exact gl (by first | with_reducible rfl | (refine iF ?_; simp []; done) | (refine iT ?_; simp []; done) | (refine iB ?_; simp []; done) | (simp []; done) | (simp []; omega) | omega | rfl)
    · first | with_reducible rfl | exact wSet2 | rfl

end A34

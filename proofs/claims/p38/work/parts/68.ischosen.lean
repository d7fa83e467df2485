section A68
/-! ### isChosen() -/
abbrev K11 : List Nat := [55, 56, 57, 58, 59, 60, 61, 62, 63, 64, 65]
abbrev K12 : List Nat := [55, 56, 57, 58, 59, 60, 61, 62, 63, 64, 65, 207]
noncomputable def cho (A : St) : List Nat := chs (fS A) 81
theorem okV_b {v : Value} (h : (match v with | .ref a => decide (a < 207) | _ => true) = true) : okV v := fun a e => by
  subst e
  exact of_decide_eq_true h
theorem okL_of {L : aL} (h : (L.all fun o => match o with | none => true | some v => (match v with | .ref a => decide (a < 207) | _ => true)) = true) : okL L := fun i v hi => okV_b (List.all_eq_true.mp h (some v) (List.mem_of_getElem? hi))
def Ic (w v : Wd) (A : St) : Prop := DR v 3 A ∧ LR v A ∧ Mo v (fS A) ∧ Frm K12 w v
theorem Ic.step {w v v2 : Wd} {A : St} (hA : AOK A) (h : Ic w v A) (hM : Mo v2 (fS A)) (hF : Frm K11 v v2) : Ic w v2 A ∧ v2.1 207 = v.1 207 :=
  ⟨⟨h.1.x0 hA hF (by decide), h.2.1.same (fun a h1 h2 => hF.at a (by simp; omega)), hM, h.2.2.2.tr (hF.up (by decide))⟩, hF.at 207 (by decide)⟩
theorem Ic.first {w v : Wd} {A : St} (hA : AOK A) (hD : DR w 3 A) (hL : LR w A) (hM : Mo v (fS A)) (hF : Frm K11 w v) : Ic w v A :=
  ⟨hD.x0 hA hF (by decide), hL.same (fun a h1 h2 => hF.at a (by simp; omega)), hM, hF.up (by decide)⟩
theorem Mo.same {v v2 : Wd} {F : Nat → Bool} (h : Mo v F) (hw : ∀ a, 55 ≤ a → a < 66 → v2.1 a = v.1 a) : Mo v2 F := by
  obtain ⟨h1, h2, h3, h4, h5⟩ := h
  exact ⟨h1, by rw [hw 56 (by decide) (by decide)]; exact h2, by rw [hw 55 (by decide) (by decide)]; exact h3, by rw [hw 55 (by decide) (by decide)]; exact h4, by rw [hw 57 (by decide) (by decide)]; exact h5⟩
theorem Ic.c {w v v2 : Wd} {A : St} (hA : AOK A) (h : Ic w v A) (hF : Frm [207] v v2) : Ic w v2 A :=
  ⟨h.1.x0 hA hF (by decide), h.2.1.same (fun a h1 h2 => hF.at a (by simp; omega)), h.2.2.1.same (fun a h1 h2 => hF.at a (by simp; omega)), h.2.2.2.tr (hF.up (by decide))⟩
theorem cho_S {A : St} {j : Nat} (hj : j < (cho A).length) : (cho A).getD j 0 < 81 ∧ sndA A ((cho A).getD j 0) = true ∧ clA A ((cho A).getD j 0) (-1) = 0 := by
  have h1 := chs_lt (fS A) 81 j hj
  have h2 := (chs_ap (fS A) 81).1 j hj
  have h3 : freA A ((cho A).getD j 0) = true := (fS_at h1).symm.trans h2
  unfold freA at h3
  obtain ⟨h4, h5⟩ := Bool.and_eq_true_iff.mp h3
  exact ⟨h1, h4, eq_of_beq h5⟩
theorem cho_ap {A : St} {i j : Nat} (hi : i < (cho A).length) (hj : j < (cho A).length) (hne : ¬ i = j) : lieN ((cho A).getD i 0) ((cho A).getD j 0) = 0 := by
  refine lie_ap ?_
  cases e : crs ((cho A).getD i 0) ((cho A).getD j 0) with
  | false => rfl
  | true => exact absurd ((chs_ap (fS A) 81).2 i j hi hj e) hne
theorem cho_up {A : St} {e : Nat} (h0 : ¬ e = 0) (he : e < (cho A).length) : (cho A).getD (e - 1) 0 < (cho A).getD e 0 := chs_up (fS A) 81 (e - 1) e (by omega) he
theorem cho_19 (A : St) : (cho A).length ≤ 19 := Nat.le_trans (chs_len (fS A) 81) (wdt_19 (fS_su A))
theorem pck_at {A : St} {e : Nat} (he : e < (cho A).length) : pckA A (nI e) = nI ((cho A).getD e 0) := by
  have h := cho_19 A
  unfold pckA
  rw [if_pos ((nI_ltI (by omega) (show (chs (fS A) 81).length < 2 ^ 31 from by have : (chs (fS A) 81).length ≤ 19 := h; omega)).mpr he), iN_nI (by omega)]
  rfl
theorem pck_end (A : St) : pckA A (nI (cho A).length) = -1 := by
  unfold pckA cho
  rw [if_neg (fun z => absurd (Int32.lt_iff_toInt_lt.mp z) (by omega))]
noncomputable def liP (A : St) (d : Nat) (j : Nat) : Bool := lieN ((cho A).getD j 0) d == 0
theorem allN_at {P : Nat → Bool} : ∀ n, allN P n = true → ∀ k, k < n → P k = true
  | 0, _, k, h => absurd h (Nat.not_lt_zero k)
  | n + 1, h, k, hk => by
    obtain ⟨h1, h2⟩ := Bool.and_eq_true_iff.mp h
    by_cases e : k = n
    · rw [e]; exact h2
    · exact allN_at n h1 k (by omega)
theorem max_no {A : St} {d : Nat} (hd : d < 81) : (freA A d && allN (liP A d) (cho A).length) = false := by
  cases e : freA A d with
  | false => rfl
  | true =>
    obtain ⟨i, hi, hc⟩ := chs_max (fS_su A) (d := d) (by rw [fS_at hd]; exact e)
    cases e2 : allN (liP A d) (cho A).length with
    | false => rfl
    | true =>
      have z := lie_no (eq_of_beq (allN_at _ e2 i hi))
      have hc2 : crs ((cho A).getD i 0) d = true := hc
      rw [z] at hc2
      cases hc2
theorem any_ok {w : Wd} {v : Int32} {P : Wd → Prop} : ∀ (r : Option Value) (w' : Wd), (fun (r' : Option Value) (w' : Wd) => r' = some (.int v) ∧ P w') r w' → ∃ v, r = some (.int v) := fun r w' h => ⟨v, h.1⟩
theorem HA_most1 {w : Wd} {A : St} {F : Nat → Bool} (hD : DR w 3 A) (hA : AOK A) (hM : Mo w F) : CLW yL_most cL_most 3 [(0, 5, 6, 16)] 7 138 [.ref 0, .int (nI 1)] w 0 0 (fun r w' => r = some (.int (nI (cho A).length)) ∧ Mo w' (fS A) ∧ Frm K11 w w') := H_most (fr := 6) (lo := 117) (K_X6_most hD hA hM (j := 1) (by decide)) (any_ok (w := w))
theorem HA_most0 {w : Wd} {A : St} {F : Nat → Bool} (hD : DR w 3 A) (hA : AOK A) (hM : Mo w F) : CLW yL_most cL_most 3 [(0, 5, 6, 16)] 7 138 [.ref 0, .int (nI 0)] w 0 0 (fun r w' => r = some (.int (nI (cho A).length)) ∧ Mo w' (fS A) ∧ Frm K11 w w') := by
  have e : mstA A 0 = (cho A).length := (chs_most (fS_su A)).symm
  have z := H_most (fr := 6) (lo := 117) (K_X6_most hD hA hM (j := 0) (by decide)) (any_ok (w := w))
  rw [e] at z
  exact z
theorem HA_pick {w : Wd} {A : St} {F : Nat → Bool} (hD : DR w 3 A) (hA : AOK A) (hM : Mo w F) {e : Nat} (he : e < 2 ^ 31) : CLW yL_pick cL_pick 3 [(0, 5, 6, 23)] 7 138 [.ref 0, .int (nI e)] w 0 0 (fun r w' => r = some (.int (pckA A (nI e))) ∧ Mo w' (fS A) ∧ Frm K11 w w') := H_pick (fr := 6) (lo := 117) (K_X6_pick hD hA hM (nI e) (nI_pos he)) (any_ok (w := w))
theorem HA_pickm {w : Wd} : CLW yL_pick cL_pick 3 [(0, 5, 6, 23)] 7 138 [.ref 0, .int (-1)] w 1 6 (PA w (-101)) := T_pick_0 (fr := 6) (lo := 117) (K_X6_pick_0 (-1) (by decide))
set_option maxRecDepth 20000 in
set_option maxHeartbeats 4000000 in
theorem K_L_isChosen {w : Wd} {A : St} {F : Nat → Bool} (hD : DR w 3 A) (hL : LR w A) (hA : AOK A) (hM : Mo w F) : CLz yL_isChosen cL_isChosen 8 (some .boolean) 8 160 [.ref 0, .ref 204, .ref 205] w (2) (26) (fun r w' => r = some (.int (nI 1)) ∧ Mo w' (fS A) ∧ Frm K12 w w') := by
  have zq_19 := cho_19 A
  refine CLz.of ok_L_isChosen (Nat.le_of_ble_eq_true rfl) (fun x9 us G9 p9 l9 e9 s9 m9 ar9 be9 me9 co9 C hfl hr => ?_)
  have C0 := C
  have ZL175 : ∀ (zd175 : Nat) (d : Nat) (v : Wd), 81 + 1 ≤ d + zd175 → d ≤ 81 → Ic w v A → RN (v.1 207) (fun j => (cho A).getD j 0) (cho A).length → WA (gC G9 (x9 + 1)) p9 l9 e9 (RL9 8 160 (2) (26)) s9 m9 ar9 be9 me9 co9 (QL G9 be9 ar9 s9 w (0, x9) us (2) (26) (fun r w' => r = some (.int (nI 1)) ∧ Mo w' (fS A) ∧ Frm K12 w w')) 8 (207 + 0 + x9) us 175 [some (.ref 0), some (.ref 204), some (.ref 205), some (.int (nI (cho A).length)), some (.ref 207), some (.int (nI d)), none, none] [] (fzM v (1, x9 + 1) (us + 6 + 20)) := by
    intro zd175
    induction zd175 with
    | zero => intro d v zm175 zh_d zh_I zh_R; exfalso; omega
    | succ zd175 zih175 =>
      intro d v zm175 zh_d zh_I zh_R
      have C : aCtx (gC G9 (x9 + 1)) p9 s9 m9 ar9 me9 co9 cL_isChosen 8 yL_isChosen.cls := gC_ctx C
      have hD := zh_I.1
      have hL := zh_I.2.1
      have hM := zh_I.2.2.1
      have hF := zh_I.2.2.2
      have ZL212 : ∀ (zd212 : Nat) (a : Nat), (cho A).length + 1 ≤ a + zd212 → a ≤ (cho A).length → d < 81 → WA (gC G9 (x9 + 1)) p9 l9 e9 (RL9 8 160 (2) (26)) s9 m9 ar9 be9 me9 co9 (QL G9 be9 ar9 s9 w (0, x9) us (2) (26) (fun r w' => r = some (.int (nI 1)) ∧ Mo w' (fS A) ∧ Frm K12 w w')) 8 (207 + 0 + x9) us 212 [some (.ref 0), some (.ref 204), some (.ref 205), some (.int (nI (cho A).length)), some (.ref 207), some (.int (nI d)), some (.int (bI (freA A d && allN (liP A d) a))), some (.int (nI a))] [] (fzM v (1, x9 + 1) (us + 6 + 20)) := by
        intro zd212
        induction zd212 with
        | zero => intro a zm212 zh_a zh_d81; exfalso; omega
        | succ zd212 zih212 =>
          intro a zm212 zh_a zh_d81
          refine a_iload C dL_isChosen_212 rfl ?_
          refine a_iload_n C dL_isChosen_214 rfl rfl ?_
          first | refine n_icmp_ge (tgt := 249) C dL_isChosen_215 (by decide) (by first | decide | omega) (by first | decide | omega) (fun h_215 => ?_) (fun h_215 => ?_) | refine a_icmp_ge (tgt := 249) C dL_isChosen_215 (by decide) (fun h_215 => ?_) (fun h_215 => ?_)
          · have zq_aa : a = (cho A).length := by omega
            subst zq_aa
            refine a_iload C dL_isChosen_249 rfl ?_
            refine b_if_eq (tgt := 256) C dL_isChosen_251 (by decide) (fun h_251 => ?_) (fun h_251 => ?_)
            · refine n_iinc C dL_isChosen_256 rfl (by decide) ?_
              refine a_goto (tgt := 175) C dL_isChosen_259 (by decide) ?_
              refine a_join (aLe_s ?_ (aLe_s ?_ (aLe_s ?_ (aLe_s ?_ (aLe_s ?_ (aLe_s ?_ (aLe_n (aLe_n aLe_nil)))))))) rfl rfl (zih175 (d + 1) v (by omega) (by omega) zh_I zh_R)
              · first | with_reducible rfl | exact gl (by first | with_reducible rfl | (refine iF ?_; simp [h_215, h_251]; done) | (refine iT ?_; simp [h_215, h_251]; done) | (refine iB ?_; simp [h_215, h_251]; done) | (simp [h_215, h_251]; done) | (simp [h_215, h_251]; omega) | omega)
              · first | with_reducible rfl | exact gl (by first | with_reducible rfl | (refine iF ?_; simp [h_215, h_251]; done) | (refine iT ?_; simp [h_215, h_251]; done) | (refine iB ?_; simp [h_215, h_251]; done) | (simp [h_215, h_251]; done) | (simp [h_215, h_251]; omega) | omega)
              · first | with_reducible rfl | exact gl (by first | with_reducible rfl | (refine iF ?_; simp [h_215, h_251]; done) | (refine iT ?_; simp [h_215, h_251]; done) | (refine iB ?_; simp [h_215, h_251]; done) | (simp [h_215, h_251]; done) | (simp [h_215, h_251]; omega) | omega)
              · first | with_reducible rfl | exact gl (by first | with_reducible rfl | (refine iF ?_; simp [h_215, h_251]; done) | (refine iT ?_; simp [h_215, h_251]; done) | (refine iB ?_; simp [h_215, h_251]; done) | (simp [h_215, h_251]; done) | (simp [h_215, h_251]; omega) | omega)
              · first | with_reducible rfl | exact gl (by first | with_reducible rfl | (refine iF ?_; simp [h_215, h_251]; done) | (refine iT ?_; simp [h_215, h_251]; done) | (refine iB ?_; simp [h_215, h_251]; done) | (simp [h_215, h_251]; done) | (simp [h_215, h_251]; omega) | omega)
              · first | with_reducible rfl | exact gl (by first | with_reducible rfl | (refine iF ?_; simp [h_215, h_251]; done) | (refine iT ?_; simp [h_215, h_251]; done) | (refine iB ?_; simp [h_215, h_251]; done) | (simp [h_215, h_251]; done) | (simp [h_215, h_251]; omega) | omega)
            · exact absurd h_251 (by rw [max_no zh_d81]; decide)
          · refine a_via 241 (bI (freA A d && allN (liP A d) (a + 1))) ?_ (fun zJ241 => ?_)
            · refine a_istore C dL_isChosen_241 (by decide) ?_
              refine n_iinc C dL_isChosen_243 rfl (by decide) ?_
              refine a_goto (tgt := 212) C dL_isChosen_246 (by decide) ?_
              refine a_join (aLe_s ?_ (aLe_s ?_ (aLe_s ?_ (aLe_s ?_ (aLe_s ?_ (aLe_s ?_ (aLe_s ?_ (aLe_s ?_ aLe_nil)))))))) rfl rfl (zih212 (a + 1) (by omega) (by omega) zh_d81)
              · first | with_reducible rfl | exact gl (by first | with_reducible rfl | (refine iF ?_; simp [h_215]; done) | (refine iT ?_; simp [h_215]; done) | (refine iB ?_; simp [h_215]; done) | (simp [h_215]; done) | (simp [h_215]; omega) | omega)
              · first | with_reducible rfl | exact gl (by first | with_reducible rfl | (refine iF ?_; simp [h_215]; done) | (refine iT ?_; simp [h_215]; done) | (refine iB ?_; simp [h_215]; done) | (simp [h_215]; done) | (simp [h_215]; omega) | omega)
              · first | with_reducible rfl | exact gl (by first | with_reducible rfl | (refine iF ?_; simp [h_215]; done) | (refine iT ?_; simp [h_215]; done) | (refine iB ?_; simp [h_215]; done) | (simp [h_215]; done) | (simp [h_215]; omega) | omega)
              · first | with_reducible rfl | exact gl (by first | with_reducible rfl | (refine iF ?_; simp [h_215]; done) | (refine iT ?_; simp [h_215]; done) | (refine iB ?_; simp [h_215]; done) | (simp [h_215]; done) | (simp [h_215]; omega) | omega)
              · first | with_reducible rfl | exact gl (by first | with_reducible rfl | (refine iF ?_; simp [h_215]; done) | (refine iT ?_; simp [h_215]; done) | (refine iB ?_; simp [h_215]; done) | (simp [h_215]; done) | (simp [h_215]; omega) | omega)
              · first | with_reducible rfl | exact gl (by first | with_reducible rfl | (refine iF ?_; simp [h_215]; done) | (refine iT ?_; simp [h_215]; done) | (refine iB ?_; simp [h_215]; done) | (simp [h_215]; done) | (simp [h_215]; omega) | omega)
              · first | with_reducible rfl | exact gl (by first | with_reducible rfl | (refine iF ?_; simp [h_215]; done) | (refine iT ?_; simp [h_215]; done) | (refine iB ?_; simp [h_215]; done) | (simp [h_215]; done) | (simp [h_215]; omega) | omega)
              · first | with_reducible rfl | exact gl (by first | with_reducible rfl | (refine iF ?_; simp [h_215]; done) | (refine iT ?_; simp [h_215]; done) | (refine iB ?_; simp [h_215]; done) | (simp [h_215]; done) | (simp [h_215]; omega) | omega)
            · refine a_iload C dL_isChosen_218 rfl ?_
              refine b_if_eq (tgt := 240) C dL_isChosen_220 (by decide) (fun h_220 => ?_) (fun h_220 => ?_)
              · refine a_iconst (v := nI 0) C dL_isChosen_240 (by decide) ?_
                refine a_eq rfl (gl1 ?_) rfl zJ241
                · first | (refine iF ?_; show (freA A d && (allN (liP A d) a && liP A d a)) = false; rw [← Bool.and_assoc, h_220]; rfl) | (refine iF ?_; show (freA A d && (allN (liP A d) a && liP A d a)) = false; rw [← Bool.and_assoc, h_220, show liP A d a = false from beq_eq_false_iff_ne.mpr h_233]; rfl) | (refine iT ?_; show (freA A d && (allN (liP A d) a && liP A d a)) = true; rw [← Bool.and_assoc, h_220, show liP A d a = true from beq_iff_eq.mpr h_233]; rfl)
              · refine a_aload C dL_isChosen_223 rfl ?_
                refine a_iload C dL_isChosen_225 rfl ?_
                refine n_ialdC C dL_isChosen_227 rfl (by omega) (show _ = nI ((cho A).getD a 0) from zh_R a (by omega)) ?_
                refine a_iload C dL_isChosen_228 rfl ?_
                refine g_callS C ((K_L_lie (cho_S (j := a) (by omega)).1 (by omega))).cp sL_92 rfl dL_isChosen_230 (Nat.le_of_ble_eq_true rfl) ⟨Nat.le_of_ble_eq_true rfl, Nat.le_of_ble_eq_true rfl⟩ ⟨by show 207 + 1 + (x9 + 1) ≤ 207 + 0 + x9 + 2; omega, by show us + 6 + 20 ≤ us + 26; omega⟩ ?_
                refine n_if_ne (tgt := 240) C dL_isChosen_233 (by decide) (Nat.lt_trans (lie_lt _ _) (by decide))  (fun h_233 => ?_) (fun h_233 => ?_)
                · refine a_iconst (v := nI 0) C dL_isChosen_240 (by decide) ?_
                  refine a_eq rfl (gl1 ?_) rfl zJ241
                  · first | (refine iF ?_; show (freA A d && (allN (liP A d) a && liP A d a)) = false; rw [← Bool.and_assoc, h_220]; rfl) | (refine iF ?_; show (freA A d && (allN (liP A d) a && liP A d a)) = false; rw [← Bool.and_assoc, h_220, show liP A d a = false from beq_eq_false_iff_ne.mpr h_233]; rfl) | (refine iT ?_; show (freA A d && (allN (liP A d) a && liP A d a)) = true; rw [← Bool.and_assoc, h_220, show liP A d a = true from beq_iff_eq.mpr h_233]; rfl)
                · refine a_iconst (v := nI 1) C dL_isChosen_236 (by decide) ?_
                  refine a_goto (tgt := 241) C dL_isChosen_237 (by decide) ?_
                  refine a_eq rfl (gl1 ?_) rfl zJ241
                  · first | (refine iF ?_; show (freA A d && (allN (liP A d) a && liP A d a)) = false; rw [← Bool.and_assoc, h_220]; rfl) | (refine iF ?_; show (freA A d && (allN (liP A d) a && liP A d a)) = false; rw [← Bool.and_assoc, h_220, show liP A d a = false from beq_eq_false_iff_ne.mpr h_233]; rfl) | (refine iT ?_; show (freA A d && (allN (liP A d) a && liP A d a)) = true; rw [← Bool.and_assoc, h_220, show liP A d a = true from beq_iff_eq.mpr h_233]; rfl)
      refine a_iload C dL_isChosen_175 rfl ?_
      refine a_bipush (v := nI 81) C dL_isChosen_177 (by decide) ?_
      first | refine n_icmp_ge (tgt := 262) C dL_isChosen_179 (by decide) (by first | decide | omega) (by first | decide | omega) (fun h_179 => ?_) (fun h_179 => ?_) | refine a_icmp_ge (tgt := 262) C dL_isChosen_179 (by decide) (fun h_179 => ?_) (fun h_179 => ?_)
      · refine a_sub (L' := [none]) (fun i v h => by
          match i, h with
          | 0, h => cases h
          | i + 1, h => simp at h) ?_
        refine a_dropC (okL_of rfl) (fun v hv => by cases hv) ?_
        refine a_iconst (v := nI 1) C dL_isChosen_262 (by decide) ?_
        refine l_iret C0 hr ?_ dL_isChosen_263 ⟨?_, hM, hF⟩
        · rfl
        · rfl
      · refine a_via 207 (bI (freA A d)) ?_ (fun zJ207 => ?_)
        · refine a_istore C dL_isChosen_207 (by decide) ?_
          refine a_iconst (v := nI 0) C dL_isChosen_209 (by decide) ?_
          refine a_istore C dL_isChosen_210 (by decide) ?_
          refine a_join (aLe_s ?_ (aLe_s ?_ (aLe_s ?_ (aLe_s ?_ (aLe_s ?_ (aLe_s ?_ (aLe_s ?_ (aLe_s ?_ aLe_nil)))))))) rfl rfl (ZL212 ((cho A).length + 1) 0 (by omega) (by omega) h_179)
          · first | with_reducible rfl | exact gl (by first | with_reducible rfl | (refine iF ?_; simp [h_179]; done) | (refine iT ?_; simp [h_179]; done) | (refine iB ?_; simp [h_179]; done) | (simp [h_179]; done) | (simp [h_179]; omega) | omega | rfl)
          · first | with_reducible rfl | exact gl (by first | with_reducible rfl | (refine iF ?_; simp [h_179]; done) | (refine iT ?_; simp [h_179]; done) | (refine iB ?_; simp [h_179]; done) | (simp [h_179]; done) | (simp [h_179]; omega) | omega | rfl)
          · first | with_reducible rfl | exact gl (by first | with_reducible rfl | (refine iF ?_; simp [h_179]; done) | (refine iT ?_; simp [h_179]; done) | (refine iB ?_; simp [h_179]; done) | (simp [h_179]; done) | (simp [h_179]; omega) | omega | rfl)
          · first | with_reducible rfl | exact gl (by first | with_reducible rfl | (refine iF ?_; simp [h_179]; done) | (refine iT ?_; simp [h_179]; done) | (refine iB ?_; simp [h_179]; done) | (simp [h_179]; done) | (simp [h_179]; omega) | omega | rfl)
          · first | with_reducible rfl | exact gl (by first | with_reducible rfl | (refine iF ?_; simp [h_179]; done) | (refine iT ?_; simp [h_179]; done) | (refine iB ?_; simp [h_179]; done) | (simp [h_179]; done) | (simp [h_179]; omega) | omega | rfl)
          · first | with_reducible rfl | exact gl (by first | with_reducible rfl | (refine iF ?_; simp [h_179]; done) | (refine iT ?_; simp [h_179]; done) | (refine iB ?_; simp [h_179]; done) | (simp [h_179]; done) | (simp [h_179]; omega) | omega | rfl)
          · exact gl (congrArg bI (Bool.and_true _).symm)
          · first | with_reducible rfl | exact gl (by first | with_reducible rfl | (refine iF ?_; simp [h_179]; done) | (refine iT ?_; simp [h_179]; done) | (refine iB ?_; simp [h_179]; done) | (simp [h_179]; done) | (simp [h_179]; omega) | omega | rfl)
        · refine a_iload C dL_isChosen_182 rfl ?_
          refine a_aload_n C dL_isChosen_184 rfl rfl ?_
          refine g_callS C (K_L_isSound hL hA (by first | assumption | decide | omega)) sL_95 rfl dL_isChosen_185 (Nat.le_of_ble_eq_true rfl) ⟨Nat.le_of_ble_eq_true rfl, Nat.le_of_ble_eq_true rfl⟩ ⟨by show 207 + 1 + (x9 + 1) ≤ 207 + 0 + x9 + 2; omega, by show us + 6 + 20 ≤ us + 26; omega⟩ ?_
          first | refine b_if_eq (tgt := 206) C dL_isChosen_188 (by decide) (fun h_188 => ?_) (fun h_188 => ?_) | refine n_if_eq (tgt := 206) C dL_isChosen_188 (by decide) (by first | decide | omega) (fun h_188 => ?_) (fun h_188 => ?_) | refine a_if_eq (tgt := 206) C dL_isChosen_188 (by decide) (fun h_188 => ?_) (fun h_188 => ?_)
          · refine a_iconst (v := nI 0) C dL_isChosen_206 (by decide) ?_
            refine a_eq rfl (gl1 ?_) rfl zJ207
            · first | (refine iF (?_ : freA A d = false); simp [freA, h_188]; done) | (refine iF (?_ : freA A d = false); simp [freA, h_188, h_199]; done) | (refine iT (?_ : freA A d = true); simp [freA, h_188, h_199]; done)
          · refine a_iload C dL_isChosen_191 rfl ?_
            refine a_iconst (v := (-1)) C dL_isChosen_193 (by decide) ?_
            refine a_aload_n C dL_isChosen_194 rfl rfl ?_
            refine a_aload_n C dL_isChosen_195 rfl rfl ?_
            refine g_callS C (K_L_clash hL hA _ (by first | assumption | decide | omega)) sL_99 rfl dL_isChosen_196 (Nat.le_of_ble_eq_true rfl) ⟨Nat.le_of_ble_eq_true rfl, Nat.le_of_ble_eq_true rfl⟩ ⟨by show 207 + 1 + (x9 + 1) ≤ 207 + 0 + x9 + 2; omega, by show us + 6 + 20 ≤ us + 26; omega⟩ ?_
            refine n_if_ne (tgt := 206) C dL_isChosen_199 (by decide) (by have := clsA_lt A d (-1) (kN A); unfold clA; omega)  (fun h_199 => ?_) (fun h_199 => ?_)
            · refine a_iconst (v := nI 0) C dL_isChosen_206 (by decide) ?_
              refine a_eq rfl (gl1 ?_) rfl zJ207
              · first | (refine iF (?_ : freA A d = false); simp [freA, h_188]; done) | (refine iF (?_ : freA A d = false); simp [freA, h_188, h_199]; done) | (refine iT (?_ : freA A d = true); simp [freA, h_188, h_199]; done)
            · refine a_iconst (v := nI 1) C dL_isChosen_202 (by decide) ?_
              refine a_goto (tgt := 207) C dL_isChosen_203 (by decide) ?_
              refine a_eq rfl (gl1 ?_) rfl zJ207
              · first | (refine iF (?_ : freA A d = false); simp [freA, h_188]; done) | (refine iF (?_ : freA A d = false); simp [freA, h_188, h_199]; done) | (refine iT (?_ : freA A d = true); simp [freA, h_188, h_199]; done)
  have ZL45 : ∀ (zd45 : Nat) (e : Nat) (v : Wd), (cho A).length + 1 ≤ e + zd45 → e ≤ (cho A).length → Ic w v A → RN (v.1 207) (fun j => (cho A).getD j 0) e → WA (gC G9 (x9 + 1)) p9 l9 e9 (RL9 8 160 (2) (26)) s9 m9 ar9 be9 me9 co9 (QL G9 be9 ar9 s9 w (0, x9) us (2) (26) (fun r w' => r = some (.int (nI 1)) ∧ Mo w' (fS A) ∧ Frm K12 w w')) 8 (207 + 0 + x9) us 45 [some (.ref 0), some (.ref 204), some (.ref 205), some (.int (nI (cho A).length)), some (.ref 207), some (.int (nI e)), none, none] [] (fzM v (1, x9 + 1) (us + 6 + 20)) := by
    intro zd45
    induction zd45 with
    | zero => intro e v zm45 zh_e zh_I zh_R; exfalso; omega
    | succ zd45 zih45 =>
      intro e v zm45 zh_e zh_I zh_R
      have C : aCtx (gC G9 (x9 + 1)) p9 s9 m9 ar9 me9 co9 cL_isChosen 8 yL_isChosen.cls := gC_ctx C
      have hD := zh_I.1
      have hL := zh_I.2.1
      have hM := zh_I.2.2.1
      have hF := zh_I.2.2.2
      have ZL118 : ∀ (zd118 : Nat) (a : Nat) (v3 : Wd), e + 1 ≤ a + zd118 → a ≤ e → e < (cho A).length → Ic w v3 A → RN (v3.1 207) (fun j => (cho A).getD j 0) (e + 1) → WA (gC G9 (x9 + 1)) p9 l9 e9 (RL9 8 160 (2) (26)) s9 m9 ar9 be9 me9 co9 (QL G9 be9 ar9 s9 w (0, x9) us (2) (26) (fun r w' => r = some (.int (nI 1)) ∧ Mo w' (fS A) ∧ Frm K12 w w')) 8 (207 + 0 + x9) us 118 [some (.ref 0), some (.ref 204), some (.ref 205), some (.int (nI (cho A).length)), some (.ref 207), some (.int (nI e)), some (.int (nI 1)), some (.int (nI a))] [] (fzM v3 (1, x9 + 1) (us + 6 + 20)) := by
        intro zd118
        induction zd118 with
        | zero => intro a v3 zm118 zh_a zh_el zh_I3 zh_R3; exfalso; omega
        | succ zd118 zih118 =>
          intro a v3 zm118 zh_a zh_el zh_I3 zh_R3
          skip
          refine a_iload C dL_isChosen_118 rfl ?_
          refine a_iload C dL_isChosen_120 rfl ?_
          first | refine n_icmp_ge (tgt := 159) C dL_isChosen_122 (by decide) (by first | decide | omega) (by first | decide | omega) (fun h_122 => ?_) (fun h_122 => ?_) | refine a_icmp_ge (tgt := 159) C dL_isChosen_122 (by decide) (fun h_122 => ?_) (fun h_122 => ?_)
          · refine a_iload C dL_isChosen_159 rfl ?_
            refine n_if_ne (tgt := 166) C dL_isChosen_161 (by decide) (by first | decide | omega)  (fun h_161 => ?_) (fun h_161 => ?_)
            · refine n_iinc C dL_isChosen_166 rfl (by decide) ?_
              refine a_goto (tgt := 45) C dL_isChosen_169 (by decide) ?_
              refine a_join (aLe_s ?_ (aLe_s ?_ (aLe_s ?_ (aLe_s ?_ (aLe_s ?_ (aLe_s ?_ (aLe_n (aLe_n aLe_nil)))))))) rfl rfl (zih45 (e + 1) v3 (by omega) (by omega) zh_I3 zh_R3)
              · first | with_reducible rfl | exact gl (by first | with_reducible rfl | (refine iF ?_; simp [h_122, h_161, (beq_eq_false_iff_ne.mpr h_161), (bne_iff_ne.mpr h_161)]; done) | (refine iT ?_; simp [h_122, h_161, (beq_eq_false_iff_ne.mpr h_161), (bne_iff_ne.mpr h_161)]; done) | (refine iB ?_; simp [h_122, h_161, (beq_eq_false_iff_ne.mpr h_161), (bne_iff_ne.mpr h_161)]; done) | (simp [h_122, h_161, (beq_eq_false_iff_ne.mpr h_161), (bne_iff_ne.mpr h_161)]; done) | (simp [h_122, h_161, (beq_eq_false_iff_ne.mpr h_161), (bne_iff_ne.mpr h_161)]; omega) | omega)
              · first | with_reducible rfl | exact gl (by first | with_reducible rfl | (refine iF ?_; simp [h_122, h_161, (beq_eq_false_iff_ne.mpr h_161), (bne_iff_ne.mpr h_161)]; done) | (refine iT ?_; simp [h_122, h_161, (beq_eq_false_iff_ne.mpr h_161), (bne_iff_ne.mpr h_161)]; done) | (refine iB ?_; simp [h_122, h_161, (beq_eq_false_iff_ne.mpr h_161), (bne_iff_ne.mpr h_161)]; done) | (simp [h_122, h_161, (beq_eq_false_iff_ne.mpr h_161), (bne_iff_ne.mpr h_161)]; done) | (simp [h_122, h_161, (beq_eq_false_iff_ne.mpr h_161), (bne_iff_ne.mpr h_161)]; omega) | omega)
              · first | with_reducible rfl | exact gl (by first | with_reducible rfl | (refine iF ?_; simp [h_122, h_161, (beq_eq_false_iff_ne.mpr h_161), (bne_iff_ne.mpr h_161)]; done) | (refine iT ?_; simp [h_122, h_161, (beq_eq_false_iff_ne.mpr h_161), (bne_iff_ne.mpr h_161)]; done) | (refine iB ?_; simp [h_122, h_161, (beq_eq_false_iff_ne.mpr h_161), (bne_iff_ne.mpr h_161)]; done) | (simp [h_122, h_161, (beq_eq_false_iff_ne.mpr h_161), (bne_iff_ne.mpr h_161)]; done) | (simp [h_122, h_161, (beq_eq_false_iff_ne.mpr h_161), (bne_iff_ne.mpr h_161)]; omega) | omega)
              · first | with_reducible rfl | exact gl (by first | with_reducible rfl | (refine iF ?_; simp [h_122, h_161, (beq_eq_false_iff_ne.mpr h_161), (bne_iff_ne.mpr h_161)]; done) | (refine iT ?_; simp [h_122, h_161, (beq_eq_false_iff_ne.mpr h_161), (bne_iff_ne.mpr h_161)]; done) | (refine iB ?_; simp [h_122, h_161, (beq_eq_false_iff_ne.mpr h_161), (bne_iff_ne.mpr h_161)]; done) | (simp [h_122, h_161, (beq_eq_false_iff_ne.mpr h_161), (bne_iff_ne.mpr h_161)]; done) | (simp [h_122, h_161, (beq_eq_false_iff_ne.mpr h_161), (bne_iff_ne.mpr h_161)]; omega) | omega)
              · first | with_reducible rfl | exact gl (by first | with_reducible rfl | (refine iF ?_; simp [h_122, h_161, (beq_eq_false_iff_ne.mpr h_161), (bne_iff_ne.mpr h_161)]; done) | (refine iT ?_; simp [h_122, h_161, (beq_eq_false_iff_ne.mpr h_161), (bne_iff_ne.mpr h_161)]; done) | (refine iB ?_; simp [h_122, h_161, (beq_eq_false_iff_ne.mpr h_161), (bne_iff_ne.mpr h_161)]; done) | (simp [h_122, h_161, (beq_eq_false_iff_ne.mpr h_161), (bne_iff_ne.mpr h_161)]; done) | (simp [h_122, h_161, (beq_eq_false_iff_ne.mpr h_161), (bne_iff_ne.mpr h_161)]; omega) | omega)
              · first | with_reducible rfl | exact gl (by first | with_reducible rfl | (refine iF ?_; simp [h_122, h_161, (beq_eq_false_iff_ne.mpr h_161), (bne_iff_ne.mpr h_161)]; done) | (refine iT ?_; simp [h_122, h_161, (beq_eq_false_iff_ne.mpr h_161), (bne_iff_ne.mpr h_161)]; done) | (refine iB ?_; simp [h_122, h_161, (beq_eq_false_iff_ne.mpr h_161), (bne_iff_ne.mpr h_161)]; done) | (simp [h_122, h_161, (beq_eq_false_iff_ne.mpr h_161), (bne_iff_ne.mpr h_161)]; done) | (simp [h_122, h_161, (beq_eq_false_iff_ne.mpr h_161), (bne_iff_ne.mpr h_161)]; omega) | omega)
            · exact absurd h_161 (by decide)
          · refine a_iload C dL_isChosen_125 rfl ?_
            refine n_if_eq (tgt := 150) C dL_isChosen_127 (by decide) (by first | decide | omega)  (fun h_127 => ?_) (fun h_127 => ?_)
            · exact absurd h_127 (by decide)
            · refine a_aload C dL_isChosen_130 rfl ?_
              refine a_iload C dL_isChosen_132 rfl ?_
              refine n_ialdC C dL_isChosen_134 rfl (by omega) (show _ = nI ((cho A).getD a 0) from zh_R3 a (by omega)) ?_
              refine a_aload C dL_isChosen_135 rfl ?_
              refine a_iload C dL_isChosen_137 rfl ?_
              refine n_ialdC C dL_isChosen_139 rfl (by omega) (show _ = nI ((cho A).getD e 0) from zh_R3 e (by omega)) ?_
              refine g_callS C ((K_L_lie (cho_S (j := a) (by omega)).1 (cho_S (j := e) (by omega)).1)).cp sL_92 rfl dL_isChosen_140 (Nat.le_of_ble_eq_true rfl) ⟨Nat.le_of_ble_eq_true rfl, Nat.le_of_ble_eq_true rfl⟩ ⟨by show 207 + 1 + (x9 + 1) ≤ 207 + 0 + x9 + 2; omega, by show us + 6 + 20 ≤ us + 26; omega⟩ ?_
              refine n_if_ne (tgt := 150) C dL_isChosen_143 (by decide) (Nat.lt_trans (lie_lt _ _) (by decide))  (fun h_143 => ?_) (fun h_143 => ?_)
              · exact absurd (cho_ap (by omega) zh_el (by omega)) h_143
              · refine a_iconst (v := nI 1) C dL_isChosen_146 (by decide) ?_
                refine a_goto (tgt := 151) C dL_isChosen_147 (by decide) ?_
                refine a_istore C dL_isChosen_151 (by decide) ?_
                refine n_iinc C dL_isChosen_153 rfl (by decide) ?_
                refine a_goto (tgt := 118) C dL_isChosen_156 (by decide) ?_
                refine a_join (aLe_s ?_ (aLe_s ?_ (aLe_s ?_ (aLe_s ?_ (aLe_s ?_ (aLe_s ?_ (aLe_s ?_ (aLe_s ?_ aLe_nil)))))))) rfl rfl (zih118 (a + 1) v3 (by omega) (by omega) zh_el zh_I3 zh_R3)
                · first | with_reducible rfl | exact gl (by first | with_reducible rfl | (refine iF ?_; simp [h_122, h_127, (beq_eq_false_iff_ne.mpr h_127), (bne_iff_ne.mpr h_127), (eq_true h_143), (beq_iff_eq.mpr h_143), (bne_eq_false_iff_eq.mpr h_143)]; done) | (refine iT ?_; simp [h_122, h_127, (beq_eq_false_iff_ne.mpr h_127), (bne_iff_ne.mpr h_127), (eq_true h_143), (beq_iff_eq.mpr h_143), (bne_eq_false_iff_eq.mpr h_143)]; done) | (refine iB ?_; simp [h_122, h_127, (beq_eq_false_iff_ne.mpr h_127), (bne_iff_ne.mpr h_127), (eq_true h_143), (beq_iff_eq.mpr h_143), (bne_eq_false_iff_eq.mpr h_143)]; done) | (simp [h_122, h_127, (beq_eq_false_iff_ne.mpr h_127), (bne_iff_ne.mpr h_127), (eq_true h_143), (beq_iff_eq.mpr h_143), (bne_eq_false_iff_eq.mpr h_143)]; done) | (simp [h_122, h_127, (beq_eq_false_iff_ne.mpr h_127), (bne_iff_ne.mpr h_127), (eq_true h_143), (beq_iff_eq.mpr h_143), (bne_eq_false_iff_eq.mpr h_143)]; omega) | omega)
                · first | with_reducible rfl | exact gl (by first | with_reducible rfl | (refine iF ?_; simp [h_122, h_127, (beq_eq_false_iff_ne.mpr h_127), (bne_iff_ne.mpr h_127), (eq_true h_143), (beq_iff_eq.mpr h_143), (bne_eq_false_iff_eq.mpr h_143)]; done) | (refine iT ?_; simp [h_122, h_127, (beq_eq_false_iff_ne.mpr h_127), (bne_iff_ne.mpr h_127), (eq_true h_143), (beq_iff_eq.mpr h_143), (bne_eq_false_iff_eq.mpr h_143)]; done) | (refine iB ?_; simp [h_122, h_127, (beq_eq_false_iff_ne.mpr h_127), (bne_iff_ne.mpr h_127), (eq_true h_143), (beq_iff_eq.mpr h_143), (bne_eq_false_iff_eq.mpr h_143)]; done) | (simp [h_122, h_127, (beq_eq_false_iff_ne.mpr h_127), (bne_iff_ne.mpr h_127), (eq_true h_143), (beq_iff_eq.mpr h_143), (bne_eq_false_iff_eq.mpr h_143)]; done) | (simp [h_122, h_127, (beq_eq_false_iff_ne.mpr h_127), (bne_iff_ne.mpr h_127), (eq_true h_143), (beq_iff_eq.mpr h_143), (bne_eq_false_iff_eq.mpr h_143)]; omega) | omega)
                · first | with_reducible rfl | exact gl (by first | with_reducible rfl | (refine iF ?_; simp [h_122, h_127, (beq_eq_false_iff_ne.mpr h_127), (bne_iff_ne.mpr h_127), (eq_true h_143), (beq_iff_eq.mpr h_143), (bne_eq_false_iff_eq.mpr h_143)]; done) | (refine iT ?_; simp [h_122, h_127, (beq_eq_false_iff_ne.mpr h_127), (bne_iff_ne.mpr h_127), (eq_true h_143), (beq_iff_eq.mpr h_143), (bne_eq_false_iff_eq.mpr h_143)]; done) | (refine iB ?_; simp [h_122, h_127, (beq_eq_false_iff_ne.mpr h_127), (bne_iff_ne.mpr h_127), (eq_true h_143), (beq_iff_eq.mpr h_143), (bne_eq_false_iff_eq.mpr h_143)]; done) | (simp [h_122, h_127, (beq_eq_false_iff_ne.mpr h_127), (bne_iff_ne.mpr h_127), (eq_true h_143), (beq_iff_eq.mpr h_143), (bne_eq_false_iff_eq.mpr h_143)]; done) | (simp [h_122, h_127, (beq_eq_false_iff_ne.mpr h_127), (bne_iff_ne.mpr h_127), (eq_true h_143), (beq_iff_eq.mpr h_143), (bne_eq_false_iff_eq.mpr h_143)]; omega) | omega)
                · first | with_reducible rfl | exact gl (by first | with_reducible rfl | (refine iF ?_; simp [h_122, h_127, (beq_eq_false_iff_ne.mpr h_127), (bne_iff_ne.mpr h_127), (eq_true h_143), (beq_iff_eq.mpr h_143), (bne_eq_false_iff_eq.mpr h_143)]; done) | (refine iT ?_; simp [h_122, h_127, (beq_eq_false_iff_ne.mpr h_127), (bne_iff_ne.mpr h_127), (eq_true h_143), (beq_iff_eq.mpr h_143), (bne_eq_false_iff_eq.mpr h_143)]; done) | (refine iB ?_; simp [h_122, h_127, (beq_eq_false_iff_ne.mpr h_127), (bne_iff_ne.mpr h_127), (eq_true h_143), (beq_iff_eq.mpr h_143), (bne_eq_false_iff_eq.mpr h_143)]; done) | (simp [h_122, h_127, (beq_eq_false_iff_ne.mpr h_127), (bne_iff_ne.mpr h_127), (eq_true h_143), (beq_iff_eq.mpr h_143), (bne_eq_false_iff_eq.mpr h_143)]; done) | (simp [h_122, h_127, (beq_eq_false_iff_ne.mpr h_127), (bne_iff_ne.mpr h_127), (eq_true h_143), (beq_iff_eq.mpr h_143), (bne_eq_false_iff_eq.mpr h_143)]; omega) | omega)
                · first | with_reducible rfl | exact gl (by first | with_reducible rfl | (refine iF ?_; simp [h_122, h_127, (beq_eq_false_iff_ne.mpr h_127), (bne_iff_ne.mpr h_127), (eq_true h_143), (beq_iff_eq.mpr h_143), (bne_eq_false_iff_eq.mpr h_143)]; done) | (refine iT ?_; simp [h_122, h_127, (beq_eq_false_iff_ne.mpr h_127), (bne_iff_ne.mpr h_127), (eq_true h_143), (beq_iff_eq.mpr h_143), (bne_eq_false_iff_eq.mpr h_143)]; done) | (refine iB ?_; simp [h_122, h_127, (beq_eq_false_iff_ne.mpr h_127), (bne_iff_ne.mpr h_127), (eq_true h_143), (beq_iff_eq.mpr h_143), (bne_eq_false_iff_eq.mpr h_143)]; done) | (simp [h_122, h_127, (beq_eq_false_iff_ne.mpr h_127), (bne_iff_ne.mpr h_127), (eq_true h_143), (beq_iff_eq.mpr h_143), (bne_eq_false_iff_eq.mpr h_143)]; done) | (simp [h_122, h_127, (beq_eq_false_iff_ne.mpr h_127), (bne_iff_ne.mpr h_127), (eq_true h_143), (beq_iff_eq.mpr h_143), (bne_eq_false_iff_eq.mpr h_143)]; omega) | omega)
                · first | with_reducible rfl | exact gl (by first | with_reducible rfl | (refine iF ?_; simp [h_122, h_127, (beq_eq_false_iff_ne.mpr h_127), (bne_iff_ne.mpr h_127), (eq_true h_143), (beq_iff_eq.mpr h_143), (bne_eq_false_iff_eq.mpr h_143)]; done) | (refine iT ?_; simp [h_122, h_127, (beq_eq_false_iff_ne.mpr h_127), (bne_iff_ne.mpr h_127), (eq_true h_143), (beq_iff_eq.mpr h_143), (bne_eq_false_iff_eq.mpr h_143)]; done) | (refine iB ?_; simp [h_122, h_127, (beq_eq_false_iff_ne.mpr h_127), (bne_iff_ne.mpr h_127), (eq_true h_143), (beq_iff_eq.mpr h_143), (bne_eq_false_iff_eq.mpr h_143)]; done) | (simp [h_122, h_127, (beq_eq_false_iff_ne.mpr h_127), (bne_iff_ne.mpr h_127), (eq_true h_143), (beq_iff_eq.mpr h_143), (bne_eq_false_iff_eq.mpr h_143)]; done) | (simp [h_122, h_127, (beq_eq_false_iff_ne.mpr h_127), (bne_iff_ne.mpr h_127), (eq_true h_143), (beq_iff_eq.mpr h_143), (bne_eq_false_iff_eq.mpr h_143)]; omega) | omega)
                · first | with_reducible rfl | exact gl (by first | with_reducible rfl | (refine iF ?_; simp [h_122, h_127, (beq_eq_false_iff_ne.mpr h_127), (bne_iff_ne.mpr h_127), (eq_true h_143), (beq_iff_eq.mpr h_143), (bne_eq_false_iff_eq.mpr h_143)]; done) | (refine iT ?_; simp [h_122, h_127, (beq_eq_false_iff_ne.mpr h_127), (bne_iff_ne.mpr h_127), (eq_true h_143), (beq_iff_eq.mpr h_143), (bne_eq_false_iff_eq.mpr h_143)]; done) | (refine iB ?_; simp [h_122, h_127, (beq_eq_false_iff_ne.mpr h_127), (bne_iff_ne.mpr h_127), (eq_true h_143), (beq_iff_eq.mpr h_143), (bne_eq_false_iff_eq.mpr h_143)]; done) | (simp [h_122, h_127, (beq_eq_false_iff_ne.mpr h_127), (bne_iff_ne.mpr h_127), (eq_true h_143), (beq_iff_eq.mpr h_143), (bne_eq_false_iff_eq.mpr h_143)]; done) | (simp [h_122, h_127, (beq_eq_false_iff_ne.mpr h_127), (bne_iff_ne.mpr h_127), (eq_true h_143), (beq_iff_eq.mpr h_143), (bne_eq_false_iff_eq.mpr h_143)]; omega) | omega)
                · first | with_reducible rfl | exact gl (by first | with_reducible rfl | (refine iF ?_; simp [h_122, h_127, (beq_eq_false_iff_ne.mpr h_127), (bne_iff_ne.mpr h_127), (eq_true h_143), (beq_iff_eq.mpr h_143), (bne_eq_false_iff_eq.mpr h_143)]; done) | (refine iT ?_; simp [h_122, h_127, (beq_eq_false_iff_ne.mpr h_127), (bne_iff_ne.mpr h_127), (eq_true h_143), (beq_iff_eq.mpr h_143), (bne_eq_false_iff_eq.mpr h_143)]; done) | (refine iB ?_; simp [h_122, h_127, (beq_eq_false_iff_ne.mpr h_127), (bne_iff_ne.mpr h_127), (eq_true h_143), (beq_iff_eq.mpr h_143), (bne_eq_false_iff_eq.mpr h_143)]; done) | (simp [h_122, h_127, (beq_eq_false_iff_ne.mpr h_127), (bne_iff_ne.mpr h_127), (eq_true h_143), (beq_iff_eq.mpr h_143), (bne_eq_false_iff_eq.mpr h_143)]; done) | (simp [h_122, h_127, (beq_eq_false_iff_ne.mpr h_127), (bne_iff_ne.mpr h_127), (eq_true h_143), (beq_iff_eq.mpr h_143), (bne_eq_false_iff_eq.mpr h_143)]; omega) | omega)
      refine a_iload C dL_isChosen_45 rfl ?_
      refine a_iload_n C dL_isChosen_47 rfl rfl ?_
      first | refine n_icmp_ge (tgt := 172) C dL_isChosen_48 (by decide) (by first | decide | omega) (by first | decide | omega) (fun h_48 => ?_) (fun h_48 => ?_) | refine a_icmp_ge (tgt := 172) C dL_isChosen_48 (by decide) (fun h_48 => ?_) (fun h_48 => ?_)
      · have zq_ee : e = (cho A).length := by omega
        rw [zq_ee] at zh_R
        refine a_iconst (v := nI 0) C dL_isChosen_172 (by decide) ?_
        refine a_istore C dL_isChosen_173 (by decide) ?_
        refine a_join (aLe_s ?_ (aLe_s ?_ (aLe_s ?_ (aLe_s ?_ (aLe_s ?_ (aLe_s ?_ (aLe_n (aLe_n aLe_nil)))))))) rfl rfl (ZL175 (81 + 1) 0 v (by omega) (by omega) zh_I zh_R)
        · first | with_reducible rfl | exact gl (by first | with_reducible rfl | (refine iF ?_; simp [h_48]; done) | (refine iT ?_; simp [h_48]; done) | (refine iB ?_; simp [h_48]; done) | (simp [h_48]; done) | (simp [h_48]; omega) | omega | rfl)
        · first | with_reducible rfl | exact gl (by first | with_reducible rfl | (refine iF ?_; simp [h_48]; done) | (refine iT ?_; simp [h_48]; done) | (refine iB ?_; simp [h_48]; done) | (simp [h_48]; done) | (simp [h_48]; omega) | omega | rfl)
        · first | with_reducible rfl | exact gl (by first | with_reducible rfl | (refine iF ?_; simp [h_48]; done) | (refine iT ?_; simp [h_48]; done) | (refine iB ?_; simp [h_48]; done) | (simp [h_48]; done) | (simp [h_48]; omega) | omega | rfl)
        · first | with_reducible rfl | exact gl (by first | with_reducible rfl | (refine iF ?_; simp [h_48]; done) | (refine iT ?_; simp [h_48]; done) | (refine iB ?_; simp [h_48]; done) | (simp [h_48]; done) | (simp [h_48]; omega) | omega | rfl)
        · first | with_reducible rfl | exact gl (by first | with_reducible rfl | (refine iF ?_; simp [h_48]; done) | (refine iT ?_; simp [h_48]; done) | (refine iB ?_; simp [h_48]; done) | (simp [h_48]; done) | (simp [h_48]; omega) | omega | rfl)
        · first | with_reducible rfl | exact gl (by first | with_reducible rfl | (refine iF ?_; simp [h_48]; done) | (refine iT ?_; simp [h_48]; done) | (refine iB ?_; simp [h_48]; done) | (simp [h_48]; done) | (simp [h_48]; omega) | omega | rfl)
      · obtain ⟨zq_81, zq_s1, zq_s2⟩ := cho_S h_48
        refine a_aload C dL_isChosen_51 rfl ?_
        refine a_iload C dL_isChosen_53 rfl ?_
        refine a_aload_n C dL_isChosen_55 rfl rfl ?_
        refine a_iload C dL_isChosen_56 rfl ?_
        refine l0_callSW C hfl _ (HA_pick hD hA hM (by omega)) sW_179 dL_isChosen_58 rfl (Nat.le_of_ble_eq_true rfl) ⟨Nat.le_of_ble_eq_true rfl, Nat.le_of_ble_eq_true rfl⟩ ⟨by show 207 + 1 + (x9 + 1) ≤ 207 + 0 + x9 + 2; omega, by show us + 6 + 20 ≤ us + 26; omega⟩ (fun zr58 zw58 zp58 => ?_)
        obtain ⟨rfl, zq_M58, zq_F58⟩ := zp58
        have zq_I58 := (Ic.step hA zh_I zq_M58 zq_F58)
        refine a_eq (st' := [.int (nI ((cho A).getD e 0)), .int (nI e), .ref 207]) rfl (by rw [pck_at h_48]; rfl) rfl ?_
        refine f_iastC C dL_isChosen_61 rfl (by omega) ?_
        have zq_I3 : Ic w (wSet zw58 207 e (nI ((cho A).getD e 0))) A := Ic.c hA zq_I58.1 (Frm.set Frm.rf (by decide))
        have zq_R3 : RN ((wSet zw58 207 e (nI ((cho A).getD e 0))).1 207) (fun j => (cho A).getD j 0) (e + 1) := by
          intro j hj
          by_cases ej : j = e
          · subst ej
            exact wSet_at
          · rw [wSet_ne (by omega), zq_I58.2]
            exact zh_R j (by omega)
        have hD := zq_I3.1
        have hL := zq_I3.2.1
        have hM := zq_I3.2.2.1
        have hF := zq_I3.2.2.2
        refine a_aload C dL_isChosen_62 rfl ?_
        refine a_iload C dL_isChosen_64 rfl ?_
        refine n_ialdC C dL_isChosen_66 rfl (by omega) (show _ = nI ((cho A).getD e 0) from zq_R3 e (by omega)) ?_
        refine a_aload_n C dL_isChosen_67 rfl rfl ?_
        refine g_callS C (K_L_isSound hL hA zq_81) sL_95 rfl dL_isChosen_68 (Nat.le_of_ble_eq_true rfl) ⟨Nat.le_of_ble_eq_true rfl, Nat.le_of_ble_eq_true rfl⟩ ⟨by show 207 + 1 + (x9 + 1) ≤ 207 + 0 + x9 + 2; omega, by show us + 6 + 20 ≤ us + 26; omega⟩ ?_
        refine b_if_eq (tgt := 112) C dL_isChosen_71 (by decide) (fun h_71 => ?_) (fun h_71 => ?_)
        · exact absurd (h_71.symm.trans zq_s1) (by decide)
        · refine a_aload C dL_isChosen_74 rfl ?_
          refine a_iload C dL_isChosen_76 rfl ?_
          refine n_ialdC C dL_isChosen_78 rfl (by omega) (show _ = nI ((cho A).getD e 0) from zq_R3 e (by omega)) ?_
          refine a_iconst (v := (-1)) C dL_isChosen_79 (by decide) ?_
          refine a_aload_n C dL_isChosen_80 rfl rfl ?_
          refine a_aload_n C dL_isChosen_81 rfl rfl ?_
          refine g_callS C (K_L_clash hL hA _ zq_81) sL_99 rfl dL_isChosen_82 (Nat.le_of_ble_eq_true rfl) ⟨Nat.le_of_ble_eq_true rfl, Nat.le_of_ble_eq_true rfl⟩ ⟨by show 207 + 1 + (x9 + 1) ≤ 207 + 0 + x9 + 2; omega, by show us + 6 + 20 ≤ us + 26; omega⟩ ?_
          refine n_if_ne (tgt := 112) C dL_isChosen_85 (by decide) (by rw [zq_s2]; decide)  (fun h_85 => ?_) (fun h_85 => ?_)
          · exact absurd zq_s2 h_85
          · refine a_iload C dL_isChosen_88 rfl ?_
            refine n_if_eq (tgt := 108) C dL_isChosen_90 (by decide) (by first | decide | omega)  (fun h_90 => ?_) (fun h_90 => ?_)
            · refine a_iconst (v := nI 1) C dL_isChosen_108 (by decide) ?_
              refine a_goto (tgt := 113) C dL_isChosen_109 (by decide) ?_
              refine a_istore C dL_isChosen_113 (by decide) ?_
              refine a_iconst (v := nI 0) C dL_isChosen_115 (by decide) ?_
              refine a_istore C dL_isChosen_116 (by decide) ?_
              refine a_join (aLe_s ?_ (aLe_s ?_ (aLe_s ?_ (aLe_s ?_ (aLe_s ?_ (aLe_s ?_ (aLe_s ?_ (aLe_s ?_ aLe_nil)))))))) rfl rfl (ZL118 (e + 1) 0 _ (by omega) (by omega) h_48 zq_I3 zq_R3)
              · first | with_reducible rfl | exact gl (by first | with_reducible rfl | (refine iF ?_; simp [h_48, h_71, (eq_true h_85), (beq_iff_eq.mpr h_85), (bne_eq_false_iff_eq.mpr h_85)]; done) | (refine iT ?_; simp [h_48, h_71, (eq_true h_85), (beq_iff_eq.mpr h_85), (bne_eq_false_iff_eq.mpr h_85)]; done) | (refine iB ?_; simp [h_48, h_71, (eq_true h_85), (beq_iff_eq.mpr h_85), (bne_eq_false_iff_eq.mpr h_85)]; done) | (simp [h_48, h_71, (eq_true h_85), (beq_iff_eq.mpr h_85), (bne_eq_false_iff_eq.mpr h_85)]; done) | (simp [h_48, h_71, (eq_true h_85), (beq_iff_eq.mpr h_85), (bne_eq_false_iff_eq.mpr h_85)]; omega) | omega | rfl)
              · first | with_reducible rfl | exact gl (by first | with_reducible rfl | (refine iF ?_; simp [h_48, h_71, (eq_true h_85), (beq_iff_eq.mpr h_85), (bne_eq_false_iff_eq.mpr h_85)]; done) | (refine iT ?_; simp [h_48, h_71, (eq_true h_85), (beq_iff_eq.mpr h_85), (bne_eq_false_iff_eq.mpr h_85)]; done) | (refine iB ?_; simp [h_48, h_71, (eq_true h_85), (beq_iff_eq.mpr h_85), (bne_eq_false_iff_eq.mpr h_85)]; done) | (simp [h_48, h_71, (eq_true h_85), (beq_iff_eq.mpr h_85), (bne_eq_false_iff_eq.mpr h_85)]; done) | (simp [h_48, h_71, (eq_true h_85), (beq_iff_eq.mpr h_85), (bne_eq_false_iff_eq.mpr h_85)]; omega) | omega | rfl)
              · first | with_reducible rfl | exact gl (by first | with_reducible rfl | (refine iF ?_; simp [h_48, h_71, (eq_true h_85), (beq_iff_eq.mpr h_85), (bne_eq_false_iff_eq.mpr h_85)]; done) | (refine iT ?_; simp [h_48, h_71, (eq_true h_85), (beq_iff_eq.mpr h_85), (bne_eq_false_iff_eq.mpr h_85)]; done) | (refine iB ?_; simp [h_48, h_71, (eq_true h_85), (beq_iff_eq.mpr h_85), (bne_eq_false_iff_eq.mpr h_85)]; done) | (simp [h_48, h_71, (eq_true h_85), (beq_iff_eq.mpr h_85), (bne_eq_false_iff_eq.mpr h_85)]; done) | (simp [h_48, h_71, (eq_true h_85), (beq_iff_eq.mpr h_85), (bne_eq_false_iff_eq.mpr h_85)]; omega) | omega | rfl)
              · first | with_reducible rfl | exact gl (by first | with_reducible rfl | (refine iF ?_; simp [h_48, h_71, (eq_true h_85), (beq_iff_eq.mpr h_85), (bne_eq_false_iff_eq.mpr h_85)]; done) | (refine iT ?_; simp [h_48, h_71, (eq_true h_85), (beq_iff_eq.mpr h_85), (bne_eq_false_iff_eq.mpr h_85)]; done) | (refine iB ?_; simp [h_48, h_71, (eq_true h_85), (beq_iff_eq.mpr h_85), (bne_eq_false_iff_eq.mpr h_85)]; done) | (simp [h_48, h_71, (eq_true h_85), (beq_iff_eq.mpr h_85), (bne_eq_false_iff_eq.mpr h_85)]; done) | (simp [h_48, h_71, (eq_true h_85), (beq_iff_eq.mpr h_85), (bne_eq_false_iff_eq.mpr h_85)]; omega) | omega | rfl)
              · first | with_reducible rfl | exact gl (by first | with_reducible rfl | (refine iF ?_; simp [h_48, h_71, (eq_true h_85), (beq_iff_eq.mpr h_85), (bne_eq_false_iff_eq.mpr h_85)]; done) | (refine iT ?_; simp [h_48, h_71, (eq_true h_85), (beq_iff_eq.mpr h_85), (bne_eq_false_iff_eq.mpr h_85)]; done) | (refine iB ?_; simp [h_48, h_71, (eq_true h_85), (beq_iff_eq.mpr h_85), (bne_eq_false_iff_eq.mpr h_85)]; done) | (simp [h_48, h_71, (eq_true h_85), (beq_iff_eq.mpr h_85), (bne_eq_false_iff_eq.mpr h_85)]; done) | (simp [h_48, h_71, (eq_true h_85), (beq_iff_eq.mpr h_85), (bne_eq_false_iff_eq.mpr h_85)]; omega) | omega | rfl)
              · first | with_reducible rfl | exact gl (by first | with_reducible rfl | (refine iF ?_; simp [h_48, h_71, (eq_true h_85), (beq_iff_eq.mpr h_85), (bne_eq_false_iff_eq.mpr h_85)]; done) | (refine iT ?_; simp [h_48, h_71, (eq_true h_85), (beq_iff_eq.mpr h_85), (bne_eq_false_iff_eq.mpr h_85)]; done) | (refine iB ?_; simp [h_48, h_71, (eq_true h_85), (beq_iff_eq.mpr h_85), (bne_eq_false_iff_eq.mpr h_85)]; done) | (simp [h_48, h_71, (eq_true h_85), (beq_iff_eq.mpr h_85), (bne_eq_false_iff_eq.mpr h_85)]; done) | (simp [h_48, h_71, (eq_true h_85), (beq_iff_eq.mpr h_85), (bne_eq_false_iff_eq.mpr h_85)]; omega) | omega | rfl)
              · first | with_reducible rfl | exact gl (by first | with_reducible rfl | (refine iF ?_; simp [h_48, h_71, (eq_true h_85), (beq_iff_eq.mpr h_85), (bne_eq_false_iff_eq.mpr h_85)]; done) | (refine iT ?_; simp [h_48, h_71, (eq_true h_85), (beq_iff_eq.mpr h_85), (bne_eq_false_iff_eq.mpr h_85)]; done) | (refine iB ?_; simp [h_48, h_71, (eq_true h_85), (beq_iff_eq.mpr h_85), (bne_eq_false_iff_eq.mpr h_85)]; done) | (simp [h_48, h_71, (eq_true h_85), (beq_iff_eq.mpr h_85), (bne_eq_false_iff_eq.mpr h_85)]; done) | (simp [h_48, h_71, (eq_true h_85), (beq_iff_eq.mpr h_85), (bne_eq_false_iff_eq.mpr h_85)]; omega) | omega | rfl)
              · first | with_reducible rfl | exact gl (by first | with_reducible rfl | (refine iF ?_; simp [h_48, h_71, (eq_true h_85), (beq_iff_eq.mpr h_85), (bne_eq_false_iff_eq.mpr h_85)]; done) | (refine iT ?_; simp [h_48, h_71, (eq_true h_85), (beq_iff_eq.mpr h_85), (bne_eq_false_iff_eq.mpr h_85)]; done) | (refine iB ?_; simp [h_48, h_71, (eq_true h_85), (beq_iff_eq.mpr h_85), (bne_eq_false_iff_eq.mpr h_85)]; done) | (simp [h_48, h_71, (eq_true h_85), (beq_iff_eq.mpr h_85), (bne_eq_false_iff_eq.mpr h_85)]; done) | (simp [h_48, h_71, (eq_true h_85), (beq_iff_eq.mpr h_85), (bne_eq_false_iff_eq.mpr h_85)]; omega) | omega | rfl)
            · refine a_aload C dL_isChosen_93 rfl ?_
              refine a_iload C dL_isChosen_95 rfl ?_
              refine n_ialdC C dL_isChosen_97 rfl (by omega) (show _ = nI ((cho A).getD e 0) from zq_R3 e (by omega)) ?_
              refine a_aload C dL_isChosen_98 rfl ?_
              refine a_iload C dL_isChosen_100 rfl ?_
              refine a_iconst (v := nI 1) C dL_isChosen_102 (by decide) ?_
              refine n_isub C dL_isChosen_103 (by first | decide | omega) ?_
              refine n_ialdC C dL_isChosen_104 rfl (by omega) (show _ = nI ((cho A).getD (e - 1) 0) from zq_R3 (e - 1) (by omega)) ?_
              refine n_icmp_le (tgt := 112) C dL_isChosen_105 (by decide) (by omega) (by have := cho_up h_90 h_48; omega) (fun h_105 => ?_) (fun h_105 => ?_)
              · have zq_u := cho_up h_90 h_48
                exfalso
                omega
              · refine a_iconst (v := nI 1) C dL_isChosen_108 (by decide) ?_
                refine a_goto (tgt := 113) C dL_isChosen_109 (by decide) ?_
                refine a_istore C dL_isChosen_113 (by decide) ?_
                refine a_iconst (v := nI 0) C dL_isChosen_115 (by decide) ?_
                refine a_istore C dL_isChosen_116 (by decide) ?_
                refine a_join (aLe_s ?_ (aLe_s ?_ (aLe_s ?_ (aLe_s ?_ (aLe_s ?_ (aLe_s ?_ (aLe_s ?_ (aLe_s ?_ aLe_nil)))))))) rfl rfl (ZL118 (e + 1) 0 _ (by omega) (by omega) h_48 zq_I3 zq_R3)
                · first | with_reducible rfl | exact gl (by first | with_reducible rfl | (refine iF ?_; simp [h_48, h_71, (eq_true h_85), (beq_iff_eq.mpr h_85), (bne_eq_false_iff_eq.mpr h_85), h_105]; done) | (refine iT ?_; simp [h_48, h_71, (eq_true h_85), (beq_iff_eq.mpr h_85), (bne_eq_false_iff_eq.mpr h_85), h_105]; done) | (refine iB ?_; simp [h_48, h_71, (eq_true h_85), (beq_iff_eq.mpr h_85), (bne_eq_false_iff_eq.mpr h_85), h_105]; done) | (simp [h_48, h_71, (eq_true h_85), (beq_iff_eq.mpr h_85), (bne_eq_false_iff_eq.mpr h_85), h_105]; done) | (simp [h_48, h_71, (eq_true h_85), (beq_iff_eq.mpr h_85), (bne_eq_false_iff_eq.mpr h_85), h_105]; omega) | omega | rfl)
                · first | with_reducible rfl | exact gl (by first | with_reducible rfl | (refine iF ?_; simp [h_48, h_71, (eq_true h_85), (beq_iff_eq.mpr h_85), (bne_eq_false_iff_eq.mpr h_85), h_105]; done) | (refine iT ?_; simp [h_48, h_71, (eq_true h_85), (beq_iff_eq.mpr h_85), (bne_eq_false_iff_eq.mpr h_85), h_105]; done) | (refine iB ?_; simp [h_48, h_71, (eq_true h_85), (beq_iff_eq.mpr h_85), (bne_eq_false_iff_eq.mpr h_85), h_105]; done) | (simp [h_48, h_71, (eq_true h_85), (beq_iff_eq.mpr h_85), (bne_eq_false_iff_eq.mpr h_85), h_105]; done) | (simp [h_48, h_71, (eq_true h_85), (beq_iff_eq.mpr h_85), (bne_eq_false_iff_eq.mpr h_85), h_105]; omega) | omega | rfl)
                · first | with_reducible rfl | exact gl (by first | with_reducible rfl | (refine iF ?_; simp [h_48, h_71, (eq_true h_85), (beq_iff_eq.mpr h_85), (bne_eq_false_iff_eq.mpr h_85), h_105]; done) | (refine iT ?_; simp [h_48, h_71, (eq_true h_85), (beq_iff_eq.mpr h_85), (bne_eq_false_iff_eq.mpr h_85), h_105]; done) | (refine iB ?_; simp [h_48, h_71, (eq_true h_85), (beq_iff_eq.mpr h_85), (bne_eq_false_iff_eq.mpr h_85), h_105]; done) | (simp [h_48, h_71, (eq_true h_85), (beq_iff_eq.mpr h_85), (bne_eq_false_iff_eq.mpr h_85), h_105]; done) | (simp [h_48, h_71, (eq_true h_85), (beq_iff_eq.mpr h_85), (bne_eq_false_iff_eq.mpr h_85), h_105]; omega) | omega | rfl)
                · first | with_reducible rfl | exact gl (by first | with_reducible rfl | (refine iF ?_; simp [h_48, h_71, (eq_true h_85), (beq_iff_eq.mpr h_85), (bne_eq_false_iff_eq.mpr h_85), h_105]; done) | (refine iT ?_; simp [h_48, h_71, (eq_true h_85), (beq_iff_eq.mpr h_85), (bne_eq_false_iff_eq.mpr h_85), h_105]; done) | (refine iB ?_; simp [h_48, h_71, (eq_true h_85), (beq_iff_eq.mpr h_85), (bne_eq_false_iff_eq.mpr h_85), h_105]; done) | (simp [h_48, h_71, (eq_true h_85), (beq_iff_eq.mpr h_85), (bne_eq_false_iff_eq.mpr h_85), h_105]; done) | (simp [h_48, h_71, (eq_true h_85), (beq_iff_eq.mpr h_85), (bne_eq_false_iff_eq.mpr h_85), h_105]; omega) | omega | rfl)
                · first | with_reducible rfl | exact gl (by first | with_reducible rfl | (refine iF ?_; simp [h_48, h_71, (eq_true h_85), (beq_iff_eq.mpr h_85), (bne_eq_false_iff_eq.mpr h_85), h_105]; done) | (refine iT ?_; simp [h_48, h_71, (eq_true h_85), (beq_iff_eq.mpr h_85), (bne_eq_false_iff_eq.mpr h_85), h_105]; done) | (refine iB ?_; simp [h_48, h_71, (eq_true h_85), (beq_iff_eq.mpr h_85), (bne_eq_false_iff_eq.mpr h_85), h_105]; done) | (simp [h_48, h_71, (eq_true h_85), (beq_iff_eq.mpr h_85), (bne_eq_false_iff_eq.mpr h_85), h_105]; done) | (simp [h_48, h_71, (eq_true h_85), (beq_iff_eq.mpr h_85), (bne_eq_false_iff_eq.mpr h_85), h_105]; omega) | omega | rfl)
                · first | with_reducible rfl | exact gl (by first | with_reducible rfl | (refine iF ?_; simp [h_48, h_71, (eq_true h_85), (beq_iff_eq.mpr h_85), (bne_eq_false_iff_eq.mpr h_85), h_105]; done) | (refine iT ?_; simp [h_48, h_71, (eq_true h_85), (beq_iff_eq.mpr h_85), (bne_eq_false_iff_eq.mpr h_85), h_105]; done) | (refine iB ?_; simp [h_48, h_71, (eq_true h_85), (beq_iff_eq.mpr h_85), (bne_eq_false_iff_eq.mpr h_85), h_105]; done) | (simp [h_48, h_71, (eq_true h_85), (beq_iff_eq.mpr h_85), (bne_eq_false_iff_eq.mpr h_85), h_105]; done) | (simp [h_48, h_71, (eq_true h_85), (beq_iff_eq.mpr h_85), (bne_eq_false_iff_eq.mpr h_85), h_105]; omega) | omega | rfl)
                · first | with_reducible rfl | exact gl (by first | with_reducible rfl | (refine iF ?_; simp [h_48, h_71, (eq_true h_85), (beq_iff_eq.mpr h_85), (bne_eq_false_iff_eq.mpr h_85), h_105]; done) | (refine iT ?_; simp [h_48, h_71, (eq_true h_85), (beq_iff_eq.mpr h_85), (bne_eq_false_iff_eq.mpr h_85), h_105]; done) | (refine iB ?_; simp [h_48, h_71, (eq_true h_85), (beq_iff_eq.mpr h_85), (bne_eq_false_iff_eq.mpr h_85), h_105]; done) | (simp [h_48, h_71, (eq_true h_85), (beq_iff_eq.mpr h_85), (bne_eq_false_iff_eq.mpr h_85), h_105]; done) | (simp [h_48, h_71, (eq_true h_85), (beq_iff_eq.mpr h_85), (bne_eq_false_iff_eq.mpr h_85), h_105]; omega) | omega | rfl)
                · first | with_reducible rfl | exact gl (by first | with_reducible rfl | (refine iF ?_; simp [h_48, h_71, (eq_true h_85), (beq_iff_eq.mpr h_85), (bne_eq_false_iff_eq.mpr h_85), h_105]; done) | (refine iT ?_; simp [h_48, h_71, (eq_true h_85), (beq_iff_eq.mpr h_85), (bne_eq_false_iff_eq.mpr h_85), h_105]; done) | (refine iB ?_; simp [h_48, h_71, (eq_true h_85), (beq_iff_eq.mpr h_85), (bne_eq_false_iff_eq.mpr h_85), h_105]; done) | (simp [h_48, h_71, (eq_true h_85), (beq_iff_eq.mpr h_85), (bne_eq_false_iff_eq.mpr h_85), h_105]; done) | (simp [h_48, h_71, (eq_true h_85), (beq_iff_eq.mpr h_85), (bne_eq_false_iff_eq.mpr h_85), h_105]; omega) | omega | rfl)
  refine a_pad 5 ?_
  refine a_eq (L' := [some (.ref 0), some (.ref 204), some (.ref 205), none, none, none, none, none]) rfl rfl rfl ?_
  refine a_aload_n C dL_isChosen_0 rfl rfl ?_
  refine a_iconst (v := nI 1) C dL_isChosen_1 (by decide) ?_
  refine l0_callSW C hfl _ (HA_most1 hD hA hM) sW_177 dL_isChosen_2 rfl (Nat.le_of_ble_eq_true rfl) ⟨Nat.le_of_ble_eq_true rfl, Nat.le_of_ble_eq_true rfl⟩ ⟨Nat.le_add_right _ _, Nat.le_add_right _ _⟩ (fun zr2 zw2 zp2 => ?_)
  obtain ⟨rfl, zq_M2, zq_F2⟩ := zp2
  have zq_I2 := Ic.first hA hD hL zq_M2 zq_F2
  have hD := zq_I2.1
  have hL := zq_I2.2.1
  have hM := zq_I2.2.2.1
  have hF := zq_I2.2.2.2
  refine a_istore_n C dL_isChosen_5 rfl (by decide) ?_
  refine a_aload_n C dL_isChosen_6 rfl rfl ?_
  refine a_iconst (v := nI 0) C dL_isChosen_7 (by decide) ?_
  refine l0_callSW C hfl _ (HA_most0 hD hA hM) sW_177 dL_isChosen_8 rfl (Nat.le_of_ble_eq_true rfl) ⟨Nat.le_of_ble_eq_true rfl, Nat.le_of_ble_eq_true rfl⟩ ⟨Nat.le_add_right _ _, Nat.le_add_right _ _⟩ (fun zr8 zw8 zp8 => ?_)
  obtain ⟨rfl, zq_M8, zq_F8⟩ := zp8
  have zq_I8 := (Ic.step hA zq_I2 zq_M8 zq_F8).1
  have hD := zq_I8.1
  have hL := zq_I8.2.1
  have hM := zq_I8.2.2.1
  have hF := zq_I8.2.2.2
  refine a_iload_n C dL_isChosen_11 rfl rfl ?_
  refine a_icmp_ne (tgt := 34) C dL_isChosen_12 (by decide) (fun h_12 => ?_) (fun h_12 => ?_)
  · exact absurd rfl h_12
  · refine a_aload_n C dL_isChosen_15 rfl rfl ?_
    refine a_iload_n C dL_isChosen_16 rfl rfl ?_
    refine l0_callSW C hfl _ (HA_pick hD hA hM (by omega)) sW_179 dL_isChosen_17 rfl (Nat.le_of_ble_eq_true rfl) ⟨Nat.le_of_ble_eq_true rfl, Nat.le_of_ble_eq_true rfl⟩ ⟨Nat.le_add_right _ _, Nat.le_add_right _ _⟩ (fun zr17 zw17 zp17 => ?_)
    obtain ⟨rfl, zq_M17, zq_F17⟩ := zp17
    have zq_I17 := (Ic.step hA zq_I8 zq_M17 zq_F17).1
    have hD := zq_I17.1
    have hL := zq_I17.2.1
    have hM := zq_I17.2.2.1
    have hF := zq_I17.2.2.2
    refine a_iconst (v := (-1)) C dL_isChosen_20 (by decide) ?_
    refine a_icmp_ne (tgt := 34) C dL_isChosen_21 (by decide) (fun h_21 => ?_) (fun h_21 => ?_)
    · exact absurd (pck_end A) h_21
    · refine a_aload_n C dL_isChosen_24 rfl rfl ?_
      refine a_iconst (v := (-1)) C dL_isChosen_25 (by decide) ?_
      refine l_callSW C hfl _ HA_pickm sW_179 dL_isChosen_26 rfl (Nat.le_of_ble_eq_true rfl) ⟨Nat.le_of_ble_eq_true rfl, Nat.le_of_ble_eq_true rfl⟩ ⟨by show 207 + 0 + x9 + 1 ≤ 207 + 0 + x9 + 2; omega, by show us + 6 ≤ us + 26; omega⟩ (fun zr26 zw26 zp26 => ?_)
      obtain ⟨rfl, rfl⟩ := zp26
      refine a_bipush (v := (-101)) C dL_isChosen_29 (by decide) ?_
      refine a_icmp_eq (tgt := 36) C dL_isChosen_31 (by decide) (fun h_31 => ?_) (fun h_31 => ?_)
      · refine a_bipush (v := nI 20) C dL_isChosen_36 (by decide) ?_
        refine a_eq (L' := [some (.ref 0), some (.ref 204), some (.ref 205), some (.int (nI (cho A).length)), none, none, none, none]) rfl rfl rfl ?_
        refine a_newC (x := x9 + 1) (us := us + 6) C dL_isChosen_38 rfl (okL_of rfl) (fun v hv => by cases hv) ⟨by show 207 + (x9 + 1) + 1 ≤ 207 + 0 + x9 + 2; omega, by show us + 6 + 20 ≤ us + 26; omega⟩ ?_
        have C : aCtx (gC G9 (x9 + 1)) p9 s9 m9 ar9 me9 co9 cL_isChosen 8 yL_isChosen.cls := gC_ctx C
        refine a_astore C dL_isChosen_40 (by decide) ?_
        refine a_iconst (v := nI 0) C dL_isChosen_42 (by decide) ?_
        refine a_istore C dL_isChosen_43 (by decide) ?_
        refine a_join (aLe_s ?_ (aLe_s ?_ (aLe_s ?_ (aLe_s ?_ (aLe_s ?_ (aLe_s ?_ (aLe_n (aLe_n aLe_nil)))))))) rfl rfl (ZL45 ((cho A).length + 1) 0 _ (by omega) (by omega) (Ic.c hA zq_I17 (Frm.row Frm.rf (by decide))) (fun j hj => absurd hj (Nat.not_lt_zero j)))
        · first | with_reducible rfl | exact gl (by first | with_reducible rfl | (refine iF ?_; simp [(eq_true h_12), (beq_iff_eq.mpr h_12), (bne_eq_false_iff_eq.mpr h_12), (eq_true h_21), (beq_iff_eq.mpr h_21), (bne_eq_false_iff_eq.mpr h_21), (eq_true h_31), (beq_iff_eq.mpr h_31), (bne_eq_false_iff_eq.mpr h_31)]; done) | (refine iT ?_; simp [(eq_true h_12), (beq_iff_eq.mpr h_12), (bne_eq_false_iff_eq.mpr h_12), (eq_true h_21), (beq_iff_eq.mpr h_21), (bne_eq_false_iff_eq.mpr h_21), (eq_true h_31), (beq_iff_eq.mpr h_31), (bne_eq_false_iff_eq.mpr h_31)]; done) | (refine iB ?_; simp [(eq_true h_12), (beq_iff_eq.mpr h_12), (bne_eq_false_iff_eq.mpr h_12), (eq_true h_21), (beq_iff_eq.mpr h_21), (bne_eq_false_iff_eq.mpr h_21), (eq_true h_31), (beq_iff_eq.mpr h_31), (bne_eq_false_iff_eq.mpr h_31)]; done) | (simp [(eq_true h_12), (beq_iff_eq.mpr h_12), (bne_eq_false_iff_eq.mpr h_12), (eq_true h_21), (beq_iff_eq.mpr h_21), (bne_eq_false_iff_eq.mpr h_21), (eq_true h_31), (beq_iff_eq.mpr h_31), (bne_eq_false_iff_eq.mpr h_31)]; done) | (simp [(eq_true h_12), (beq_iff_eq.mpr h_12), (bne_eq_false_iff_eq.mpr h_12), (eq_true h_21), (beq_iff_eq.mpr h_21), (bne_eq_false_iff_eq.mpr h_21), (eq_true h_31), (beq_iff_eq.mpr h_31), (bne_eq_false_iff_eq.mpr h_31)]; omega) | omega | rfl)
        · first | with_reducible rfl | exact gl (by first | with_reducible rfl | (refine iF ?_; simp [(eq_true h_12), (beq_iff_eq.mpr h_12), (bne_eq_false_iff_eq.mpr h_12), (eq_true h_21), (beq_iff_eq.mpr h_21), (bne_eq_false_iff_eq.mpr h_21), (eq_true h_31), (beq_iff_eq.mpr h_31), (bne_eq_false_iff_eq.mpr h_31)]; done) | (refine iT ?_; simp [(eq_true h_12), (beq_iff_eq.mpr h_12), (bne_eq_false_iff_eq.mpr h_12), (eq_true h_21), (beq_iff_eq.mpr h_21), (bne_eq_false_iff_eq.mpr h_21), (eq_true h_31), (beq_iff_eq.mpr h_31), (bne_eq_false_iff_eq.mpr h_31)]; done) | (refine iB ?_; simp [(eq_true h_12), (beq_iff_eq.mpr h_12), (bne_eq_false_iff_eq.mpr h_12), (eq_true h_21), (beq_iff_eq.mpr h_21), (bne_eq_false_iff_eq.mpr h_21), (eq_true h_31), (beq_iff_eq.mpr h_31), (bne_eq_false_iff_eq.mpr h_31)]; done) | (simp [(eq_true h_12), (beq_iff_eq.mpr h_12), (bne_eq_false_iff_eq.mpr h_12), (eq_true h_21), (beq_iff_eq.mpr h_21), (bne_eq_false_iff_eq.mpr h_21), (eq_true h_31), (beq_iff_eq.mpr h_31), (bne_eq_false_iff_eq.mpr h_31)]; done) | (simp [(eq_true h_12), (beq_iff_eq.mpr h_12), (bne_eq_false_iff_eq.mpr h_12), (eq_true h_21), (beq_iff_eq.mpr h_21), (bne_eq_false_iff_eq.mpr h_21), (eq_true h_31), (beq_iff_eq.mpr h_31), (bne_eq_false_iff_eq.mpr h_31)]; omega) | omega | rfl)
        · first | with_reducible rfl | exact gl (by first | with_reducible rfl | (refine iF ?_; simp [(eq_true h_12), (beq_iff_eq.mpr h_12), (bne_eq_false_iff_eq.mpr h_12), (eq_true h_21), (beq_iff_eq.mpr h_21), (bne_eq_false_iff_eq.mpr h_21), (eq_true h_31), (beq_iff_eq.mpr h_31), (bne_eq_false_iff_eq.mpr h_31)]; done) | (refine iT ?_; simp [(eq_true h_12), (beq_iff_eq.mpr h_12), (bne_eq_false_iff_eq.mpr h_12), (eq_true h_21), (beq_iff_eq.mpr h_21), (bne_eq_false_iff_eq.mpr h_21), (eq_true h_31), (beq_iff_eq.mpr h_31), (bne_eq_false_iff_eq.mpr h_31)]; done) | (refine iB ?_; simp [(eq_true h_12), (beq_iff_eq.mpr h_12), (bne_eq_false_iff_eq.mpr h_12), (eq_true h_21), (beq_iff_eq.mpr h_21), (bne_eq_false_iff_eq.mpr h_21), (eq_true h_31), (beq_iff_eq.mpr h_31), (bne_eq_false_iff_eq.mpr h_31)]; done) | (simp [(eq_true h_12), (beq_iff_eq.mpr h_12), (bne_eq_false_iff_eq.mpr h_12), (eq_true h_21), (beq_iff_eq.mpr h_21), (bne_eq_false_iff_eq.mpr h_21), (eq_true h_31), (beq_iff_eq.mpr h_31), (bne_eq_false_iff_eq.mpr h_31)]; done) | (simp [(eq_true h_12), (beq_iff_eq.mpr h_12), (bne_eq_false_iff_eq.mpr h_12), (eq_true h_21), (beq_iff_eq.mpr h_21), (bne_eq_false_iff_eq.mpr h_21), (eq_true h_31), (beq_iff_eq.mpr h_31), (bne_eq_false_iff_eq.mpr h_31)]; omega) | omega | rfl)
        · first | with_reducible rfl | exact gl (by first | with_reducible rfl | (refine iF ?_; simp [(eq_true h_12), (beq_iff_eq.mpr h_12), (bne_eq_false_iff_eq.mpr h_12), (eq_true h_21), (beq_iff_eq.mpr h_21), (bne_eq_false_iff_eq.mpr h_21), (eq_true h_31), (beq_iff_eq.mpr h_31), (bne_eq_false_iff_eq.mpr h_31)]; done) | (refine iT ?_; simp [(eq_true h_12), (beq_iff_eq.mpr h_12), (bne_eq_false_iff_eq.mpr h_12), (eq_true h_21), (beq_iff_eq.mpr h_21), (bne_eq_false_iff_eq.mpr h_21), (eq_true h_31), (beq_iff_eq.mpr h_31), (bne_eq_false_iff_eq.mpr h_31)]; done) | (refine iB ?_; simp [(eq_true h_12), (beq_iff_eq.mpr h_12), (bne_eq_false_iff_eq.mpr h_12), (eq_true h_21), (beq_iff_eq.mpr h_21), (bne_eq_false_iff_eq.mpr h_21), (eq_true h_31), (beq_iff_eq.mpr h_31), (bne_eq_false_iff_eq.mpr h_31)]; done) | (simp [(eq_true h_12), (beq_iff_eq.mpr h_12), (bne_eq_false_iff_eq.mpr h_12), (eq_true h_21), (beq_iff_eq.mpr h_21), (bne_eq_false_iff_eq.mpr h_21), (eq_true h_31), (beq_iff_eq.mpr h_31), (bne_eq_false_iff_eq.mpr h_31)]; done) | (simp [(eq_true h_12), (beq_iff_eq.mpr h_12), (bne_eq_false_iff_eq.mpr h_12), (eq_true h_21), (beq_iff_eq.mpr h_21), (bne_eq_false_iff_eq.mpr h_21), (eq_true h_31), (beq_iff_eq.mpr h_31), (bne_eq_false_iff_eq.mpr h_31)]; omega) | omega | rfl)
        · first | with_reducible rfl | exact gl (by first | with_reducible rfl | (refine iF ?_; simp [(eq_true h_12), (beq_iff_eq.mpr h_12), (bne_eq_false_iff_eq.mpr h_12), (eq_true h_21), (beq_iff_eq.mpr h_21), (bne_eq_false_iff_eq.mpr h_21), (eq_true h_31), (beq_iff_eq.mpr h_31), (bne_eq_false_iff_eq.mpr h_31)]; done) | (refine iT ?_; simp [(eq_true h_12), (beq_iff_eq.mpr h_12), (bne_eq_false_iff_eq.mpr h_12), (eq_true h_21), (beq_iff_eq.mpr h_21), (bne_eq_false_iff_eq.mpr h_21), (eq_true h_31), (beq_iff_eq.mpr h_31), (bne_eq_false_iff_eq.mpr h_31)]; done) | (refine iB ?_; simp [(eq_true h_12), (beq_iff_eq.mpr h_12), (bne_eq_false_iff_eq.mpr h_12), (eq_true h_21), (beq_iff_eq.mpr h_21), (bne_eq_false_iff_eq.mpr h_21), (eq_true h_31), (beq_iff_eq.mpr h_31), (bne_eq_false_iff_eq.mpr h_31)]; done) | (simp [(eq_true h_12), (beq_iff_eq.mpr h_12), (bne_eq_false_iff_eq.mpr h_12), (eq_true h_21), (beq_iff_eq.mpr h_21), (bne_eq_false_iff_eq.mpr h_21), (eq_true h_31), (beq_iff_eq.mpr h_31), (bne_eq_false_iff_eq.mpr h_31)]; done) | (simp [(eq_true h_12), (beq_iff_eq.mpr h_12), (bne_eq_false_iff_eq.mpr h_12), (eq_true h_21), (beq_iff_eq.mpr h_21), (bne_eq_false_iff_eq.mpr h_21), (eq_true h_31), (beq_iff_eq.mpr h_31), (bne_eq_false_iff_eq.mpr h_31)]; omega) | omega | rfl)
        · first | with_reducible rfl | exact gl (by first | with_reducible rfl | (refine iF ?_; simp [(eq_true h_12), (beq_iff_eq.mpr h_12), (bne_eq_false_iff_eq.mpr h_12), (eq_true h_21), (beq_iff_eq.mpr h_21), (bne_eq_false_iff_eq.mpr h_21), (eq_true h_31), (beq_iff_eq.mpr h_31), (bne_eq_false_iff_eq.mpr h_31)]; done) | (refine iT ?_; simp [(eq_true h_12), (beq_iff_eq.mpr h_12), (bne_eq_false_iff_eq.mpr h_12), (eq_true h_21), (beq_iff_eq.mpr h_21), (bne_eq_false_iff_eq.mpr h_21), (eq_true h_31), (beq_iff_eq.mpr h_31), (bne_eq_false_iff_eq.mpr h_31)]; done) | (refine iB ?_; simp [(eq_true h_12), (beq_iff_eq.mpr h_12), (bne_eq_false_iff_eq.mpr h_12), (eq_true h_21), (beq_iff_eq.mpr h_21), (bne_eq_false_iff_eq.mpr h_21), (eq_true h_31), (beq_iff_eq.mpr h_31), (bne_eq_false_iff_eq.mpr h_31)]; done) | (simp [(eq_true h_12), (beq_iff_eq.mpr h_12), (bne_eq_false_iff_eq.mpr h_12), (eq_true h_21), (beq_iff_eq.mpr h_21), (bne_eq_false_iff_eq.mpr h_21), (eq_true h_31), (beq_iff_eq.mpr h_31), (bne_eq_false_iff_eq.mpr h_31)]; done) | (simp [(eq_true h_12), (beq_iff_eq.mpr h_12), (bne_eq_false_iff_eq.mpr h_12), (eq_true h_21), (beq_iff_eq.mpr h_21), (bne_eq_false_iff_eq.mpr h_21), (eq_true h_31), (beq_iff_eq.mpr h_31), (bne_eq_false_iff_eq.mpr h_31)]; omega) | omega | rfl)
      · exact absurd rfl h_31

end A68

section A70
/-! ### isSo() -/
theorem HA_keyx {w : Wd} {A : St} (hD : DR w 3 A) (hA : AOK A) : CLW yL_key cL_key 4 [(0, 6, 7, 23), (0, 6, 11, 16)] 7 113 [.ref 0, .int (nI (kN A)), .int (nI 0)] w 1 6 (PA w (-101)) :=
  T_key_0 (fr := 6) (lo := 90) (K_X6_key_0 hD hA (nI (kN A)) (by rw [inR_nI (by have := hA.n12; omega)]; exact decide_eq_false (by omega)) (nI 0))
/-- the locks asked for -/
def soX (A : St) (x : Int32) : Nat := lksA A 80 &&& lwN (x >>> (nI 8 &&& 31)) 64
def soO (A : St) (x : Int32) : Nat := if soX A x = 0 then 1 else 0
def soD (A : St) (x : Int32) (b : Bool) : Nat := 1 + soO A x + (if b = true then 2 else 0)
def soU (A : St) (x : Int32) (b : Bool) : Nat := 6 + 6 * soO A x + (if b = true then 26 else 0)
theorem soO_le (A : St) (x : Int32) : soO A x ≤ 1 := by unfold soO; split <;> omega
theorem soX_lt (A : St) (x : Int32) : soX A x < 64 := Nat.lt_of_le_of_lt Nat.and_le_left (lks_lt A 80)
theorem soX_al {A : St} {x : Int32} : allN (alP A (soX A x)) 6 = true := by
  refine (allN_iff 6).mpr (fun p hp => ?_)
  unfold alP
  cases e : (soX A x / 2 ^ p &&& 1) == 0 with
  | true => rfl
  | false =>
    have e1 : ¬ (soX A x / 2 ^ p &&& 1) = 0 := beq_eq_false_iff_ne.mp e
    have t1 : (soX A x).testBit p = true := by
      rw [Nat.testBit_eq_decide_div_mod_eq]
      have e2 := (and1 (soX A x / 2 ^ p)).resolve_left e1
      rw [Nat.and_one_is_mod] at e2
      exact decide_eq_true e2
    unfold soX at t1
    rw [Nat.testBit_and] at t1
    have t2 := (Bool.and_eq_true_iff.mp t1).1
    unfold lksA at t2
    rw [tb_msk] at t2
    have t3 := (Bool.and_eq_true_iff.mp t2).2
    unfold opnA at t3
    exact (Bool.and_eq_true_iff.mp t3).1
def opR (A : St) (x : Int32) : Int32 := if soX A x = 0 then -102 else oprA A (soX A x) 81
theorem HX_opener {w : Wd} {A : St} (hD : DR w 3 A) (hA : AOK A) (x : Int32) : CLW yL_opener cL_opener 3 [(0, 5, 6, 16)] 7 114 [.ref 0, .int (nI (soX A x))] w (soO A x) (6 * soO A x) (PA w (opR A x)) := by
  have hlt := soX_lt A x
  unfold soO opR
  by_cases h : soX A x = 0
  · rw [if_pos h, if_pos h]
    exact T_opener_0 (fr := 6) (lo := 90) (K_X6_opener_0 hD hA (nI (soX A x)) (by rw [h]; rfl))
  · rw [if_neg h, if_neg h]
    exact H_opener (fr := 6) (lo := 90) (K_X6_opener hD hA ⟨by omega, by omega⟩ soX_al) PA_ok
theorem opr_y {A : St} {X d : Nat} (hd : d ≤ 81) (h : (sndA A d && (lksA A d &&& X == X)) = true) (h2 : oprA A X d < 0 ∨ ∃ e, e < 81 ∧ oprA A X d = nI e ∧ lvN d < lvN e) : nI d = oprA A X (d + 1) := by
  show _ = (if (sndA A d && lksA A d &&& X == X) && (oprA A X d == -1 || decide (lvN d < lvN (iN (oprA A X d)))) then nI d else oprA A X d)
  rw [show (sndA A d && lksA A d &&& X == X) = true from h, Bool.true_and]
  rcases h2 with h2 | ⟨e, he, e1, e2⟩
  · rcases opr_or A X d hd with z | ⟨e, he, z⟩
    · rw [z]; rfl
    · rw [z] at h2; exact absurd h2 (nI_pos (by omega))
  · rw [e1, iN_nI (by omega), decide_eq_true e2, Bool.or_true, if_pos rfl]
theorem opr_n1 {A : St} {X d : Nat} (h : (sndA A d && (lksA A d &&& X == X)) = false) : oprA A X d = oprA A X (d + 1) := by
  show _ = (if (sndA A d && lksA A d &&& X == X) && (oprA A X d == -1 || decide (lvN d < lvN (iN (oprA A X d)))) then nI d else oprA A X d)
  rw [show (sndA A d && lksA A d &&& X == X) = false from h]
  rfl
theorem opr_n2 {A : St} {X d e : Nat} (he : e < 81) (h : oprA A X d = nI e) (h2 : lvN e ≤ lvN d) : nI e = oprA A X (d + 1) := by
  show _ = (if (sndA A d && lksA A d &&& X == X) && (oprA A X d == -1 || decide (lvN d < lvN (iN (oprA A X d)))) then nI d else oprA A X d)
  rw [h, iN_nI (by omega), decide_eq_false (show ¬ lvN d < lvN e by omega), beq_eq_false_iff_ne.mpr (nI_m1 (by omega))]
  simp
theorem opr_e {A : St} {X d : Nat} (hd : d ≤ 81) (h : ¬ oprA A X d < 0) : ∃ e, e < 81 ∧ oprA A X d = nI e := by
  rcases opr_or A X d hd with z | z
  · rw [z] at h; exact absurd (by decide) h
  · exact z
theorem pr_eq {a b : Nat} (h : a = b) : ((0, a) : Nat × Nat) = (0, b) := by rw [h]
set_option maxRecDepth 20000 in
set_option maxHeartbeats 4000000 in
theorem K_L_isSo {w : Wd} {A : St} {F : Nat → Bool} (hD : DR w 3 A) (hL : LR w A) (hA : AOK A) (hM : Mo w F) (x : Int32) (b : Bool) : CLz yL_isSo cL_isSo 13 (some .boolean) 9 187 [.ref 0, .int x, .int (bI b), .ref 204, .ref 205, .ref 206] w (soD A x b) (soU A x b) (fun r w' => r = some (.int (nI 1)) ∧ (∃ F', Mo w' F') ∧ Frm K12 w w') := by
  have zq_n := hA.n12
  have zq_10 := hL.2
  have zq_cc : (lwN (x >>> (nI 5 &&& 31)) 81) < 81 := lwN_lt _ (by decide)
  have zq_X := soX_lt A x
  have zq_d : 1 + soO A x ≤ soD A x b := Nat.le_add_right _ _
  have zq_u : 6 + 6 * soO A x ≤ soU A x b := Nat.le_add_right _ _
  refine CLz.of ok_L_isSo (Nat.le_of_ble_eq_true rfl) (fun x9 us G9 p9 l9 e9 s9 m9 ar9 be9 me9 co9 C hfl hr => ?_)
  have ZL107 : ∀ (zd107 : Nat) (d : Nat), 81 + 1 ≤ d + zd107 → d ≤ 81 → WA G9 p9 l9 e9 (RL9 9 187 (soD A x b) (soU A x b)) s9 m9 ar9 be9 me9 co9 (QL G9 be9 ar9 s9 w (0, x9) us (soD A x b) (soU A x b) (fun r w' => r = some (.int (nI 1)) ∧ (∃ F', Mo w' F') ∧ Frm K12 w w')) 13 (207 + 0 + x9) us 107 [some (.ref 0), some (.int x), some (.int (bI b)), some (.ref 204), some (.ref 205), some (.ref 206), some (.int (nI 1)), some (.int (nI (lwN (x >>> (nI 5 &&& 31)) 81))), some (.int (nI (cntN (sbP A true (lwN (x >>> (nI 5 &&& 31)) 81)) d))), some (.int (oprA A (soX A x) d)), some (.int (nI (soX A x))), some (.int (nI d)), none] [] (fzM w (0, x9 + 1) (us + 6)) := by
    intro zd107
    induction zd107 with
    | zero => intro d zm107 zh107_0; exfalso; omega
    | succ zd107 zih107 =>
      intro d zm107 zh107_0
      refine a_iload C dL_isSo_107 rfl ?_
      refine a_bipush (v := nI 81) C dL_isSo_109 (by decide) ?_
      first | refine n_icmp_ge (tgt := 213) C dL_isSo_111 (by decide) (by first | decide | omega) (by first | decide | omega) (fun h_111 => ?_) (fun h_111 => ?_) | refine a_icmp_ge (tgt := 213) C dL_isSo_111 (by decide) (fun h_111 => ?_) (fun h_111 => ?_)
      · have zq_dd : d = 81 := by omega
        subst zq_dd
        refine a_iload C dL_isSo_213 rfl ?_
        refine a_aload_n C dL_isSo_215 rfl rfl ?_
        refine a_aload C dL_isSo_216 rfl ?_
        refine g_callS C (K_L_whyNotCut hL hA (by first | assumption | decide | omega)) sL_150 rfl dL_isSo_218 (Nat.le_of_ble_eq_true rfl) ⟨Nat.le_of_ble_eq_true rfl, Nat.le_of_ble_eq_true rfl⟩ ⟨by dsimp only; omega, by dsimp only; omega⟩ ?_
        refine a_istore C dL_isSo_221 (by decide) ?_
        refine a_iload C dL_isSo_223 rfl ?_
        refine n_if_eq (tgt := 331) C dL_isSo_225 (by decide) (by first | decide | omega)  (fun h_225 => ?_) (fun h_225 => ?_)
        · exact absurd h_225 (by decide)
        · refine a_aload_n C dL_isSo_228 rfl rfl ?_
          refine a_iload C dL_isSo_229 rfl ?_
          refine a_iconst (v := nI 0) C dL_isSo_231 (by decide) ?_
          refine l0_callSW C hfl _ (HA_code hD hA (by first | assumption | decide | omega) (by decide)) sW_195 dL_isSo_232 rfl (Nat.le_of_ble_eq_true rfl) ⟨Nat.le_of_ble_eq_true rfl, Nat.le_of_ble_eq_true rfl⟩ ⟨by dsimp only; omega, by dsimp only; omega⟩ (fun zr232 zw232 zp232 => ?_)
          obtain ⟨rfl, rfl⟩ := zp232
          refine a_iload C dL_isSo_235 rfl ?_
          refine g_callS C ((K_L_levelOf (by first | assumption | decide | omega))).cp sL_154 rfl dL_isSo_237 (Nat.le_of_ble_eq_true rfl) ⟨Nat.le_of_ble_eq_true rfl, Nat.le_of_ble_eq_true rfl⟩ ⟨by dsimp only; omega, by dsimp only; omega⟩ ?_
          refine a_icmp_ne (tgt := 331) C dL_isSo_240 (by decide) (fun h_240 => ?_) (fun h_240 => ?_)
          · exact absurd rfl h_240
          · refine a_aload_n C dL_isSo_243 rfl rfl ?_
            refine a_iload C dL_isSo_244 rfl ?_
            refine a_iconst (v := nI 1) C dL_isSo_246 (by decide) ?_
            refine l0_callSW C hfl _ (HA_code hD hA (by first | assumption | decide | omega) (by decide)) sW_195 dL_isSo_247 rfl (Nat.le_of_ble_eq_true rfl) ⟨Nat.le_of_ble_eq_true rfl, Nat.le_of_ble_eq_true rfl⟩ ⟨by dsimp only; omega, by dsimp only; omega⟩ (fun zr247 zw247 zp247 => ?_)
            obtain ⟨rfl, rfl⟩ := zp247
            refine a_via 264 (bI (sndA A (lwN (x >>> (nI 5 &&& 31)) 81))) ?_ (fun zJ264 => ?_)
            · refine a_icmp_ne (tgt := 331) C dL_isSo_264 (by decide) (fun h_264 => ?_) (fun h_264 => ?_)
              · exact absurd rfl h_264
              · refine a_aload_n C dL_isSo_267 rfl rfl ?_
                refine a_iload C dL_isSo_268 rfl ?_
                refine a_iconst (v := nI 2) C dL_isSo_270 (by decide) ?_
                refine l0_callSW C hfl _ (HA_code hD hA (by first | assumption | decide | omega) (by decide)) sW_195 dL_isSo_271 rfl (Nat.le_of_ble_eq_true rfl) ⟨Nat.le_of_ble_eq_true rfl, Nat.le_of_ble_eq_true rfl⟩ ⟨by dsimp only; omega, by dsimp only; omega⟩ (fun zr271 zw271 zp271 => ?_)
                obtain ⟨rfl, rfl⟩ := zp271
                refine a_iload C dL_isSo_274 rfl ?_
                refine a_icmp_ne (tgt := 331) C dL_isSo_276 (by decide) (fun h_276 => ?_) (fun h_276 => ?_)
                · exact absurd rfl h_276
                · refine a_aload_n C dL_isSo_279 rfl rfl ?_
                  refine a_iload C dL_isSo_280 rfl ?_
                  refine a_iconst (v := nI 3) C dL_isSo_282 (by decide) ?_
                  refine l0_callSW C hfl _ (HA_code hD hA (by first | assumption | decide | omega) (by decide)) sW_195 dL_isSo_283 rfl (Nat.le_of_ble_eq_true rfl) ⟨Nat.le_of_ble_eq_true rfl, Nat.le_of_ble_eq_true rfl⟩ ⟨by dsimp only; omega, by dsimp only; omega⟩ (fun zr283 zw283 zp283 => ?_)
                  obtain ⟨rfl, rfl⟩ := zp283
                  refine a_iload C dL_isSo_286 rfl ?_
                  refine a_icmp_ne (tgt := 331) C dL_isSo_288 (by decide) (fun h_288 => ?_) (fun h_288 => ?_)
                  · exact absurd rfl h_288
                  · refine a_aload_n C dL_isSo_291 rfl rfl ?_
                    refine a_iload C dL_isSo_292 rfl ?_
                    refine a_iconst (v := nI 5) C dL_isSo_294 (by decide) ?_
                    refine l0_callSW C hfl _ (HA_code hD hA (by first | assumption | decide | omega) (by decide)) sW_195 dL_isSo_295 rfl (Nat.le_of_ble_eq_true rfl) ⟨Nat.le_of_ble_eq_true rfl, Nat.le_of_ble_eq_true rfl⟩ ⟨by dsimp only; omega, by dsimp only; omega⟩ (fun zr295 zw295 zp295 => ?_)
                    obtain ⟨rfl, rfl⟩ := zp295
                    refine a_via 324 (bI (freA A (lwN (x >>> (nI 5 &&& 31)) 81))) ?_ (fun zJ324 => ?_)
                    · refine a_icmp_ne (tgt := 331) C dL_isSo_324 (by decide) (fun h_324 => ?_) (fun h_324 => ?_)
                      · exact absurd rfl h_324
                      · refine a_iconst (v := nI 1) C dL_isSo_327 (by decide) ?_
                        refine a_goto (tgt := 332) C dL_isSo_328 (by decide) ?_
                        refine a_istore C dL_isSo_332 (by decide) ?_
                        refine a_iload C dL_isSo_334 rfl ?_
                        refine n_if_eq (tgt := 364) C dL_isSo_336 (by decide) (by first | decide | omega)  (fun h_336 => ?_) (fun h_336 => ?_)
                        · exact absurd h_336 (by decide)
                        · refine a_aload_n C dL_isSo_339 rfl rfl ?_
                          refine a_iload C dL_isSo_340 rfl ?_
                          refine l_callSW C hfl _ (HX_opener hD hA x) sW_197 dL_isSo_342 rfl (Nat.le_of_ble_eq_true rfl) ⟨Nat.le_of_ble_eq_true rfl, Nat.le_of_ble_eq_true rfl⟩ ⟨by dsimp only; omega, by dsimp only; omega⟩ (fun zr342 zw342 zp342 => ?_)
                          obtain ⟨rfl, rfl⟩ := zp342
                          refine a_via 357 (opR A x) ?_ (fun zJ357 => ?_)
                          · refine a_icmp_ne (tgt := 364) C dL_isSo_357 (by decide) (fun h_357 => ?_) (fun h_357 => ?_)
                            · exact absurd rfl h_357
                            · refine a_iconst (v := nI 1) C dL_isSo_360 (by decide) ?_
                              refine a_goto (tgt := 365) C dL_isSo_361 (by decide) ?_
                              refine a_istore C dL_isSo_365 (by decide) ?_
                              refine a_iload C dL_isSo_367 rfl ?_
                              refine n_if_eq (tgt := 418) C dL_isSo_369 (by decide) (by first | decide | omega)  (fun h_369 => ?_) (fun h_369 => ?_)
                              · exact absurd h_369 (by decide)
                              · refine a_aload_n C dL_isSo_372 rfl rfl ?_
                                refine a_iconst (v := nI 0) C dL_isSo_373 (by decide) ?_
                                refine n_iald C dL_isSo_374 (tw (by first | decide | omega)) (by first | decide | omega) rfl rfl (by first | decide | omega) (by decide) (LR_n hL hA) ?_
                                refine n_if_eq (tgt := 400) C dL_isSo_375 (by decide) (by first | decide | omega)  (fun h_375 => ?_) (fun h_375 => ?_)
                                · refine a_iload_n C dL_isSo_400 rfl rfl ?_
                                  refine b_if_eq (tgt := 414) C dL_isSo_401 (by decide) (fun h_401 => ?_) (fun h_401 => ?_)
                                  · subst h_401
                                    refine a_iconst (v := nI 1) C dL_isSo_414 (by decide) ?_
                                    refine a_goto (tgt := 419) C dL_isSo_415 (by decide) ?_
                                    first
                                      | (refine l_ex (ex2 := ((0, x9).1, (0, x9).2 + soD A x true)) (us2 := us + soU A x true) (pr_eq (by unfold soD; rw [if_pos rfl]; dsimp only; omega)) (by unfold soU; rw [if_pos rfl]; omega) ?_
                                         refine l_iret C hr ?_ dL_isSo_419 ⟨?_, ⟨_, zq_M4⟩, zq_F4⟩
                                         · rfl
                                         · rfl)
                                      | (refine l_ex (ex2 := ((0, x9).1, (0, x9).2 + soD A x false)) (us2 := us + soU A x false) (pr_eq (by unfold soD; rw [if_neg (by decide)]; dsimp only; omega)) (by unfold soU; rw [if_neg (by decide)]; omega) ?_
                                         refine l_iret C hr ?_ dL_isSo_419 ⟨?_, ⟨_, hM⟩, Frm.rf⟩
                                         · rfl
                                         · rfl)
                                  · subst h_401
                                    refine a_aload_n C dL_isSo_404 rfl rfl ?_
                                    refine a_aload_n C dL_isSo_405 rfl rfl ?_
                                    refine a_aload C dL_isSo_406 rfl ?_
                                    refine l_callZ (x := x9 + 1 + soO A x) (us := us + 6 + 6 * soO A x) C hfl _ (K_L_isChosen hD hL hA hM) sL_202 dL_isSo_408 rfl (Nat.le_of_ble_eq_true rfl) ⟨Nat.le_of_ble_eq_true rfl, Nat.le_of_ble_eq_true rfl⟩ ⟨by show 207 + (x9 + 1 + soO A x) + 2 ≤ 207 + 0 + x9 + soD A x true; unfold soD; rw [if_pos rfl]; omega, by show us + 6 + 6 * soO A x + 26 ≤ us + soU A x true; unfold soU; rw [if_pos rfl]; omega⟩ (fun zr408 zw408 zp408 => ?_)
                                    obtain ⟨rfl, zq_M4, zq_F4⟩ := zp408
                                    refine n_if_eq (tgt := 418) C dL_isSo_411 (by decide) (by first | decide | omega)  (fun h_411 => ?_) (fun h_411 => ?_)
                                    · exact absurd h_411 (by decide)
                                    · refine a_iconst (v := nI 1) C dL_isSo_414 (by decide) ?_
                                      refine a_goto (tgt := 419) C dL_isSo_415 (by decide) ?_
                                      first
                                        | (refine l_ex (ex2 := ((0, x9).1, (0, x9).2 + soD A x true)) (us2 := us + soU A x true) (pr_eq (by unfold soD; rw [if_pos rfl]; dsimp only; omega)) (by unfold soU; rw [if_pos rfl]; omega) ?_
                                           refine l_iret C hr ?_ dL_isSo_419 ⟨?_, ⟨_, zq_M4⟩, zq_F4⟩
                                           · rfl
                                           · rfl)
                                        | (refine l_ex (ex2 := ((0, x9).1, (0, x9).2 + soD A x false)) (us2 := us + soU A x false) (pr_eq (by unfold soD; rw [if_neg (by decide)]; dsimp only; omega)) (by unfold soU; rw [if_neg (by decide)]; omega) ?_
                                           refine l_iret C hr ?_ dL_isSo_419 ⟨?_, ⟨_, hM⟩, Frm.rf⟩
                                           · rfl
                                           · rfl)
                                · refine a_aload_n C dL_isSo_378 rfl rfl ?_
                                  refine a_iload_n C dL_isSo_379 rfl rfl ?_
                                  refine a_bipush (v := nI 12) C dL_isSo_380 (by decide) ?_
                                  refine a_ishr C dL_isSo_382 ?_
                                  refine a_aload_n C dL_isSo_383 rfl rfl ?_
                                  refine a_iconst (v := nI 0) C dL_isSo_384 (by decide) ?_
                                  refine n_iald C dL_isSo_385 (tw (by first | decide | omega)) (by first | decide | omega) rfl rfl (by first | decide | omega) (by decide) (LR_n hL hA) ?_
                                  refine g_callS C ((K_L_low _ (by omega) (by omega))).cp sL_185 rfl dL_isSo_386 (Nat.le_of_ble_eq_true rfl) ⟨Nat.le_of_ble_eq_true rfl, Nat.le_of_ble_eq_true rfl⟩ ⟨by dsimp only; omega, by dsimp only; omega⟩ ?_
                                  refine a_aload_n C dL_isSo_389 rfl rfl ?_
                                  refine a_aload C dL_isSo_390 rfl ?_
                                  refine a_aload C dL_isSo_392 rfl ?_
                                  refine l0_callS C hfl _ (K_L_isKey hD hL hA (lwN_lt _ (by omega))) sL_199 dL_isSo_394 rfl (Nat.le_of_ble_eq_true rfl) ⟨Nat.le_of_ble_eq_true rfl, Nat.le_of_ble_eq_true rfl⟩ ⟨by dsimp only; omega, by dsimp only; omega⟩ (fun zr394 zw394 zp394 => ?_)
                                  obtain ⟨rfl, rfl⟩ := zp394
                                  refine n_if_eq (tgt := 418) C dL_isSo_397 (by decide) (by first | decide | omega)  (fun h_397 => ?_) (fun h_397 => ?_)
                                  · exact absurd h_397 (by decide)
                                  · refine a_iload_n C dL_isSo_400 rfl rfl ?_
                                    refine b_if_eq (tgt := 414) C dL_isSo_401 (by decide) (fun h_401 => ?_) (fun h_401 => ?_)
                                    · subst h_401
                                      refine a_iconst (v := nI 1) C dL_isSo_414 (by decide) ?_
                                      refine a_goto (tgt := 419) C dL_isSo_415 (by decide) ?_
                                      first
                                        | (refine l_ex (ex2 := ((0, x9).1, (0, x9).2 + soD A x true)) (us2 := us + soU A x true) (pr_eq (by unfold soD; rw [if_pos rfl]; dsimp only; omega)) (by unfold soU; rw [if_pos rfl]; omega) ?_
                                           refine l_iret C hr ?_ dL_isSo_419 ⟨?_, ⟨_, zq_M4⟩, zq_F4⟩
                                           · rfl
                                           · rfl)
                                        | (refine l_ex (ex2 := ((0, x9).1, (0, x9).2 + soD A x false)) (us2 := us + soU A x false) (pr_eq (by unfold soD; rw [if_neg (by decide)]; dsimp only; omega)) (by unfold soU; rw [if_neg (by decide)]; omega) ?_
                                           refine l_iret C hr ?_ dL_isSo_419 ⟨?_, ⟨_, hM⟩, Frm.rf⟩
                                           · rfl
                                           · rfl)
                                    · subst h_401
                                      refine a_aload_n C dL_isSo_404 rfl rfl ?_
                                      refine a_aload_n C dL_isSo_405 rfl rfl ?_
                                      refine a_aload C dL_isSo_406 rfl ?_
                                      refine l_callZ (x := x9 + 1 + soO A x) (us := us + 6 + 6 * soO A x) C hfl _ (K_L_isChosen hD hL hA hM) sL_202 dL_isSo_408 rfl (Nat.le_of_ble_eq_true rfl) ⟨Nat.le_of_ble_eq_true rfl, Nat.le_of_ble_eq_true rfl⟩ ⟨by show 207 + (x9 + 1 + soO A x) + 2 ≤ 207 + 0 + x9 + soD A x true; unfold soD; rw [if_pos rfl]; omega, by show us + 6 + 6 * soO A x + 26 ≤ us + soU A x true; unfold soU; rw [if_pos rfl]; omega⟩ (fun zr408 zw408 zp408 => ?_)
                                      obtain ⟨rfl, zq_M4, zq_F4⟩ := zp408
                                      refine n_if_eq (tgt := 418) C dL_isSo_411 (by decide) (by first | decide | omega)  (fun h_411 => ?_) (fun h_411 => ?_)
                                      · exact absurd h_411 (by decide)
                                      · refine a_iconst (v := nI 1) C dL_isSo_414 (by decide) ?_
                                        refine a_goto (tgt := 419) C dL_isSo_415 (by decide) ?_
                                        first
                                          | (refine l_ex (ex2 := ((0, x9).1, (0, x9).2 + soD A x true)) (us2 := us + soU A x true) (pr_eq (by unfold soD; rw [if_pos rfl]; dsimp only; omega)) (by unfold soU; rw [if_pos rfl]; omega) ?_
                                             refine l_iret C hr ?_ dL_isSo_419 ⟨?_, ⟨_, zq_M4⟩, zq_F4⟩
                                             · rfl
                                             · rfl)
                                          | (refine l_ex (ex2 := ((0, x9).1, (0, x9).2 + soD A x false)) (us2 := us + soU A x false) (pr_eq (by unfold soD; rw [if_neg (by decide)]; dsimp only; omega)) (by unfold soU; rw [if_neg (by decide)]; omega) ?_
                                             refine l_iret C hr ?_ dL_isSo_419 ⟨?_, ⟨_, hM⟩, Frm.rf⟩
                                             · rfl
                                             · rfl)
                          · refine a_iload C dL_isSo_345 rfl ?_
                            refine n_if_ne (tgt := 355) C dL_isSo_347 (by decide) (Nat.lt_trans zq_X (by decide))  (fun h_347 => ?_) (fun h_347 => ?_)
                            · refine a_iload C dL_isSo_355 rfl ?_
                              refine a_eq rfl (gl1 ?_) rfl zJ357
                              · first | exact (if_pos h_347).symm | exact (if_neg h_347).symm
                            · refine a_bipush (v := (-102)) C dL_isSo_350 (by decide) ?_
                              refine a_goto (tgt := 357) C dL_isSo_352 (by decide) ?_
                              refine a_eq rfl (gl1 ?_) rfl zJ357
                              · first | exact (if_pos h_347).symm | exact (if_neg h_347).symm
                    · refine a_iload C dL_isSo_298 rfl ?_
                      refine a_aload_n C dL_isSo_300 rfl rfl ?_
                      refine g_callS C (K_L_isSound hL hA (by first | assumption | decide | omega)) sL_95 rfl dL_isSo_301 (Nat.le_of_ble_eq_true rfl) ⟨Nat.le_of_ble_eq_true rfl, Nat.le_of_ble_eq_true rfl⟩ ⟨by dsimp only; omega, by dsimp only; omega⟩ ?_
                      first | refine b_if_eq (tgt := 323) C dL_isSo_304 (by decide) (fun h_304 => ?_) (fun h_304 => ?_) | refine n_if_eq (tgt := 323) C dL_isSo_304 (by decide) (by first | decide | omega) (fun h_304 => ?_) (fun h_304 => ?_) | refine a_if_eq (tgt := 323) C dL_isSo_304 (by decide) (fun h_304 => ?_) (fun h_304 => ?_)
                      · refine a_iconst (v := nI 0) C dL_isSo_323 (by decide) ?_
                        refine a_eq rfl (gl1 ?_) rfl zJ324
                        · first | (refine iF (?_ : freA A (lwN (x >>> (nI 5 &&& 31)) 81) = false); simp [freA, h_304]; done) | (refine iF (?_ : freA A (lwN (x >>> (nI 5 &&& 31)) 81) = false); simp [freA, h_304, h_316]; done) | (refine iT (?_ : freA A (lwN (x >>> (nI 5 &&& 31)) 81) = true); simp [freA, h_304, h_316]; done)
                      · refine a_iload C dL_isSo_307 rfl ?_
                        refine a_iconst (v := (-1)) C dL_isSo_309 (by decide) ?_
                        refine a_aload_n C dL_isSo_310 rfl rfl ?_
                        refine a_aload C dL_isSo_311 rfl ?_
                        refine g_callS C (K_L_clash hL hA _ (by first | assumption | decide | omega)) sL_99 rfl dL_isSo_313 (Nat.le_of_ble_eq_true rfl) ⟨Nat.le_of_ble_eq_true rfl, Nat.le_of_ble_eq_true rfl⟩ ⟨by dsimp only; omega, by dsimp only; omega⟩ ?_
                        refine n_if_ne (tgt := 323) C dL_isSo_316 (by decide) (by have := clsA_lt A (lwN (x >>> (nI 5 &&& 31)) 81) (-1) (kN A); unfold clA; omega)  (fun h_316 => ?_) (fun h_316 => ?_)
                        · refine a_iconst (v := nI 0) C dL_isSo_323 (by decide) ?_
                          refine a_eq rfl (gl1 ?_) rfl zJ324
                          · first | (refine iF (?_ : freA A (lwN (x >>> (nI 5 &&& 31)) 81) = false); simp [freA, h_304]; done) | (refine iF (?_ : freA A (lwN (x >>> (nI 5 &&& 31)) 81) = false); simp [freA, h_304, h_316]; done) | (refine iT (?_ : freA A (lwN (x >>> (nI 5 &&& 31)) 81) = true); simp [freA, h_304, h_316]; done)
                        · refine a_iconst (v := nI 1) C dL_isSo_319 (by decide) ?_
                          refine a_goto (tgt := 324) C dL_isSo_320 (by decide) ?_
                          refine a_eq rfl (gl1 ?_) rfl zJ324
                          · first | (refine iF (?_ : freA A (lwN (x >>> (nI 5 &&& 31)) 81) = false); simp [freA, h_304]; done) | (refine iF (?_ : freA A (lwN (x >>> (nI 5 &&& 31)) 81) = false); simp [freA, h_304, h_316]; done) | (refine iT (?_ : freA A (lwN (x >>> (nI 5 &&& 31)) 81) = true); simp [freA, h_304, h_316]; done)
            · refine a_iload C dL_isSo_250 rfl ?_
              refine a_aload_n C dL_isSo_252 rfl rfl ?_
              refine g_callS C (K_L_isSound hL hA (by first | assumption | decide | omega)) sL_95 rfl dL_isSo_253 (Nat.le_of_ble_eq_true rfl) ⟨Nat.le_of_ble_eq_true rfl, Nat.le_of_ble_eq_true rfl⟩ ⟨by dsimp only; omega, by dsimp only; omega⟩ ?_
              first | refine b_if_eq (tgt := 263) C dL_isSo_256 (by decide) (fun h_256 => ?_) (fun h_256 => ?_) | refine n_if_eq (tgt := 263) C dL_isSo_256 (by decide) (by first | decide | omega) (fun h_256 => ?_) (fun h_256 => ?_) | refine a_if_eq (tgt := 263) C dL_isSo_256 (by decide) (fun h_256 => ?_) (fun h_256 => ?_)
              · refine a_iconst (v := nI 0) C dL_isSo_263 (by decide) ?_
                refine a_eq rfl (gl1 ?_) rfl zJ264
                · first | exact iT h_256 | exact iF h_256
              · refine a_iconst (v := nI 1) C dL_isSo_259 (by decide) ?_
                refine a_goto (tgt := 264) C dL_isSo_260 (by decide) ?_
                refine a_eq rfl (gl1 ?_) rfl zJ264
                · first | exact iT h_256 | exact iF h_256
      · refine a_iload C dL_isSo_114 rfl ?_
        refine a_via 141 (nI (if sbP A true (lwN (x >>> (nI 5 &&& 31)) 81) d = true then 1 else 0)) ?_ (fun zJ141 => ?_)
        · first | refine n_iadd C dL_isSo_141 ?_ | refine a_iadd C dL_isSo_141 ?_
          refine a_istore C dL_isSo_142 (by decide) ?_
          refine a_via 173 (bI (sndA A d && (lksA A d &&& (soX A x) == (soX A x)))) ?_ (fun zJ173 => ?_)
          · refine a_istore C dL_isSo_173 (by decide) ?_
            refine a_via 205 (oprA A (soX A x) (d + 1)) ?_ (fun zJ205 => ?_)
            · refine a_istore C dL_isSo_205 (by decide) ?_
              refine n_iinc C dL_isSo_207 rfl (by decide) ?_
              refine a_goto (tgt := 107) C dL_isSo_210 (by decide) ?_
              refine a_join (aLe_s ?_ (aLe_s ?_ (aLe_s ?_ (aLe_s ?_ (aLe_s ?_ (aLe_s ?_ (aLe_s ?_ (aLe_s ?_ (aLe_s ?_ (aLe_s ?_ (aLe_s ?_ (aLe_s ?_ (aLe_n aLe_nil))))))))))))) rfl rfl (zih107 (d + 1) (by omega) (by omega))
              · first | with_reducible rfl | exact gl (by first | with_reducible rfl | (refine iF ?_; simp [cntN, h_111]; done) | (refine iT ?_; simp [cntN, h_111]; done) | (refine iB ?_; simp [cntN, h_111]; done) | (simp [cntN, h_111]; done) | (simp [cntN, h_111]; omega) | omega)
              · first | with_reducible rfl | exact gl (by first | with_reducible rfl | (refine iF ?_; simp [cntN, h_111]; done) | (refine iT ?_; simp [cntN, h_111]; done) | (refine iB ?_; simp [cntN, h_111]; done) | (simp [cntN, h_111]; done) | (simp [cntN, h_111]; omega) | omega)
              · first | with_reducible rfl | exact gl (by first | with_reducible rfl | (refine iF ?_; simp [cntN, h_111]; done) | (refine iT ?_; simp [cntN, h_111]; done) | (refine iB ?_; simp [cntN, h_111]; done) | (simp [cntN, h_111]; done) | (simp [cntN, h_111]; omega) | omega)
              · first | with_reducible rfl | exact gl (by first | with_reducible rfl | (refine iF ?_; simp [cntN, h_111]; done) | (refine iT ?_; simp [cntN, h_111]; done) | (refine iB ?_; simp [cntN, h_111]; done) | (simp [cntN, h_111]; done) | (simp [cntN, h_111]; omega) | omega)
              · first | with_reducible rfl | exact gl (by first | with_reducible rfl | (refine iF ?_; simp [cntN, h_111]; done) | (refine iT ?_; simp [cntN, h_111]; done) | (refine iB ?_; simp [cntN, h_111]; done) | (simp [cntN, h_111]; done) | (simp [cntN, h_111]; omega) | omega)
              · first | with_reducible rfl | exact gl (by first | with_reducible rfl | (refine iF ?_; simp [cntN, h_111]; done) | (refine iT ?_; simp [cntN, h_111]; done) | (refine iB ?_; simp [cntN, h_111]; done) | (simp [cntN, h_111]; done) | (simp [cntN, h_111]; omega) | omega)
              · first | with_reducible rfl | exact gl (by first | with_reducible rfl | (refine iF ?_; simp [cntN, h_111]; done) | (refine iT ?_; simp [cntN, h_111]; done) | (refine iB ?_; simp [cntN, h_111]; done) | (simp [cntN, h_111]; done) | (simp [cntN, h_111]; omega) | omega)
              · first | with_reducible rfl | exact gl (by first | with_reducible rfl | (refine iF ?_; simp [cntN, h_111]; done) | (refine iT ?_; simp [cntN, h_111]; done) | (refine iB ?_; simp [cntN, h_111]; done) | (simp [cntN, h_111]; done) | (simp [cntN, h_111]; omega) | omega)
              · first | with_reducible rfl | exact gl (by first | with_reducible rfl | (refine iF ?_; simp [cntN, h_111]; done) | (refine iT ?_; simp [cntN, h_111]; done) | (refine iB ?_; simp [cntN, h_111]; done) | (simp [cntN, h_111]; done) | (simp [cntN, h_111]; omega) | omega)
              · first | with_reducible rfl | exact gl (by first | with_reducible rfl | (refine iF ?_; simp [cntN, h_111]; done) | (refine iT ?_; simp [cntN, h_111]; done) | (refine iB ?_; simp [cntN, h_111]; done) | (simp [cntN, h_111]; done) | (simp [cntN, h_111]; omega) | omega)
              · first | with_reducible rfl | exact gl (by first | with_reducible rfl | (refine iF ?_; simp [cntN, h_111]; done) | (refine iT ?_; simp [cntN, h_111]; done) | (refine iB ?_; simp [cntN, h_111]; done) | (simp [cntN, h_111]; done) | (simp [cntN, h_111]; omega) | omega)
              · first | with_reducible rfl | exact gl (by first | with_reducible rfl | (refine iF ?_; simp [cntN, h_111]; done) | (refine iT ?_; simp [cntN, h_111]; done) | (refine iB ?_; simp [cntN, h_111]; done) | (simp [cntN, h_111]; done) | (simp [cntN, h_111]; omega) | omega)
            · refine a_iload C dL_isSo_175 rfl ?_
              refine b_if_eq (tgt := 203) C dL_isSo_177 (by decide) (fun h_177 => ?_) (fun h_177 => ?_)
              · refine a_iload C dL_isSo_203 rfl ?_
                refine a_eq rfl (gl1 ?_) rfl zJ205
                · first | exact opr_n1 h_177 | exact opr_y (by omega) h_177 (Or.inl h_182) | exact opr_y (by omega) h_177 (Or.inr ⟨_, zq_e, zq_b, h_195⟩) | (rw [zq_b]; exact opr_n2 zq_e zq_b h_195)
              · refine a_iload C dL_isSo_180 rfl ?_
                refine a_if_lt (tgt := 198) C dL_isSo_182 (by decide) (fun h_182 => ?_) (fun h_182 => ?_)
                · refine a_iload C dL_isSo_198 rfl ?_
                  refine a_goto (tgt := 205) C dL_isSo_200 (by decide) ?_
                  refine a_eq rfl (gl1 ?_) rfl zJ205
                  · first | exact opr_n1 h_177 | exact opr_y (by omega) h_177 (Or.inl h_182) | exact opr_y (by omega) h_177 (Or.inr ⟨_, zq_e, zq_b, h_195⟩) | (rw [zq_b]; exact opr_n2 zq_e zq_b h_195)
                · obtain ⟨e, zq_e, zq_b⟩ := opr_e (by omega) h_182
                  refine a_iload C dL_isSo_185 rfl ?_
                  refine g_callS C ((K_L_levelOf (by first | assumption | decide | omega))).cp sL_154 rfl dL_isSo_187 (Nat.le_of_ble_eq_true rfl) ⟨Nat.le_of_ble_eq_true rfl, Nat.le_of_ble_eq_true rfl⟩ ⟨by dsimp only; omega, by dsimp only; omega⟩ ?_
                  refine a_iload C dL_isSo_190 rfl ?_
                  refine a_eq rfl (gl1 zq_b) rfl ?_
                  refine g_callS C ((K_L_levelOf (by first | assumption | decide | omega))).cp sL_154 rfl dL_isSo_192 (Nat.le_of_ble_eq_true rfl) ⟨Nat.le_of_ble_eq_true rfl, Nat.le_of_ble_eq_true rfl⟩ ⟨by dsimp only; omega, by dsimp only; omega⟩ ?_
                  refine n_icmp_ge (tgt := 203) C dL_isSo_195 (by decide) (Nat.lt_of_le_of_lt (lvN_le _) (by decide)) (Nat.lt_of_le_of_lt (lvN_le _) (by decide)) (fun h_195 => ?_) (fun h_195 => ?_)
                  · refine a_iload C dL_isSo_203 rfl ?_
                    refine a_eq rfl (gl1 ?_) rfl zJ205
                    · first | exact opr_n1 h_177 | exact opr_y (by omega) h_177 (Or.inl h_182) | exact opr_y (by omega) h_177 (Or.inr ⟨_, zq_e, zq_b, h_195⟩) | (rw [zq_b]; exact opr_n2 zq_e zq_b h_195)
                  · refine a_iload C dL_isSo_198 rfl ?_
                    refine a_goto (tgt := 205) C dL_isSo_200 (by decide) ?_
                    refine a_eq rfl (gl1 ?_) rfl zJ205
                    · first | exact opr_n1 h_177 | exact opr_y (by omega) h_177 (Or.inl h_182) | exact opr_y (by omega) h_177 (Or.inr ⟨_, zq_e, zq_b, h_195⟩) | (rw [zq_b]; exact opr_n2 zq_e zq_b h_195)
          · refine a_iload C dL_isSo_144 rfl ?_
            refine a_aload_n C dL_isSo_146 rfl rfl ?_
            refine g_callS C (K_L_isSound hL hA (by first | assumption | decide | omega)) sL_95 rfl dL_isSo_147 (Nat.le_of_ble_eq_true rfl) ⟨Nat.le_of_ble_eq_true rfl, Nat.le_of_ble_eq_true rfl⟩ ⟨by dsimp only; omega, by dsimp only; omega⟩ ?_
            first | refine b_if_eq (tgt := 172) C dL_isSo_150 (by decide) (fun h_150 => ?_) (fun h_150 => ?_) | refine n_if_eq (tgt := 172) C dL_isSo_150 (by decide) (by first | decide | omega) (fun h_150 => ?_) (fun h_150 => ?_) | refine a_if_eq (tgt := 172) C dL_isSo_150 (by decide) (fun h_150 => ?_) (fun h_150 => ?_)
            · refine a_iconst (v := nI 0) C dL_isSo_172 (by decide) ?_
              refine a_eq rfl (gl1 ?_) rfl zJ173
              · first | (refine iF ?_; rw [h_150]; rfl) | (refine iF ?_; rw [h_150, beq_eq_false_iff_ne.mpr h_165]; rfl) | (refine iT ?_; rw [h_150, beq_iff_eq.mpr h_165]; rfl)
            · refine a_iload C dL_isSo_153 rfl ?_
              refine a_aload C dL_isSo_155 rfl ?_
              refine g_callS C (K_L_locksOf hL hA (by first | assumption | decide | omega)) sL_164 rfl dL_isSo_157 (Nat.le_of_ble_eq_true rfl) ⟨Nat.le_of_ble_eq_true rfl, Nat.le_of_ble_eq_true rfl⟩ ⟨by dsimp only; omega, by dsimp only; omega⟩ ?_
              refine a_iload C dL_isSo_160 rfl ?_
              first | refine n_iand C dL_isSo_162 ?_ | refine a_iand C dL_isSo_162 ?_
              refine a_iload C dL_isSo_163 rfl ?_
              refine n_icmp_ne (tgt := 172) C dL_isSo_165 (by decide) (Nat.lt_of_le_of_lt Nat.and_le_left (Nat.lt_trans (lks_lt A d) (by decide))) (Nat.lt_trans zq_X (by decide)) (fun h_165 => ?_) (fun h_165 => ?_)
              · refine a_iconst (v := nI 0) C dL_isSo_172 (by decide) ?_
                refine a_eq rfl (gl1 ?_) rfl zJ173
                · first | (refine iF ?_; rw [h_150]; rfl) | (refine iF ?_; rw [h_150, beq_eq_false_iff_ne.mpr h_165]; rfl) | (refine iT ?_; rw [h_150, beq_iff_eq.mpr h_165]; rfl)
              · refine a_iconst (v := nI 1) C dL_isSo_168 (by decide) ?_
                refine a_goto (tgt := 173) C dL_isSo_169 (by decide) ?_
                refine a_eq rfl (gl1 ?_) rfl zJ173
                · first | (refine iF ?_; rw [h_150]; rfl) | (refine iF ?_; rw [h_150, beq_eq_false_iff_ne.mpr h_165]; rfl) | (refine iT ?_; rw [h_150, beq_iff_eq.mpr h_165]; rfl)
        · refine a_iload C dL_isSo_116 rfl ?_
          refine a_iload C dL_isSo_118 rfl ?_
          refine g_callS C ((K_L_lie (by first | assumption | decide | omega) (by first | assumption | decide | omega))).cp sL_92 rfl dL_isSo_120 (Nat.le_of_ble_eq_true rfl) ⟨Nat.le_of_ble_eq_true rfl, Nat.le_of_ble_eq_true rfl⟩ ⟨by dsimp only; omega, by dsimp only; omega⟩ ?_
          refine a_iconst (v := nI 4) C dL_isSo_123 (by decide) ?_
          refine n_icmp_ne (tgt := 140) C dL_isSo_124 (by decide) (Nat.lt_trans (lie_lt _ _) (by decide)) (by first | decide | omega) (fun h_124 => ?_) (fun h_124 => ?_)
          · refine a_iconst (v := nI 0) C dL_isSo_140 (by decide) ?_
            refine a_eq rfl (gl1 ?_) rfl zJ141
            · first | (refine n0 (?_ : sbP A true (lwN (x >>> (nI 5 &&& 31)) 81) d = false); simp [sbP, lie4.2 h_124]; done) | (refine n0 (?_ : sbP A true (lwN (x >>> (nI 5 &&& 31)) 81) d = false); simp [sbP, h_133]; done) | (refine n1 (?_ : sbP A true (lwN (x >>> (nI 5 &&& 31)) 81) d = true); simp [sbP, lie4.1 h_124, h_133]; done)
          · refine a_iload C dL_isSo_127 rfl ?_
            refine a_aload_n C dL_isSo_129 rfl rfl ?_
            refine g_callS C (K_L_isSound hL hA (by first | assumption | decide | omega)) sL_95 rfl dL_isSo_130 (Nat.le_of_ble_eq_true rfl) ⟨Nat.le_of_ble_eq_true rfl, Nat.le_of_ble_eq_true rfl⟩ ⟨by dsimp only; omega, by dsimp only; omega⟩ ?_
            first | refine b_if_eq (tgt := 140) C dL_isSo_133 (by decide) (fun h_133 => ?_) (fun h_133 => ?_) | refine n_if_eq (tgt := 140) C dL_isSo_133 (by decide) (by first | decide | omega) (fun h_133 => ?_) (fun h_133 => ?_) | refine a_if_eq (tgt := 140) C dL_isSo_133 (by decide) (fun h_133 => ?_) (fun h_133 => ?_)
            · refine a_iconst (v := nI 0) C dL_isSo_140 (by decide) ?_
              refine a_eq rfl (gl1 ?_) rfl zJ141
              · first | (refine n0 (?_ : sbP A true (lwN (x >>> (nI 5 &&& 31)) 81) d = false); simp [sbP, lie4.2 h_124]; done) | (refine n0 (?_ : sbP A true (lwN (x >>> (nI 5 &&& 31)) 81) d = false); simp [sbP, h_133]; done) | (refine n1 (?_ : sbP A true (lwN (x >>> (nI 5 &&& 31)) 81) d = true); simp [sbP, lie4.1 h_124, h_133]; done)
            · refine a_iconst (v := nI 1) C dL_isSo_136 (by decide) ?_
              refine a_goto (tgt := 141) C dL_isSo_137 (by decide) ?_
              refine a_eq rfl (gl1 ?_) rfl zJ141
              · first | (refine n0 (?_ : sbP A true (lwN (x >>> (nI 5 &&& 31)) 81) d = false); simp [sbP, lie4.2 h_124]; done) | (refine n0 (?_ : sbP A true (lwN (x >>> (nI 5 &&& 31)) 81) d = false); simp [sbP, h_133]; done) | (refine n1 (?_ : sbP A true (lwN (x >>> (nI 5 &&& 31)) 81) d = true); simp [sbP, lie4.1 h_124, h_133]; done)
  refine a_pad 7 ?_
  refine a_eq (L' := [some (.ref 0), some (.int x), some (.int (bI b)), some (.ref 204), some (.ref 205), some (.ref 206), none, none, none, none, none, none, none]) rfl rfl rfl ?_
  refine a_aload_n C dL_isSo_0 rfl rfl ?_
  refine a_aload_n C dL_isSo_1 rfl rfl ?_
  refine a_aload C dL_isSo_2 rfl ?_
  refine a_aload C dL_isSo_4 rfl ?_
  refine l0_callS C hfl _ (K_L_areCounts hD hL hA) sL_181 dL_isSo_6 rfl (Nat.le_of_ble_eq_true rfl) ⟨Nat.le_of_ble_eq_true rfl, Nat.le_of_ble_eq_true rfl⟩ ⟨by dsimp only; omega, by dsimp only; omega⟩ (fun zr6 zw6 zp6 => ?_)
  obtain ⟨rfl, rfl⟩ := zp6
  refine n_if_eq (tgt := 66) C dL_isSo_9 (by decide) (by first | decide | omega)  (fun h_9 => ?_) (fun h_9 => ?_)
  · exact absurd h_9 (by decide)
  · refine a_aload_n C dL_isSo_12 rfl rfl ?_
    refine a_aload_n C dL_isSo_13 rfl rfl ?_
    refine a_iconst (v := nI 0) C dL_isSo_14 (by decide) ?_
    refine n_iald C dL_isSo_15 (tw (by first | decide | omega)) (by first | decide | omega) rfl rfl (by first | decide | omega) (by decide) (LR_n hL hA) ?_
    refine a_iconst (v := nI 0) C dL_isSo_16 (by decide) ?_
    refine l_callSW C hfl _ (HA_keyx hD hA) sW_117 dL_isSo_17 rfl (Nat.le_of_ble_eq_true rfl) ⟨Nat.le_of_ble_eq_true rfl, Nat.le_of_ble_eq_true rfl⟩ ⟨by dsimp only; omega, by dsimp only; omega⟩ (fun zr17 zw17 zp17 => ?_)
    obtain ⟨rfl, rfl⟩ := zp17
    refine a_bipush (v := (-101)) C dL_isSo_20 (by decide) ?_
    refine a_icmp_ne (tgt := 66) C dL_isSo_22 (by decide) (fun h_22 => ?_) (fun h_22 => ?_)
    · exact absurd rfl h_22
    · refine a_aload_n C dL_isSo_25 rfl rfl ?_
      refine a_iload_n C dL_isSo_26 rfl rfl ?_
      refine a_iconst (v := nI 4) C dL_isSo_27 (by decide) ?_
      refine g_callS C ((K_L_low x (by decide) (by decide))).cp sL_185 rfl dL_isSo_28 (Nat.le_of_ble_eq_true rfl) ⟨Nat.le_of_ble_eq_true rfl, Nat.le_of_ble_eq_true rfl⟩ ⟨by dsimp only; omega, by dsimp only; omega⟩ ?_
      refine a_aload_n C dL_isSo_31 rfl rfl ?_
      refine a_aload C dL_isSo_32 rfl ?_
      refine a_aload C dL_isSo_34 rfl ?_
      refine l0_callS C hfl _ (K_L_isPerson hD hL hA (lwN_lt x (by decide))) sL_188 dL_isSo_36 rfl (Nat.le_of_ble_eq_true rfl) ⟨Nat.le_of_ble_eq_true rfl, Nat.le_of_ble_eq_true rfl⟩ ⟨by dsimp only; omega, by dsimp only; omega⟩ (fun zr36 zw36 zp36 => ?_)
      obtain ⟨rfl, rfl⟩ := zp36
      refine n_if_eq (tgt := 66) C dL_isSo_39 (by decide) (by first | decide | omega)  (fun h_39 => ?_) (fun h_39 => ?_)
      · exact absurd h_39 (by decide)
      · refine a_aload_n C dL_isSo_42 rfl rfl ?_
        refine a_iload_n C dL_isSo_43 rfl rfl ?_
        refine a_iconst (v := nI 2) C dL_isSo_44 (by decide) ?_
        refine a_ishr C dL_isSo_45 ?_
        refine a_bipush (v := nI 6) C dL_isSo_46 (by decide) ?_
        refine g_callS C ((K_L_low _ (by decide) (by decide))).cp sL_185 rfl dL_isSo_48 (Nat.le_of_ble_eq_true rfl) ⟨Nat.le_of_ble_eq_true rfl, Nat.le_of_ble_eq_true rfl⟩ ⟨by dsimp only; omega, by dsimp only; omega⟩ ?_
        refine a_aload_n C dL_isSo_51 rfl rfl ?_
        refine a_aload C dL_isSo_52 rfl ?_
        refine a_aload C dL_isSo_54 rfl ?_
        refine l0_callS C hfl _ (K_L_isLock hD hL hA (lwN_lt _ (by decide))) sL_192 dL_isSo_56 rfl (Nat.le_of_ble_eq_true rfl) ⟨Nat.le_of_ble_eq_true rfl, Nat.le_of_ble_eq_true rfl⟩ ⟨by dsimp only; omega, by dsimp only; omega⟩ (fun zr56 zw56 zp56 => ?_)
        obtain ⟨rfl, rfl⟩ := zp56
        refine n_if_eq (tgt := 66) C dL_isSo_59 (by decide) (by first | decide | omega)  (fun h_59 => ?_) (fun h_59 => ?_)
        · exact absurd h_59 (by decide)
        · refine a_iconst (v := nI 1) C dL_isSo_62 (by decide) ?_
          refine a_goto (tgt := 67) C dL_isSo_63 (by decide) ?_
          refine a_istore C dL_isSo_67 (by decide) ?_
          refine a_iload_n C dL_isSo_69 rfl rfl ?_
          refine a_iconst (v := nI 5) C dL_isSo_70 (by decide) ?_
          refine a_ishr C dL_isSo_71 ?_
          refine a_bipush (v := nI 81) C dL_isSo_72 (by decide) ?_
          refine g_callS C ((K_L_low _ (by decide) (by decide))).cp sL_185 rfl dL_isSo_74 (Nat.le_of_ble_eq_true rfl) ⟨Nat.le_of_ble_eq_true rfl, Nat.le_of_ble_eq_true rfl⟩ ⟨by dsimp only; omega, by dsimp only; omega⟩ ?_
          refine a_istore C dL_isSo_77 (by decide) ?_
          refine a_iconst (v := nI 0) C dL_isSo_79 (by decide) ?_
          refine a_istore C dL_isSo_80 (by decide) ?_
          refine a_iconst (v := (-1)) C dL_isSo_82 (by decide) ?_
          refine a_istore C dL_isSo_83 (by decide) ?_
          refine a_bipush (v := nI 80) C dL_isSo_85 (by decide) ?_
          refine a_aload C dL_isSo_87 rfl ?_
          refine g_callS C (K_L_locksOf hL hA (by decide)) sL_164 rfl dL_isSo_89 (Nat.le_of_ble_eq_true rfl) ⟨Nat.le_of_ble_eq_true rfl, Nat.le_of_ble_eq_true rfl⟩ ⟨by dsimp only; omega, by dsimp only; omega⟩ ?_
          refine a_iload_n C dL_isSo_92 rfl rfl ?_
          refine a_bipush (v := nI 8) C dL_isSo_93 (by decide) ?_
          refine a_ishr C dL_isSo_95 ?_
          refine a_bipush (v := nI 64) C dL_isSo_96 (by decide) ?_
          refine g_callS C ((K_L_low _ (by decide) (by decide))).cp sL_185 rfl dL_isSo_98 (Nat.le_of_ble_eq_true rfl) ⟨Nat.le_of_ble_eq_true rfl, Nat.le_of_ble_eq_true rfl⟩ ⟨by dsimp only; omega, by dsimp only; omega⟩ ?_
          first | refine n_iand C dL_isSo_101 ?_ | refine a_iand C dL_isSo_101 ?_
          refine a_istore C dL_isSo_102 (by decide) ?_
          refine a_iconst (v := nI 0) C dL_isSo_104 (by decide) ?_
          refine a_istore C dL_isSo_105 (by decide) ?_
          refine a_join (aLe_s ?_ (aLe_s ?_ (aLe_s ?_ (aLe_s ?_ (aLe_s ?_ (aLe_s ?_ (aLe_s ?_ (aLe_s ?_ (aLe_s ?_ (aLe_s ?_ (aLe_s ?_ (aLe_s ?_ (aLe_n aLe_nil))))))))))))) rfl rfl (ZL107 (81 + 1) 0 (by omega) (by omega))
          · first | with_reducible rfl | exact gl (by first | with_reducible rfl | (refine iF ?_; simp [cntN, h_9, (beq_eq_false_iff_ne.mpr h_9), (bne_iff_ne.mpr h_9), (eq_true h_22), (beq_iff_eq.mpr h_22), (bne_eq_false_iff_eq.mpr h_22), h_39, (beq_eq_false_iff_ne.mpr h_39), (bne_iff_ne.mpr h_39), h_59, (beq_eq_false_iff_ne.mpr h_59), (bne_iff_ne.mpr h_59)]; done) | (refine iT ?_; simp [cntN, h_9, (beq_eq_false_iff_ne.mpr h_9), (bne_iff_ne.mpr h_9), (eq_true h_22), (beq_iff_eq.mpr h_22), (bne_eq_false_iff_eq.mpr h_22), h_39, (beq_eq_false_iff_ne.mpr h_39), (bne_iff_ne.mpr h_39), h_59, (beq_eq_false_iff_ne.mpr h_59), (bne_iff_ne.mpr h_59)]; done) | (refine iB ?_; simp [cntN, h_9, (beq_eq_false_iff_ne.mpr h_9), (bne_iff_ne.mpr h_9), (eq_true h_22), (beq_iff_eq.mpr h_22), (bne_eq_false_iff_eq.mpr h_22), h_39, (beq_eq_false_iff_ne.mpr h_39), (bne_iff_ne.mpr h_39), h_59, (beq_eq_false_iff_ne.mpr h_59), (bne_iff_ne.mpr h_59)]; done) | (simp [cntN, h_9, (beq_eq_false_iff_ne.mpr h_9), (bne_iff_ne.mpr h_9), (eq_true h_22), (beq_iff_eq.mpr h_22), (bne_eq_false_iff_eq.mpr h_22), h_39, (beq_eq_false_iff_ne.mpr h_39), (bne_iff_ne.mpr h_39), h_59, (beq_eq_false_iff_ne.mpr h_59), (bne_iff_ne.mpr h_59)]; done) | (simp [cntN, h_9, (beq_eq_false_iff_ne.mpr h_9), (bne_iff_ne.mpr h_9), (eq_true h_22), (beq_iff_eq.mpr h_22), (bne_eq_false_iff_eq.mpr h_22), h_39, (beq_eq_false_iff_ne.mpr h_39), (bne_iff_ne.mpr h_39), h_59, (beq_eq_false_iff_ne.mpr h_59), (bne_iff_ne.mpr h_59)]; omega) | omega | rfl)
          · first | with_reducible rfl | exact gl (by first | with_reducible rfl | (refine iF ?_; simp [cntN, h_9, (beq_eq_false_iff_ne.mpr h_9), (bne_iff_ne.mpr h_9), (eq_true h_22), (beq_iff_eq.mpr h_22), (bne_eq_false_iff_eq.mpr h_22), h_39, (beq_eq_false_iff_ne.mpr h_39), (bne_iff_ne.mpr h_39), h_59, (beq_eq_false_iff_ne.mpr h_59), (bne_iff_ne.mpr h_59)]; done) | (refine iT ?_; simp [cntN, h_9, (beq_eq_false_iff_ne.mpr h_9), (bne_iff_ne.mpr h_9), (eq_true h_22), (beq_iff_eq.mpr h_22), (bne_eq_false_iff_eq.mpr h_22), h_39, (beq_eq_false_iff_ne.mpr h_39), (bne_iff_ne.mpr h_39), h_59, (beq_eq_false_iff_ne.mpr h_59), (bne_iff_ne.mpr h_59)]; done) | (refine iB ?_; simp [cntN, h_9, (beq_eq_false_iff_ne.mpr h_9), (bne_iff_ne.mpr h_9), (eq_true h_22), (beq_iff_eq.mpr h_22), (bne_eq_false_iff_eq.mpr h_22), h_39, (beq_eq_false_iff_ne.mpr h_39), (bne_iff_ne.mpr h_39), h_59, (beq_eq_false_iff_ne.mpr h_59), (bne_iff_ne.mpr h_59)]; done) | (simp [cntN, h_9, (beq_eq_false_iff_ne.mpr h_9), (bne_iff_ne.mpr h_9), (eq_true h_22), (beq_iff_eq.mpr h_22), (bne_eq_false_iff_eq.mpr h_22), h_39, (beq_eq_false_iff_ne.mpr h_39), (bne_iff_ne.mpr h_39), h_59, (beq_eq_false_iff_ne.mpr h_59), (bne_iff_ne.mpr h_59)]; done) | (simp [cntN, h_9, (beq_eq_false_iff_ne.mpr h_9), (bne_iff_ne.mpr h_9), (eq_true h_22), (beq_iff_eq.mpr h_22), (bne_eq_false_iff_eq.mpr h_22), h_39, (beq_eq_false_iff_ne.mpr h_39), (bne_iff_ne.mpr h_39), h_59, (beq_eq_false_iff_ne.mpr h_59), (bne_iff_ne.mpr h_59)]; omega) | omega | rfl)
          · first | with_reducible rfl | exact gl (by first | with_reducible rfl | (refine iF ?_; simp [cntN, h_9, (beq_eq_false_iff_ne.mpr h_9), (bne_iff_ne.mpr h_9), (eq_true h_22), (beq_iff_eq.mpr h_22), (bne_eq_false_iff_eq.mpr h_22), h_39, (beq_eq_false_iff_ne.mpr h_39), (bne_iff_ne.mpr h_39), h_59, (beq_eq_false_iff_ne.mpr h_59), (bne_iff_ne.mpr h_59)]; done) | (refine iT ?_; simp [cntN, h_9, (beq_eq_false_iff_ne.mpr h_9), (bne_iff_ne.mpr h_9), (eq_true h_22), (beq_iff_eq.mpr h_22), (bne_eq_false_iff_eq.mpr h_22), h_39, (beq_eq_false_iff_ne.mpr h_39), (bne_iff_ne.mpr h_39), h_59, (beq_eq_false_iff_ne.mpr h_59), (bne_iff_ne.mpr h_59)]; done) | (refine iB ?_; simp [cntN, h_9, (beq_eq_false_iff_ne.mpr h_9), (bne_iff_ne.mpr h_9), (eq_true h_22), (beq_iff_eq.mpr h_22), (bne_eq_false_iff_eq.mpr h_22), h_39, (beq_eq_false_iff_ne.mpr h_39), (bne_iff_ne.mpr h_39), h_59, (beq_eq_false_iff_ne.mpr h_59), (bne_iff_ne.mpr h_59)]; done) | (simp [cntN, h_9, (beq_eq_false_iff_ne.mpr h_9), (bne_iff_ne.mpr h_9), (eq_true h_22), (beq_iff_eq.mpr h_22), (bne_eq_false_iff_eq.mpr h_22), h_39, (beq_eq_false_iff_ne.mpr h_39), (bne_iff_ne.mpr h_39), h_59, (beq_eq_false_iff_ne.mpr h_59), (bne_iff_ne.mpr h_59)]; done) | (simp [cntN, h_9, (beq_eq_false_iff_ne.mpr h_9), (bne_iff_ne.mpr h_9), (eq_true h_22), (beq_iff_eq.mpr h_22), (bne_eq_false_iff_eq.mpr h_22), h_39, (beq_eq_false_iff_ne.mpr h_39), (bne_iff_ne.mpr h_39), h_59, (beq_eq_false_iff_ne.mpr h_59), (bne_iff_ne.mpr h_59)]; omega) | omega | rfl)
          · first | with_reducible rfl | exact gl (by first | with_reducible rfl | (refine iF ?_; simp [cntN, h_9, (beq_eq_false_iff_ne.mpr h_9), (bne_iff_ne.mpr h_9), (eq_true h_22), (beq_iff_eq.mpr h_22), (bne_eq_false_iff_eq.mpr h_22), h_39, (beq_eq_false_iff_ne.mpr h_39), (bne_iff_ne.mpr h_39), h_59, (beq_eq_false_iff_ne.mpr h_59), (bne_iff_ne.mpr h_59)]; done) | (refine iT ?_; simp [cntN, h_9, (beq_eq_false_iff_ne.mpr h_9), (bne_iff_ne.mpr h_9), (eq_true h_22), (beq_iff_eq.mpr h_22), (bne_eq_false_iff_eq.mpr h_22), h_39, (beq_eq_false_iff_ne.mpr h_39), (bne_iff_ne.mpr h_39), h_59, (beq_eq_false_iff_ne.mpr h_59), (bne_iff_ne.mpr h_59)]; done) | (refine iB ?_; simp [cntN, h_9, (beq_eq_false_iff_ne.mpr h_9), (bne_iff_ne.mpr h_9), (eq_true h_22), (beq_iff_eq.mpr h_22), (bne_eq_false_iff_eq.mpr h_22), h_39, (beq_eq_false_iff_ne.mpr h_39), (bne_iff_ne.mpr h_39), h_59, (beq_eq_false_iff_ne.mpr h_59), (bne_iff_ne.mpr h_59)]; done) | (simp [cntN, h_9, (beq_eq_false_iff_ne.mpr h_9), (bne_iff_ne.mpr h_9), (eq_true h_22), (beq_iff_eq.mpr h_22), (bne_eq_false_iff_eq.mpr h_22), h_39, (beq_eq_false_iff_ne.mpr h_39), (bne_iff_ne.mpr h_39), h_59, (beq_eq_false_iff_ne.mpr h_59), (bne_iff_ne.mpr h_59)]; done) | (simp [cntN, h_9, (beq_eq_false_iff_ne.mpr h_9), (bne_iff_ne.mpr h_9), (eq_true h_22), (beq_iff_eq.mpr h_22), (bne_eq_false_iff_eq.mpr h_22), h_39, (beq_eq_false_iff_ne.mpr h_39), (bne_iff_ne.mpr h_39), h_59, (beq_eq_false_iff_ne.mpr h_59), (bne_iff_ne.mpr h_59)]; omega) | omega | rfl)
          · first | with_reducible rfl | exact gl (by first | with_reducible rfl | (refine iF ?_; simp [cntN, h_9, (beq_eq_false_iff_ne.mpr h_9), (bne_iff_ne.mpr h_9), (eq_true h_22), (beq_iff_eq.mpr h_22), (bne_eq_false_iff_eq.mpr h_22), h_39, (beq_eq_false_iff_ne.mpr h_39), (bne_iff_ne.mpr h_39), h_59, (beq_eq_false_iff_ne.mpr h_59), (bne_iff_ne.mpr h_59)]; done) | (refine iT ?_; simp [cntN, h_9, (beq_eq_false_iff_ne.mpr h_9), (bne_iff_ne.mpr h_9), (eq_true h_22), (beq_iff_eq.mpr h_22), (bne_eq_false_iff_eq.mpr h_22), h_39, (beq_eq_false_iff_ne.mpr h_39), (bne_iff_ne.mpr h_39), h_59, (beq_eq_false_iff_ne.mpr h_59), (bne_iff_ne.mpr h_59)]; done) | (refine iB ?_; simp [cntN, h_9, (beq_eq_false_iff_ne.mpr h_9), (bne_iff_ne.mpr h_9), (eq_true h_22), (beq_iff_eq.mpr h_22), (bne_eq_false_iff_eq.mpr h_22), h_39, (beq_eq_false_iff_ne.mpr h_39), (bne_iff_ne.mpr h_39), h_59, (beq_eq_false_iff_ne.mpr h_59), (bne_iff_ne.mpr h_59)]; done) | (simp [cntN, h_9, (beq_eq_false_iff_ne.mpr h_9), (bne_iff_ne.mpr h_9), (eq_true h_22), (beq_iff_eq.mpr h_22), (bne_eq_false_iff_eq.mpr h_22), h_39, (beq_eq_false_iff_ne.mpr h_39), (bne_iff_ne.mpr h_39), h_59, (beq_eq_false_iff_ne.mpr h_59), (bne_iff_ne.mpr h_59)]; done) | (simp [cntN, h_9, (beq_eq_false_iff_ne.mpr h_9), (bne_iff_ne.mpr h_9), (eq_true h_22), (beq_iff_eq.mpr h_22), (bne_eq_false_iff_eq.mpr h_22), h_39, (beq_eq_false_iff_ne.mpr h_39), (bne_iff_ne.mpr h_39), h_59, (beq_eq_false_iff_ne.mpr h_59), (bne_iff_ne.mpr h_59)]; omega) | omega | rfl)
          · first | with_reducible rfl | exact gl (by first | with_reducible rfl | (refine iF ?_; simp [cntN, h_9, (beq_eq_false_iff_ne.mpr h_9), (bne_iff_ne.mpr h_9), (eq_true h_22), (beq_iff_eq.mpr h_22), (bne_eq_false_iff_eq.mpr h_22), h_39, (beq_eq_false_iff_ne.mpr h_39), (bne_iff_ne.mpr h_39), h_59, (beq_eq_false_iff_ne.mpr h_59), (bne_iff_ne.mpr h_59)]; done) | (refine iT ?_; simp [cntN, h_9, (beq_eq_false_iff_ne.mpr h_9), (bne_iff_ne.mpr h_9), (eq_true h_22), (beq_iff_eq.mpr h_22), (bne_eq_false_iff_eq.mpr h_22), h_39, (beq_eq_false_iff_ne.mpr h_39), (bne_iff_ne.mpr h_39), h_59, (beq_eq_false_iff_ne.mpr h_59), (bne_iff_ne.mpr h_59)]; done) | (refine iB ?_; simp [cntN, h_9, (beq_eq_false_iff_ne.mpr h_9), (bne_iff_ne.mpr h_9), (eq_true h_22), (beq_iff_eq.mpr h_22), (bne_eq_false_iff_eq.mpr h_22), h_39, (beq_eq_false_iff_ne.mpr h_39), (bne_iff_ne.mpr h_39), h_59, (beq_eq_false_iff_ne.mpr h_59), (bne_iff_ne.mpr h_59)]; done) | (simp [cntN, h_9, (beq_eq_false_iff_ne.mpr h_9), (bne_iff_ne.mpr h_9), (eq_true h_22), (beq_iff_eq.mpr h_22), (bne_eq_false_iff_eq.mpr h_22), h_39, (beq_eq_false_iff_ne.mpr h_39), (bne_iff_ne.mpr h_39), h_59, (beq_eq_false_iff_ne.mpr h_59), (bne_iff_ne.mpr h_59)]; done) | (simp [cntN, h_9, (beq_eq_false_iff_ne.mpr h_9), (bne_iff_ne.mpr h_9), (eq_true h_22), (beq_iff_eq.mpr h_22), (bne_eq_false_iff_eq.mpr h_22), h_39, (beq_eq_false_iff_ne.mpr h_39), (bne_iff_ne.mpr h_39), h_59, (beq_eq_false_iff_ne.mpr h_59), (bne_iff_ne.mpr h_59)]; omega) | omega | rfl)
          · first | with_reducible rfl | exact gl (by first | with_reducible rfl | (refine iF ?_; simp [cntN, h_9, (beq_eq_false_iff_ne.mpr h_9), (bne_iff_ne.mpr h_9), (eq_true h_22), (beq_iff_eq.mpr h_22), (bne_eq_false_iff_eq.mpr h_22), h_39, (beq_eq_false_iff_ne.mpr h_39), (bne_iff_ne.mpr h_39), h_59, (beq_eq_false_iff_ne.mpr h_59), (bne_iff_ne.mpr h_59)]; done) | (refine iT ?_; simp [cntN, h_9, (beq_eq_false_iff_ne.mpr h_9), (bne_iff_ne.mpr h_9), (eq_true h_22), (beq_iff_eq.mpr h_22), (bne_eq_false_iff_eq.mpr h_22), h_39, (beq_eq_false_iff_ne.mpr h_39), (bne_iff_ne.mpr h_39), h_59, (beq_eq_false_iff_ne.mpr h_59), (bne_iff_ne.mpr h_59)]; done) | (refine iB ?_; simp [cntN, h_9, (beq_eq_false_iff_ne.mpr h_9), (bne_iff_ne.mpr h_9), (eq_true h_22), (beq_iff_eq.mpr h_22), (bne_eq_false_iff_eq.mpr h_22), h_39, (beq_eq_false_iff_ne.mpr h_39), (bne_iff_ne.mpr h_39), h_59, (beq_eq_false_iff_ne.mpr h_59), (bne_iff_ne.mpr h_59)]; done) | (simp [cntN, h_9, (beq_eq_false_iff_ne.mpr h_9), (bne_iff_ne.mpr h_9), (eq_true h_22), (beq_iff_eq.mpr h_22), (bne_eq_false_iff_eq.mpr h_22), h_39, (beq_eq_false_iff_ne.mpr h_39), (bne_iff_ne.mpr h_39), h_59, (beq_eq_false_iff_ne.mpr h_59), (bne_iff_ne.mpr h_59)]; done) | (simp [cntN, h_9, (beq_eq_false_iff_ne.mpr h_9), (bne_iff_ne.mpr h_9), (eq_true h_22), (beq_iff_eq.mpr h_22), (bne_eq_false_iff_eq.mpr h_22), h_39, (beq_eq_false_iff_ne.mpr h_39), (bne_iff_ne.mpr h_39), h_59, (beq_eq_false_iff_ne.mpr h_59), (bne_iff_ne.mpr h_59)]; omega) | omega | rfl)
          · first | with_reducible rfl | exact gl (by first | with_reducible rfl | (refine iF ?_; simp [cntN, h_9, (beq_eq_false_iff_ne.mpr h_9), (bne_iff_ne.mpr h_9), (eq_true h_22), (beq_iff_eq.mpr h_22), (bne_eq_false_iff_eq.mpr h_22), h_39, (beq_eq_false_iff_ne.mpr h_39), (bne_iff_ne.mpr h_39), h_59, (beq_eq_false_iff_ne.mpr h_59), (bne_iff_ne.mpr h_59)]; done) | (refine iT ?_; simp [cntN, h_9, (beq_eq_false_iff_ne.mpr h_9), (bne_iff_ne.mpr h_9), (eq_true h_22), (beq_iff_eq.mpr h_22), (bne_eq_false_iff_eq.mpr h_22), h_39, (beq_eq_false_iff_ne.mpr h_39), (bne_iff_ne.mpr h_39), h_59, (beq_eq_false_iff_ne.mpr h_59), (bne_iff_ne.mpr h_59)]; done) | (refine iB ?_; simp [cntN, h_9, (beq_eq_false_iff_ne.mpr h_9), (bne_iff_ne.mpr h_9), (eq_true h_22), (beq_iff_eq.mpr h_22), (bne_eq_false_iff_eq.mpr h_22), h_39, (beq_eq_false_iff_ne.mpr h_39), (bne_iff_ne.mpr h_39), h_59, (beq_eq_false_iff_ne.mpr h_59), (bne_iff_ne.mpr h_59)]; done) | (simp [cntN, h_9, (beq_eq_false_iff_ne.mpr h_9), (bne_iff_ne.mpr h_9), (eq_true h_22), (beq_iff_eq.mpr h_22), (bne_eq_false_iff_eq.mpr h_22), h_39, (beq_eq_false_iff_ne.mpr h_39), (bne_iff_ne.mpr h_39), h_59, (beq_eq_false_iff_ne.mpr h_59), (bne_iff_ne.mpr h_59)]; done) | (simp [cntN, h_9, (beq_eq_false_iff_ne.mpr h_9), (bne_iff_ne.mpr h_9), (eq_true h_22), (beq_iff_eq.mpr h_22), (bne_eq_false_iff_eq.mpr h_22), h_39, (beq_eq_false_iff_ne.mpr h_39), (bne_iff_ne.mpr h_39), h_59, (beq_eq_false_iff_ne.mpr h_59), (bne_iff_ne.mpr h_59)]; omega) | omega | rfl)
          · first | with_reducible rfl | exact gl (by first | with_reducible rfl | (refine iF ?_; simp [cntN, h_9, (beq_eq_false_iff_ne.mpr h_9), (bne_iff_ne.mpr h_9), (eq_true h_22), (beq_iff_eq.mpr h_22), (bne_eq_false_iff_eq.mpr h_22), h_39, (beq_eq_false_iff_ne.mpr h_39), (bne_iff_ne.mpr h_39), h_59, (beq_eq_false_iff_ne.mpr h_59), (bne_iff_ne.mpr h_59)]; done) | (refine iT ?_; simp [cntN, h_9, (beq_eq_false_iff_ne.mpr h_9), (bne_iff_ne.mpr h_9), (eq_true h_22), (beq_iff_eq.mpr h_22), (bne_eq_false_iff_eq.mpr h_22), h_39, (beq_eq_false_iff_ne.mpr h_39), (bne_iff_ne.mpr h_39), h_59, (beq_eq_false_iff_ne.mpr h_59), (bne_iff_ne.mpr h_59)]; done) | (refine iB ?_; simp [cntN, h_9, (beq_eq_false_iff_ne.mpr h_9), (bne_iff_ne.mpr h_9), (eq_true h_22), (beq_iff_eq.mpr h_22), (bne_eq_false_iff_eq.mpr h_22), h_39, (beq_eq_false_iff_ne.mpr h_39), (bne_iff_ne.mpr h_39), h_59, (beq_eq_false_iff_ne.mpr h_59), (bne_iff_ne.mpr h_59)]; done) | (simp [cntN, h_9, (beq_eq_false_iff_ne.mpr h_9), (bne_iff_ne.mpr h_9), (eq_true h_22), (beq_iff_eq.mpr h_22), (bne_eq_false_iff_eq.mpr h_22), h_39, (beq_eq_false_iff_ne.mpr h_39), (bne_iff_ne.mpr h_39), h_59, (beq_eq_false_iff_ne.mpr h_59), (bne_iff_ne.mpr h_59)]; done) | (simp [cntN, h_9, (beq_eq_false_iff_ne.mpr h_9), (bne_iff_ne.mpr h_9), (eq_true h_22), (beq_iff_eq.mpr h_22), (bne_eq_false_iff_eq.mpr h_22), h_39, (beq_eq_false_iff_ne.mpr h_39), (bne_iff_ne.mpr h_39), h_59, (beq_eq_false_iff_ne.mpr h_59), (bne_iff_ne.mpr h_59)]; omega) | omega | rfl)
          · first | with_reducible rfl | exact gl (by first | with_reducible rfl | (refine iF ?_; simp [cntN, h_9, (beq_eq_false_iff_ne.mpr h_9), (bne_iff_ne.mpr h_9), (eq_true h_22), (beq_iff_eq.mpr h_22), (bne_eq_false_iff_eq.mpr h_22), h_39, (beq_eq_false_iff_ne.mpr h_39), (bne_iff_ne.mpr h_39), h_59, (beq_eq_false_iff_ne.mpr h_59), (bne_iff_ne.mpr h_59)]; done) | (refine iT ?_; simp [cntN, h_9, (beq_eq_false_iff_ne.mpr h_9), (bne_iff_ne.mpr h_9), (eq_true h_22), (beq_iff_eq.mpr h_22), (bne_eq_false_iff_eq.mpr h_22), h_39, (beq_eq_false_iff_ne.mpr h_39), (bne_iff_ne.mpr h_39), h_59, (beq_eq_false_iff_ne.mpr h_59), (bne_iff_ne.mpr h_59)]; done) | (refine iB ?_; simp [cntN, h_9, (beq_eq_false_iff_ne.mpr h_9), (bne_iff_ne.mpr h_9), (eq_true h_22), (beq_iff_eq.mpr h_22), (bne_eq_false_iff_eq.mpr h_22), h_39, (beq_eq_false_iff_ne.mpr h_39), (bne_iff_ne.mpr h_39), h_59, (beq_eq_false_iff_ne.mpr h_59), (bne_iff_ne.mpr h_59)]; done) | (simp [cntN, h_9, (beq_eq_false_iff_ne.mpr h_9), (bne_iff_ne.mpr h_9), (eq_true h_22), (beq_iff_eq.mpr h_22), (bne_eq_false_iff_eq.mpr h_22), h_39, (beq_eq_false_iff_ne.mpr h_39), (bne_iff_ne.mpr h_39), h_59, (beq_eq_false_iff_ne.mpr h_59), (bne_iff_ne.mpr h_59)]; done) | (simp [cntN, h_9, (beq_eq_false_iff_ne.mpr h_9), (bne_iff_ne.mpr h_9), (eq_true h_22), (beq_iff_eq.mpr h_22), (bne_eq_false_iff_eq.mpr h_22), h_39, (beq_eq_false_iff_ne.mpr h_39), (bne_iff_ne.mpr h_39), h_59, (beq_eq_false_iff_ne.mpr h_59), (bne_iff_ne.mpr h_59)]; omega) | omega | rfl)
          · first | with_reducible rfl | exact gl (by first | with_reducible rfl | (refine iF ?_; simp [cntN, h_9, (beq_eq_false_iff_ne.mpr h_9), (bne_iff_ne.mpr h_9), (eq_true h_22), (beq_iff_eq.mpr h_22), (bne_eq_false_iff_eq.mpr h_22), h_39, (beq_eq_false_iff_ne.mpr h_39), (bne_iff_ne.mpr h_39), h_59, (beq_eq_false_iff_ne.mpr h_59), (bne_iff_ne.mpr h_59)]; done) | (refine iT ?_; simp [cntN, h_9, (beq_eq_false_iff_ne.mpr h_9), (bne_iff_ne.mpr h_9), (eq_true h_22), (beq_iff_eq.mpr h_22), (bne_eq_false_iff_eq.mpr h_22), h_39, (beq_eq_false_iff_ne.mpr h_39), (bne_iff_ne.mpr h_39), h_59, (beq_eq_false_iff_ne.mpr h_59), (bne_iff_ne.mpr h_59)]; done) | (refine iB ?_; simp [cntN, h_9, (beq_eq_false_iff_ne.mpr h_9), (bne_iff_ne.mpr h_9), (eq_true h_22), (beq_iff_eq.mpr h_22), (bne_eq_false_iff_eq.mpr h_22), h_39, (beq_eq_false_iff_ne.mpr h_39), (bne_iff_ne.mpr h_39), h_59, (beq_eq_false_iff_ne.mpr h_59), (bne_iff_ne.mpr h_59)]; done) | (simp [cntN, h_9, (beq_eq_false_iff_ne.mpr h_9), (bne_iff_ne.mpr h_9), (eq_true h_22), (beq_iff_eq.mpr h_22), (bne_eq_false_iff_eq.mpr h_22), h_39, (beq_eq_false_iff_ne.mpr h_39), (bne_iff_ne.mpr h_39), h_59, (beq_eq_false_iff_ne.mpr h_59), (bne_iff_ne.mpr h_59)]; done) | (simp [cntN, h_9, (beq_eq_false_iff_ne.mpr h_9), (bne_iff_ne.mpr h_9), (eq_true h_22), (beq_iff_eq.mpr h_22), (bne_eq_false_iff_eq.mpr h_22), h_39, (beq_eq_false_iff_ne.mpr h_39), (bne_iff_ne.mpr h_39), h_59, (beq_eq_false_iff_ne.mpr h_59), (bne_iff_ne.mpr h_59)]; omega) | omega | rfl)
          · first | with_reducible rfl | exact gl (by first | with_reducible rfl | (refine iF ?_; simp [cntN, h_9, (beq_eq_false_iff_ne.mpr h_9), (bne_iff_ne.mpr h_9), (eq_true h_22), (beq_iff_eq.mpr h_22), (bne_eq_false_iff_eq.mpr h_22), h_39, (beq_eq_false_iff_ne.mpr h_39), (bne_iff_ne.mpr h_39), h_59, (beq_eq_false_iff_ne.mpr h_59), (bne_iff_ne.mpr h_59)]; done) | (refine iT ?_; simp [cntN, h_9, (beq_eq_false_iff_ne.mpr h_9), (bne_iff_ne.mpr h_9), (eq_true h_22), (beq_iff_eq.mpr h_22), (bne_eq_false_iff_eq.mpr h_22), h_39, (beq_eq_false_iff_ne.mpr h_39), (bne_iff_ne.mpr h_39), h_59, (beq_eq_false_iff_ne.mpr h_59), (bne_iff_ne.mpr h_59)]; done) | (refine iB ?_; simp [cntN, h_9, (beq_eq_false_iff_ne.mpr h_9), (bne_iff_ne.mpr h_9), (eq_true h_22), (beq_iff_eq.mpr h_22), (bne_eq_false_iff_eq.mpr h_22), h_39, (beq_eq_false_iff_ne.mpr h_39), (bne_iff_ne.mpr h_39), h_59, (beq_eq_false_iff_ne.mpr h_59), (bne_iff_ne.mpr h_59)]; done) | (simp [cntN, h_9, (beq_eq_false_iff_ne.mpr h_9), (bne_iff_ne.mpr h_9), (eq_true h_22), (beq_iff_eq.mpr h_22), (bne_eq_false_iff_eq.mpr h_22), h_39, (beq_eq_false_iff_ne.mpr h_39), (bne_iff_ne.mpr h_39), h_59, (beq_eq_false_iff_ne.mpr h_59), (bne_iff_ne.mpr h_59)]; done) | (simp [cntN, h_9, (beq_eq_false_iff_ne.mpr h_9), (bne_iff_ne.mpr h_9), (eq_true h_22), (beq_iff_eq.mpr h_22), (bne_eq_false_iff_eq.mpr h_22), h_39, (beq_eq_false_iff_ne.mpr h_39), (bne_iff_ne.mpr h_39), h_59, (beq_eq_false_iff_ne.mpr h_59), (bne_iff_ne.mpr h_59)]; omega) | omega | rfl)

end A70

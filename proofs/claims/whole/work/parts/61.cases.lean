section A61
/-! ### the law: one call, by its kind -/
theorem sL_109 : aCsW RL 109 yL_cut cL_cut 5 (some .int) [(0, 10, 13, 13), (0, 10, 17, 15)] 4 := ⟨cwL_cut2, gw_in (List.mem_of_getElem? (i := 828) (by decide +kernel)) rfl, gw_in (List.mem_of_getElem? (i := 829) (by decide +kernel)) rfl, by decide +kernel⟩
theorem sL_118 : aCsW RL 118 yL_deepen cL_deepen 5 (some .int) [(0, 10, 13, 20), (0, 10, 17, 15)] 4 := ⟨cwL_deepen, gw_in (List.mem_of_getElem? (i := 866) (by decide +kernel)) rfl, gw_in (List.mem_of_getElem? (i := 867) (by decide +kernel)) rfl, by decide +kernel⟩
theorem sL_121 : aCsW RL 121 yL_retire cL_retire 4 (some .int) [(0, 9, 12, 20)] 3 := ⟨cwL_retire, gw_in (List.mem_of_getElem? (i := 879) (by decide +kernel)) rfl, gw_in (List.mem_of_getElem? (i := 880) (by decide +kernel)) rfl, by decide +kernel⟩
theorem sL_125 : aCsW RL 125 yL_give cL_give 5 (some .int) [(0, 10, 13, 20), (0, 10, 17, 13)] 4 := ⟨cwL_give, gw_in (List.mem_of_getElem? (i := 887) (by decide +kernel)) rfl, gw_in (List.mem_of_getElem? (i := 888) (by decide +kernel)) rfl, by decide +kernel⟩
theorem sL_128 : aCsW RL 128 yL_lose cL_lose 4 (some .int) [(0, 9, 12, 20), (0, 9, 15, 15)] 3 := ⟨cwL_lose, gw_in (List.mem_of_getElem? (i := 895) (by decide +kernel)) rfl, gw_in (List.mem_of_getElem? (i := 896) (by decide +kernel)) rfl, by decide +kernel⟩
theorem sL_131 : aCsW RL 131 yL_find cL_find 4 (some .int) [(0, 9, 12, 20), (0, 9, 15, 15)] 3 := ⟨cwL_find, gw_in (List.mem_of_getElem? (i := 909) (by decide +kernel)) rfl, gw_in (List.mem_of_getElem? (i := 910) (by decide +kernel)) rfl, by decide +kernel⟩
theorem sL_134 : aCsW RL 134 yL_ward cL_ward 5 (some .int) [(0, 10, 13, 20), (0, 10, 17, 13)] 4 := ⟨cwL_ward, gw_in (List.mem_of_getElem? (i := 917) (by decide +kernel)) rfl, gw_in (List.mem_of_getElem? (i := 918) (by decide +kernel)) rfl, by decide +kernel⟩
theorem sL_137 : aCsW RL 137 yL_guest cL_guest 5 (some .int) [(0, 10, 13, 20), (0, 10, 17, 13), (0, 10, 21, 15)] 4 := ⟨cwL_guest, gw_in (List.mem_of_getElem? (i := 924) (by decide +kernel)) rfl, gw_in (List.mem_of_getElem? (i := 925) (by decide +kernel)) rfl, by decide +kernel⟩
theorem sL_140 : aCsW RL 140 yL_take cL_take 4 (some .int) [(0, 9, 12, 20), (0, 9, 15, 15)] 3 := ⟨cwL_take, gw_in (List.mem_of_getElem? (i := 932) (by decide +kernel)) rfl, gw_in (List.mem_of_getElem? (i := 933) (by decide +kernel)) rfl, by decide +kernel⟩
theorem sL_143 : aCsW RL 143 yL_turn cL_turn 5 (some .int) [(0, 10, 13, 20), (0, 10, 17, 15)] 4 := ⟨cwL_turn, gw_in (List.mem_of_getElem? (i := 943) (by decide +kernel)) rfl, gw_in (List.mem_of_getElem? (i := 944) (by decide +kernel)) rfl, by decide +kernel⟩
theorem sL_146 : aCsW RL 146 yL_set cL_set 5 (some .int) [(0, 10, 13, 20), (0, 10, 17, 13)] 4 := ⟨cwL_set, gw_in (List.mem_of_getElem? (i := 956) (by decide +kernel)) rfl, gw_in (List.mem_of_getElem? (i := 957) (by decide +kernel)) rfl, by decide +kernel⟩
theorem sL_149 : aCsW RL 149 yL_append cL_append 4 (some .int) [(0, 9, 12, 13), (0, 9, 15, 15)] 3 := ⟨cwL_append, gw_in (List.mem_of_getElem? (i := 972) (by decide +kernel)) rfl, gw_in (List.mem_of_getElem? (i := 973) (by decide +kernel)) rfl, by decide +kernel⟩
theorem sL_160 : aCsW RL 160 yL_obey cL_obey 3 (some .int) [(0, 8, 11, 13)] 2 := ⟨cwL_obey, gw_in (List.mem_of_getElem? (i := 981) (by decide +kernel)) rfl, gw_in (List.mem_of_getElem? (i := 982) (by decide +kernel)) rfl, by decide +kernel⟩
theorem sL_168 : aCsW RL 168 yL_goBack cL_goBack 3 (some .int) [(0, 8, 11, 15)] 2 := ⟨cwL_goBack, gw_in (List.mem_of_getElem? (i := 1015) (by decide +kernel)) rfl, gw_in (List.mem_of_getElem? (i := 1016) (by decide +kernel)) rfl, by decide +kernel⟩
theorem sL_171 : aCsW RL 171 yL_undo cL_undo 3 (some .int) [(0, 8, 11, 15)] 2 := ⟨cwL_undo, gw_in (List.mem_of_getElem? (i := 1023) (by decide +kernel)) rfl, gw_in (List.mem_of_getElem? (i := 1024) (by decide +kernel)) rfl, by decide +kernel⟩
theorem sL_174 : aCsW RL 174 yL_key cL_key 5 (some .int) [(0, 10, 13, 20), (0, 10, 17, 13)] 4 := ⟨cwL_key, gw_in (List.mem_of_getElem? (i := 1031) (by decide +kernel)) rfl, gw_in (List.mem_of_getElem? (i := 1032) (by decide +kernel)) rfl, by decide +kernel⟩
theorem sL_177 : aCsW RL 177 yL_lock cL_lock 5 (some .int) [(0, 10, 13, 20), (0, 10, 17, 13)] 4 := ⟨cwL_lock, gw_in (List.mem_of_getElem? (i := 1035) (by decide +kernel)) rfl, gw_in (List.mem_of_getElem? (i := 1036) (by decide +kernel)) rfl, by decide +kernel⟩
theorem sL_180 : aCsW RL 180 yL_person cL_person 5 (some .int) [(0, 10, 13, 20), (0, 10, 17, 13)] 4 := ⟨cwL_person, gw_in (List.mem_of_getElem? (i := 1039) (by decide +kernel)) rfl, gw_in (List.mem_of_getElem? (i := 1040) (by decide +kernel)) rfl, by decide +kernel⟩
theorem sL_183 : aCsW RL 183 yL_code cL_code 5 (some .int) [(0, 10, 13, 13)] 4 := ⟨cwL_code, gw_in (List.mem_of_getElem? (i := 1043) (by decide +kernel)) rfl, gw_in (List.mem_of_getElem? (i := 1044) (by decide +kernel)) rfl, by decide +kernel⟩
theorem sL_186 : aCsW RL 186 yL_level cL_level 5 (some .int) [(0, 10, 13, 20), (0, 10, 17, 13)] 4 := ⟨cwL_level, gw_in (List.mem_of_getElem? (i := 1047) (by decide +kernel)) rfl, gw_in (List.mem_of_getElem? (i := 1048) (by decide +kernel)) rfl, by decide +kernel⟩
theorem sL_189 : aCsW RL 189 yL_count cL_count 4 (some .int) [(0, 9, 12, 13)] 3 := ⟨cwL_count, gw_in (List.mem_of_getElem? (i := 1051) (by decide +kernel)) rfl, gw_in (List.mem_of_getElem? (i := 1052) (by decide +kernel)) rfl, by decide +kernel⟩
theorem sL_192 : aCsW RL 192 yL_setting cL_setting 4 (some .int) [(0, 9, 12, 20)] 3 := ⟨cwL_setting, gw_in (List.mem_of_getElem? (i := 1055) (by decide +kernel)) rfl, gw_in (List.mem_of_getElem? (i := 1056) (by decide +kernel)) rfl, by decide +kernel⟩
theorem sL_195 : aCsW RL 195 yL_why cL_why 5 (some .int) [(0, 10, 13, 20)] 4 := ⟨cwL_why, gw_in (List.mem_of_getElem? (i := 1062) (by decide +kernel)) rfl, gw_in (List.mem_of_getElem? (i := 1063) (by decide +kernel)) rfl, by decide +kernel⟩
theorem sL_198 : aCsW RL 198 yL_stopped cL_stopped 4 (some .int) [(0, 9, 12, 13)] 3 := ⟨cwL_stopped, gw_in (List.mem_of_getElem? (i := 1066) (by decide +kernel)) rfl, gw_in (List.mem_of_getElem? (i := 1067) (by decide +kernel)) rfl, by decide +kernel⟩
theorem sL_201 : aCsW RL 201 yL_most cL_most 4 (some .int) [(0, 9, 12, 13)] 3 := ⟨cwL_most, gw_in (List.mem_of_getElem? (i := 1070) (by decide +kernel)) rfl, gw_in (List.mem_of_getElem? (i := 1071) (by decide +kernel)) rfl, by decide +kernel⟩
theorem sL_204 : aCsW RL 204 yL_pick cL_pick 4 (some .int) [(0, 9, 12, 20)] 3 := ⟨cwL_pick, gw_in (List.mem_of_getElem? (i := 1074) (by decide +kernel)) rfl, gw_in (List.mem_of_getElem? (i := 1075) (by decide +kernel)) rfl, by decide +kernel⟩
theorem sL_207 : aCsW RL 207 yL_opener cL_opener 4 (some .int) [(0, 9, 12, 13)] 3 := ⟨cwL_opener, gw_in (List.mem_of_getElem? (i := 1078) (by decide +kernel)) rfl, gw_in (List.mem_of_getElem? (i := 1079) (by decide +kernel)) rfl, by decide +kernel⟩
theorem sL_210 : aCsW RL 210 yL_worn cL_worn 5 (some .int) [(0, 10, 13, 20), (0, 10, 17, 13)] 4 := ⟨cwL_worn, gw_in (List.mem_of_getElem? (i := 1094) (by decide +kernel)) rfl, gw_in (List.mem_of_getElem? (i := 1095) (by decide +kernel)) rfl, by decide +kernel⟩
theorem sL_213 : aCsW RL 213 yL_crossedIn cL_crossedIn 4 (some .int) [(0, 9, 12, 20)] 3 := ⟨cwL_crossedIn, gw_in (List.mem_of_getElem? (i := 1102) (by decide +kernel)) rfl, gw_in (List.mem_of_getElem? (i := 1103) (by decide +kernel)) rfl, by decide +kernel⟩
variable {G : aG} {p : Program} {l : Launch} {e : Env} {s : State} {m : MethodId} {args : Array Value} {below : List Frame} {meth : Method} {c : Code} {Q : State → Prop} {N i ex us : Nat} {xs : Nat → Int32} {w : Wd}
abbrev lwL (i : Nat) : aL := [some (.ref 1003), some (.ref 0), some (.ref 204), some (.ref 218), some (.int (nI i))]
/-- what is behind a case: the loop's end, with a world of which the bond holds -/
abbrev lwK (G : aG) (p : Program) (l : Launch) (e : Env) (s : State) (m : MethodId) (args : Array Value) (below : List Frame) (meth : Method) (c : Code) (Q : State → Prop) (i ex us : Nat) : Prop := ∀ (d : Nat) (w' : Wd), d ≤ 1 → Inv w' → WA G p l e room_1 s m args below meth c Q 9 0 0 2085 (lwL i) [] (fzM w' (ex + d) (us + 6 * d))
theorem lc_cut (C : aCtx G p s m args meth c cL_law 9 RL) (hfl : l.flags = flags0) (hX : aScr G s N xs) (hN : N < 2 ^ 31) (hi : i + 2 < N) (I : Inv w) (hb : ex ≤ 2000 ∧ us ≤ 100000) (k : lwK G p l e s m args below meth c Q i ex us) : WA G p l e room_1 s m args below meth c Q 9 0 0 192 (lwL i) [] (fzM w ex us) := by
  obtain ⟨d9, o9, Q9, f1, l1, f2, l2, hd9, ⟨m1, m2, m3, m4⟩, hH9, hR9⟩ := S_cut (x0 := xs (i + 1)) (x1 := xs (i + 2)) I
  refine a_pad 4 ?_
  refine a_eq (L' := [some (.ref 1003), some (.ref 0), some (.ref 204), some (.ref 218), some (.int (nI i)), none, none, none, none]) rfl rfl rfl ?_
  refine a_aload_n C dL_law_192 rfl rfl ?_
  refine a_aload_n C dL_law_193 rfl rfl ?_
  refine a_iload C dL_law_194 rfl ?_
  refine a_iconst (v := nI 1) C dL_law_196 (by decide) ?_
  refine n_iadd C dL_law_197 ?_
  refine a_scl C hX dL_law_198 rfl (show i + 1 < N by omega) hN ?_
  refine a_aload_n C dL_law_199 rfl rfl ?_
  refine a_iload C dL_law_200 rfl ?_
  refine a_iconst (v := nI 2) C dL_law_202 (by decide) ?_
  refine n_iadd C dL_law_203 ?_
  refine a_scl C hX dL_law_204 rfl (show i + 2 < N by omega) hN ?_
  refine a_aload_n C dL_law_205 rfl rfl ?_
  refine a_callSW C hfl [.ref 0, .int (xs (i + 1)), .int (xs (i + 2)), .ref 218] (hH9 ex us) sL_109 dL_law_206 rfl (Nat.le_of_ble_eq_true rfl) ⟨Nat.succ_le_succ m1, by show 8 + (5 + 11) + l1 ≤ 438; omega⟩ ⟨by show 219 + ex + d9 ≤ 0 + 601024; omega, by show us + 6 * d9 ≤ 0 + 7293034; omega⟩ (fun r9 M9 hp9 _ _ => ?_)
  obtain ⟨x9, w1, rfl, rfl, hq9⟩ := hp9
  have hx9 := (hR9 _ _ hq9).1
  have hF9 := (hR9 _ _ hq9).2
  subst hx9
  refine a_eq (st' := [.int x9]) rfl rfl rfl ?_
  refine a_istore C dL_law_209 (by decide) ?_
  refine a_eq (L' := [some (.ref 1003), some (.ref 0), some (.ref 204), some (.ref 218), some (.int (nI i)), some (.int x9), none, none, none]) rfl rfl rfl ?_
  refine a_aload_n C dL_law_211 rfl rfl ?_
  refine a_aload_n C dL_law_212 rfl rfl ?_
  refine a_iload C dL_law_213 rfl ?_
  refine a_iconst (v := nI 1) C dL_law_215 (by decide) ?_
  refine n_iadd C dL_law_216 ?_
  refine a_scl C hX dL_law_217 rfl (show i + 1 < N by omega) hN ?_
  refine a_aload_n C dL_law_218 rfl rfl ?_
  refine a_iload C dL_law_219 rfl ?_
  refine a_iconst (v := nI 2) C dL_law_221 (by decide) ?_
  refine n_iadd C dL_law_222 ?_
  refine a_scl C hX dL_law_223 rfl (show i + 2 < N by omega) hN ?_
  refine a_callV C [.int (xs (i + 1)), .int (xs (i + 2))] 7 (hF9 (ex + d9) (us + 6 * d9)) vL_114 (show 204 < 219 by decide) (by decide) (show fz w1 204 = .inr (7, _) from rfl) rfl dL_law_224 rfl (Nat.le_of_ble_eq_true rfl) ⟨Nat.succ_le_succ m3, by show 8 + (3 + 11) + l2 ≤ 438; omega⟩ ⟨by show 219 + (ex + d9) + 0 ≤ 0 + 601024; omega, by show us + 6 * d9 + 0 ≤ 0 + 7293034; omega⟩ (fun r9 M9 hp9 _ _ => ?_)
  obtain ⟨w2, rfl, b9, rfl, ht9, hl9, I2⟩ := hp9
  refine a_eq (st' := [.int b9]) rfl rfl rfl ?_
  refine a_istore C dL_law_227 (by decide) ?_
  refine a_eq (L' := [some (.ref 1003), some (.ref 0), some (.ref 204), some (.ref 218), some (.int (nI i)), some (.int x9), some (.int b9), none, none]) rfl rfl rfl ?_
  refine a_aload_n C dL_law_229 rfl rfl ?_
  refine a_callV C [] 7 (K_X7_thrown (w := w2) (ex + d9) (us + 6 * d9)) vL_115 (show 204 < 219 by decide) (by decide) (show fz w2 204 = .inr (7, _) from rfl) rfl dL_law_230 rfl (Nat.le_of_ble_eq_true rfl) ⟨by decide, by decide⟩ ⟨by show 219 + (ex + d9) + 0 ≤ 0 + 601024; omega, by show us + 6 * d9 + 0 ≤ 0 + 7293034; omega⟩ (fun r9 M9 hp9 _ _ => ?_)
  obtain ⟨w3, rfl, rfl, e3⟩ := hp9
  subst e3
  refine a_eq (st' := [.int (w3.1 204 0)]) rfl rfl rfl ?_
  refine a_iload C dL_law_233 rfl ?_
  refine a_icmp_eq (tgt := 240) C dL_law_235 (by decide) (fun _ => ?_) (fun h9 => absurd ht9 h9)
  refine a_iload C dL_law_240 rfl ?_
  have K9 : WA G p l e room_1 s m args below meth c Q 9 0 0 257 [some (.ref 1003), some (.ref 0), some (.ref 204), some (.ref 218), some (.int (nI i)), some (.int x9), some (.int b9), none, none] [] (fzM w3 (ex + d9) (us + 6 * d9)) := a_goto (tgt := 2085) C dL_law_257 (by decide) (a_cut5 (k d9 w3 hd9 I2))
  refine a_if_ne (tgt := 257) C dL_law_242 (by decide) (fun _ => K9) (fun h9 => ?_)
  refine a_aload_n C dL_law_245 rfl rfl ?_
  refine a_iconst (v := nI 0) C dL_law_246 (by decide) ?_
  refine a_lald C dL_law_247 (show 218 < 219 by decide) (by decide) (show fz w3 218 = .inl (11, (1, .inr (.inl (fun _ => w3.2 218)))) from rfl) rfl (show 0 < 1 by decide) (by decide) ?_
  refine a_iload C dL_law_248 rfl ?_
  refine a_i2l C dL_law_250 ?_
  refine a_lcmp C dL_law_251 ?_
  exact a_if_eq (tgt := 257) C dL_law_252 (by decide) (fun _ => K9) (fun h8 => absurd ((lg_cmp_eq _ _).mpr (hl9 h9)) h8)
theorem lc_deepen (C : aCtx G p s m args meth c cL_law 9 RL) (hfl : l.flags = flags0) (hX : aScr G s N xs) (hN : N < 2 ^ 31) (hi : i + 2 < N) (I : Inv w) (hb : ex ≤ 2000 ∧ us ≤ 100000) (k : lwK G p l e s m args below meth c Q i ex us) : WA G p l e room_1 s m args below meth c Q 9 0 0 260 (lwL i) [] (fzM w ex us) := by
  obtain ⟨d9, o9, Q9, f1, l1, f2, l2, hd9, ⟨m1, m2, m3, m4⟩, hH9, hR9⟩ := S_deepen (x0 := xs (i + 1)) (x1 := xs (i + 2)) I
  refine a_pad 4 ?_
  refine a_eq (L' := [some (.ref 1003), some (.ref 0), some (.ref 204), some (.ref 218), some (.int (nI i)), none, none, none, none]) rfl rfl rfl ?_
  refine a_aload_n C dL_law_260 rfl rfl ?_
  refine a_aload_n C dL_law_261 rfl rfl ?_
  refine a_iload C dL_law_262 rfl ?_
  refine a_iconst (v := nI 1) C dL_law_264 (by decide) ?_
  refine n_iadd C dL_law_265 ?_
  refine a_scl C hX dL_law_266 rfl (show i + 1 < N by omega) hN ?_
  refine a_aload_n C dL_law_267 rfl rfl ?_
  refine a_iload C dL_law_268 rfl ?_
  refine a_iconst (v := nI 2) C dL_law_270 (by decide) ?_
  refine n_iadd C dL_law_271 ?_
  refine a_scl C hX dL_law_272 rfl (show i + 2 < N by omega) hN ?_
  refine a_aload_n C dL_law_273 rfl rfl ?_
  refine a_callSW C hfl [.ref 0, .int (xs (i + 1)), .int (xs (i + 2)), .ref 218] (hH9 ex us) sL_118 dL_law_274 rfl (Nat.le_of_ble_eq_true rfl) ⟨Nat.succ_le_succ m1, by show 8 + (5 + 11) + l1 ≤ 438; omega⟩ ⟨by show 219 + ex + d9 ≤ 0 + 601024; omega, by show us + 6 * d9 ≤ 0 + 7293034; omega⟩ (fun r9 M9 hp9 _ _ => ?_)
  obtain ⟨x9, w1, rfl, rfl, hq9⟩ := hp9
  have hx9 := (hR9 _ _ hq9).1
  have hF9 := (hR9 _ _ hq9).2
  subst hx9
  refine a_eq (st' := [.int x9]) rfl rfl rfl ?_
  refine a_istore C dL_law_277 (by decide) ?_
  refine a_eq (L' := [some (.ref 1003), some (.ref 0), some (.ref 204), some (.ref 218), some (.int (nI i)), some (.int x9), none, none, none]) rfl rfl rfl ?_
  refine a_aload_n C dL_law_279 rfl rfl ?_
  refine a_aload_n C dL_law_280 rfl rfl ?_
  refine a_iload C dL_law_281 rfl ?_
  refine a_iconst (v := nI 1) C dL_law_283 (by decide) ?_
  refine n_iadd C dL_law_284 ?_
  refine a_scl C hX dL_law_285 rfl (show i + 1 < N by omega) hN ?_
  refine a_aload_n C dL_law_286 rfl rfl ?_
  refine a_iload C dL_law_287 rfl ?_
  refine a_iconst (v := nI 2) C dL_law_289 (by decide) ?_
  refine n_iadd C dL_law_290 ?_
  refine a_scl C hX dL_law_291 rfl (show i + 2 < N by omega) hN ?_
  refine a_callV C [.int (xs (i + 1)), .int (xs (i + 2))] 7 (hF9 (ex + d9) (us + 6 * d9)) vL_120 (show 204 < 219 by decide) (by decide) (show fz w1 204 = .inr (7, _) from rfl) rfl dL_law_292 rfl (Nat.le_of_ble_eq_true rfl) ⟨Nat.succ_le_succ m3, by show 8 + (3 + 11) + l2 ≤ 438; omega⟩ ⟨by show 219 + (ex + d9) + 0 ≤ 0 + 601024; omega, by show us + 6 * d9 + 0 ≤ 0 + 7293034; omega⟩ (fun r9 M9 hp9 _ _ => ?_)
  obtain ⟨w2, rfl, b9, rfl, ht9, hl9, I2⟩ := hp9
  refine a_eq (st' := [.int b9]) rfl rfl rfl ?_
  refine a_istore C dL_law_295 (by decide) ?_
  refine a_eq (L' := [some (.ref 1003), some (.ref 0), some (.ref 204), some (.ref 218), some (.int (nI i)), some (.int x9), some (.int b9), none, none]) rfl rfl rfl ?_
  refine a_aload_n C dL_law_297 rfl rfl ?_
  refine a_callV C [] 7 (K_X7_thrown (w := w2) (ex + d9) (us + 6 * d9)) vL_115 (show 204 < 219 by decide) (by decide) (show fz w2 204 = .inr (7, _) from rfl) rfl dL_law_298 rfl (Nat.le_of_ble_eq_true rfl) ⟨by decide, by decide⟩ ⟨by show 219 + (ex + d9) + 0 ≤ 0 + 601024; omega, by show us + 6 * d9 + 0 ≤ 0 + 7293034; omega⟩ (fun r9 M9 hp9 _ _ => ?_)
  obtain ⟨w3, rfl, rfl, e3⟩ := hp9
  subst e3
  refine a_eq (st' := [.int (w3.1 204 0)]) rfl rfl rfl ?_
  refine a_iload C dL_law_301 rfl ?_
  refine a_icmp_eq (tgt := 308) C dL_law_303 (by decide) (fun _ => ?_) (fun h9 => absurd ht9 h9)
  refine a_iload C dL_law_308 rfl ?_
  have K9 : WA G p l e room_1 s m args below meth c Q 9 0 0 325 [some (.ref 1003), some (.ref 0), some (.ref 204), some (.ref 218), some (.int (nI i)), some (.int x9), some (.int b9), none, none] [] (fzM w3 (ex + d9) (us + 6 * d9)) := a_goto (tgt := 2085) C dL_law_325 (by decide) (a_cut5 (k d9 w3 hd9 I2))
  refine a_if_ne (tgt := 325) C dL_law_310 (by decide) (fun _ => K9) (fun h9 => ?_)
  refine a_aload_n C dL_law_313 rfl rfl ?_
  refine a_iconst (v := nI 0) C dL_law_314 (by decide) ?_
  refine a_lald C dL_law_315 (show 218 < 219 by decide) (by decide) (show fz w3 218 = .inl (11, (1, .inr (.inl (fun _ => w3.2 218)))) from rfl) rfl (show 0 < 1 by decide) (by decide) ?_
  refine a_iload C dL_law_316 rfl ?_
  refine a_i2l C dL_law_318 ?_
  refine a_lcmp C dL_law_319 ?_
  exact a_if_eq (tgt := 325) C dL_law_320 (by decide) (fun _ => K9) (fun h8 => absurd ((lg_cmp_eq _ _).mpr (hl9 h9)) h8)
theorem lc_retire (C : aCtx G p s m args meth c cL_law 9 RL) (hfl : l.flags = flags0) (hX : aScr G s N xs) (hN : N < 2 ^ 31) (hi : i + 2 < N) (I : Inv w) (hb : ex ≤ 2000 ∧ us ≤ 100000) (k : lwK G p l e s m args below meth c Q i ex us) : WA G p l e room_1 s m args below meth c Q 9 0 0 328 (lwL i) [] (fzM w ex us) := by
  obtain ⟨d9, o9, Q9, f1, l1, f2, l2, hd9, ⟨m1, m2, m3, m4⟩, hH9, hR9⟩ := S_retire (x0 := xs (i + 1)) I
  refine a_pad 4 ?_
  refine a_eq (L' := [some (.ref 1003), some (.ref 0), some (.ref 204), some (.ref 218), some (.int (nI i)), none, none, none, none]) rfl rfl rfl ?_
  refine a_aload_n C dL_law_328 rfl rfl ?_
  refine a_aload_n C dL_law_329 rfl rfl ?_
  refine a_iload C dL_law_330 rfl ?_
  refine a_iconst (v := nI 1) C dL_law_332 (by decide) ?_
  refine n_iadd C dL_law_333 ?_
  refine a_scl C hX dL_law_334 rfl (show i + 1 < N by omega) hN ?_
  refine a_aload_n C dL_law_335 rfl rfl ?_
  refine a_callSW C hfl [.ref 0, .int (xs (i + 1)), .ref 218] (hH9 ex us) sL_121 dL_law_336 rfl (Nat.le_of_ble_eq_true rfl) ⟨Nat.succ_le_succ m1, by show 8 + (4 + 11) + l1 ≤ 438; omega⟩ ⟨by show 219 + ex + d9 ≤ 0 + 601024; omega, by show us + 6 * d9 ≤ 0 + 7293034; omega⟩ (fun r9 M9 hp9 _ _ => ?_)
  obtain ⟨x9, w1, rfl, rfl, hq9⟩ := hp9
  have hx9 := (hR9 _ _ hq9).1
  have hF9 := (hR9 _ _ hq9).2
  subst hx9
  refine a_eq (st' := [.int x9]) rfl rfl rfl ?_
  refine a_istore C dL_law_339 (by decide) ?_
  refine a_eq (L' := [some (.ref 1003), some (.ref 0), some (.ref 204), some (.ref 218), some (.int (nI i)), some (.int x9), none, none, none]) rfl rfl rfl ?_
  refine a_aload_n C dL_law_341 rfl rfl ?_
  refine a_aload_n C dL_law_342 rfl rfl ?_
  refine a_iload C dL_law_343 rfl ?_
  refine a_iconst (v := nI 1) C dL_law_345 (by decide) ?_
  refine n_iadd C dL_law_346 ?_
  refine a_scl C hX dL_law_347 rfl (show i + 1 < N by omega) hN ?_
  refine a_callV C [.int (xs (i + 1))] 7 (hF9 (ex + d9) (us + 6 * d9)) vL_124 (show 204 < 219 by decide) (by decide) (show fz w1 204 = .inr (7, _) from rfl) rfl dL_law_348 rfl (Nat.le_of_ble_eq_true rfl) ⟨Nat.succ_le_succ m3, by show 8 + (3 + 11) + l2 ≤ 438; omega⟩ ⟨by show 219 + (ex + d9) + 0 ≤ 0 + 601024; omega, by show us + 6 * d9 + 0 ≤ 0 + 7293034; omega⟩ (fun r9 M9 hp9 _ _ => ?_)
  obtain ⟨w2, rfl, b9, rfl, ht9, hl9, I2⟩ := hp9
  refine a_eq (st' := [.int b9]) rfl rfl rfl ?_
  refine a_istore C dL_law_351 (by decide) ?_
  refine a_eq (L' := [some (.ref 1003), some (.ref 0), some (.ref 204), some (.ref 218), some (.int (nI i)), some (.int x9), some (.int b9), none, none]) rfl rfl rfl ?_
  refine a_aload_n C dL_law_353 rfl rfl ?_
  refine a_callV C [] 7 (K_X7_thrown (w := w2) (ex + d9) (us + 6 * d9)) vL_115 (show 204 < 219 by decide) (by decide) (show fz w2 204 = .inr (7, _) from rfl) rfl dL_law_354 rfl (Nat.le_of_ble_eq_true rfl) ⟨by decide, by decide⟩ ⟨by show 219 + (ex + d9) + 0 ≤ 0 + 601024; omega, by show us + 6 * d9 + 0 ≤ 0 + 7293034; omega⟩ (fun r9 M9 hp9 _ _ => ?_)
  obtain ⟨w3, rfl, rfl, e3⟩ := hp9
  subst e3
  refine a_eq (st' := [.int (w3.1 204 0)]) rfl rfl rfl ?_
  refine a_iload C dL_law_357 rfl ?_
  refine a_icmp_eq (tgt := 364) C dL_law_359 (by decide) (fun _ => ?_) (fun h9 => absurd ht9 h9)
  refine a_iload C dL_law_364 rfl ?_
  have K9 : WA G p l e room_1 s m args below meth c Q 9 0 0 381 [some (.ref 1003), some (.ref 0), some (.ref 204), some (.ref 218), some (.int (nI i)), some (.int x9), some (.int b9), none, none] [] (fzM w3 (ex + d9) (us + 6 * d9)) := a_goto (tgt := 2085) C dL_law_381 (by decide) (a_cut5 (k d9 w3 hd9 I2))
  refine a_if_ne (tgt := 381) C dL_law_366 (by decide) (fun _ => K9) (fun h9 => ?_)
  refine a_aload_n C dL_law_369 rfl rfl ?_
  refine a_iconst (v := nI 0) C dL_law_370 (by decide) ?_
  refine a_lald C dL_law_371 (show 218 < 219 by decide) (by decide) (show fz w3 218 = .inl (11, (1, .inr (.inl (fun _ => w3.2 218)))) from rfl) rfl (show 0 < 1 by decide) (by decide) ?_
  refine a_iload C dL_law_372 rfl ?_
  refine a_i2l C dL_law_374 ?_
  refine a_lcmp C dL_law_375 ?_
  exact a_if_eq (tgt := 381) C dL_law_376 (by decide) (fun _ => K9) (fun h8 => absurd ((lg_cmp_eq _ _).mpr (hl9 h9)) h8)
theorem lc_give (C : aCtx G p s m args meth c cL_law 9 RL) (hfl : l.flags = flags0) (hX : aScr G s N xs) (hN : N < 2 ^ 31) (hi : i + 2 < N) (I : Inv w) (hb : ex ≤ 2000 ∧ us ≤ 100000) (k : lwK G p l e s m args below meth c Q i ex us) : WA G p l e room_1 s m args below meth c Q 9 0 0 384 (lwL i) [] (fzM w ex us) := by
  obtain ⟨d9, o9, Q9, f1, l1, f2, l2, hd9, ⟨m1, m2, m3, m4⟩, hH9, hR9⟩ := S_give (x0 := xs (i + 1)) (x1 := xs (i + 2)) I
  refine a_pad 4 ?_
  refine a_eq (L' := [some (.ref 1003), some (.ref 0), some (.ref 204), some (.ref 218), some (.int (nI i)), none, none, none, none]) rfl rfl rfl ?_
  refine a_aload_n C dL_law_384 rfl rfl ?_
  refine a_aload_n C dL_law_385 rfl rfl ?_
  refine a_iload C dL_law_386 rfl ?_
  refine a_iconst (v := nI 1) C dL_law_388 (by decide) ?_
  refine n_iadd C dL_law_389 ?_
  refine a_scl C hX dL_law_390 rfl (show i + 1 < N by omega) hN ?_
  refine a_aload_n C dL_law_391 rfl rfl ?_
  refine a_iload C dL_law_392 rfl ?_
  refine a_iconst (v := nI 2) C dL_law_394 (by decide) ?_
  refine n_iadd C dL_law_395 ?_
  refine a_scl C hX dL_law_396 rfl (show i + 2 < N by omega) hN ?_
  refine a_aload_n C dL_law_397 rfl rfl ?_
  refine a_callSW C hfl [.ref 0, .int (xs (i + 1)), .int (xs (i + 2)), .ref 218] (hH9 ex us) sL_125 dL_law_398 rfl (Nat.le_of_ble_eq_true rfl) ⟨Nat.succ_le_succ m1, by show 8 + (5 + 11) + l1 ≤ 438; omega⟩ ⟨by show 219 + ex + d9 ≤ 0 + 601024; omega, by show us + 6 * d9 ≤ 0 + 7293034; omega⟩ (fun r9 M9 hp9 _ _ => ?_)
  obtain ⟨x9, w1, rfl, rfl, hq9⟩ := hp9
  have hx9 := (hR9 _ _ hq9).1
  have hF9 := (hR9 _ _ hq9).2
  subst hx9
  refine a_eq (st' := [.int x9]) rfl rfl rfl ?_
  refine a_istore C dL_law_401 (by decide) ?_
  refine a_eq (L' := [some (.ref 1003), some (.ref 0), some (.ref 204), some (.ref 218), some (.int (nI i)), some (.int x9), none, none, none]) rfl rfl rfl ?_
  refine a_aload_n C dL_law_403 rfl rfl ?_
  refine a_aload_n C dL_law_404 rfl rfl ?_
  refine a_iload C dL_law_405 rfl ?_
  refine a_iconst (v := nI 1) C dL_law_407 (by decide) ?_
  refine n_iadd C dL_law_408 ?_
  refine a_scl C hX dL_law_409 rfl (show i + 1 < N by omega) hN ?_
  refine a_aload_n C dL_law_410 rfl rfl ?_
  refine a_iload C dL_law_411 rfl ?_
  refine a_iconst (v := nI 2) C dL_law_413 (by decide) ?_
  refine n_iadd C dL_law_414 ?_
  refine a_scl C hX dL_law_415 rfl (show i + 2 < N by omega) hN ?_
  refine a_callV C [.int (xs (i + 1)), .int (xs (i + 2))] 7 (hF9 (ex + d9) (us + 6 * d9)) vL_127 (show 204 < 219 by decide) (by decide) (show fz w1 204 = .inr (7, _) from rfl) rfl dL_law_416 rfl (Nat.le_of_ble_eq_true rfl) ⟨Nat.succ_le_succ m3, by show 8 + (4 + 11) + l2 ≤ 438; omega⟩ ⟨by show 219 + (ex + d9) + 0 ≤ 0 + 601024; omega, by show us + 6 * d9 + 0 ≤ 0 + 7293034; omega⟩ (fun r9 M9 hp9 _ _ => ?_)
  obtain ⟨w2, rfl, b9, rfl, ht9, hl9, I2⟩ := hp9
  refine a_eq (st' := [.int b9]) rfl rfl rfl ?_
  refine a_istore C dL_law_419 (by decide) ?_
  refine a_eq (L' := [some (.ref 1003), some (.ref 0), some (.ref 204), some (.ref 218), some (.int (nI i)), some (.int x9), some (.int b9), none, none]) rfl rfl rfl ?_
  refine a_aload_n C dL_law_421 rfl rfl ?_
  refine a_callV C [] 7 (K_X7_thrown (w := w2) (ex + d9) (us + 6 * d9)) vL_115 (show 204 < 219 by decide) (by decide) (show fz w2 204 = .inr (7, _) from rfl) rfl dL_law_422 rfl (Nat.le_of_ble_eq_true rfl) ⟨by decide, by decide⟩ ⟨by show 219 + (ex + d9) + 0 ≤ 0 + 601024; omega, by show us + 6 * d9 + 0 ≤ 0 + 7293034; omega⟩ (fun r9 M9 hp9 _ _ => ?_)
  obtain ⟨w3, rfl, rfl, e3⟩ := hp9
  subst e3
  refine a_eq (st' := [.int (w3.1 204 0)]) rfl rfl rfl ?_
  refine a_iload C dL_law_425 rfl ?_
  refine a_icmp_eq (tgt := 432) C dL_law_427 (by decide) (fun _ => ?_) (fun h9 => absurd ht9 h9)
  refine a_iload C dL_law_432 rfl ?_
  have K9 : WA G p l e room_1 s m args below meth c Q 9 0 0 449 [some (.ref 1003), some (.ref 0), some (.ref 204), some (.ref 218), some (.int (nI i)), some (.int x9), some (.int b9), none, none] [] (fzM w3 (ex + d9) (us + 6 * d9)) := a_goto (tgt := 2085) C dL_law_449 (by decide) (a_cut5 (k d9 w3 hd9 I2))
  refine a_if_ne (tgt := 449) C dL_law_434 (by decide) (fun _ => K9) (fun h9 => ?_)
  refine a_aload_n C dL_law_437 rfl rfl ?_
  refine a_iconst (v := nI 0) C dL_law_438 (by decide) ?_
  refine a_lald C dL_law_439 (show 218 < 219 by decide) (by decide) (show fz w3 218 = .inl (11, (1, .inr (.inl (fun _ => w3.2 218)))) from rfl) rfl (show 0 < 1 by decide) (by decide) ?_
  refine a_iload C dL_law_440 rfl ?_
  refine a_i2l C dL_law_442 ?_
  refine a_lcmp C dL_law_443 ?_
  exact a_if_eq (tgt := 449) C dL_law_444 (by decide) (fun _ => K9) (fun h8 => absurd ((lg_cmp_eq _ _).mpr (hl9 h9)) h8)
theorem lc_lose (C : aCtx G p s m args meth c cL_law 9 RL) (hfl : l.flags = flags0) (hX : aScr G s N xs) (hN : N < 2 ^ 31) (hi : i + 2 < N) (I : Inv w) (hb : ex ≤ 2000 ∧ us ≤ 100000) (k : lwK G p l e s m args below meth c Q i ex us) : WA G p l e room_1 s m args below meth c Q 9 0 0 452 (lwL i) [] (fzM w ex us) := by
  obtain ⟨d9, o9, Q9, f1, l1, f2, l2, hd9, ⟨m1, m2, m3, m4⟩, hH9, hR9⟩ := S_lose (x0 := xs (i + 1)) I
  refine a_pad 4 ?_
  refine a_eq (L' := [some (.ref 1003), some (.ref 0), some (.ref 204), some (.ref 218), some (.int (nI i)), none, none, none, none]) rfl rfl rfl ?_
  refine a_aload_n C dL_law_452 rfl rfl ?_
  refine a_aload_n C dL_law_453 rfl rfl ?_
  refine a_iload C dL_law_454 rfl ?_
  refine a_iconst (v := nI 1) C dL_law_456 (by decide) ?_
  refine n_iadd C dL_law_457 ?_
  refine a_scl C hX dL_law_458 rfl (show i + 1 < N by omega) hN ?_
  refine a_aload_n C dL_law_459 rfl rfl ?_
  refine a_callSW C hfl [.ref 0, .int (xs (i + 1)), .ref 218] (hH9 ex us) sL_128 dL_law_460 rfl (Nat.le_of_ble_eq_true rfl) ⟨Nat.succ_le_succ m1, by show 8 + (4 + 11) + l1 ≤ 438; omega⟩ ⟨by show 219 + ex + d9 ≤ 0 + 601024; omega, by show us + 6 * d9 ≤ 0 + 7293034; omega⟩ (fun r9 M9 hp9 _ _ => ?_)
  obtain ⟨x9, w1, rfl, rfl, hq9⟩ := hp9
  have hx9 := (hR9 _ _ hq9).1
  have hF9 := (hR9 _ _ hq9).2
  subst hx9
  refine a_eq (st' := [.int x9]) rfl rfl rfl ?_
  refine a_istore C dL_law_463 (by decide) ?_
  refine a_eq (L' := [some (.ref 1003), some (.ref 0), some (.ref 204), some (.ref 218), some (.int (nI i)), some (.int x9), none, none, none]) rfl rfl rfl ?_
  refine a_aload_n C dL_law_465 rfl rfl ?_
  refine a_aload_n C dL_law_466 rfl rfl ?_
  refine a_iload C dL_law_467 rfl ?_
  refine a_iconst (v := nI 1) C dL_law_469 (by decide) ?_
  refine n_iadd C dL_law_470 ?_
  refine a_scl C hX dL_law_471 rfl (show i + 1 < N by omega) hN ?_
  refine a_callV C [.int (xs (i + 1))] 7 (hF9 (ex + d9) (us + 6 * d9)) vL_130 (show 204 < 219 by decide) (by decide) (show fz w1 204 = .inr (7, _) from rfl) rfl dL_law_472 rfl (Nat.le_of_ble_eq_true rfl) ⟨Nat.succ_le_succ m3, by show 8 + (2 + 11) + l2 ≤ 438; omega⟩ ⟨by show 219 + (ex + d9) + 0 ≤ 0 + 601024; omega, by show us + 6 * d9 + 0 ≤ 0 + 7293034; omega⟩ (fun r9 M9 hp9 _ _ => ?_)
  obtain ⟨w2, rfl, b9, rfl, ht9, hl9, I2⟩ := hp9
  refine a_eq (st' := [.int b9]) rfl rfl rfl ?_
  refine a_istore C dL_law_475 (by decide) ?_
  refine a_eq (L' := [some (.ref 1003), some (.ref 0), some (.ref 204), some (.ref 218), some (.int (nI i)), some (.int x9), some (.int b9), none, none]) rfl rfl rfl ?_
  refine a_aload_n C dL_law_477 rfl rfl ?_
  refine a_callV C [] 7 (K_X7_thrown (w := w2) (ex + d9) (us + 6 * d9)) vL_115 (show 204 < 219 by decide) (by decide) (show fz w2 204 = .inr (7, _) from rfl) rfl dL_law_478 rfl (Nat.le_of_ble_eq_true rfl) ⟨by decide, by decide⟩ ⟨by show 219 + (ex + d9) + 0 ≤ 0 + 601024; omega, by show us + 6 * d9 + 0 ≤ 0 + 7293034; omega⟩ (fun r9 M9 hp9 _ _ => ?_)
  obtain ⟨w3, rfl, rfl, e3⟩ := hp9
  subst e3
  refine a_eq (st' := [.int (w3.1 204 0)]) rfl rfl rfl ?_
  refine a_iload C dL_law_481 rfl ?_
  refine a_icmp_eq (tgt := 488) C dL_law_483 (by decide) (fun _ => ?_) (fun h9 => absurd ht9 h9)
  refine a_iload C dL_law_488 rfl ?_
  have K9 : WA G p l e room_1 s m args below meth c Q 9 0 0 505 [some (.ref 1003), some (.ref 0), some (.ref 204), some (.ref 218), some (.int (nI i)), some (.int x9), some (.int b9), none, none] [] (fzM w3 (ex + d9) (us + 6 * d9)) := a_goto (tgt := 2085) C dL_law_505 (by decide) (a_cut5 (k d9 w3 hd9 I2))
  refine a_if_ne (tgt := 505) C dL_law_490 (by decide) (fun _ => K9) (fun h9 => ?_)
  refine a_aload_n C dL_law_493 rfl rfl ?_
  refine a_iconst (v := nI 0) C dL_law_494 (by decide) ?_
  refine a_lald C dL_law_495 (show 218 < 219 by decide) (by decide) (show fz w3 218 = .inl (11, (1, .inr (.inl (fun _ => w3.2 218)))) from rfl) rfl (show 0 < 1 by decide) (by decide) ?_
  refine a_iload C dL_law_496 rfl ?_
  refine a_i2l C dL_law_498 ?_
  refine a_lcmp C dL_law_499 ?_
  exact a_if_eq (tgt := 505) C dL_law_500 (by decide) (fun _ => K9) (fun h8 => absurd ((lg_cmp_eq _ _).mpr (hl9 h9)) h8)
theorem lc_find (C : aCtx G p s m args meth c cL_law 9 RL) (hfl : l.flags = flags0) (hX : aScr G s N xs) (hN : N < 2 ^ 31) (hi : i + 2 < N) (I : Inv w) (hb : ex ≤ 2000 ∧ us ≤ 100000) (k : lwK G p l e s m args below meth c Q i ex us) : WA G p l e room_1 s m args below meth c Q 9 0 0 508 (lwL i) [] (fzM w ex us) := by
  obtain ⟨d9, o9, Q9, f1, l1, f2, l2, hd9, ⟨m1, m2, m3, m4⟩, hH9, hR9⟩ := S_find (x0 := xs (i + 1)) I
  refine a_pad 4 ?_
  refine a_eq (L' := [some (.ref 1003), some (.ref 0), some (.ref 204), some (.ref 218), some (.int (nI i)), none, none, none, none]) rfl rfl rfl ?_
  refine a_aload_n C dL_law_508 rfl rfl ?_
  refine a_aload_n C dL_law_509 rfl rfl ?_
  refine a_iload C dL_law_510 rfl ?_
  refine a_iconst (v := nI 1) C dL_law_512 (by decide) ?_
  refine n_iadd C dL_law_513 ?_
  refine a_scl C hX dL_law_514 rfl (show i + 1 < N by omega) hN ?_
  refine a_aload_n C dL_law_515 rfl rfl ?_
  refine a_callSW C hfl [.ref 0, .int (xs (i + 1)), .ref 218] (hH9 ex us) sL_131 dL_law_516 rfl (Nat.le_of_ble_eq_true rfl) ⟨Nat.succ_le_succ m1, by show 8 + (4 + 11) + l1 ≤ 438; omega⟩ ⟨by show 219 + ex + d9 ≤ 0 + 601024; omega, by show us + 6 * d9 ≤ 0 + 7293034; omega⟩ (fun r9 M9 hp9 _ _ => ?_)
  obtain ⟨x9, w1, rfl, rfl, hq9⟩ := hp9
  have hx9 := (hR9 _ _ hq9).1
  have hF9 := (hR9 _ _ hq9).2
  subst hx9
  refine a_eq (st' := [.int x9]) rfl rfl rfl ?_
  refine a_istore C dL_law_519 (by decide) ?_
  refine a_eq (L' := [some (.ref 1003), some (.ref 0), some (.ref 204), some (.ref 218), some (.int (nI i)), some (.int x9), none, none, none]) rfl rfl rfl ?_
  refine a_aload_n C dL_law_521 rfl rfl ?_
  refine a_aload_n C dL_law_522 rfl rfl ?_
  refine a_iload C dL_law_523 rfl ?_
  refine a_iconst (v := nI 1) C dL_law_525 (by decide) ?_
  refine n_iadd C dL_law_526 ?_
  refine a_scl C hX dL_law_527 rfl (show i + 1 < N by omega) hN ?_
  refine a_callV C [.int (xs (i + 1))] 7 (hF9 (ex + d9) (us + 6 * d9)) vL_133 (show 204 < 219 by decide) (by decide) (show fz w1 204 = .inr (7, _) from rfl) rfl dL_law_528 rfl (Nat.le_of_ble_eq_true rfl) ⟨Nat.succ_le_succ m3, by show 8 + (2 + 11) + l2 ≤ 438; omega⟩ ⟨by show 219 + (ex + d9) + 0 ≤ 0 + 601024; omega, by show us + 6 * d9 + 0 ≤ 0 + 7293034; omega⟩ (fun r9 M9 hp9 _ _ => ?_)
  obtain ⟨w2, rfl, b9, rfl, ht9, hl9, I2⟩ := hp9
  refine a_eq (st' := [.int b9]) rfl rfl rfl ?_
  refine a_istore C dL_law_531 (by decide) ?_
  refine a_eq (L' := [some (.ref 1003), some (.ref 0), some (.ref 204), some (.ref 218), some (.int (nI i)), some (.int x9), some (.int b9), none, none]) rfl rfl rfl ?_
  refine a_aload_n C dL_law_533 rfl rfl ?_
  refine a_callV C [] 7 (K_X7_thrown (w := w2) (ex + d9) (us + 6 * d9)) vL_115 (show 204 < 219 by decide) (by decide) (show fz w2 204 = .inr (7, _) from rfl) rfl dL_law_534 rfl (Nat.le_of_ble_eq_true rfl) ⟨by decide, by decide⟩ ⟨by show 219 + (ex + d9) + 0 ≤ 0 + 601024; omega, by show us + 6 * d9 + 0 ≤ 0 + 7293034; omega⟩ (fun r9 M9 hp9 _ _ => ?_)
  obtain ⟨w3, rfl, rfl, e3⟩ := hp9
  subst e3
  refine a_eq (st' := [.int (w3.1 204 0)]) rfl rfl rfl ?_
  refine a_iload C dL_law_537 rfl ?_
  refine a_icmp_eq (tgt := 544) C dL_law_539 (by decide) (fun _ => ?_) (fun h9 => absurd ht9 h9)
  refine a_iload C dL_law_544 rfl ?_
  have K9 : WA G p l e room_1 s m args below meth c Q 9 0 0 561 [some (.ref 1003), some (.ref 0), some (.ref 204), some (.ref 218), some (.int (nI i)), some (.int x9), some (.int b9), none, none] [] (fzM w3 (ex + d9) (us + 6 * d9)) := a_goto (tgt := 2085) C dL_law_561 (by decide) (a_cut5 (k d9 w3 hd9 I2))
  refine a_if_ne (tgt := 561) C dL_law_546 (by decide) (fun _ => K9) (fun h9 => ?_)
  refine a_aload_n C dL_law_549 rfl rfl ?_
  refine a_iconst (v := nI 0) C dL_law_550 (by decide) ?_
  refine a_lald C dL_law_551 (show 218 < 219 by decide) (by decide) (show fz w3 218 = .inl (11, (1, .inr (.inl (fun _ => w3.2 218)))) from rfl) rfl (show 0 < 1 by decide) (by decide) ?_
  refine a_iload C dL_law_552 rfl ?_
  refine a_i2l C dL_law_554 ?_
  refine a_lcmp C dL_law_555 ?_
  exact a_if_eq (tgt := 561) C dL_law_556 (by decide) (fun _ => K9) (fun h8 => absurd ((lg_cmp_eq _ _).mpr (hl9 h9)) h8)
theorem lc_ward (C : aCtx G p s m args meth c cL_law 9 RL) (hfl : l.flags = flags0) (hX : aScr G s N xs) (hN : N < 2 ^ 31) (hi : i + 2 < N) (I : Inv w) (hb : ex ≤ 2000 ∧ us ≤ 100000) (k : lwK G p l e s m args below meth c Q i ex us) : WA G p l e room_1 s m args below meth c Q 9 0 0 564 (lwL i) [] (fzM w ex us) := by
  obtain ⟨d9, o9, Q9, f1, l1, f2, l2, hd9, ⟨m1, m2, m3, m4⟩, hH9, hR9⟩ := S_ward (x0 := xs (i + 1)) (x1 := xs (i + 2)) I
  refine a_pad 4 ?_
  refine a_eq (L' := [some (.ref 1003), some (.ref 0), some (.ref 204), some (.ref 218), some (.int (nI i)), none, none, none, none]) rfl rfl rfl ?_
  refine a_aload_n C dL_law_564 rfl rfl ?_
  refine a_aload_n C dL_law_565 rfl rfl ?_
  refine a_iload C dL_law_566 rfl ?_
  refine a_iconst (v := nI 1) C dL_law_568 (by decide) ?_
  refine n_iadd C dL_law_569 ?_
  refine a_scl C hX dL_law_570 rfl (show i + 1 < N by omega) hN ?_
  refine a_aload_n C dL_law_571 rfl rfl ?_
  refine a_iload C dL_law_572 rfl ?_
  refine a_iconst (v := nI 2) C dL_law_574 (by decide) ?_
  refine n_iadd C dL_law_575 ?_
  refine a_scl C hX dL_law_576 rfl (show i + 2 < N by omega) hN ?_
  refine a_aload_n C dL_law_577 rfl rfl ?_
  refine a_callSW C hfl [.ref 0, .int (xs (i + 1)), .int (xs (i + 2)), .ref 218] (hH9 ex us) sL_134 dL_law_578 rfl (Nat.le_of_ble_eq_true rfl) ⟨Nat.succ_le_succ m1, by show 8 + (5 + 11) + l1 ≤ 438; omega⟩ ⟨by show 219 + ex + d9 ≤ 0 + 601024; omega, by show us + 6 * d9 ≤ 0 + 7293034; omega⟩ (fun r9 M9 hp9 _ _ => ?_)
  obtain ⟨x9, w1, rfl, rfl, hq9⟩ := hp9
  have hx9 := (hR9 _ _ hq9).1
  have hF9 := (hR9 _ _ hq9).2
  subst hx9
  refine a_eq (st' := [.int x9]) rfl rfl rfl ?_
  refine a_istore C dL_law_581 (by decide) ?_
  refine a_eq (L' := [some (.ref 1003), some (.ref 0), some (.ref 204), some (.ref 218), some (.int (nI i)), some (.int x9), none, none, none]) rfl rfl rfl ?_
  refine a_aload_n C dL_law_583 rfl rfl ?_
  refine a_aload_n C dL_law_584 rfl rfl ?_
  refine a_iload C dL_law_585 rfl ?_
  refine a_iconst (v := nI 1) C dL_law_587 (by decide) ?_
  refine n_iadd C dL_law_588 ?_
  refine a_scl C hX dL_law_589 rfl (show i + 1 < N by omega) hN ?_
  refine a_aload_n C dL_law_590 rfl rfl ?_
  refine a_iload C dL_law_591 rfl ?_
  refine a_iconst (v := nI 2) C dL_law_593 (by decide) ?_
  refine n_iadd C dL_law_594 ?_
  refine a_scl C hX dL_law_595 rfl (show i + 2 < N by omega) hN ?_
  refine a_callV C [.int (xs (i + 1)), .int (xs (i + 2))] 7 (hF9 (ex + d9) (us + 6 * d9)) vL_136 (show 204 < 219 by decide) (by decide) (show fz w1 204 = .inr (7, _) from rfl) rfl dL_law_596 rfl (Nat.le_of_ble_eq_true rfl) ⟨Nat.succ_le_succ m3, by show 8 + (4 + 11) + l2 ≤ 438; omega⟩ ⟨by show 219 + (ex + d9) + 0 ≤ 0 + 601024; omega, by show us + 6 * d9 + 0 ≤ 0 + 7293034; omega⟩ (fun r9 M9 hp9 _ _ => ?_)
  obtain ⟨w2, rfl, b9, rfl, ht9, hl9, I2⟩ := hp9
  refine a_eq (st' := [.int b9]) rfl rfl rfl ?_
  refine a_istore C dL_law_599 (by decide) ?_
  refine a_eq (L' := [some (.ref 1003), some (.ref 0), some (.ref 204), some (.ref 218), some (.int (nI i)), some (.int x9), some (.int b9), none, none]) rfl rfl rfl ?_
  refine a_aload_n C dL_law_601 rfl rfl ?_
  refine a_callV C [] 7 (K_X7_thrown (w := w2) (ex + d9) (us + 6 * d9)) vL_115 (show 204 < 219 by decide) (by decide) (show fz w2 204 = .inr (7, _) from rfl) rfl dL_law_602 rfl (Nat.le_of_ble_eq_true rfl) ⟨by decide, by decide⟩ ⟨by show 219 + (ex + d9) + 0 ≤ 0 + 601024; omega, by show us + 6 * d9 + 0 ≤ 0 + 7293034; omega⟩ (fun r9 M9 hp9 _ _ => ?_)
  obtain ⟨w3, rfl, rfl, e3⟩ := hp9
  subst e3
  refine a_eq (st' := [.int (w3.1 204 0)]) rfl rfl rfl ?_
  refine a_iload C dL_law_605 rfl ?_
  refine a_icmp_eq (tgt := 612) C dL_law_607 (by decide) (fun _ => ?_) (fun h9 => absurd ht9 h9)
  refine a_iload C dL_law_612 rfl ?_
  have K9 : WA G p l e room_1 s m args below meth c Q 9 0 0 629 [some (.ref 1003), some (.ref 0), some (.ref 204), some (.ref 218), some (.int (nI i)), some (.int x9), some (.int b9), none, none] [] (fzM w3 (ex + d9) (us + 6 * d9)) := a_goto (tgt := 2085) C dL_law_629 (by decide) (a_cut5 (k d9 w3 hd9 I2))
  refine a_if_ne (tgt := 629) C dL_law_614 (by decide) (fun _ => K9) (fun h9 => ?_)
  refine a_aload_n C dL_law_617 rfl rfl ?_
  refine a_iconst (v := nI 0) C dL_law_618 (by decide) ?_
  refine a_lald C dL_law_619 (show 218 < 219 by decide) (by decide) (show fz w3 218 = .inl (11, (1, .inr (.inl (fun _ => w3.2 218)))) from rfl) rfl (show 0 < 1 by decide) (by decide) ?_
  refine a_iload C dL_law_620 rfl ?_
  refine a_i2l C dL_law_622 ?_
  refine a_lcmp C dL_law_623 ?_
  exact a_if_eq (tgt := 629) C dL_law_624 (by decide) (fun _ => K9) (fun h8 => absurd ((lg_cmp_eq _ _).mpr (hl9 h9)) h8)
theorem lc_guest (C : aCtx G p s m args meth c cL_law 9 RL) (hfl : l.flags = flags0) (hX : aScr G s N xs) (hN : N < 2 ^ 31) (hi : i + 2 < N) (I : Inv w) (hb : ex ≤ 2000 ∧ us ≤ 100000) (k : lwK G p l e s m args below meth c Q i ex us) : WA G p l e room_1 s m args below meth c Q 9 0 0 632 (lwL i) [] (fzM w ex us) := by
  obtain ⟨d9, o9, Q9, f1, l1, f2, l2, hd9, ⟨m1, m2, m3, m4⟩, hH9, hR9⟩ := S_guest (x0 := xs (i + 1)) (x1 := xs (i + 2)) I
  refine a_pad 4 ?_
  refine a_eq (L' := [some (.ref 1003), some (.ref 0), some (.ref 204), some (.ref 218), some (.int (nI i)), none, none, none, none]) rfl rfl rfl ?_
  refine a_aload_n C dL_law_632 rfl rfl ?_
  refine a_aload_n C dL_law_633 rfl rfl ?_
  refine a_iload C dL_law_634 rfl ?_
  refine a_iconst (v := nI 1) C dL_law_636 (by decide) ?_
  refine n_iadd C dL_law_637 ?_
  refine a_scl C hX dL_law_638 rfl (show i + 1 < N by omega) hN ?_
  refine a_aload_n C dL_law_639 rfl rfl ?_
  refine a_iload C dL_law_640 rfl ?_
  refine a_iconst (v := nI 2) C dL_law_642 (by decide) ?_
  refine n_iadd C dL_law_643 ?_
  refine a_scl C hX dL_law_644 rfl (show i + 2 < N by omega) hN ?_
  refine a_aload_n C dL_law_645 rfl rfl ?_
  refine a_callSW C hfl [.ref 0, .int (xs (i + 1)), .int (xs (i + 2)), .ref 218] (hH9 ex us) sL_137 dL_law_646 rfl (Nat.le_of_ble_eq_true rfl) ⟨Nat.succ_le_succ m1, by show 8 + (5 + 11) + l1 ≤ 438; omega⟩ ⟨by show 219 + ex + d9 ≤ 0 + 601024; omega, by show us + 6 * d9 ≤ 0 + 7293034; omega⟩ (fun r9 M9 hp9 _ _ => ?_)
  obtain ⟨x9, w1, rfl, rfl, hq9⟩ := hp9
  have hx9 := (hR9 _ _ hq9).1
  have hF9 := (hR9 _ _ hq9).2
  subst hx9
  refine a_eq (st' := [.int x9]) rfl rfl rfl ?_
  refine a_istore C dL_law_649 (by decide) ?_
  refine a_eq (L' := [some (.ref 1003), some (.ref 0), some (.ref 204), some (.ref 218), some (.int (nI i)), some (.int x9), none, none, none]) rfl rfl rfl ?_
  refine a_aload_n C dL_law_651 rfl rfl ?_
  refine a_aload_n C dL_law_652 rfl rfl ?_
  refine a_iload C dL_law_653 rfl ?_
  refine a_iconst (v := nI 1) C dL_law_655 (by decide) ?_
  refine n_iadd C dL_law_656 ?_
  refine a_scl C hX dL_law_657 rfl (show i + 1 < N by omega) hN ?_
  refine a_aload_n C dL_law_658 rfl rfl ?_
  refine a_iload C dL_law_659 rfl ?_
  refine a_iconst (v := nI 2) C dL_law_661 (by decide) ?_
  refine n_iadd C dL_law_662 ?_
  refine a_scl C hX dL_law_663 rfl (show i + 2 < N by omega) hN ?_
  refine a_callV C [.int (xs (i + 1)), .int (xs (i + 2))] 7 (hF9 (ex + d9) (us + 6 * d9)) vL_139 (show 204 < 219 by decide) (by decide) (show fz w1 204 = .inr (7, _) from rfl) rfl dL_law_664 rfl (Nat.le_of_ble_eq_true rfl) ⟨Nat.succ_le_succ m3, by show 8 + (4 + 11) + l2 ≤ 438; omega⟩ ⟨by show 219 + (ex + d9) + 0 ≤ 0 + 601024; omega, by show us + 6 * d9 + 0 ≤ 0 + 7293034; omega⟩ (fun r9 M9 hp9 _ _ => ?_)
  obtain ⟨w2, rfl, b9, rfl, ht9, hl9, I2⟩ := hp9
  refine a_eq (st' := [.int b9]) rfl rfl rfl ?_
  refine a_istore C dL_law_667 (by decide) ?_
  refine a_eq (L' := [some (.ref 1003), some (.ref 0), some (.ref 204), some (.ref 218), some (.int (nI i)), some (.int x9), some (.int b9), none, none]) rfl rfl rfl ?_
  refine a_aload_n C dL_law_669 rfl rfl ?_
  refine a_callV C [] 7 (K_X7_thrown (w := w2) (ex + d9) (us + 6 * d9)) vL_115 (show 204 < 219 by decide) (by decide) (show fz w2 204 = .inr (7, _) from rfl) rfl dL_law_670 rfl (Nat.le_of_ble_eq_true rfl) ⟨by decide, by decide⟩ ⟨by show 219 + (ex + d9) + 0 ≤ 0 + 601024; omega, by show us + 6 * d9 + 0 ≤ 0 + 7293034; omega⟩ (fun r9 M9 hp9 _ _ => ?_)
  obtain ⟨w3, rfl, rfl, e3⟩ := hp9
  subst e3
  refine a_eq (st' := [.int (w3.1 204 0)]) rfl rfl rfl ?_
  refine a_iload C dL_law_673 rfl ?_
  refine a_icmp_eq (tgt := 680) C dL_law_675 (by decide) (fun _ => ?_) (fun h9 => absurd ht9 h9)
  refine a_iload C dL_law_680 rfl ?_
  have K9 : WA G p l e room_1 s m args below meth c Q 9 0 0 697 [some (.ref 1003), some (.ref 0), some (.ref 204), some (.ref 218), some (.int (nI i)), some (.int x9), some (.int b9), none, none] [] (fzM w3 (ex + d9) (us + 6 * d9)) := a_goto (tgt := 2085) C dL_law_697 (by decide) (a_cut5 (k d9 w3 hd9 I2))
  refine a_if_ne (tgt := 697) C dL_law_682 (by decide) (fun _ => K9) (fun h9 => ?_)
  refine a_aload_n C dL_law_685 rfl rfl ?_
  refine a_iconst (v := nI 0) C dL_law_686 (by decide) ?_
  refine a_lald C dL_law_687 (show 218 < 219 by decide) (by decide) (show fz w3 218 = .inl (11, (1, .inr (.inl (fun _ => w3.2 218)))) from rfl) rfl (show 0 < 1 by decide) (by decide) ?_
  refine a_iload C dL_law_688 rfl ?_
  refine a_i2l C dL_law_690 ?_
  refine a_lcmp C dL_law_691 ?_
  exact a_if_eq (tgt := 697) C dL_law_692 (by decide) (fun _ => K9) (fun h8 => absurd ((lg_cmp_eq _ _).mpr (hl9 h9)) h8)
theorem lc_take (C : aCtx G p s m args meth c cL_law 9 RL) (hfl : l.flags = flags0) (hX : aScr G s N xs) (hN : N < 2 ^ 31) (hi : i + 2 < N) (I : Inv w) (hb : ex ≤ 2000 ∧ us ≤ 100000) (k : lwK G p l e s m args below meth c Q i ex us) : WA G p l e room_1 s m args below meth c Q 9 0 0 700 (lwL i) [] (fzM w ex us) := by
  obtain ⟨d9, o9, Q9, f1, l1, f2, l2, hd9, ⟨m1, m2, m3, m4⟩, hH9, hR9⟩ := S_take (x0 := xs (i + 1)) I
  refine a_pad 4 ?_
  refine a_eq (L' := [some (.ref 1003), some (.ref 0), some (.ref 204), some (.ref 218), some (.int (nI i)), none, none, none, none]) rfl rfl rfl ?_
  refine a_aload_n C dL_law_700 rfl rfl ?_
  refine a_aload_n C dL_law_701 rfl rfl ?_
  refine a_iload C dL_law_702 rfl ?_
  refine a_iconst (v := nI 1) C dL_law_704 (by decide) ?_
  refine n_iadd C dL_law_705 ?_
  refine a_scl C hX dL_law_706 rfl (show i + 1 < N by omega) hN ?_
  refine a_aload_n C dL_law_707 rfl rfl ?_
  refine a_callSW C hfl [.ref 0, .int (xs (i + 1)), .ref 218] (hH9 ex us) sL_140 dL_law_708 rfl (Nat.le_of_ble_eq_true rfl) ⟨Nat.succ_le_succ m1, by show 8 + (4 + 11) + l1 ≤ 438; omega⟩ ⟨by show 219 + ex + d9 ≤ 0 + 601024; omega, by show us + 6 * d9 ≤ 0 + 7293034; omega⟩ (fun r9 M9 hp9 _ _ => ?_)
  obtain ⟨x9, w1, rfl, rfl, hq9⟩ := hp9
  have hx9 := (hR9 _ _ hq9).1
  have hF9 := (hR9 _ _ hq9).2
  subst hx9
  refine a_eq (st' := [.int x9]) rfl rfl rfl ?_
  refine a_istore C dL_law_711 (by decide) ?_
  refine a_eq (L' := [some (.ref 1003), some (.ref 0), some (.ref 204), some (.ref 218), some (.int (nI i)), some (.int x9), none, none, none]) rfl rfl rfl ?_
  refine a_aload_n C dL_law_713 rfl rfl ?_
  refine a_aload_n C dL_law_714 rfl rfl ?_
  refine a_iload C dL_law_715 rfl ?_
  refine a_iconst (v := nI 1) C dL_law_717 (by decide) ?_
  refine n_iadd C dL_law_718 ?_
  refine a_scl C hX dL_law_719 rfl (show i + 1 < N by omega) hN ?_
  refine a_callV C [.int (xs (i + 1))] 7 (hF9 (ex + d9) (us + 6 * d9)) vL_142 (show 204 < 219 by decide) (by decide) (show fz w1 204 = .inr (7, _) from rfl) rfl dL_law_720 rfl (Nat.le_of_ble_eq_true rfl) ⟨Nat.succ_le_succ m3, by show 8 + (3 + 11) + l2 ≤ 438; omega⟩ ⟨by show 219 + (ex + d9) + 0 ≤ 0 + 601024; omega, by show us + 6 * d9 + 0 ≤ 0 + 7293034; omega⟩ (fun r9 M9 hp9 _ _ => ?_)
  obtain ⟨w2, rfl, b9, rfl, ht9, hl9, I2⟩ := hp9
  refine a_eq (st' := [.int b9]) rfl rfl rfl ?_
  refine a_istore C dL_law_723 (by decide) ?_
  refine a_eq (L' := [some (.ref 1003), some (.ref 0), some (.ref 204), some (.ref 218), some (.int (nI i)), some (.int x9), some (.int b9), none, none]) rfl rfl rfl ?_
  refine a_aload_n C dL_law_725 rfl rfl ?_
  refine a_callV C [] 7 (K_X7_thrown (w := w2) (ex + d9) (us + 6 * d9)) vL_115 (show 204 < 219 by decide) (by decide) (show fz w2 204 = .inr (7, _) from rfl) rfl dL_law_726 rfl (Nat.le_of_ble_eq_true rfl) ⟨by decide, by decide⟩ ⟨by show 219 + (ex + d9) + 0 ≤ 0 + 601024; omega, by show us + 6 * d9 + 0 ≤ 0 + 7293034; omega⟩ (fun r9 M9 hp9 _ _ => ?_)
  obtain ⟨w3, rfl, rfl, e3⟩ := hp9
  subst e3
  refine a_eq (st' := [.int (w3.1 204 0)]) rfl rfl rfl ?_
  refine a_iload C dL_law_729 rfl ?_
  refine a_icmp_eq (tgt := 736) C dL_law_731 (by decide) (fun _ => ?_) (fun h9 => absurd ht9 h9)
  refine a_iload C dL_law_736 rfl ?_
  have K9 : WA G p l e room_1 s m args below meth c Q 9 0 0 753 [some (.ref 1003), some (.ref 0), some (.ref 204), some (.ref 218), some (.int (nI i)), some (.int x9), some (.int b9), none, none] [] (fzM w3 (ex + d9) (us + 6 * d9)) := a_goto (tgt := 2085) C dL_law_753 (by decide) (a_cut5 (k d9 w3 hd9 I2))
  refine a_if_ne (tgt := 753) C dL_law_738 (by decide) (fun _ => K9) (fun h9 => ?_)
  refine a_aload_n C dL_law_741 rfl rfl ?_
  refine a_iconst (v := nI 0) C dL_law_742 (by decide) ?_
  refine a_lald C dL_law_743 (show 218 < 219 by decide) (by decide) (show fz w3 218 = .inl (11, (1, .inr (.inl (fun _ => w3.2 218)))) from rfl) rfl (show 0 < 1 by decide) (by decide) ?_
  refine a_iload C dL_law_744 rfl ?_
  refine a_i2l C dL_law_746 ?_
  refine a_lcmp C dL_law_747 ?_
  exact a_if_eq (tgt := 753) C dL_law_748 (by decide) (fun _ => K9) (fun h8 => absurd ((lg_cmp_eq _ _).mpr (hl9 h9)) h8)
theorem lc_turn (C : aCtx G p s m args meth c cL_law 9 RL) (hfl : l.flags = flags0) (hX : aScr G s N xs) (hN : N < 2 ^ 31) (hi : i + 2 < N) (I : Inv w) (hb : ex ≤ 2000 ∧ us ≤ 100000) (k : lwK G p l e s m args below meth c Q i ex us) : WA G p l e room_1 s m args below meth c Q 9 0 0 756 (lwL i) [] (fzM w ex us) := by
  obtain ⟨d9, o9, Q9, f1, l1, f2, l2, hd9, ⟨m1, m2, m3, m4⟩, hH9, hR9⟩ := S_turn (x0 := xs (i + 1)) (x1 := xs (i + 2)) I
  refine a_pad 4 ?_
  refine a_eq (L' := [some (.ref 1003), some (.ref 0), some (.ref 204), some (.ref 218), some (.int (nI i)), none, none, none, none]) rfl rfl rfl ?_
  refine a_aload_n C dL_law_756 rfl rfl ?_
  refine a_aload_n C dL_law_757 rfl rfl ?_
  refine a_iload C dL_law_758 rfl ?_
  refine a_iconst (v := nI 1) C dL_law_760 (by decide) ?_
  refine n_iadd C dL_law_761 ?_
  refine a_scl C hX dL_law_762 rfl (show i + 1 < N by omega) hN ?_
  refine a_aload_n C dL_law_763 rfl rfl ?_
  refine a_iload C dL_law_764 rfl ?_
  refine a_iconst (v := nI 2) C dL_law_766 (by decide) ?_
  refine n_iadd C dL_law_767 ?_
  refine a_scl C hX dL_law_768 rfl (show i + 2 < N by omega) hN ?_
  refine a_aload_n C dL_law_769 rfl rfl ?_
  refine a_callSW C hfl [.ref 0, .int (xs (i + 1)), .int (xs (i + 2)), .ref 218] (hH9 ex us) sL_143 dL_law_770 rfl (Nat.le_of_ble_eq_true rfl) ⟨Nat.succ_le_succ m1, by show 8 + (5 + 11) + l1 ≤ 438; omega⟩ ⟨by show 219 + ex + d9 ≤ 0 + 601024; omega, by show us + 6 * d9 ≤ 0 + 7293034; omega⟩ (fun r9 M9 hp9 _ _ => ?_)
  obtain ⟨x9, w1, rfl, rfl, hq9⟩ := hp9
  have hx9 := (hR9 _ _ hq9).1
  have hF9 := (hR9 _ _ hq9).2
  subst hx9
  refine a_eq (st' := [.int x9]) rfl rfl rfl ?_
  refine a_istore C dL_law_773 (by decide) ?_
  refine a_eq (L' := [some (.ref 1003), some (.ref 0), some (.ref 204), some (.ref 218), some (.int (nI i)), some (.int x9), none, none, none]) rfl rfl rfl ?_
  refine a_aload_n C dL_law_775 rfl rfl ?_
  refine a_aload_n C dL_law_776 rfl rfl ?_
  refine a_iload C dL_law_777 rfl ?_
  refine a_iconst (v := nI 1) C dL_law_779 (by decide) ?_
  refine n_iadd C dL_law_780 ?_
  refine a_scl C hX dL_law_781 rfl (show i + 1 < N by omega) hN ?_
  refine a_aload_n C dL_law_782 rfl rfl ?_
  refine a_iload C dL_law_783 rfl ?_
  refine a_iconst (v := nI 2) C dL_law_785 (by decide) ?_
  refine n_iadd C dL_law_786 ?_
  refine a_scl C hX dL_law_787 rfl (show i + 2 < N by omega) hN ?_
  refine a_callV C [.int (xs (i + 1)), .int (xs (i + 2))] 7 (hF9 (ex + d9) (us + 6 * d9)) vL_145 (show 204 < 219 by decide) (by decide) (show fz w1 204 = .inr (7, _) from rfl) rfl dL_law_788 rfl (Nat.le_of_ble_eq_true rfl) ⟨Nat.succ_le_succ m3, by show 8 + (3 + 11) + l2 ≤ 438; omega⟩ ⟨by show 219 + (ex + d9) + 0 ≤ 0 + 601024; omega, by show us + 6 * d9 + 0 ≤ 0 + 7293034; omega⟩ (fun r9 M9 hp9 _ _ => ?_)
  obtain ⟨w2, rfl, b9, rfl, ht9, hl9, I2⟩ := hp9
  refine a_eq (st' := [.int b9]) rfl rfl rfl ?_
  refine a_istore C dL_law_791 (by decide) ?_
  refine a_eq (L' := [some (.ref 1003), some (.ref 0), some (.ref 204), some (.ref 218), some (.int (nI i)), some (.int x9), some (.int b9), none, none]) rfl rfl rfl ?_
  refine a_aload_n C dL_law_793 rfl rfl ?_
  refine a_callV C [] 7 (K_X7_thrown (w := w2) (ex + d9) (us + 6 * d9)) vL_115 (show 204 < 219 by decide) (by decide) (show fz w2 204 = .inr (7, _) from rfl) rfl dL_law_794 rfl (Nat.le_of_ble_eq_true rfl) ⟨by decide, by decide⟩ ⟨by show 219 + (ex + d9) + 0 ≤ 0 + 601024; omega, by show us + 6 * d9 + 0 ≤ 0 + 7293034; omega⟩ (fun r9 M9 hp9 _ _ => ?_)
  obtain ⟨w3, rfl, rfl, e3⟩ := hp9
  subst e3
  refine a_eq (st' := [.int (w3.1 204 0)]) rfl rfl rfl ?_
  refine a_iload C dL_law_797 rfl ?_
  refine a_icmp_eq (tgt := 804) C dL_law_799 (by decide) (fun _ => ?_) (fun h9 => absurd ht9 h9)
  refine a_iload C dL_law_804 rfl ?_
  have K9 : WA G p l e room_1 s m args below meth c Q 9 0 0 821 [some (.ref 1003), some (.ref 0), some (.ref 204), some (.ref 218), some (.int (nI i)), some (.int x9), some (.int b9), none, none] [] (fzM w3 (ex + d9) (us + 6 * d9)) := a_goto (tgt := 2085) C dL_law_821 (by decide) (a_cut5 (k d9 w3 hd9 I2))
  refine a_if_ne (tgt := 821) C dL_law_806 (by decide) (fun _ => K9) (fun h9 => ?_)
  refine a_aload_n C dL_law_809 rfl rfl ?_
  refine a_iconst (v := nI 0) C dL_law_810 (by decide) ?_
  refine a_lald C dL_law_811 (show 218 < 219 by decide) (by decide) (show fz w3 218 = .inl (11, (1, .inr (.inl (fun _ => w3.2 218)))) from rfl) rfl (show 0 < 1 by decide) (by decide) ?_
  refine a_iload C dL_law_812 rfl ?_
  refine a_i2l C dL_law_814 ?_
  refine a_lcmp C dL_law_815 ?_
  exact a_if_eq (tgt := 821) C dL_law_816 (by decide) (fun _ => K9) (fun h8 => absurd ((lg_cmp_eq _ _).mpr (hl9 h9)) h8)
theorem lc_set (C : aCtx G p s m args meth c cL_law 9 RL) (hfl : l.flags = flags0) (hX : aScr G s N xs) (hN : N < 2 ^ 31) (hi : i + 2 < N) (I : Inv w) (hb : ex ≤ 2000 ∧ us ≤ 100000) (k : lwK G p l e s m args below meth c Q i ex us) : WA G p l e room_1 s m args below meth c Q 9 0 0 824 (lwL i) [] (fzM w ex us) := by
  obtain ⟨d9, o9, Q9, f1, l1, f2, l2, hd9, ⟨m1, m2, m3, m4⟩, hH9, hR9⟩ := S_set (x0 := xs (i + 1)) (x1 := xs (i + 2)) I
  refine a_pad 4 ?_
  refine a_eq (L' := [some (.ref 1003), some (.ref 0), some (.ref 204), some (.ref 218), some (.int (nI i)), none, none, none, none]) rfl rfl rfl ?_
  refine a_aload_n C dL_law_824 rfl rfl ?_
  refine a_aload_n C dL_law_825 rfl rfl ?_
  refine a_iload C dL_law_826 rfl ?_
  refine a_iconst (v := nI 1) C dL_law_828 (by decide) ?_
  refine n_iadd C dL_law_829 ?_
  refine a_scl C hX dL_law_830 rfl (show i + 1 < N by omega) hN ?_
  refine a_aload_n C dL_law_831 rfl rfl ?_
  refine a_iload C dL_law_832 rfl ?_
  refine a_iconst (v := nI 2) C dL_law_834 (by decide) ?_
  refine n_iadd C dL_law_835 ?_
  refine a_scl C hX dL_law_836 rfl (show i + 2 < N by omega) hN ?_
  refine a_aload_n C dL_law_837 rfl rfl ?_
  refine a_callSW C hfl [.ref 0, .int (xs (i + 1)), .int (xs (i + 2)), .ref 218] (hH9 ex us) sL_146 dL_law_838 rfl (Nat.le_of_ble_eq_true rfl) ⟨Nat.succ_le_succ m1, by show 8 + (5 + 11) + l1 ≤ 438; omega⟩ ⟨by show 219 + ex + d9 ≤ 0 + 601024; omega, by show us + 6 * d9 ≤ 0 + 7293034; omega⟩ (fun r9 M9 hp9 _ _ => ?_)
  obtain ⟨x9, w1, rfl, rfl, hq9⟩ := hp9
  have hx9 := (hR9 _ _ hq9).1
  have hF9 := (hR9 _ _ hq9).2
  subst hx9
  refine a_eq (st' := [.int x9]) rfl rfl rfl ?_
  refine a_istore C dL_law_841 (by decide) ?_
  refine a_eq (L' := [some (.ref 1003), some (.ref 0), some (.ref 204), some (.ref 218), some (.int (nI i)), some (.int x9), none, none, none]) rfl rfl rfl ?_
  refine a_aload_n C dL_law_843 rfl rfl ?_
  refine a_aload_n C dL_law_844 rfl rfl ?_
  refine a_iload C dL_law_845 rfl ?_
  refine a_iconst (v := nI 1) C dL_law_847 (by decide) ?_
  refine n_iadd C dL_law_848 ?_
  refine a_scl C hX dL_law_849 rfl (show i + 1 < N by omega) hN ?_
  refine a_aload_n C dL_law_850 rfl rfl ?_
  refine a_iload C dL_law_851 rfl ?_
  refine a_iconst (v := nI 2) C dL_law_853 (by decide) ?_
  refine n_iadd C dL_law_854 ?_
  refine a_scl C hX dL_law_855 rfl (show i + 2 < N by omega) hN ?_
  refine a_callV C [.int (xs (i + 1)), .int (xs (i + 2))] 7 (hF9 (ex + d9) (us + 6 * d9)) vL_148 (show 204 < 219 by decide) (by decide) (show fz w1 204 = .inr (7, _) from rfl) rfl dL_law_856 rfl (Nat.le_of_ble_eq_true rfl) ⟨Nat.succ_le_succ m3, by show 8 + (6 + 11) + l2 ≤ 438; omega⟩ ⟨by show 219 + (ex + d9) + 0 ≤ 0 + 601024; omega, by show us + 6 * d9 + 0 ≤ 0 + 7293034; omega⟩ (fun r9 M9 hp9 _ _ => ?_)
  obtain ⟨w2, rfl, b9, rfl, ht9, hl9, I2⟩ := hp9
  refine a_eq (st' := [.int b9]) rfl rfl rfl ?_
  refine a_istore C dL_law_859 (by decide) ?_
  refine a_eq (L' := [some (.ref 1003), some (.ref 0), some (.ref 204), some (.ref 218), some (.int (nI i)), some (.int x9), some (.int b9), none, none]) rfl rfl rfl ?_
  refine a_aload_n C dL_law_861 rfl rfl ?_
  refine a_callV C [] 7 (K_X7_thrown (w := w2) (ex + d9) (us + 6 * d9)) vL_115 (show 204 < 219 by decide) (by decide) (show fz w2 204 = .inr (7, _) from rfl) rfl dL_law_862 rfl (Nat.le_of_ble_eq_true rfl) ⟨by decide, by decide⟩ ⟨by show 219 + (ex + d9) + 0 ≤ 0 + 601024; omega, by show us + 6 * d9 + 0 ≤ 0 + 7293034; omega⟩ (fun r9 M9 hp9 _ _ => ?_)
  obtain ⟨w3, rfl, rfl, e3⟩ := hp9
  subst e3
  refine a_eq (st' := [.int (w3.1 204 0)]) rfl rfl rfl ?_
  refine a_iload C dL_law_865 rfl ?_
  refine a_icmp_eq (tgt := 872) C dL_law_867 (by decide) (fun _ => ?_) (fun h9 => absurd ht9 h9)
  refine a_iload C dL_law_872 rfl ?_
  have K9 : WA G p l e room_1 s m args below meth c Q 9 0 0 889 [some (.ref 1003), some (.ref 0), some (.ref 204), some (.ref 218), some (.int (nI i)), some (.int x9), some (.int b9), none, none] [] (fzM w3 (ex + d9) (us + 6 * d9)) := a_goto (tgt := 2085) C dL_law_889 (by decide) (a_cut5 (k d9 w3 hd9 I2))
  refine a_if_ne (tgt := 889) C dL_law_874 (by decide) (fun _ => K9) (fun h9 => ?_)
  refine a_aload_n C dL_law_877 rfl rfl ?_
  refine a_iconst (v := nI 0) C dL_law_878 (by decide) ?_
  refine a_lald C dL_law_879 (show 218 < 219 by decide) (by decide) (show fz w3 218 = .inl (11, (1, .inr (.inl (fun _ => w3.2 218)))) from rfl) rfl (show 0 < 1 by decide) (by decide) ?_
  refine a_iload C dL_law_880 rfl ?_
  refine a_i2l C dL_law_882 ?_
  refine a_lcmp C dL_law_883 ?_
  exact a_if_eq (tgt := 889) C dL_law_884 (by decide) (fun _ => K9) (fun h8 => absurd ((lg_cmp_eq _ _).mpr (hl9 h9)) h8)
theorem lc_append (C : aCtx G p s m args meth c cL_law 9 RL) (hfl : l.flags = flags0) (hX : aScr G s N xs) (hN : N < 2 ^ 31) (hi : i + 2 < N) (I : Inv w) (hb : ex ≤ 2000 ∧ us ≤ 100000) (k : lwK G p l e s m args below meth c Q i ex us) : WA G p l e room_1 s m args below meth c Q 9 0 0 892 (lwL i) [] (fzM w ex us) := by
  obtain ⟨d9, o9, Q9, f1, l1, f2, l2, hd9, ⟨m1, m2, m3, m4⟩, hH9, hR9⟩ := S_append (x0 := xs (i + 1)) I
  refine a_pad 4 ?_
  refine a_eq (L' := [some (.ref 1003), some (.ref 0), some (.ref 204), some (.ref 218), some (.int (nI i)), none, none, none, none]) rfl rfl rfl ?_
  refine a_aload_n C dL_law_892 rfl rfl ?_
  refine a_aload_n C dL_law_893 rfl rfl ?_
  refine a_iload C dL_law_894 rfl ?_
  refine a_iconst (v := nI 1) C dL_law_896 (by decide) ?_
  refine n_iadd C dL_law_897 ?_
  refine a_scl C hX dL_law_898 rfl (show i + 1 < N by omega) hN ?_
  refine a_aload_n C dL_law_899 rfl rfl ?_
  refine a_callSW C hfl [.ref 0, .int (xs (i + 1)), .ref 218] (hH9 ex us) sL_149 dL_law_900 rfl (Nat.le_of_ble_eq_true rfl) ⟨Nat.succ_le_succ m1, by show 8 + (4 + 11) + l1 ≤ 438; omega⟩ ⟨by show 219 + ex + d9 ≤ 0 + 601024; omega, by show us + 6 * d9 ≤ 0 + 7293034; omega⟩ (fun r9 M9 hp9 _ _ => ?_)
  obtain ⟨x9, w1, rfl, rfl, hq9⟩ := hp9
  have hx9 := (hR9 _ _ hq9).1
  have hF9 := (hR9 _ _ hq9).2
  subst hx9
  refine a_eq (st' := [.int x9]) rfl rfl rfl ?_
  refine a_istore C dL_law_903 (by decide) ?_
  refine a_eq (L' := [some (.ref 1003), some (.ref 0), some (.ref 204), some (.ref 218), some (.int (nI i)), some (.int x9), none, none, none]) rfl rfl rfl ?_
  refine a_aload_n C dL_law_905 rfl rfl ?_
  refine a_aload_n C dL_law_906 rfl rfl ?_
  refine a_iload C dL_law_907 rfl ?_
  refine a_iconst (v := nI 1) C dL_law_909 (by decide) ?_
  refine n_iadd C dL_law_910 ?_
  refine a_scl C hX dL_law_911 rfl (show i + 1 < N by omega) hN ?_
  refine a_callV C [.int (xs (i + 1))] 7 (hF9 (ex + d9) (us + 6 * d9)) vL_151 (show 204 < 219 by decide) (by decide) (show fz w1 204 = .inr (7, _) from rfl) rfl dL_law_912 rfl (Nat.le_of_ble_eq_true rfl) ⟨Nat.succ_le_succ m3, by show 8 + (2 + 11) + l2 ≤ 438; omega⟩ ⟨by show 219 + (ex + d9) + 0 ≤ 0 + 601024; omega, by show us + 6 * d9 + 0 ≤ 0 + 7293034; omega⟩ (fun r9 M9 hp9 _ _ => ?_)
  obtain ⟨w2, rfl, b9, rfl, ht9, hl9, I2⟩ := hp9
  refine a_eq (st' := [.int b9]) rfl rfl rfl ?_
  refine a_istore C dL_law_915 (by decide) ?_
  refine a_eq (L' := [some (.ref 1003), some (.ref 0), some (.ref 204), some (.ref 218), some (.int (nI i)), some (.int x9), some (.int b9), none, none]) rfl rfl rfl ?_
  refine a_aload_n C dL_law_917 rfl rfl ?_
  refine a_callV C [] 7 (K_X7_thrown (w := w2) (ex + d9) (us + 6 * d9)) vL_115 (show 204 < 219 by decide) (by decide) (show fz w2 204 = .inr (7, _) from rfl) rfl dL_law_918 rfl (Nat.le_of_ble_eq_true rfl) ⟨by decide, by decide⟩ ⟨by show 219 + (ex + d9) + 0 ≤ 0 + 601024; omega, by show us + 6 * d9 + 0 ≤ 0 + 7293034; omega⟩ (fun r9 M9 hp9 _ _ => ?_)
  obtain ⟨w3, rfl, rfl, e3⟩ := hp9
  subst e3
  refine a_eq (st' := [.int (w3.1 204 0)]) rfl rfl rfl ?_
  refine a_iload C dL_law_921 rfl ?_
  refine a_icmp_eq (tgt := 928) C dL_law_923 (by decide) (fun _ => ?_) (fun h9 => absurd ht9 h9)
  refine a_iload C dL_law_928 rfl ?_
  have K9 : WA G p l e room_1 s m args below meth c Q 9 0 0 945 [some (.ref 1003), some (.ref 0), some (.ref 204), some (.ref 218), some (.int (nI i)), some (.int x9), some (.int b9), none, none] [] (fzM w3 (ex + d9) (us + 6 * d9)) := a_goto (tgt := 2085) C dL_law_945 (by decide) (a_cut5 (k d9 w3 hd9 I2))
  refine a_if_ne (tgt := 945) C dL_law_930 (by decide) (fun _ => K9) (fun h9 => ?_)
  refine a_aload_n C dL_law_933 rfl rfl ?_
  refine a_iconst (v := nI 0) C dL_law_934 (by decide) ?_
  refine a_lald C dL_law_935 (show 218 < 219 by decide) (by decide) (show fz w3 218 = .inl (11, (1, .inr (.inl (fun _ => w3.2 218)))) from rfl) rfl (show 0 < 1 by decide) (by decide) ?_
  refine a_iload C dL_law_936 rfl ?_
  refine a_i2l C dL_law_938 ?_
  refine a_lcmp C dL_law_939 ?_
  exact a_if_eq (tgt := 945) C dL_law_940 (by decide) (fun _ => K9) (fun h8 => absurd ((lg_cmp_eq _ _).mpr (hl9 h9)) h8)
theorem lc_clearBuffer (C : aCtx G p s m args meth c cL_law 9 RL) (hfl : l.flags = flags0) (hX : aScr G s N xs) (hN : N < 2 ^ 31) (hi : i + 2 < N) (I : Inv w) (hb : ex ≤ 2000 ∧ us ≤ 100000) (k : lwK G p l e s m args below meth c Q i ex us) : WA G p l e room_1 s m args below meth c Q 9 0 0 948 (lwL i) [] (fzM w ex us) := by
  obtain ⟨x9, f1, l1, f2, l2, ⟨m1, m2, m3, m4⟩, hF9⟩ := S_clearBuffer I
  refine a_aload_n C dL_law_948 rfl rfl ?_
  refine a_callV C [] 6 (hF9 ex us) vL_152 (show 0 < 219 by decide) (by decide) (show fz w 0 = .inr (6, _) from rfl) rfl dL_law_949 rfl (Nat.le_of_ble_eq_true rfl) ⟨Nat.succ_le_succ m1, by show 8 + (2 + 11) + l1 ≤ 438; omega⟩ ⟨by show 219 + ex + 0 ≤ 0 + 601024; omega, by show us + 0 ≤ 0 + 7293034; omega⟩ (fun r9 M9 hp9 _ _ => ?_)
  obtain ⟨w1, rfl, rfl, hG9⟩ := hp9
  refine a_eq (st' := [.int x9]) rfl rfl rfl ?_
  refine a_aload_n C dL_law_952 rfl rfl ?_
  refine a_callV C [] 7 (hG9 ex us) vL_155 (show 204 < 219 by decide) (by decide) (show fz w1 204 = .inr (7, _) from rfl) rfl dL_law_953 rfl (Nat.le_of_ble_eq_true rfl) ⟨Nat.succ_le_succ m3, by show 8 + (2 + 11) + l2 ≤ 438; omega⟩ ⟨by show 219 + ex + 0 ≤ 0 + 601024; omega, by show us + 0 ≤ 0 + 7293034; omega⟩ (fun r9 M9 hp9 _ _ => ?_)
  obtain ⟨w2, rfl, rfl, I2⟩ := hp9
  refine a_eq (st' := [.int x9, .int x9]) rfl rfl rfl ?_
  exact a_icmp_eq (tgt := 2085) C dL_law_956 (by decide) (fun _ => k 0 w2 (Nat.zero_le 1) I2) (fun h9 => absurd rfl h9)
theorem lc_firstError (C : aCtx G p s m args meth c cL_law 9 RL) (hfl : l.flags = flags0) (hX : aScr G s N xs) (hN : N < 2 ^ 31) (hi : i + 2 < N) (I : Inv w) (hb : ex ≤ 2000 ∧ us ≤ 100000) (k : lwK G p l e s m args below meth c Q i ex us) : WA G p l e room_1 s m args below meth c Q 9 0 0 961 (lwL i) [] (fzM w ex us) := by
  obtain ⟨x9, f1, l1, f2, l2, ⟨m1, m2, m3, m4⟩, hF9⟩ := S_firstError I
  refine a_aload_n C dL_law_961 rfl rfl ?_
  refine a_callV C [] 6 (hF9 ex us) vL_156 (show 0 < 219 by decide) (by decide) (show fz w 0 = .inr (6, _) from rfl) rfl dL_law_962 rfl (Nat.le_of_ble_eq_true rfl) ⟨Nat.succ_le_succ m1, by show 8 + (1 + 11) + l1 ≤ 438; omega⟩ ⟨by show 219 + ex + 0 ≤ 0 + 601024; omega, by show us + 0 ≤ 0 + 7293034; omega⟩ (fun r9 M9 hp9 _ _ => ?_)
  obtain ⟨w1, rfl, rfl, hG9⟩ := hp9
  refine a_eq (st' := [.int x9]) rfl rfl rfl ?_
  refine a_aload_n C dL_law_965 rfl rfl ?_
  refine a_callV C [] 7 (hG9 ex us) vL_159 (show 204 < 219 by decide) (by decide) (show fz w1 204 = .inr (7, _) from rfl) rfl dL_law_966 rfl (Nat.le_of_ble_eq_true rfl) ⟨Nat.succ_le_succ m3, by show 8 + (2 + 11) + l2 ≤ 438; omega⟩ ⟨by show 219 + ex + 0 ≤ 0 + 601024; omega, by show us + 0 ≤ 0 + 7293034; omega⟩ (fun r9 M9 hp9 _ _ => ?_)
  obtain ⟨w2, rfl, rfl, I2⟩ := hp9
  refine a_eq (st' := [.int x9, .int x9]) rfl rfl rfl ?_
  exact a_icmp_eq (tgt := 2085) C dL_law_969 (by decide) (fun _ => k 0 w2 (Nat.zero_le 1) I2) (fun h9 => absurd rfl h9)
theorem lc_obey (C : aCtx G p s m args meth c cL_law 9 RL) (hfl : l.flags = flags0) (hX : aScr G s N xs) (hN : N < 2 ^ 31) (hi : i + 2 < N) (I : Inv w) (hb : ex ≤ 2000 ∧ us ≤ 100000) (k : lwK G p l e s m args below meth c Q i ex us) : WA G p l e room_1 s m args below meth c Q 9 0 0 974 (lwL i) [] (fzM w ex us) := by
  obtain ⟨d9, o9, Q9, f1, l1, f2, l2, hd9, ⟨m1, m2, m3, m4⟩, hH9, hR9⟩ := S_obey  I
  refine a_pad 4 ?_
  refine a_eq (L' := [some (.ref 1003), some (.ref 0), some (.ref 204), some (.ref 218), some (.int (nI i)), none, none, none, none]) rfl rfl rfl ?_
  refine a_aload_n C dL_law_974 rfl rfl ?_
  refine a_aload_n C dL_law_975 rfl rfl ?_
  refine a_callSW C hfl [.ref 0, .ref 218] (hH9 ex us) sL_160 dL_law_976 rfl (Nat.le_of_ble_eq_true rfl) ⟨Nat.succ_le_succ m1, by show 8 + (3 + 11) + l1 ≤ 438; omega⟩ ⟨by show 219 + ex + d9 ≤ 0 + 601024; omega, by show us + 6 * d9 ≤ 0 + 7293034; omega⟩ (fun r9 M9 hp9 _ _ => ?_)
  obtain ⟨x9, w1, rfl, rfl, hq9⟩ := hp9
  have hx9 := (hR9 _ _ hq9).1
  have hF9 := (hR9 _ _ hq9).2
  subst hx9
  refine a_eq (st' := [.int x9]) rfl rfl rfl ?_
  refine a_istore C dL_law_979 (by decide) ?_
  refine a_eq (L' := [some (.ref 1003), some (.ref 0), some (.ref 204), some (.ref 218), some (.int (nI i)), some (.int x9), none, none, none]) rfl rfl rfl ?_
  refine a_aload_n C dL_law_981 rfl rfl ?_
  refine a_callV C [] 7 (hF9 (ex + d9) (us + 6 * d9)) vL_163 (show 204 < 219 by decide) (by decide) (show fz w1 204 = .inr (7, _) from rfl) rfl dL_law_982 rfl (Nat.le_of_ble_eq_true rfl) ⟨Nat.succ_le_succ m3, by show 8 + (4 + 11) + l2 ≤ 438; omega⟩ ⟨by show 219 + (ex + d9) + 0 ≤ 0 + 601024; omega, by show us + 6 * d9 + 0 ≤ 0 + 7293034; omega⟩ (fun r9 M9 hp9 _ _ => ?_)
  obtain ⟨w2, rfl, b9, rfl, ht9, hl9, I2⟩ := hp9
  refine a_eq (st' := [.int b9]) rfl rfl rfl ?_
  refine a_istore C dL_law_985 (by decide) ?_
  refine a_eq (L' := [some (.ref 1003), some (.ref 0), some (.ref 204), some (.ref 218), some (.int (nI i)), some (.int x9), some (.int b9), none, none]) rfl rfl rfl ?_
  refine a_aload_n C dL_law_987 rfl rfl ?_
  refine a_callV C [] 7 (K_X7_thrown (w := w2) (ex + d9) (us + 6 * d9)) vL_115 (show 204 < 219 by decide) (by decide) (show fz w2 204 = .inr (7, _) from rfl) rfl dL_law_988 rfl (Nat.le_of_ble_eq_true rfl) ⟨by decide, by decide⟩ ⟨by show 219 + (ex + d9) + 0 ≤ 0 + 601024; omega, by show us + 6 * d9 + 0 ≤ 0 + 7293034; omega⟩ (fun r9 M9 hp9 _ _ => ?_)
  obtain ⟨w3, rfl, rfl, e3⟩ := hp9
  subst e3
  refine a_eq (st' := [.int (w3.1 204 0)]) rfl rfl rfl ?_
  refine a_iload C dL_law_991 rfl ?_
  refine a_icmp_eq (tgt := 998) C dL_law_993 (by decide) (fun _ => ?_) (fun h9 => absurd ht9 h9)
  refine a_iload C dL_law_998 rfl ?_
  have K9 : WA G p l e room_1 s m args below meth c Q 9 0 0 1015 [some (.ref 1003), some (.ref 0), some (.ref 204), some (.ref 218), some (.int (nI i)), some (.int x9), some (.int b9), none, none] [] (fzM w3 (ex + d9) (us + 6 * d9)) := a_goto (tgt := 2085) C dL_law_1015 (by decide) (a_cut5 (k d9 w3 hd9 I2))
  refine a_if_ne (tgt := 1015) C dL_law_1000 (by decide) (fun _ => K9) (fun h9 => ?_)
  refine a_aload_n C dL_law_1003 rfl rfl ?_
  refine a_iconst (v := nI 0) C dL_law_1004 (by decide) ?_
  refine a_lald C dL_law_1005 (show 218 < 219 by decide) (by decide) (show fz w3 218 = .inl (11, (1, .inr (.inl (fun _ => w3.2 218)))) from rfl) rfl (show 0 < 1 by decide) (by decide) ?_
  refine a_iload C dL_law_1006 rfl ?_
  refine a_i2l C dL_law_1008 ?_
  refine a_lcmp C dL_law_1009 ?_
  exact a_if_eq (tgt := 1015) C dL_law_1010 (by decide) (fun _ => K9) (fun h8 => absurd ((lg_cmp_eq _ _).mpr (hl9 h9)) h8)
theorem lc_keep (C : aCtx G p s m args meth c cL_law 9 RL) (hfl : l.flags = flags0) (hX : aScr G s N xs) (hN : N < 2 ^ 31) (hi : i + 2 < N) (I : Inv w) (hb : ex ≤ 2000 ∧ us ≤ 100000) (k : lwK G p l e s m args below meth c Q i ex us) : WA G p l e room_1 s m args below meth c Q 9 0 0 1018 (lwL i) [] (fzM w ex us) := by
  obtain ⟨x9, f1, l1, f2, l2, ⟨m1, m2, m3, m4⟩, hF9⟩ := S_keep I
  refine a_aload_n C dL_law_1018 rfl rfl ?_
  refine a_callV C [] 6 (hF9 ex us) vL_164 (show 0 < 219 by decide) (by decide) (show fz w 0 = .inr (6, _) from rfl) rfl dL_law_1019 rfl (Nat.le_of_ble_eq_true rfl) ⟨Nat.succ_le_succ m1, by show 8 + (1 + 11) + l1 ≤ 438; omega⟩ ⟨by show 219 + ex + 0 ≤ 0 + 601024; omega, by show us + 0 ≤ 0 + 7293034; omega⟩ (fun r9 M9 hp9 _ _ => ?_)
  obtain ⟨w1, rfl, rfl, hG9⟩ := hp9
  refine a_eq (st' := [.int x9]) rfl rfl rfl ?_
  refine a_aload_n C dL_law_1022 rfl rfl ?_
  refine a_callV C [] 7 (hG9 ex us) vL_167 (show 204 < 219 by decide) (by decide) (show fz w1 204 = .inr (7, _) from rfl) rfl dL_law_1023 rfl (Nat.le_of_ble_eq_true rfl) ⟨Nat.succ_le_succ m3, by show 8 + (2 + 11) + l2 ≤ 438; omega⟩ ⟨by show 219 + ex + 0 ≤ 0 + 601024; omega, by show us + 0 ≤ 0 + 7293034; omega⟩ (fun r9 M9 hp9 _ _ => ?_)
  obtain ⟨w2, rfl, rfl, I2⟩ := hp9
  refine a_eq (st' := [.int x9, .int x9]) rfl rfl rfl ?_
  exact a_icmp_eq (tgt := 2085) C dL_law_1026 (by decide) (fun _ => k 0 w2 (Nat.zero_le 1) I2) (fun h9 => absurd rfl h9)
theorem lc_goBack (C : aCtx G p s m args meth c cL_law 9 RL) (hfl : l.flags = flags0) (hX : aScr G s N xs) (hN : N < 2 ^ 31) (hi : i + 2 < N) (I : Inv w) (hb : ex ≤ 2000 ∧ us ≤ 100000) (k : lwK G p l e s m args below meth c Q i ex us) : WA G p l e room_1 s m args below meth c Q 9 0 0 1031 (lwL i) [] (fzM w ex us) := by
  obtain ⟨d9, o9, Q9, f1, l1, f2, l2, hd9, ⟨m1, m2, m3, m4⟩, hH9, hR9⟩ := S_goBack  I
  refine a_pad 4 ?_
  refine a_eq (L' := [some (.ref 1003), some (.ref 0), some (.ref 204), some (.ref 218), some (.int (nI i)), none, none, none, none]) rfl rfl rfl ?_
  refine a_aload_n C dL_law_1031 rfl rfl ?_
  refine a_aload_n C dL_law_1032 rfl rfl ?_
  refine a_callSW C hfl [.ref 0, .ref 218] (hH9 ex us) sL_168 dL_law_1033 rfl (Nat.le_of_ble_eq_true rfl) ⟨Nat.succ_le_succ m1, by show 8 + (3 + 11) + l1 ≤ 438; omega⟩ ⟨by show 219 + ex + d9 ≤ 0 + 601024; omega, by show us + 6 * d9 ≤ 0 + 7293034; omega⟩ (fun r9 M9 hp9 _ _ => ?_)
  obtain ⟨x9, w1, rfl, rfl, hq9⟩ := hp9
  have hx9 := (hR9 _ _ hq9).1
  have hF9 := (hR9 _ _ hq9).2
  subst hx9
  refine a_eq (st' := [.int x9]) rfl rfl rfl ?_
  refine a_istore C dL_law_1036 (by decide) ?_
  refine a_eq (L' := [some (.ref 1003), some (.ref 0), some (.ref 204), some (.ref 218), some (.int (nI i)), some (.int x9), none, none, none]) rfl rfl rfl ?_
  refine a_aload_n C dL_law_1038 rfl rfl ?_
  refine a_callV C [] 7 (hF9 (ex + d9) (us + 6 * d9)) vL_170 (show 204 < 219 by decide) (by decide) (show fz w1 204 = .inr (7, _) from rfl) rfl dL_law_1039 rfl (Nat.le_of_ble_eq_true rfl) ⟨Nat.succ_le_succ m3, by show 8 + (2 + 11) + l2 ≤ 438; omega⟩ ⟨by show 219 + (ex + d9) + 0 ≤ 0 + 601024; omega, by show us + 6 * d9 + 0 ≤ 0 + 7293034; omega⟩ (fun r9 M9 hp9 _ _ => ?_)
  obtain ⟨w2, rfl, b9, rfl, ht9, hl9, I2⟩ := hp9
  refine a_eq (st' := [.int b9]) rfl rfl rfl ?_
  refine a_istore C dL_law_1042 (by decide) ?_
  refine a_eq (L' := [some (.ref 1003), some (.ref 0), some (.ref 204), some (.ref 218), some (.int (nI i)), some (.int x9), some (.int b9), none, none]) rfl rfl rfl ?_
  refine a_aload_n C dL_law_1044 rfl rfl ?_
  refine a_callV C [] 7 (K_X7_thrown (w := w2) (ex + d9) (us + 6 * d9)) vL_115 (show 204 < 219 by decide) (by decide) (show fz w2 204 = .inr (7, _) from rfl) rfl dL_law_1045 rfl (Nat.le_of_ble_eq_true rfl) ⟨by decide, by decide⟩ ⟨by show 219 + (ex + d9) + 0 ≤ 0 + 601024; omega, by show us + 6 * d9 + 0 ≤ 0 + 7293034; omega⟩ (fun r9 M9 hp9 _ _ => ?_)
  obtain ⟨w3, rfl, rfl, e3⟩ := hp9
  subst e3
  refine a_eq (st' := [.int (w3.1 204 0)]) rfl rfl rfl ?_
  refine a_iload C dL_law_1048 rfl ?_
  refine a_icmp_eq (tgt := 1055) C dL_law_1050 (by decide) (fun _ => ?_) (fun h9 => absurd ht9 h9)
  refine a_iload C dL_law_1055 rfl ?_
  have K9 : WA G p l e room_1 s m args below meth c Q 9 0 0 1072 [some (.ref 1003), some (.ref 0), some (.ref 204), some (.ref 218), some (.int (nI i)), some (.int x9), some (.int b9), none, none] [] (fzM w3 (ex + d9) (us + 6 * d9)) := a_goto (tgt := 2085) C dL_law_1072 (by decide) (a_cut5 (k d9 w3 hd9 I2))
  refine a_if_ne (tgt := 1072) C dL_law_1057 (by decide) (fun _ => K9) (fun h9 => ?_)
  refine a_aload_n C dL_law_1060 rfl rfl ?_
  refine a_iconst (v := nI 0) C dL_law_1061 (by decide) ?_
  refine a_lald C dL_law_1062 (show 218 < 219 by decide) (by decide) (show fz w3 218 = .inl (11, (1, .inr (.inl (fun _ => w3.2 218)))) from rfl) rfl (show 0 < 1 by decide) (by decide) ?_
  refine a_iload C dL_law_1063 rfl ?_
  refine a_i2l C dL_law_1065 ?_
  refine a_lcmp C dL_law_1066 ?_
  exact a_if_eq (tgt := 1072) C dL_law_1067 (by decide) (fun _ => K9) (fun h8 => absurd ((lg_cmp_eq _ _).mpr (hl9 h9)) h8)
theorem lc_undo (C : aCtx G p s m args meth c cL_law 9 RL) (hfl : l.flags = flags0) (hX : aScr G s N xs) (hN : N < 2 ^ 31) (hi : i + 2 < N) (I : Inv w) (hb : ex ≤ 2000 ∧ us ≤ 100000) (k : lwK G p l e s m args below meth c Q i ex us) : WA G p l e room_1 s m args below meth c Q 9 0 0 1075 (lwL i) [] (fzM w ex us) := by
  obtain ⟨d9, o9, Q9, f1, l1, f2, l2, hd9, ⟨m1, m2, m3, m4⟩, hH9, hR9⟩ := S_undo  I
  refine a_pad 4 ?_
  refine a_eq (L' := [some (.ref 1003), some (.ref 0), some (.ref 204), some (.ref 218), some (.int (nI i)), none, none, none, none]) rfl rfl rfl ?_
  refine a_aload_n C dL_law_1075 rfl rfl ?_
  refine a_aload_n C dL_law_1076 rfl rfl ?_
  refine a_callSW C hfl [.ref 0, .ref 218] (hH9 ex us) sL_171 dL_law_1077 rfl (Nat.le_of_ble_eq_true rfl) ⟨Nat.succ_le_succ m1, by show 8 + (3 + 11) + l1 ≤ 438; omega⟩ ⟨by show 219 + ex + d9 ≤ 0 + 601024; omega, by show us + 6 * d9 ≤ 0 + 7293034; omega⟩ (fun r9 M9 hp9 _ _ => ?_)
  obtain ⟨x9, w1, rfl, rfl, hq9⟩ := hp9
  have hx9 := (hR9 _ _ hq9).1
  have hF9 := (hR9 _ _ hq9).2
  subst hx9
  refine a_eq (st' := [.int x9]) rfl rfl rfl ?_
  refine a_istore C dL_law_1080 (by decide) ?_
  refine a_eq (L' := [some (.ref 1003), some (.ref 0), some (.ref 204), some (.ref 218), some (.int (nI i)), some (.int x9), none, none, none]) rfl rfl rfl ?_
  refine a_aload_n C dL_law_1082 rfl rfl ?_
  refine a_callV C [] 7 (hF9 (ex + d9) (us + 6 * d9)) vL_173 (show 204 < 219 by decide) (by decide) (show fz w1 204 = .inr (7, _) from rfl) rfl dL_law_1083 rfl (Nat.le_of_ble_eq_true rfl) ⟨Nat.succ_le_succ m3, by show 8 + (2 + 11) + l2 ≤ 438; omega⟩ ⟨by show 219 + (ex + d9) + 0 ≤ 0 + 601024; omega, by show us + 6 * d9 + 0 ≤ 0 + 7293034; omega⟩ (fun r9 M9 hp9 _ _ => ?_)
  obtain ⟨w2, rfl, b9, rfl, ht9, hl9, I2⟩ := hp9
  refine a_eq (st' := [.int b9]) rfl rfl rfl ?_
  refine a_istore C dL_law_1086 (by decide) ?_
  refine a_eq (L' := [some (.ref 1003), some (.ref 0), some (.ref 204), some (.ref 218), some (.int (nI i)), some (.int x9), some (.int b9), none, none]) rfl rfl rfl ?_
  refine a_aload_n C dL_law_1088 rfl rfl ?_
  refine a_callV C [] 7 (K_X7_thrown (w := w2) (ex + d9) (us + 6 * d9)) vL_115 (show 204 < 219 by decide) (by decide) (show fz w2 204 = .inr (7, _) from rfl) rfl dL_law_1089 rfl (Nat.le_of_ble_eq_true rfl) ⟨by decide, by decide⟩ ⟨by show 219 + (ex + d9) + 0 ≤ 0 + 601024; omega, by show us + 6 * d9 + 0 ≤ 0 + 7293034; omega⟩ (fun r9 M9 hp9 _ _ => ?_)
  obtain ⟨w3, rfl, rfl, e3⟩ := hp9
  subst e3
  refine a_eq (st' := [.int (w3.1 204 0)]) rfl rfl rfl ?_
  refine a_iload C dL_law_1092 rfl ?_
  refine a_icmp_eq (tgt := 1099) C dL_law_1094 (by decide) (fun _ => ?_) (fun h9 => absurd ht9 h9)
  refine a_iload C dL_law_1099 rfl ?_
  have K9 : WA G p l e room_1 s m args below meth c Q 9 0 0 1116 [some (.ref 1003), some (.ref 0), some (.ref 204), some (.ref 218), some (.int (nI i)), some (.int x9), some (.int b9), none, none] [] (fzM w3 (ex + d9) (us + 6 * d9)) := a_goto (tgt := 2085) C dL_law_1116 (by decide) (a_cut5 (k d9 w3 hd9 I2))
  refine a_if_ne (tgt := 1116) C dL_law_1101 (by decide) (fun _ => K9) (fun h9 => ?_)
  refine a_aload_n C dL_law_1104 rfl rfl ?_
  refine a_iconst (v := nI 0) C dL_law_1105 (by decide) ?_
  refine a_lald C dL_law_1106 (show 218 < 219 by decide) (by decide) (show fz w3 218 = .inl (11, (1, .inr (.inl (fun _ => w3.2 218)))) from rfl) rfl (show 0 < 1 by decide) (by decide) ?_
  refine a_iload C dL_law_1107 rfl ?_
  refine a_i2l C dL_law_1109 ?_
  refine a_lcmp C dL_law_1110 ?_
  exact a_if_eq (tgt := 1116) C dL_law_1111 (by decide) (fun _ => K9) (fun h8 => absurd ((lg_cmp_eq _ _).mpr (hl9 h9)) h8)
theorem lc_key (C : aCtx G p s m args meth c cL_law 9 RL) (hfl : l.flags = flags0) (hX : aScr G s N xs) (hN : N < 2 ^ 31) (hi : i + 2 < N) (I : Inv w) (hb : ex ≤ 2000 ∧ us ≤ 100000) (k : lwK G p l e s m args below meth c Q i ex us) : WA G p l e room_1 s m args below meth c Q 9 0 0 1119 (lwL i) [] (fzM w ex us) := by
  obtain ⟨d9, o9, Q9, f1, l1, f2, l2, hd9, ⟨m1, m2, m3, m4⟩, hH9, hR9⟩ := S_key (x0 := xs (i + 1)) (x1 := xs (i + 2)) I
  refine a_pad 4 ?_
  refine a_eq (L' := [some (.ref 1003), some (.ref 0), some (.ref 204), some (.ref 218), some (.int (nI i)), none, none, none, none]) rfl rfl rfl ?_
  refine a_aload_n C dL_law_1119 rfl rfl ?_
  refine a_aload_n C dL_law_1120 rfl rfl ?_
  refine a_iload C dL_law_1121 rfl ?_
  refine a_iconst (v := nI 1) C dL_law_1123 (by decide) ?_
  refine n_iadd C dL_law_1124 ?_
  refine a_scl C hX dL_law_1125 rfl (show i + 1 < N by omega) hN ?_
  refine a_aload_n C dL_law_1126 rfl rfl ?_
  refine a_iload C dL_law_1127 rfl ?_
  refine a_iconst (v := nI 2) C dL_law_1129 (by decide) ?_
  refine n_iadd C dL_law_1130 ?_
  refine a_scl C hX dL_law_1131 rfl (show i + 2 < N by omega) hN ?_
  refine a_aload_n C dL_law_1132 rfl rfl ?_
  refine a_callSW C hfl [.ref 0, .int (xs (i + 1)), .int (xs (i + 2)), .ref 218] (hH9 ex us) sL_174 dL_law_1133 rfl (Nat.le_of_ble_eq_true rfl) ⟨Nat.succ_le_succ m1, by show 8 + (5 + 11) + l1 ≤ 438; omega⟩ ⟨by show 219 + ex + d9 ≤ 0 + 601024; omega, by show us + 6 * d9 ≤ 0 + 7293034; omega⟩ (fun r9 M9 hp9 _ _ => ?_)
  obtain ⟨x9, w1, rfl, rfl, hq9⟩ := hp9
  have hx9 := (hR9 _ _ hq9).1
  have hF9 := (hR9 _ _ hq9).2
  subst hx9
  refine a_eq (st' := [.int x9]) rfl rfl rfl ?_
  refine a_istore C dL_law_1136 (by decide) ?_
  refine a_eq (L' := [some (.ref 1003), some (.ref 0), some (.ref 204), some (.ref 218), some (.int (nI i)), some (.int x9), none, none, none]) rfl rfl rfl ?_
  refine a_aload_n C dL_law_1138 rfl rfl ?_
  refine a_aload_n C dL_law_1139 rfl rfl ?_
  refine a_iload C dL_law_1140 rfl ?_
  refine a_iconst (v := nI 1) C dL_law_1142 (by decide) ?_
  refine n_iadd C dL_law_1143 ?_
  refine a_scl C hX dL_law_1144 rfl (show i + 1 < N by omega) hN ?_
  refine a_aload_n C dL_law_1145 rfl rfl ?_
  refine a_iload C dL_law_1146 rfl ?_
  refine a_iconst (v := nI 2) C dL_law_1148 (by decide) ?_
  refine n_iadd C dL_law_1149 ?_
  refine a_scl C hX dL_law_1150 rfl (show i + 2 < N by omega) hN ?_
  refine a_callV C [.int (xs (i + 1)), .int (xs (i + 2))] 7 (hF9 (ex + d9) (us + 6 * d9)) vL_176 (show 204 < 219 by decide) (by decide) (show fz w1 204 = .inr (7, _) from rfl) rfl dL_law_1151 rfl (Nat.le_of_ble_eq_true rfl) ⟨Nat.succ_le_succ m3, by show 8 + (3 + 11) + l2 ≤ 438; omega⟩ ⟨by show 219 + (ex + d9) + 0 ≤ 0 + 601024; omega, by show us + 6 * d9 + 0 ≤ 0 + 7293034; omega⟩ (fun r9 M9 hp9 _ _ => ?_)
  obtain ⟨w2, rfl, b9, rfl, ht9, hl9, I2⟩ := hp9
  refine a_eq (st' := [.int b9]) rfl rfl rfl ?_
  refine a_istore C dL_law_1154 (by decide) ?_
  refine a_eq (L' := [some (.ref 1003), some (.ref 0), some (.ref 204), some (.ref 218), some (.int (nI i)), some (.int x9), some (.int b9), none, none]) rfl rfl rfl ?_
  refine a_aload_n C dL_law_1156 rfl rfl ?_
  refine a_callV C [] 7 (K_X7_thrown (w := w2) (ex + d9) (us + 6 * d9)) vL_115 (show 204 < 219 by decide) (by decide) (show fz w2 204 = .inr (7, _) from rfl) rfl dL_law_1157 rfl (Nat.le_of_ble_eq_true rfl) ⟨by decide, by decide⟩ ⟨by show 219 + (ex + d9) + 0 ≤ 0 + 601024; omega, by show us + 6 * d9 + 0 ≤ 0 + 7293034; omega⟩ (fun r9 M9 hp9 _ _ => ?_)
  obtain ⟨w3, rfl, rfl, e3⟩ := hp9
  subst e3
  refine a_eq (st' := [.int (w3.1 204 0)]) rfl rfl rfl ?_
  refine a_iload C dL_law_1160 rfl ?_
  refine a_icmp_eq (tgt := 1167) C dL_law_1162 (by decide) (fun _ => ?_) (fun h9 => absurd ht9 h9)
  refine a_iload C dL_law_1167 rfl ?_
  have K9 : WA G p l e room_1 s m args below meth c Q 9 0 0 1184 [some (.ref 1003), some (.ref 0), some (.ref 204), some (.ref 218), some (.int (nI i)), some (.int x9), some (.int b9), none, none] [] (fzM w3 (ex + d9) (us + 6 * d9)) := a_goto (tgt := 2085) C dL_law_1184 (by decide) (a_cut5 (k d9 w3 hd9 I2))
  refine a_if_ne (tgt := 1184) C dL_law_1169 (by decide) (fun _ => K9) (fun h9 => ?_)
  refine a_aload_n C dL_law_1172 rfl rfl ?_
  refine a_iconst (v := nI 0) C dL_law_1173 (by decide) ?_
  refine a_lald C dL_law_1174 (show 218 < 219 by decide) (by decide) (show fz w3 218 = .inl (11, (1, .inr (.inl (fun _ => w3.2 218)))) from rfl) rfl (show 0 < 1 by decide) (by decide) ?_
  refine a_iload C dL_law_1175 rfl ?_
  refine a_i2l C dL_law_1177 ?_
  refine a_lcmp C dL_law_1178 ?_
  exact a_if_eq (tgt := 1184) C dL_law_1179 (by decide) (fun _ => K9) (fun h8 => absurd ((lg_cmp_eq _ _).mpr (hl9 h9)) h8)
theorem lc_lock (C : aCtx G p s m args meth c cL_law 9 RL) (hfl : l.flags = flags0) (hX : aScr G s N xs) (hN : N < 2 ^ 31) (hi : i + 2 < N) (I : Inv w) (hb : ex ≤ 2000 ∧ us ≤ 100000) (k : lwK G p l e s m args below meth c Q i ex us) : WA G p l e room_1 s m args below meth c Q 9 0 0 1187 (lwL i) [] (fzM w ex us) := by
  obtain ⟨d9, o9, Q9, f1, l1, f2, l2, hd9, ⟨m1, m2, m3, m4⟩, hH9, hR9⟩ := S_lock (x0 := xs (i + 1)) (x1 := xs (i + 2)) I
  refine a_pad 4 ?_
  refine a_eq (L' := [some (.ref 1003), some (.ref 0), some (.ref 204), some (.ref 218), some (.int (nI i)), none, none, none, none]) rfl rfl rfl ?_
  refine a_aload_n C dL_law_1187 rfl rfl ?_
  refine a_aload_n C dL_law_1188 rfl rfl ?_
  refine a_iload C dL_law_1189 rfl ?_
  refine a_iconst (v := nI 1) C dL_law_1191 (by decide) ?_
  refine n_iadd C dL_law_1192 ?_
  refine a_scl C hX dL_law_1193 rfl (show i + 1 < N by omega) hN ?_
  refine a_aload_n C dL_law_1194 rfl rfl ?_
  refine a_iload C dL_law_1195 rfl ?_
  refine a_iconst (v := nI 2) C dL_law_1197 (by decide) ?_
  refine n_iadd C dL_law_1198 ?_
  refine a_scl C hX dL_law_1199 rfl (show i + 2 < N by omega) hN ?_
  refine a_aload_n C dL_law_1200 rfl rfl ?_
  refine a_callSW C hfl [.ref 0, .int (xs (i + 1)), .int (xs (i + 2)), .ref 218] (hH9 ex us) sL_177 dL_law_1201 rfl (Nat.le_of_ble_eq_true rfl) ⟨Nat.succ_le_succ m1, by show 8 + (5 + 11) + l1 ≤ 438; omega⟩ ⟨by show 219 + ex + d9 ≤ 0 + 601024; omega, by show us + 6 * d9 ≤ 0 + 7293034; omega⟩ (fun r9 M9 hp9 _ _ => ?_)
  obtain ⟨x9, w1, rfl, rfl, hq9⟩ := hp9
  have hx9 := (hR9 _ _ hq9).1
  have hF9 := (hR9 _ _ hq9).2
  subst hx9
  refine a_eq (st' := [.int x9]) rfl rfl rfl ?_
  refine a_istore C dL_law_1204 (by decide) ?_
  refine a_eq (L' := [some (.ref 1003), some (.ref 0), some (.ref 204), some (.ref 218), some (.int (nI i)), some (.int x9), none, none, none]) rfl rfl rfl ?_
  refine a_aload_n C dL_law_1206 rfl rfl ?_
  refine a_aload_n C dL_law_1207 rfl rfl ?_
  refine a_iload C dL_law_1208 rfl ?_
  refine a_iconst (v := nI 1) C dL_law_1210 (by decide) ?_
  refine n_iadd C dL_law_1211 ?_
  refine a_scl C hX dL_law_1212 rfl (show i + 1 < N by omega) hN ?_
  refine a_aload_n C dL_law_1213 rfl rfl ?_
  refine a_iload C dL_law_1214 rfl ?_
  refine a_iconst (v := nI 2) C dL_law_1216 (by decide) ?_
  refine n_iadd C dL_law_1217 ?_
  refine a_scl C hX dL_law_1218 rfl (show i + 2 < N by omega) hN ?_
  refine a_callV C [.int (xs (i + 1)), .int (xs (i + 2))] 7 (hF9 (ex + d9) (us + 6 * d9)) vL_179 (show 204 < 219 by decide) (by decide) (show fz w1 204 = .inr (7, _) from rfl) rfl dL_law_1219 rfl (Nat.le_of_ble_eq_true rfl) ⟨Nat.succ_le_succ m3, by show 8 + (3 + 11) + l2 ≤ 438; omega⟩ ⟨by show 219 + (ex + d9) + 0 ≤ 0 + 601024; omega, by show us + 6 * d9 + 0 ≤ 0 + 7293034; omega⟩ (fun r9 M9 hp9 _ _ => ?_)
  obtain ⟨w2, rfl, b9, rfl, ht9, hl9, I2⟩ := hp9
  refine a_eq (st' := [.int b9]) rfl rfl rfl ?_
  refine a_istore C dL_law_1222 (by decide) ?_
  refine a_eq (L' := [some (.ref 1003), some (.ref 0), some (.ref 204), some (.ref 218), some (.int (nI i)), some (.int x9), some (.int b9), none, none]) rfl rfl rfl ?_
  refine a_aload_n C dL_law_1224 rfl rfl ?_
  refine a_callV C [] 7 (K_X7_thrown (w := w2) (ex + d9) (us + 6 * d9)) vL_115 (show 204 < 219 by decide) (by decide) (show fz w2 204 = .inr (7, _) from rfl) rfl dL_law_1225 rfl (Nat.le_of_ble_eq_true rfl) ⟨by decide, by decide⟩ ⟨by show 219 + (ex + d9) + 0 ≤ 0 + 601024; omega, by show us + 6 * d9 + 0 ≤ 0 + 7293034; omega⟩ (fun r9 M9 hp9 _ _ => ?_)
  obtain ⟨w3, rfl, rfl, e3⟩ := hp9
  subst e3
  refine a_eq (st' := [.int (w3.1 204 0)]) rfl rfl rfl ?_
  refine a_iload C dL_law_1228 rfl ?_
  refine a_icmp_eq (tgt := 1235) C dL_law_1230 (by decide) (fun _ => ?_) (fun h9 => absurd ht9 h9)
  refine a_iload C dL_law_1235 rfl ?_
  have K9 : WA G p l e room_1 s m args below meth c Q 9 0 0 1252 [some (.ref 1003), some (.ref 0), some (.ref 204), some (.ref 218), some (.int (nI i)), some (.int x9), some (.int b9), none, none] [] (fzM w3 (ex + d9) (us + 6 * d9)) := a_goto (tgt := 2085) C dL_law_1252 (by decide) (a_cut5 (k d9 w3 hd9 I2))
  refine a_if_ne (tgt := 1252) C dL_law_1237 (by decide) (fun _ => K9) (fun h9 => ?_)
  refine a_aload_n C dL_law_1240 rfl rfl ?_
  refine a_iconst (v := nI 0) C dL_law_1241 (by decide) ?_
  refine a_lald C dL_law_1242 (show 218 < 219 by decide) (by decide) (show fz w3 218 = .inl (11, (1, .inr (.inl (fun _ => w3.2 218)))) from rfl) rfl (show 0 < 1 by decide) (by decide) ?_
  refine a_iload C dL_law_1243 rfl ?_
  refine a_i2l C dL_law_1245 ?_
  refine a_lcmp C dL_law_1246 ?_
  exact a_if_eq (tgt := 1252) C dL_law_1247 (by decide) (fun _ => K9) (fun h8 => absurd ((lg_cmp_eq _ _).mpr (hl9 h9)) h8)
theorem lc_person (C : aCtx G p s m args meth c cL_law 9 RL) (hfl : l.flags = flags0) (hX : aScr G s N xs) (hN : N < 2 ^ 31) (hi : i + 2 < N) (I : Inv w) (hb : ex ≤ 2000 ∧ us ≤ 100000) (k : lwK G p l e s m args below meth c Q i ex us) : WA G p l e room_1 s m args below meth c Q 9 0 0 1255 (lwL i) [] (fzM w ex us) := by
  obtain ⟨d9, o9, Q9, f1, l1, f2, l2, hd9, ⟨m1, m2, m3, m4⟩, hH9, hR9⟩ := S_person (x0 := xs (i + 1)) (x1 := xs (i + 2)) I
  refine a_pad 4 ?_
  refine a_eq (L' := [some (.ref 1003), some (.ref 0), some (.ref 204), some (.ref 218), some (.int (nI i)), none, none, none, none]) rfl rfl rfl ?_
  refine a_aload_n C dL_law_1255 rfl rfl ?_
  refine a_aload_n C dL_law_1256 rfl rfl ?_
  refine a_iload C dL_law_1257 rfl ?_
  refine a_iconst (v := nI 1) C dL_law_1259 (by decide) ?_
  refine n_iadd C dL_law_1260 ?_
  refine a_scl C hX dL_law_1261 rfl (show i + 1 < N by omega) hN ?_
  refine a_aload_n C dL_law_1262 rfl rfl ?_
  refine a_iload C dL_law_1263 rfl ?_
  refine a_iconst (v := nI 2) C dL_law_1265 (by decide) ?_
  refine n_iadd C dL_law_1266 ?_
  refine a_scl C hX dL_law_1267 rfl (show i + 2 < N by omega) hN ?_
  refine a_aload_n C dL_law_1268 rfl rfl ?_
  refine a_callSW C hfl [.ref 0, .int (xs (i + 1)), .int (xs (i + 2)), .ref 218] (hH9 ex us) sL_180 dL_law_1269 rfl (Nat.le_of_ble_eq_true rfl) ⟨Nat.succ_le_succ m1, by show 8 + (5 + 11) + l1 ≤ 438; omega⟩ ⟨by show 219 + ex + d9 ≤ 0 + 601024; omega, by show us + 6 * d9 ≤ 0 + 7293034; omega⟩ (fun r9 M9 hp9 _ _ => ?_)
  obtain ⟨x9, w1, rfl, rfl, hq9⟩ := hp9
  have hx9 := (hR9 _ _ hq9).1
  have hF9 := (hR9 _ _ hq9).2
  subst hx9
  refine a_eq (st' := [.int x9]) rfl rfl rfl ?_
  refine a_istore C dL_law_1272 (by decide) ?_
  refine a_eq (L' := [some (.ref 1003), some (.ref 0), some (.ref 204), some (.ref 218), some (.int (nI i)), some (.int x9), none, none, none]) rfl rfl rfl ?_
  refine a_aload_n C dL_law_1274 rfl rfl ?_
  refine a_aload_n C dL_law_1275 rfl rfl ?_
  refine a_iload C dL_law_1276 rfl ?_
  refine a_iconst (v := nI 1) C dL_law_1278 (by decide) ?_
  refine n_iadd C dL_law_1279 ?_
  refine a_scl C hX dL_law_1280 rfl (show i + 1 < N by omega) hN ?_
  refine a_aload_n C dL_law_1281 rfl rfl ?_
  refine a_iload C dL_law_1282 rfl ?_
  refine a_iconst (v := nI 2) C dL_law_1284 (by decide) ?_
  refine n_iadd C dL_law_1285 ?_
  refine a_scl C hX dL_law_1286 rfl (show i + 2 < N by omega) hN ?_
  refine a_callV C [.int (xs (i + 1)), .int (xs (i + 2))] 7 (hF9 (ex + d9) (us + 6 * d9)) vL_182 (show 204 < 219 by decide) (by decide) (show fz w1 204 = .inr (7, _) from rfl) rfl dL_law_1287 rfl (Nat.le_of_ble_eq_true rfl) ⟨Nat.succ_le_succ m3, by show 8 + (3 + 11) + l2 ≤ 438; omega⟩ ⟨by show 219 + (ex + d9) + 0 ≤ 0 + 601024; omega, by show us + 6 * d9 + 0 ≤ 0 + 7293034; omega⟩ (fun r9 M9 hp9 _ _ => ?_)
  obtain ⟨w2, rfl, b9, rfl, ht9, hl9, I2⟩ := hp9
  refine a_eq (st' := [.int b9]) rfl rfl rfl ?_
  refine a_istore C dL_law_1290 (by decide) ?_
  refine a_eq (L' := [some (.ref 1003), some (.ref 0), some (.ref 204), some (.ref 218), some (.int (nI i)), some (.int x9), some (.int b9), none, none]) rfl rfl rfl ?_
  refine a_aload_n C dL_law_1292 rfl rfl ?_
  refine a_callV C [] 7 (K_X7_thrown (w := w2) (ex + d9) (us + 6 * d9)) vL_115 (show 204 < 219 by decide) (by decide) (show fz w2 204 = .inr (7, _) from rfl) rfl dL_law_1293 rfl (Nat.le_of_ble_eq_true rfl) ⟨by decide, by decide⟩ ⟨by show 219 + (ex + d9) + 0 ≤ 0 + 601024; omega, by show us + 6 * d9 + 0 ≤ 0 + 7293034; omega⟩ (fun r9 M9 hp9 _ _ => ?_)
  obtain ⟨w3, rfl, rfl, e3⟩ := hp9
  subst e3
  refine a_eq (st' := [.int (w3.1 204 0)]) rfl rfl rfl ?_
  refine a_iload C dL_law_1296 rfl ?_
  refine a_icmp_eq (tgt := 1303) C dL_law_1298 (by decide) (fun _ => ?_) (fun h9 => absurd ht9 h9)
  refine a_iload C dL_law_1303 rfl ?_
  have K9 : WA G p l e room_1 s m args below meth c Q 9 0 0 1320 [some (.ref 1003), some (.ref 0), some (.ref 204), some (.ref 218), some (.int (nI i)), some (.int x9), some (.int b9), none, none] [] (fzM w3 (ex + d9) (us + 6 * d9)) := a_goto (tgt := 2085) C dL_law_1320 (by decide) (a_cut5 (k d9 w3 hd9 I2))
  refine a_if_ne (tgt := 1320) C dL_law_1305 (by decide) (fun _ => K9) (fun h9 => ?_)
  refine a_aload_n C dL_law_1308 rfl rfl ?_
  refine a_iconst (v := nI 0) C dL_law_1309 (by decide) ?_
  refine a_lald C dL_law_1310 (show 218 < 219 by decide) (by decide) (show fz w3 218 = .inl (11, (1, .inr (.inl (fun _ => w3.2 218)))) from rfl) rfl (show 0 < 1 by decide) (by decide) ?_
  refine a_iload C dL_law_1311 rfl ?_
  refine a_i2l C dL_law_1313 ?_
  refine a_lcmp C dL_law_1314 ?_
  exact a_if_eq (tgt := 1320) C dL_law_1315 (by decide) (fun _ => K9) (fun h8 => absurd ((lg_cmp_eq _ _).mpr (hl9 h9)) h8)
theorem lc_code (C : aCtx G p s m args meth c cL_law 9 RL) (hfl : l.flags = flags0) (hX : aScr G s N xs) (hN : N < 2 ^ 31) (hi : i + 2 < N) (I : Inv w) (hb : ex ≤ 2000 ∧ us ≤ 100000) (k : lwK G p l e s m args below meth c Q i ex us) : WA G p l e room_1 s m args below meth c Q 9 0 0 1323 (lwL i) [] (fzM w ex us) := by
  obtain ⟨d9, o9, Q9, f1, l1, f2, l2, hd9, ⟨m1, m2, m3, m4⟩, hH9, hR9⟩ := S_code (x0 := xs (i + 1)) (x1 := xs (i + 2)) I
  refine a_pad 4 ?_
  refine a_eq (L' := [some (.ref 1003), some (.ref 0), some (.ref 204), some (.ref 218), some (.int (nI i)), none, none, none, none]) rfl rfl rfl ?_
  refine a_aload_n C dL_law_1323 rfl rfl ?_
  refine a_aload_n C dL_law_1324 rfl rfl ?_
  refine a_iload C dL_law_1325 rfl ?_
  refine a_iconst (v := nI 1) C dL_law_1327 (by decide) ?_
  refine n_iadd C dL_law_1328 ?_
  refine a_scl C hX dL_law_1329 rfl (show i + 1 < N by omega) hN ?_
  refine a_aload_n C dL_law_1330 rfl rfl ?_
  refine a_iload C dL_law_1331 rfl ?_
  refine a_iconst (v := nI 2) C dL_law_1333 (by decide) ?_
  refine n_iadd C dL_law_1334 ?_
  refine a_scl C hX dL_law_1335 rfl (show i + 2 < N by omega) hN ?_
  refine a_aload_n C dL_law_1336 rfl rfl ?_
  refine a_callSW C hfl [.ref 0, .int (xs (i + 1)), .int (xs (i + 2)), .ref 218] (hH9 ex us) sL_183 dL_law_1337 rfl (Nat.le_of_ble_eq_true rfl) ⟨Nat.succ_le_succ m1, by show 8 + (5 + 11) + l1 ≤ 438; omega⟩ ⟨by show 219 + ex + d9 ≤ 0 + 601024; omega, by show us + 6 * d9 ≤ 0 + 7293034; omega⟩ (fun r9 M9 hp9 _ _ => ?_)
  obtain ⟨x9, w1, rfl, rfl, hq9⟩ := hp9
  have hx9 := (hR9 _ _ hq9).1
  have hF9 := (hR9 _ _ hq9).2
  subst hx9
  refine a_eq (st' := [.int x9]) rfl rfl rfl ?_
  refine a_istore C dL_law_1340 (by decide) ?_
  refine a_eq (L' := [some (.ref 1003), some (.ref 0), some (.ref 204), some (.ref 218), some (.int (nI i)), some (.int x9), none, none, none]) rfl rfl rfl ?_
  refine a_aload_n C dL_law_1342 rfl rfl ?_
  refine a_aload_n C dL_law_1343 rfl rfl ?_
  refine a_iload C dL_law_1344 rfl ?_
  refine a_iconst (v := nI 1) C dL_law_1346 (by decide) ?_
  refine n_iadd C dL_law_1347 ?_
  refine a_scl C hX dL_law_1348 rfl (show i + 1 < N by omega) hN ?_
  refine a_aload_n C dL_law_1349 rfl rfl ?_
  refine a_iload C dL_law_1350 rfl ?_
  refine a_iconst (v := nI 2) C dL_law_1352 (by decide) ?_
  refine n_iadd C dL_law_1353 ?_
  refine a_scl C hX dL_law_1354 rfl (show i + 2 < N by omega) hN ?_
  refine a_callV C [.int (xs (i + 1)), .int (xs (i + 2))] 7 (hF9 (ex + d9) (us + 6 * d9)) vL_185 (show 204 < 219 by decide) (by decide) (show fz w1 204 = .inr (7, _) from rfl) rfl dL_law_1355 rfl (Nat.le_of_ble_eq_true rfl) ⟨Nat.succ_le_succ m3, by show 8 + (3 + 11) + l2 ≤ 438; omega⟩ ⟨by show 219 + (ex + d9) + 0 ≤ 0 + 601024; omega, by show us + 6 * d9 + 0 ≤ 0 + 7293034; omega⟩ (fun r9 M9 hp9 _ _ => ?_)
  obtain ⟨w2, rfl, b9, rfl, ht9, hl9, I2⟩ := hp9
  refine a_eq (st' := [.int b9]) rfl rfl rfl ?_
  refine a_istore C dL_law_1358 (by decide) ?_
  refine a_eq (L' := [some (.ref 1003), some (.ref 0), some (.ref 204), some (.ref 218), some (.int (nI i)), some (.int x9), some (.int b9), none, none]) rfl rfl rfl ?_
  refine a_aload_n C dL_law_1360 rfl rfl ?_
  refine a_callV C [] 7 (K_X7_thrown (w := w2) (ex + d9) (us + 6 * d9)) vL_115 (show 204 < 219 by decide) (by decide) (show fz w2 204 = .inr (7, _) from rfl) rfl dL_law_1361 rfl (Nat.le_of_ble_eq_true rfl) ⟨by decide, by decide⟩ ⟨by show 219 + (ex + d9) + 0 ≤ 0 + 601024; omega, by show us + 6 * d9 + 0 ≤ 0 + 7293034; omega⟩ (fun r9 M9 hp9 _ _ => ?_)
  obtain ⟨w3, rfl, rfl, e3⟩ := hp9
  subst e3
  refine a_eq (st' := [.int (w3.1 204 0)]) rfl rfl rfl ?_
  refine a_iload C dL_law_1364 rfl ?_
  refine a_icmp_eq (tgt := 1371) C dL_law_1366 (by decide) (fun _ => ?_) (fun h9 => absurd ht9 h9)
  refine a_iload C dL_law_1371 rfl ?_
  have K9 : WA G p l e room_1 s m args below meth c Q 9 0 0 1388 [some (.ref 1003), some (.ref 0), some (.ref 204), some (.ref 218), some (.int (nI i)), some (.int x9), some (.int b9), none, none] [] (fzM w3 (ex + d9) (us + 6 * d9)) := a_goto (tgt := 2085) C dL_law_1388 (by decide) (a_cut5 (k d9 w3 hd9 I2))
  refine a_if_ne (tgt := 1388) C dL_law_1373 (by decide) (fun _ => K9) (fun h9 => ?_)
  refine a_aload_n C dL_law_1376 rfl rfl ?_
  refine a_iconst (v := nI 0) C dL_law_1377 (by decide) ?_
  refine a_lald C dL_law_1378 (show 218 < 219 by decide) (by decide) (show fz w3 218 = .inl (11, (1, .inr (.inl (fun _ => w3.2 218)))) from rfl) rfl (show 0 < 1 by decide) (by decide) ?_
  refine a_iload C dL_law_1379 rfl ?_
  refine a_i2l C dL_law_1381 ?_
  refine a_lcmp C dL_law_1382 ?_
  exact a_if_eq (tgt := 1388) C dL_law_1383 (by decide) (fun _ => K9) (fun h8 => absurd ((lg_cmp_eq _ _).mpr (hl9 h9)) h8)
theorem lc_level (C : aCtx G p s m args meth c cL_law 9 RL) (hfl : l.flags = flags0) (hX : aScr G s N xs) (hN : N < 2 ^ 31) (hi : i + 2 < N) (I : Inv w) (hb : ex ≤ 2000 ∧ us ≤ 100000) (k : lwK G p l e s m args below meth c Q i ex us) : WA G p l e room_1 s m args below meth c Q 9 0 0 1391 (lwL i) [] (fzM w ex us) := by
  obtain ⟨d9, o9, Q9, f1, l1, f2, l2, hd9, ⟨m1, m2, m3, m4⟩, hH9, hR9⟩ := S_level (x0 := xs (i + 1)) (x1 := xs (i + 2)) I
  refine a_pad 4 ?_
  refine a_eq (L' := [some (.ref 1003), some (.ref 0), some (.ref 204), some (.ref 218), some (.int (nI i)), none, none, none, none]) rfl rfl rfl ?_
  refine a_aload_n C dL_law_1391 rfl rfl ?_
  refine a_aload_n C dL_law_1392 rfl rfl ?_
  refine a_iload C dL_law_1393 rfl ?_
  refine a_iconst (v := nI 1) C dL_law_1395 (by decide) ?_
  refine n_iadd C dL_law_1396 ?_
  refine a_scl C hX dL_law_1397 rfl (show i + 1 < N by omega) hN ?_
  refine a_aload_n C dL_law_1398 rfl rfl ?_
  refine a_iload C dL_law_1399 rfl ?_
  refine a_iconst (v := nI 2) C dL_law_1401 (by decide) ?_
  refine n_iadd C dL_law_1402 ?_
  refine a_scl C hX dL_law_1403 rfl (show i + 2 < N by omega) hN ?_
  refine a_aload_n C dL_law_1404 rfl rfl ?_
  refine a_callSW C hfl [.ref 0, .int (xs (i + 1)), .int (xs (i + 2)), .ref 218] (hH9 ex us) sL_186 dL_law_1405 rfl (Nat.le_of_ble_eq_true rfl) ⟨Nat.succ_le_succ m1, by show 8 + (5 + 11) + l1 ≤ 438; omega⟩ ⟨by show 219 + ex + d9 ≤ 0 + 601024; omega, by show us + 6 * d9 ≤ 0 + 7293034; omega⟩ (fun r9 M9 hp9 _ _ => ?_)
  obtain ⟨x9, w1, rfl, rfl, hq9⟩ := hp9
  have hx9 := (hR9 _ _ hq9).1
  have hF9 := (hR9 _ _ hq9).2
  subst hx9
  refine a_eq (st' := [.int x9]) rfl rfl rfl ?_
  refine a_istore C dL_law_1408 (by decide) ?_
  refine a_eq (L' := [some (.ref 1003), some (.ref 0), some (.ref 204), some (.ref 218), some (.int (nI i)), some (.int x9), none, none, none]) rfl rfl rfl ?_
  refine a_aload_n C dL_law_1410 rfl rfl ?_
  refine a_aload_n C dL_law_1411 rfl rfl ?_
  refine a_iload C dL_law_1412 rfl ?_
  refine a_iconst (v := nI 1) C dL_law_1414 (by decide) ?_
  refine n_iadd C dL_law_1415 ?_
  refine a_scl C hX dL_law_1416 rfl (show i + 1 < N by omega) hN ?_
  refine a_aload_n C dL_law_1417 rfl rfl ?_
  refine a_iload C dL_law_1418 rfl ?_
  refine a_iconst (v := nI 2) C dL_law_1420 (by decide) ?_
  refine n_iadd C dL_law_1421 ?_
  refine a_scl C hX dL_law_1422 rfl (show i + 2 < N by omega) hN ?_
  refine a_callV C [.int (xs (i + 1)), .int (xs (i + 2))] 7 (hF9 (ex + d9) (us + 6 * d9)) vL_188 (show 204 < 219 by decide) (by decide) (show fz w1 204 = .inr (7, _) from rfl) rfl dL_law_1423 rfl (Nat.le_of_ble_eq_true rfl) ⟨Nat.succ_le_succ m3, by show 8 + (3 + 11) + l2 ≤ 438; omega⟩ ⟨by show 219 + (ex + d9) + 0 ≤ 0 + 601024; omega, by show us + 6 * d9 + 0 ≤ 0 + 7293034; omega⟩ (fun r9 M9 hp9 _ _ => ?_)
  obtain ⟨w2, rfl, b9, rfl, ht9, hl9, I2⟩ := hp9
  refine a_eq (st' := [.int b9]) rfl rfl rfl ?_
  refine a_istore C dL_law_1426 (by decide) ?_
  refine a_eq (L' := [some (.ref 1003), some (.ref 0), some (.ref 204), some (.ref 218), some (.int (nI i)), some (.int x9), some (.int b9), none, none]) rfl rfl rfl ?_
  refine a_aload_n C dL_law_1428 rfl rfl ?_
  refine a_callV C [] 7 (K_X7_thrown (w := w2) (ex + d9) (us + 6 * d9)) vL_115 (show 204 < 219 by decide) (by decide) (show fz w2 204 = .inr (7, _) from rfl) rfl dL_law_1429 rfl (Nat.le_of_ble_eq_true rfl) ⟨by decide, by decide⟩ ⟨by show 219 + (ex + d9) + 0 ≤ 0 + 601024; omega, by show us + 6 * d9 + 0 ≤ 0 + 7293034; omega⟩ (fun r9 M9 hp9 _ _ => ?_)
  obtain ⟨w3, rfl, rfl, e3⟩ := hp9
  subst e3
  refine a_eq (st' := [.int (w3.1 204 0)]) rfl rfl rfl ?_
  refine a_iload C dL_law_1432 rfl ?_
  refine a_icmp_eq (tgt := 1439) C dL_law_1434 (by decide) (fun _ => ?_) (fun h9 => absurd ht9 h9)
  refine a_iload C dL_law_1439 rfl ?_
  have K9 : WA G p l e room_1 s m args below meth c Q 9 0 0 1456 [some (.ref 1003), some (.ref 0), some (.ref 204), some (.ref 218), some (.int (nI i)), some (.int x9), some (.int b9), none, none] [] (fzM w3 (ex + d9) (us + 6 * d9)) := a_goto (tgt := 2085) C dL_law_1456 (by decide) (a_cut5 (k d9 w3 hd9 I2))
  refine a_if_ne (tgt := 1456) C dL_law_1441 (by decide) (fun _ => K9) (fun h9 => ?_)
  refine a_aload_n C dL_law_1444 rfl rfl ?_
  refine a_iconst (v := nI 0) C dL_law_1445 (by decide) ?_
  refine a_lald C dL_law_1446 (show 218 < 219 by decide) (by decide) (show fz w3 218 = .inl (11, (1, .inr (.inl (fun _ => w3.2 218)))) from rfl) rfl (show 0 < 1 by decide) (by decide) ?_
  refine a_iload C dL_law_1447 rfl ?_
  refine a_i2l C dL_law_1449 ?_
  refine a_lcmp C dL_law_1450 ?_
  exact a_if_eq (tgt := 1456) C dL_law_1451 (by decide) (fun _ => K9) (fun h8 => absurd ((lg_cmp_eq _ _).mpr (hl9 h9)) h8)
theorem lc_count (C : aCtx G p s m args meth c cL_law 9 RL) (hfl : l.flags = flags0) (hX : aScr G s N xs) (hN : N < 2 ^ 31) (hi : i + 2 < N) (I : Inv w) (hb : ex ≤ 2000 ∧ us ≤ 100000) (k : lwK G p l e s m args below meth c Q i ex us) : WA G p l e room_1 s m args below meth c Q 9 0 0 1459 (lwL i) [] (fzM w ex us) := by
  obtain ⟨d9, o9, Q9, f1, l1, f2, l2, hd9, ⟨m1, m2, m3, m4⟩, hH9, hR9⟩ := S_count (x0 := xs (i + 1)) I
  refine a_pad 4 ?_
  refine a_eq (L' := [some (.ref 1003), some (.ref 0), some (.ref 204), some (.ref 218), some (.int (nI i)), none, none, none, none]) rfl rfl rfl ?_
  refine a_aload_n C dL_law_1459 rfl rfl ?_
  refine a_aload_n C dL_law_1460 rfl rfl ?_
  refine a_iload C dL_law_1461 rfl ?_
  refine a_iconst (v := nI 1) C dL_law_1463 (by decide) ?_
  refine n_iadd C dL_law_1464 ?_
  refine a_scl C hX dL_law_1465 rfl (show i + 1 < N by omega) hN ?_
  refine a_aload_n C dL_law_1466 rfl rfl ?_
  refine a_callSW C hfl [.ref 0, .int (xs (i + 1)), .ref 218] (hH9 ex us) sL_189 dL_law_1467 rfl (Nat.le_of_ble_eq_true rfl) ⟨Nat.succ_le_succ m1, by show 8 + (4 + 11) + l1 ≤ 438; omega⟩ ⟨by show 219 + ex + d9 ≤ 0 + 601024; omega, by show us + 6 * d9 ≤ 0 + 7293034; omega⟩ (fun r9 M9 hp9 _ _ => ?_)
  obtain ⟨x9, w1, rfl, rfl, hq9⟩ := hp9
  have hx9 := (hR9 _ _ hq9).1
  have hF9 := (hR9 _ _ hq9).2
  subst hx9
  refine a_eq (st' := [.int x9]) rfl rfl rfl ?_
  refine a_istore C dL_law_1470 (by decide) ?_
  refine a_eq (L' := [some (.ref 1003), some (.ref 0), some (.ref 204), some (.ref 218), some (.int (nI i)), some (.int x9), none, none, none]) rfl rfl rfl ?_
  refine a_aload_n C dL_law_1472 rfl rfl ?_
  refine a_aload_n C dL_law_1473 rfl rfl ?_
  refine a_iload C dL_law_1474 rfl ?_
  refine a_iconst (v := nI 1) C dL_law_1476 (by decide) ?_
  refine n_iadd C dL_law_1477 ?_
  refine a_scl C hX dL_law_1478 rfl (show i + 1 < N by omega) hN ?_
  refine a_callV C [.int (xs (i + 1))] 7 (hF9 (ex + d9) (us + 6 * d9)) vL_191 (show 204 < 219 by decide) (by decide) (show fz w1 204 = .inr (7, _) from rfl) rfl dL_law_1479 rfl (Nat.le_of_ble_eq_true rfl) ⟨Nat.succ_le_succ m3, by show 8 + (2 + 11) + l2 ≤ 438; omega⟩ ⟨by show 219 + (ex + d9) + 0 ≤ 0 + 601024; omega, by show us + 6 * d9 + 0 ≤ 0 + 7293034; omega⟩ (fun r9 M9 hp9 _ _ => ?_)
  obtain ⟨w2, rfl, b9, rfl, ht9, hl9, I2⟩ := hp9
  refine a_eq (st' := [.int b9]) rfl rfl rfl ?_
  refine a_istore C dL_law_1482 (by decide) ?_
  refine a_eq (L' := [some (.ref 1003), some (.ref 0), some (.ref 204), some (.ref 218), some (.int (nI i)), some (.int x9), some (.int b9), none, none]) rfl rfl rfl ?_
  refine a_aload_n C dL_law_1484 rfl rfl ?_
  refine a_callV C [] 7 (K_X7_thrown (w := w2) (ex + d9) (us + 6 * d9)) vL_115 (show 204 < 219 by decide) (by decide) (show fz w2 204 = .inr (7, _) from rfl) rfl dL_law_1485 rfl (Nat.le_of_ble_eq_true rfl) ⟨by decide, by decide⟩ ⟨by show 219 + (ex + d9) + 0 ≤ 0 + 601024; omega, by show us + 6 * d9 + 0 ≤ 0 + 7293034; omega⟩ (fun r9 M9 hp9 _ _ => ?_)
  obtain ⟨w3, rfl, rfl, e3⟩ := hp9
  subst e3
  refine a_eq (st' := [.int (w3.1 204 0)]) rfl rfl rfl ?_
  refine a_iload C dL_law_1488 rfl ?_
  refine a_icmp_eq (tgt := 1495) C dL_law_1490 (by decide) (fun _ => ?_) (fun h9 => absurd ht9 h9)
  refine a_iload C dL_law_1495 rfl ?_
  have K9 : WA G p l e room_1 s m args below meth c Q 9 0 0 1512 [some (.ref 1003), some (.ref 0), some (.ref 204), some (.ref 218), some (.int (nI i)), some (.int x9), some (.int b9), none, none] [] (fzM w3 (ex + d9) (us + 6 * d9)) := a_goto (tgt := 2085) C dL_law_1512 (by decide) (a_cut5 (k d9 w3 hd9 I2))
  refine a_if_ne (tgt := 1512) C dL_law_1497 (by decide) (fun _ => K9) (fun h9 => ?_)
  refine a_aload_n C dL_law_1500 rfl rfl ?_
  refine a_iconst (v := nI 0) C dL_law_1501 (by decide) ?_
  refine a_lald C dL_law_1502 (show 218 < 219 by decide) (by decide) (show fz w3 218 = .inl (11, (1, .inr (.inl (fun _ => w3.2 218)))) from rfl) rfl (show 0 < 1 by decide) (by decide) ?_
  refine a_iload C dL_law_1503 rfl ?_
  refine a_i2l C dL_law_1505 ?_
  refine a_lcmp C dL_law_1506 ?_
  exact a_if_eq (tgt := 1512) C dL_law_1507 (by decide) (fun _ => K9) (fun h8 => absurd ((lg_cmp_eq _ _).mpr (hl9 h9)) h8)
theorem lc_setting (C : aCtx G p s m args meth c cL_law 9 RL) (hfl : l.flags = flags0) (hX : aScr G s N xs) (hN : N < 2 ^ 31) (hi : i + 2 < N) (I : Inv w) (hb : ex ≤ 2000 ∧ us ≤ 100000) (k : lwK G p l e s m args below meth c Q i ex us) : WA G p l e room_1 s m args below meth c Q 9 0 0 1515 (lwL i) [] (fzM w ex us) := by
  obtain ⟨d9, o9, Q9, f1, l1, f2, l2, hd9, ⟨m1, m2, m3, m4⟩, hH9, hR9⟩ := S_setting (x0 := xs (i + 1)) I
  refine a_pad 4 ?_
  refine a_eq (L' := [some (.ref 1003), some (.ref 0), some (.ref 204), some (.ref 218), some (.int (nI i)), none, none, none, none]) rfl rfl rfl ?_
  refine a_aload_n C dL_law_1515 rfl rfl ?_
  refine a_aload_n C dL_law_1516 rfl rfl ?_
  refine a_iload C dL_law_1517 rfl ?_
  refine a_iconst (v := nI 1) C dL_law_1519 (by decide) ?_
  refine n_iadd C dL_law_1520 ?_
  refine a_scl C hX dL_law_1521 rfl (show i + 1 < N by omega) hN ?_
  refine a_aload_n C dL_law_1522 rfl rfl ?_
  refine a_callSW C hfl [.ref 0, .int (xs (i + 1)), .ref 218] (hH9 ex us) sL_192 dL_law_1523 rfl (Nat.le_of_ble_eq_true rfl) ⟨Nat.succ_le_succ m1, by show 8 + (4 + 11) + l1 ≤ 438; omega⟩ ⟨by show 219 + ex + d9 ≤ 0 + 601024; omega, by show us + 6 * d9 ≤ 0 + 7293034; omega⟩ (fun r9 M9 hp9 _ _ => ?_)
  obtain ⟨x9, w1, rfl, rfl, hq9⟩ := hp9
  have hx9 := (hR9 _ _ hq9).1
  have hF9 := (hR9 _ _ hq9).2
  subst hx9
  refine a_eq (st' := [.int x9]) rfl rfl rfl ?_
  refine a_istore C dL_law_1526 (by decide) ?_
  refine a_eq (L' := [some (.ref 1003), some (.ref 0), some (.ref 204), some (.ref 218), some (.int (nI i)), some (.int x9), none, none, none]) rfl rfl rfl ?_
  refine a_aload_n C dL_law_1528 rfl rfl ?_
  refine a_aload_n C dL_law_1529 rfl rfl ?_
  refine a_iload C dL_law_1530 rfl ?_
  refine a_iconst (v := nI 1) C dL_law_1532 (by decide) ?_
  refine n_iadd C dL_law_1533 ?_
  refine a_scl C hX dL_law_1534 rfl (show i + 1 < N by omega) hN ?_
  refine a_callV C [.int (xs (i + 1))] 7 (hF9 (ex + d9) (us + 6 * d9)) vL_194 (show 204 < 219 by decide) (by decide) (show fz w1 204 = .inr (7, _) from rfl) rfl dL_law_1535 rfl (Nat.le_of_ble_eq_true rfl) ⟨Nat.succ_le_succ m3, by show 8 + (2 + 11) + l2 ≤ 438; omega⟩ ⟨by show 219 + (ex + d9) + 0 ≤ 0 + 601024; omega, by show us + 6 * d9 + 0 ≤ 0 + 7293034; omega⟩ (fun r9 M9 hp9 _ _ => ?_)
  obtain ⟨w2, rfl, b9, rfl, ht9, hl9, I2⟩ := hp9
  refine a_eq (st' := [.int b9]) rfl rfl rfl ?_
  refine a_istore C dL_law_1538 (by decide) ?_
  refine a_eq (L' := [some (.ref 1003), some (.ref 0), some (.ref 204), some (.ref 218), some (.int (nI i)), some (.int x9), some (.int b9), none, none]) rfl rfl rfl ?_
  refine a_aload_n C dL_law_1540 rfl rfl ?_
  refine a_callV C [] 7 (K_X7_thrown (w := w2) (ex + d9) (us + 6 * d9)) vL_115 (show 204 < 219 by decide) (by decide) (show fz w2 204 = .inr (7, _) from rfl) rfl dL_law_1541 rfl (Nat.le_of_ble_eq_true rfl) ⟨by decide, by decide⟩ ⟨by show 219 + (ex + d9) + 0 ≤ 0 + 601024; omega, by show us + 6 * d9 + 0 ≤ 0 + 7293034; omega⟩ (fun r9 M9 hp9 _ _ => ?_)
  obtain ⟨w3, rfl, rfl, e3⟩ := hp9
  subst e3
  refine a_eq (st' := [.int (w3.1 204 0)]) rfl rfl rfl ?_
  refine a_iload C dL_law_1544 rfl ?_
  refine a_icmp_eq (tgt := 1551) C dL_law_1546 (by decide) (fun _ => ?_) (fun h9 => absurd ht9 h9)
  refine a_iload C dL_law_1551 rfl ?_
  have K9 : WA G p l e room_1 s m args below meth c Q 9 0 0 1568 [some (.ref 1003), some (.ref 0), some (.ref 204), some (.ref 218), some (.int (nI i)), some (.int x9), some (.int b9), none, none] [] (fzM w3 (ex + d9) (us + 6 * d9)) := a_goto (tgt := 2085) C dL_law_1568 (by decide) (a_cut5 (k d9 w3 hd9 I2))
  refine a_if_ne (tgt := 1568) C dL_law_1553 (by decide) (fun _ => K9) (fun h9 => ?_)
  refine a_aload_n C dL_law_1556 rfl rfl ?_
  refine a_iconst (v := nI 0) C dL_law_1557 (by decide) ?_
  refine a_lald C dL_law_1558 (show 218 < 219 by decide) (by decide) (show fz w3 218 = .inl (11, (1, .inr (.inl (fun _ => w3.2 218)))) from rfl) rfl (show 0 < 1 by decide) (by decide) ?_
  refine a_iload C dL_law_1559 rfl ?_
  refine a_i2l C dL_law_1561 ?_
  refine a_lcmp C dL_law_1562 ?_
  exact a_if_eq (tgt := 1568) C dL_law_1563 (by decide) (fun _ => K9) (fun h8 => absurd ((lg_cmp_eq _ _).mpr (hl9 h9)) h8)
theorem lc_why (C : aCtx G p s m args meth c cL_law 9 RL) (hfl : l.flags = flags0) (hX : aScr G s N xs) (hN : N < 2 ^ 31) (hi : i + 2 < N) (I : Inv w) (hb : ex ≤ 2000 ∧ us ≤ 100000) (k : lwK G p l e s m args below meth c Q i ex us) : WA G p l e room_1 s m args below meth c Q 9 0 0 1571 (lwL i) [] (fzM w ex us) := by
  obtain ⟨d9, o9, Q9, f1, l1, f2, l2, hd9, ⟨m1, m2, m3, m4⟩, hH9, hR9⟩ := S_why (x0 := xs (i + 1)) (x1 := xs (i + 2)) I
  refine a_pad 4 ?_
  refine a_eq (L' := [some (.ref 1003), some (.ref 0), some (.ref 204), some (.ref 218), some (.int (nI i)), none, none, none, none]) rfl rfl rfl ?_
  refine a_aload_n C dL_law_1571 rfl rfl ?_
  refine a_aload_n C dL_law_1572 rfl rfl ?_
  refine a_iload C dL_law_1573 rfl ?_
  refine a_iconst (v := nI 1) C dL_law_1575 (by decide) ?_
  refine n_iadd C dL_law_1576 ?_
  refine a_scl C hX dL_law_1577 rfl (show i + 1 < N by omega) hN ?_
  refine a_aload_n C dL_law_1578 rfl rfl ?_
  refine a_iload C dL_law_1579 rfl ?_
  refine a_iconst (v := nI 2) C dL_law_1581 (by decide) ?_
  refine n_iadd C dL_law_1582 ?_
  refine a_scl C hX dL_law_1583 rfl (show i + 2 < N by omega) hN ?_
  refine a_aload_n C dL_law_1584 rfl rfl ?_
  refine a_callSW C hfl [.ref 0, .int (xs (i + 1)), .int (xs (i + 2)), .ref 218] (hH9 ex us) sL_195 dL_law_1585 rfl (Nat.le_of_ble_eq_true rfl) ⟨Nat.succ_le_succ m1, by show 8 + (5 + 11) + l1 ≤ 438; omega⟩ ⟨by show 219 + ex + d9 ≤ 0 + 601024; omega, by show us + 6 * d9 ≤ 0 + 7293034; omega⟩ (fun r9 M9 hp9 _ _ => ?_)
  obtain ⟨x9, w1, rfl, rfl, hq9⟩ := hp9
  have hx9 := (hR9 _ _ hq9).1
  have hF9 := (hR9 _ _ hq9).2
  subst hx9
  refine a_eq (st' := [.int x9]) rfl rfl rfl ?_
  refine a_istore C dL_law_1588 (by decide) ?_
  refine a_eq (L' := [some (.ref 1003), some (.ref 0), some (.ref 204), some (.ref 218), some (.int (nI i)), some (.int x9), none, none, none]) rfl rfl rfl ?_
  refine a_aload_n C dL_law_1590 rfl rfl ?_
  refine a_aload_n C dL_law_1591 rfl rfl ?_
  refine a_iload C dL_law_1592 rfl ?_
  refine a_iconst (v := nI 1) C dL_law_1594 (by decide) ?_
  refine n_iadd C dL_law_1595 ?_
  refine a_scl C hX dL_law_1596 rfl (show i + 1 < N by omega) hN ?_
  refine a_aload_n C dL_law_1597 rfl rfl ?_
  refine a_iload C dL_law_1598 rfl ?_
  refine a_iconst (v := nI 2) C dL_law_1600 (by decide) ?_
  refine n_iadd C dL_law_1601 ?_
  refine a_scl C hX dL_law_1602 rfl (show i + 2 < N by omega) hN ?_
  refine a_callV C [.int (xs (i + 1)), .int (xs (i + 2))] 7 (hF9 (ex + d9) (us + 6 * d9)) vL_197 (show 204 < 219 by decide) (by decide) (show fz w1 204 = .inr (7, _) from rfl) rfl dL_law_1603 rfl (Nat.le_of_ble_eq_true rfl) ⟨Nat.succ_le_succ m3, by show 8 + (3 + 11) + l2 ≤ 438; omega⟩ ⟨by show 219 + (ex + d9) + 0 ≤ 0 + 601024; omega, by show us + 6 * d9 + 0 ≤ 0 + 7293034; omega⟩ (fun r9 M9 hp9 _ _ => ?_)
  obtain ⟨w2, rfl, b9, rfl, ht9, hl9, I2⟩ := hp9
  refine a_eq (st' := [.int b9]) rfl rfl rfl ?_
  refine a_istore C dL_law_1606 (by decide) ?_
  refine a_eq (L' := [some (.ref 1003), some (.ref 0), some (.ref 204), some (.ref 218), some (.int (nI i)), some (.int x9), some (.int b9), none, none]) rfl rfl rfl ?_
  refine a_aload_n C dL_law_1608 rfl rfl ?_
  refine a_callV C [] 7 (K_X7_thrown (w := w2) (ex + d9) (us + 6 * d9)) vL_115 (show 204 < 219 by decide) (by decide) (show fz w2 204 = .inr (7, _) from rfl) rfl dL_law_1609 rfl (Nat.le_of_ble_eq_true rfl) ⟨by decide, by decide⟩ ⟨by show 219 + (ex + d9) + 0 ≤ 0 + 601024; omega, by show us + 6 * d9 + 0 ≤ 0 + 7293034; omega⟩ (fun r9 M9 hp9 _ _ => ?_)
  obtain ⟨w3, rfl, rfl, e3⟩ := hp9
  subst e3
  refine a_eq (st' := [.int (w3.1 204 0)]) rfl rfl rfl ?_
  refine a_iload C dL_law_1612 rfl ?_
  refine a_icmp_eq (tgt := 1619) C dL_law_1614 (by decide) (fun _ => ?_) (fun h9 => absurd ht9 h9)
  refine a_iload C dL_law_1619 rfl ?_
  have K9 : WA G p l e room_1 s m args below meth c Q 9 0 0 1636 [some (.ref 1003), some (.ref 0), some (.ref 204), some (.ref 218), some (.int (nI i)), some (.int x9), some (.int b9), none, none] [] (fzM w3 (ex + d9) (us + 6 * d9)) := a_goto (tgt := 2085) C dL_law_1636 (by decide) (a_cut5 (k d9 w3 hd9 I2))
  refine a_if_ne (tgt := 1636) C dL_law_1621 (by decide) (fun _ => K9) (fun h9 => ?_)
  refine a_aload_n C dL_law_1624 rfl rfl ?_
  refine a_iconst (v := nI 0) C dL_law_1625 (by decide) ?_
  refine a_lald C dL_law_1626 (show 218 < 219 by decide) (by decide) (show fz w3 218 = .inl (11, (1, .inr (.inl (fun _ => w3.2 218)))) from rfl) rfl (show 0 < 1 by decide) (by decide) ?_
  refine a_iload C dL_law_1627 rfl ?_
  refine a_i2l C dL_law_1629 ?_
  refine a_lcmp C dL_law_1630 ?_
  exact a_if_eq (tgt := 1636) C dL_law_1631 (by decide) (fun _ => K9) (fun h8 => absurd ((lg_cmp_eq _ _).mpr (hl9 h9)) h8)
theorem lc_stopped (C : aCtx G p s m args meth c cL_law 9 RL) (hfl : l.flags = flags0) (hX : aScr G s N xs) (hN : N < 2 ^ 31) (hi : i + 2 < N) (I : Inv w) (hb : ex ≤ 2000 ∧ us ≤ 100000) (k : lwK G p l e s m args below meth c Q i ex us) : WA G p l e room_1 s m args below meth c Q 9 0 0 1639 (lwL i) [] (fzM w ex us) := by
  obtain ⟨d9, o9, Q9, f1, l1, f2, l2, hd9, ⟨m1, m2, m3, m4⟩, hH9, hR9⟩ := S_stopped (x0 := xs (i + 1)) I
  refine a_pad 4 ?_
  refine a_eq (L' := [some (.ref 1003), some (.ref 0), some (.ref 204), some (.ref 218), some (.int (nI i)), none, none, none, none]) rfl rfl rfl ?_
  refine a_aload_n C dL_law_1639 rfl rfl ?_
  refine a_aload_n C dL_law_1640 rfl rfl ?_
  refine a_iload C dL_law_1641 rfl ?_
  refine a_iconst (v := nI 1) C dL_law_1643 (by decide) ?_
  refine n_iadd C dL_law_1644 ?_
  refine a_scl C hX dL_law_1645 rfl (show i + 1 < N by omega) hN ?_
  refine a_aload_n C dL_law_1646 rfl rfl ?_
  refine a_callSW C hfl [.ref 0, .int (xs (i + 1)), .ref 218] (hH9 ex us) sL_198 dL_law_1647 rfl (Nat.le_of_ble_eq_true rfl) ⟨Nat.succ_le_succ m1, by show 8 + (4 + 11) + l1 ≤ 438; omega⟩ ⟨by show 219 + ex + d9 ≤ 0 + 601024; omega, by show us + 6 * d9 ≤ 0 + 7293034; omega⟩ (fun r9 M9 hp9 _ _ => ?_)
  obtain ⟨x9, w1, rfl, rfl, hq9⟩ := hp9
  have hx9 := (hR9 _ _ hq9).1
  have hF9 := (hR9 _ _ hq9).2
  subst hx9
  refine a_eq (st' := [.int x9]) rfl rfl rfl ?_
  refine a_istore C dL_law_1650 (by decide) ?_
  refine a_eq (L' := [some (.ref 1003), some (.ref 0), some (.ref 204), some (.ref 218), some (.int (nI i)), some (.int x9), none, none, none]) rfl rfl rfl ?_
  refine a_aload_n C dL_law_1652 rfl rfl ?_
  refine a_aload_n C dL_law_1653 rfl rfl ?_
  refine a_iload C dL_law_1654 rfl ?_
  refine a_iconst (v := nI 1) C dL_law_1656 (by decide) ?_
  refine n_iadd C dL_law_1657 ?_
  refine a_scl C hX dL_law_1658 rfl (show i + 1 < N by omega) hN ?_
  refine a_callV C [.int (xs (i + 1))] 7 (hF9 (ex + d9) (us + 6 * d9)) vL_200 (show 204 < 219 by decide) (by decide) (show fz w1 204 = .inr (7, _) from rfl) rfl dL_law_1659 rfl (Nat.le_of_ble_eq_true rfl) ⟨Nat.succ_le_succ m3, by show 8 + (2 + 11) + l2 ≤ 438; omega⟩ ⟨by show 219 + (ex + d9) + 0 ≤ 0 + 601024; omega, by show us + 6 * d9 + 0 ≤ 0 + 7293034; omega⟩ (fun r9 M9 hp9 _ _ => ?_)
  obtain ⟨w2, rfl, b9, rfl, ht9, hl9, I2⟩ := hp9
  refine a_eq (st' := [.int b9]) rfl rfl rfl ?_
  refine a_istore C dL_law_1662 (by decide) ?_
  refine a_eq (L' := [some (.ref 1003), some (.ref 0), some (.ref 204), some (.ref 218), some (.int (nI i)), some (.int x9), some (.int b9), none, none]) rfl rfl rfl ?_
  refine a_aload_n C dL_law_1664 rfl rfl ?_
  refine a_callV C [] 7 (K_X7_thrown (w := w2) (ex + d9) (us + 6 * d9)) vL_115 (show 204 < 219 by decide) (by decide) (show fz w2 204 = .inr (7, _) from rfl) rfl dL_law_1665 rfl (Nat.le_of_ble_eq_true rfl) ⟨by decide, by decide⟩ ⟨by show 219 + (ex + d9) + 0 ≤ 0 + 601024; omega, by show us + 6 * d9 + 0 ≤ 0 + 7293034; omega⟩ (fun r9 M9 hp9 _ _ => ?_)
  obtain ⟨w3, rfl, rfl, e3⟩ := hp9
  subst e3
  refine a_eq (st' := [.int (w3.1 204 0)]) rfl rfl rfl ?_
  refine a_iload C dL_law_1668 rfl ?_
  refine a_icmp_eq (tgt := 1675) C dL_law_1670 (by decide) (fun _ => ?_) (fun h9 => absurd ht9 h9)
  refine a_iload C dL_law_1675 rfl ?_
  have K9 : WA G p l e room_1 s m args below meth c Q 9 0 0 1692 [some (.ref 1003), some (.ref 0), some (.ref 204), some (.ref 218), some (.int (nI i)), some (.int x9), some (.int b9), none, none] [] (fzM w3 (ex + d9) (us + 6 * d9)) := a_goto (tgt := 2085) C dL_law_1692 (by decide) (a_cut5 (k d9 w3 hd9 I2))
  refine a_if_ne (tgt := 1692) C dL_law_1677 (by decide) (fun _ => K9) (fun h9 => ?_)
  refine a_aload_n C dL_law_1680 rfl rfl ?_
  refine a_iconst (v := nI 0) C dL_law_1681 (by decide) ?_
  refine a_lald C dL_law_1682 (show 218 < 219 by decide) (by decide) (show fz w3 218 = .inl (11, (1, .inr (.inl (fun _ => w3.2 218)))) from rfl) rfl (show 0 < 1 by decide) (by decide) ?_
  refine a_iload C dL_law_1683 rfl ?_
  refine a_i2l C dL_law_1685 ?_
  refine a_lcmp C dL_law_1686 ?_
  exact a_if_eq (tgt := 1692) C dL_law_1687 (by decide) (fun _ => K9) (fun h8 => absurd ((lg_cmp_eq _ _).mpr (hl9 h9)) h8)
theorem lc_most (C : aCtx G p s m args meth c cL_law 9 RL) (hfl : l.flags = flags0) (hX : aScr G s N xs) (hN : N < 2 ^ 31) (hi : i + 2 < N) (I : Inv w) (hb : ex ≤ 2000 ∧ us ≤ 100000) (k : lwK G p l e s m args below meth c Q i ex us) : WA G p l e room_1 s m args below meth c Q 9 0 0 1695 (lwL i) [] (fzM w ex us) := by
  obtain ⟨d9, o9, Q9, f1, l1, f2, l2, hd9, ⟨m1, m2, m3, m4⟩, hH9, hR9⟩ := S_most (x0 := xs (i + 1)) I
  refine a_pad 4 ?_
  refine a_eq (L' := [some (.ref 1003), some (.ref 0), some (.ref 204), some (.ref 218), some (.int (nI i)), none, none, none, none]) rfl rfl rfl ?_
  refine a_aload_n C dL_law_1695 rfl rfl ?_
  refine a_aload_n C dL_law_1696 rfl rfl ?_
  refine a_iload C dL_law_1697 rfl ?_
  refine a_iconst (v := nI 1) C dL_law_1699 (by decide) ?_
  refine n_iadd C dL_law_1700 ?_
  refine a_scl C hX dL_law_1701 rfl (show i + 1 < N by omega) hN ?_
  refine a_aload_n C dL_law_1702 rfl rfl ?_
  refine a_callSW C hfl [.ref 0, .int (xs (i + 1)), .ref 218] (hH9 ex us) sL_201 dL_law_1703 rfl (Nat.le_of_ble_eq_true rfl) ⟨Nat.succ_le_succ m1, by show 8 + (4 + 11) + l1 ≤ 438; omega⟩ ⟨by show 219 + ex + d9 ≤ 0 + 601024; omega, by show us + 6 * d9 ≤ 0 + 7293034; omega⟩ (fun r9 M9 hp9 _ _ => ?_)
  obtain ⟨x9, w1, rfl, rfl, hq9⟩ := hp9
  have hx9 := (hR9 _ _ hq9).1
  have hF9 := (hR9 _ _ hq9).2
  subst hx9
  refine a_eq (st' := [.int x9]) rfl rfl rfl ?_
  refine a_istore C dL_law_1706 (by decide) ?_
  refine a_eq (L' := [some (.ref 1003), some (.ref 0), some (.ref 204), some (.ref 218), some (.int (nI i)), some (.int x9), none, none, none]) rfl rfl rfl ?_
  refine a_aload_n C dL_law_1708 rfl rfl ?_
  refine a_aload_n C dL_law_1709 rfl rfl ?_
  refine a_iload C dL_law_1710 rfl ?_
  refine a_iconst (v := nI 1) C dL_law_1712 (by decide) ?_
  refine n_iadd C dL_law_1713 ?_
  refine a_scl C hX dL_law_1714 rfl (show i + 1 < N by omega) hN ?_
  refine a_callV C [.int (xs (i + 1))] 7 (hF9 (ex + d9) (us + 6 * d9)) vL_203 (show 204 < 219 by decide) (by decide) (show fz w1 204 = .inr (7, _) from rfl) rfl dL_law_1715 rfl (Nat.le_of_ble_eq_true rfl) ⟨Nat.succ_le_succ m3, by show 8 + (2 + 11) + l2 ≤ 438; omega⟩ ⟨by show 219 + (ex + d9) + 0 ≤ 0 + 601024; omega, by show us + 6 * d9 + 0 ≤ 0 + 7293034; omega⟩ (fun r9 M9 hp9 _ _ => ?_)
  obtain ⟨w2, rfl, b9, rfl, ht9, hl9, I2⟩ := hp9
  refine a_eq (st' := [.int b9]) rfl rfl rfl ?_
  refine a_istore C dL_law_1718 (by decide) ?_
  refine a_eq (L' := [some (.ref 1003), some (.ref 0), some (.ref 204), some (.ref 218), some (.int (nI i)), some (.int x9), some (.int b9), none, none]) rfl rfl rfl ?_
  refine a_aload_n C dL_law_1720 rfl rfl ?_
  refine a_callV C [] 7 (K_X7_thrown (w := w2) (ex + d9) (us + 6 * d9)) vL_115 (show 204 < 219 by decide) (by decide) (show fz w2 204 = .inr (7, _) from rfl) rfl dL_law_1721 rfl (Nat.le_of_ble_eq_true rfl) ⟨by decide, by decide⟩ ⟨by show 219 + (ex + d9) + 0 ≤ 0 + 601024; omega, by show us + 6 * d9 + 0 ≤ 0 + 7293034; omega⟩ (fun r9 M9 hp9 _ _ => ?_)
  obtain ⟨w3, rfl, rfl, e3⟩ := hp9
  subst e3
  refine a_eq (st' := [.int (w3.1 204 0)]) rfl rfl rfl ?_
  refine a_iload C dL_law_1724 rfl ?_
  refine a_icmp_eq (tgt := 1731) C dL_law_1726 (by decide) (fun _ => ?_) (fun h9 => absurd ht9 h9)
  refine a_iload C dL_law_1731 rfl ?_
  have K9 : WA G p l e room_1 s m args below meth c Q 9 0 0 1748 [some (.ref 1003), some (.ref 0), some (.ref 204), some (.ref 218), some (.int (nI i)), some (.int x9), some (.int b9), none, none] [] (fzM w3 (ex + d9) (us + 6 * d9)) := a_goto (tgt := 2085) C dL_law_1748 (by decide) (a_cut5 (k d9 w3 hd9 I2))
  refine a_if_ne (tgt := 1748) C dL_law_1733 (by decide) (fun _ => K9) (fun h9 => ?_)
  refine a_aload_n C dL_law_1736 rfl rfl ?_
  refine a_iconst (v := nI 0) C dL_law_1737 (by decide) ?_
  refine a_lald C dL_law_1738 (show 218 < 219 by decide) (by decide) (show fz w3 218 = .inl (11, (1, .inr (.inl (fun _ => w3.2 218)))) from rfl) rfl (show 0 < 1 by decide) (by decide) ?_
  refine a_iload C dL_law_1739 rfl ?_
  refine a_i2l C dL_law_1741 ?_
  refine a_lcmp C dL_law_1742 ?_
  exact a_if_eq (tgt := 1748) C dL_law_1743 (by decide) (fun _ => K9) (fun h8 => absurd ((lg_cmp_eq _ _).mpr (hl9 h9)) h8)
theorem lc_pick (C : aCtx G p s m args meth c cL_law 9 RL) (hfl : l.flags = flags0) (hX : aScr G s N xs) (hN : N < 2 ^ 31) (hi : i + 2 < N) (I : Inv w) (hb : ex ≤ 2000 ∧ us ≤ 100000) (k : lwK G p l e s m args below meth c Q i ex us) : WA G p l e room_1 s m args below meth c Q 9 0 0 1751 (lwL i) [] (fzM w ex us) := by
  obtain ⟨d9, o9, Q9, f1, l1, f2, l2, hd9, ⟨m1, m2, m3, m4⟩, hH9, hR9⟩ := S_pick (x0 := xs (i + 1)) I
  refine a_pad 4 ?_
  refine a_eq (L' := [some (.ref 1003), some (.ref 0), some (.ref 204), some (.ref 218), some (.int (nI i)), none, none, none, none]) rfl rfl rfl ?_
  refine a_aload_n C dL_law_1751 rfl rfl ?_
  refine a_aload_n C dL_law_1752 rfl rfl ?_
  refine a_iload C dL_law_1753 rfl ?_
  refine a_iconst (v := nI 1) C dL_law_1755 (by decide) ?_
  refine n_iadd C dL_law_1756 ?_
  refine a_scl C hX dL_law_1757 rfl (show i + 1 < N by omega) hN ?_
  refine a_aload_n C dL_law_1758 rfl rfl ?_
  refine a_callSW C hfl [.ref 0, .int (xs (i + 1)), .ref 218] (hH9 ex us) sL_204 dL_law_1759 rfl (Nat.le_of_ble_eq_true rfl) ⟨Nat.succ_le_succ m1, by show 8 + (4 + 11) + l1 ≤ 438; omega⟩ ⟨by show 219 + ex + d9 ≤ 0 + 601024; omega, by show us + 6 * d9 ≤ 0 + 7293034; omega⟩ (fun r9 M9 hp9 _ _ => ?_)
  obtain ⟨x9, w1, rfl, rfl, hq9⟩ := hp9
  have hx9 := (hR9 _ _ hq9).1
  have hF9 := (hR9 _ _ hq9).2
  subst hx9
  refine a_eq (st' := [.int x9]) rfl rfl rfl ?_
  refine a_istore C dL_law_1762 (by decide) ?_
  refine a_eq (L' := [some (.ref 1003), some (.ref 0), some (.ref 204), some (.ref 218), some (.int (nI i)), some (.int x9), none, none, none]) rfl rfl rfl ?_
  refine a_aload_n C dL_law_1764 rfl rfl ?_
  refine a_aload_n C dL_law_1765 rfl rfl ?_
  refine a_iload C dL_law_1766 rfl ?_
  refine a_iconst (v := nI 1) C dL_law_1768 (by decide) ?_
  refine n_iadd C dL_law_1769 ?_
  refine a_scl C hX dL_law_1770 rfl (show i + 1 < N by omega) hN ?_
  refine a_callV C [.int (xs (i + 1))] 7 (hF9 (ex + d9) (us + 6 * d9)) vL_206 (show 204 < 219 by decide) (by decide) (show fz w1 204 = .inr (7, _) from rfl) rfl dL_law_1771 rfl (Nat.le_of_ble_eq_true rfl) ⟨Nat.succ_le_succ m3, by show 8 + (2 + 11) + l2 ≤ 438; omega⟩ ⟨by show 219 + (ex + d9) + 0 ≤ 0 + 601024; omega, by show us + 6 * d9 + 0 ≤ 0 + 7293034; omega⟩ (fun r9 M9 hp9 _ _ => ?_)
  obtain ⟨w2, rfl, b9, rfl, ht9, hl9, I2⟩ := hp9
  refine a_eq (st' := [.int b9]) rfl rfl rfl ?_
  refine a_istore C dL_law_1774 (by decide) ?_
  refine a_eq (L' := [some (.ref 1003), some (.ref 0), some (.ref 204), some (.ref 218), some (.int (nI i)), some (.int x9), some (.int b9), none, none]) rfl rfl rfl ?_
  refine a_aload_n C dL_law_1776 rfl rfl ?_
  refine a_callV C [] 7 (K_X7_thrown (w := w2) (ex + d9) (us + 6 * d9)) vL_115 (show 204 < 219 by decide) (by decide) (show fz w2 204 = .inr (7, _) from rfl) rfl dL_law_1777 rfl (Nat.le_of_ble_eq_true rfl) ⟨by decide, by decide⟩ ⟨by show 219 + (ex + d9) + 0 ≤ 0 + 601024; omega, by show us + 6 * d9 + 0 ≤ 0 + 7293034; omega⟩ (fun r9 M9 hp9 _ _ => ?_)
  obtain ⟨w3, rfl, rfl, e3⟩ := hp9
  subst e3
  refine a_eq (st' := [.int (w3.1 204 0)]) rfl rfl rfl ?_
  refine a_iload C dL_law_1780 rfl ?_
  refine a_icmp_eq (tgt := 1787) C dL_law_1782 (by decide) (fun _ => ?_) (fun h9 => absurd ht9 h9)
  refine a_iload C dL_law_1787 rfl ?_
  have K9 : WA G p l e room_1 s m args below meth c Q 9 0 0 1804 [some (.ref 1003), some (.ref 0), some (.ref 204), some (.ref 218), some (.int (nI i)), some (.int x9), some (.int b9), none, none] [] (fzM w3 (ex + d9) (us + 6 * d9)) := a_goto (tgt := 2085) C dL_law_1804 (by decide) (a_cut5 (k d9 w3 hd9 I2))
  refine a_if_ne (tgt := 1804) C dL_law_1789 (by decide) (fun _ => K9) (fun h9 => ?_)
  refine a_aload_n C dL_law_1792 rfl rfl ?_
  refine a_iconst (v := nI 0) C dL_law_1793 (by decide) ?_
  refine a_lald C dL_law_1794 (show 218 < 219 by decide) (by decide) (show fz w3 218 = .inl (11, (1, .inr (.inl (fun _ => w3.2 218)))) from rfl) rfl (show 0 < 1 by decide) (by decide) ?_
  refine a_iload C dL_law_1795 rfl ?_
  refine a_i2l C dL_law_1797 ?_
  refine a_lcmp C dL_law_1798 ?_
  exact a_if_eq (tgt := 1804) C dL_law_1799 (by decide) (fun _ => K9) (fun h8 => absurd ((lg_cmp_eq _ _).mpr (hl9 h9)) h8)
theorem lc_opener (C : aCtx G p s m args meth c cL_law 9 RL) (hfl : l.flags = flags0) (hX : aScr G s N xs) (hN : N < 2 ^ 31) (hi : i + 2 < N) (I : Inv w) (hb : ex ≤ 2000 ∧ us ≤ 100000) (k : lwK G p l e s m args below meth c Q i ex us) : WA G p l e room_1 s m args below meth c Q 9 0 0 1807 (lwL i) [] (fzM w ex us) := by
  obtain ⟨d9, o9, Q9, f1, l1, f2, l2, hd9, ⟨m1, m2, m3, m4⟩, hH9, hR9⟩ := S_opener (x0 := xs (i + 1)) I
  refine a_pad 4 ?_
  refine a_eq (L' := [some (.ref 1003), some (.ref 0), some (.ref 204), some (.ref 218), some (.int (nI i)), none, none, none, none]) rfl rfl rfl ?_
  refine a_aload_n C dL_law_1807 rfl rfl ?_
  refine a_aload_n C dL_law_1808 rfl rfl ?_
  refine a_iload C dL_law_1809 rfl ?_
  refine a_iconst (v := nI 1) C dL_law_1811 (by decide) ?_
  refine n_iadd C dL_law_1812 ?_
  refine a_scl C hX dL_law_1813 rfl (show i + 1 < N by omega) hN ?_
  refine a_aload_n C dL_law_1814 rfl rfl ?_
  refine a_callSW C hfl [.ref 0, .int (xs (i + 1)), .ref 218] (hH9 ex us) sL_207 dL_law_1815 rfl (Nat.le_of_ble_eq_true rfl) ⟨Nat.succ_le_succ m1, by show 8 + (4 + 11) + l1 ≤ 438; omega⟩ ⟨by show 219 + ex + d9 ≤ 0 + 601024; omega, by show us + 6 * d9 ≤ 0 + 7293034; omega⟩ (fun r9 M9 hp9 _ _ => ?_)
  obtain ⟨x9, w1, rfl, rfl, hq9⟩ := hp9
  have hx9 := (hR9 _ _ hq9).1
  have hF9 := (hR9 _ _ hq9).2
  subst hx9
  refine a_eq (st' := [.int x9]) rfl rfl rfl ?_
  refine a_istore C dL_law_1818 (by decide) ?_
  refine a_eq (L' := [some (.ref 1003), some (.ref 0), some (.ref 204), some (.ref 218), some (.int (nI i)), some (.int x9), none, none, none]) rfl rfl rfl ?_
  refine a_aload_n C dL_law_1820 rfl rfl ?_
  refine a_aload_n C dL_law_1821 rfl rfl ?_
  refine a_iload C dL_law_1822 rfl ?_
  refine a_iconst (v := nI 1) C dL_law_1824 (by decide) ?_
  refine n_iadd C dL_law_1825 ?_
  refine a_scl C hX dL_law_1826 rfl (show i + 1 < N by omega) hN ?_
  refine a_callV C [.int (xs (i + 1))] 7 (hF9 (ex + d9) (us + 6 * d9)) vL_209 (show 204 < 219 by decide) (by decide) (show fz w1 204 = .inr (7, _) from rfl) rfl dL_law_1827 rfl (Nat.le_of_ble_eq_true rfl) ⟨Nat.succ_le_succ m3, by show 8 + (5 + 11) + l2 ≤ 438; omega⟩ ⟨by show 219 + (ex + d9) + 0 ≤ 0 + 601024; omega, by show us + 6 * d9 + 0 ≤ 0 + 7293034; omega⟩ (fun r9 M9 hp9 _ _ => ?_)
  obtain ⟨w2, rfl, b9, rfl, ht9, hl9, I2⟩ := hp9
  refine a_eq (st' := [.int b9]) rfl rfl rfl ?_
  refine a_istore C dL_law_1830 (by decide) ?_
  refine a_eq (L' := [some (.ref 1003), some (.ref 0), some (.ref 204), some (.ref 218), some (.int (nI i)), some (.int x9), some (.int b9), none, none]) rfl rfl rfl ?_
  refine a_aload_n C dL_law_1832 rfl rfl ?_
  refine a_callV C [] 7 (K_X7_thrown (w := w2) (ex + d9) (us + 6 * d9)) vL_115 (show 204 < 219 by decide) (by decide) (show fz w2 204 = .inr (7, _) from rfl) rfl dL_law_1833 rfl (Nat.le_of_ble_eq_true rfl) ⟨by decide, by decide⟩ ⟨by show 219 + (ex + d9) + 0 ≤ 0 + 601024; omega, by show us + 6 * d9 + 0 ≤ 0 + 7293034; omega⟩ (fun r9 M9 hp9 _ _ => ?_)
  obtain ⟨w3, rfl, rfl, e3⟩ := hp9
  subst e3
  refine a_eq (st' := [.int (w3.1 204 0)]) rfl rfl rfl ?_
  refine a_iload C dL_law_1836 rfl ?_
  refine a_icmp_eq (tgt := 1843) C dL_law_1838 (by decide) (fun _ => ?_) (fun h9 => absurd ht9 h9)
  refine a_iload C dL_law_1843 rfl ?_
  have K9 : WA G p l e room_1 s m args below meth c Q 9 0 0 1860 [some (.ref 1003), some (.ref 0), some (.ref 204), some (.ref 218), some (.int (nI i)), some (.int x9), some (.int b9), none, none] [] (fzM w3 (ex + d9) (us + 6 * d9)) := a_goto (tgt := 2085) C dL_law_1860 (by decide) (a_cut5 (k d9 w3 hd9 I2))
  refine a_if_ne (tgt := 1860) C dL_law_1845 (by decide) (fun _ => K9) (fun h9 => ?_)
  refine a_aload_n C dL_law_1848 rfl rfl ?_
  refine a_iconst (v := nI 0) C dL_law_1849 (by decide) ?_
  refine a_lald C dL_law_1850 (show 218 < 219 by decide) (by decide) (show fz w3 218 = .inl (11, (1, .inr (.inl (fun _ => w3.2 218)))) from rfl) rfl (show 0 < 1 by decide) (by decide) ?_
  refine a_iload C dL_law_1851 rfl ?_
  refine a_i2l C dL_law_1853 ?_
  refine a_lcmp C dL_law_1854 ?_
  exact a_if_eq (tgt := 1860) C dL_law_1855 (by decide) (fun _ => K9) (fun h8 => absurd ((lg_cmp_eq _ _).mpr (hl9 h9)) h8)
theorem lc_worn (C : aCtx G p s m args meth c cL_law 9 RL) (hfl : l.flags = flags0) (hX : aScr G s N xs) (hN : N < 2 ^ 31) (hi : i + 2 < N) (I : Inv w) (hb : ex ≤ 2000 ∧ us ≤ 100000) (k : lwK G p l e s m args below meth c Q i ex us) : WA G p l e room_1 s m args below meth c Q 9 0 0 1863 (lwL i) [] (fzM w ex us) := by
  obtain ⟨d9, o9, Q9, f1, l1, f2, l2, hd9, ⟨m1, m2, m3, m4⟩, hH9, hR9⟩ := S_worn (x0 := xs (i + 1)) (x1 := xs (i + 2)) I
  refine a_pad 4 ?_
  refine a_eq (L' := [some (.ref 1003), some (.ref 0), some (.ref 204), some (.ref 218), some (.int (nI i)), none, none, none, none]) rfl rfl rfl ?_
  refine a_aload_n C dL_law_1863 rfl rfl ?_
  refine a_aload_n C dL_law_1864 rfl rfl ?_
  refine a_iload C dL_law_1865 rfl ?_
  refine a_iconst (v := nI 1) C dL_law_1867 (by decide) ?_
  refine n_iadd C dL_law_1868 ?_
  refine a_scl C hX dL_law_1869 rfl (show i + 1 < N by omega) hN ?_
  refine a_aload_n C dL_law_1870 rfl rfl ?_
  refine a_iload C dL_law_1871 rfl ?_
  refine a_iconst (v := nI 2) C dL_law_1873 (by decide) ?_
  refine n_iadd C dL_law_1874 ?_
  refine a_scl C hX dL_law_1875 rfl (show i + 2 < N by omega) hN ?_
  refine a_aload_n C dL_law_1876 rfl rfl ?_
  refine a_callSW C hfl [.ref 0, .int (xs (i + 1)), .int (xs (i + 2)), .ref 218] (hH9 ex us) sL_210 dL_law_1877 rfl (Nat.le_of_ble_eq_true rfl) ⟨Nat.succ_le_succ m1, by show 8 + (5 + 11) + l1 ≤ 438; omega⟩ ⟨by show 219 + ex + d9 ≤ 0 + 601024; omega, by show us + 6 * d9 ≤ 0 + 7293034; omega⟩ (fun r9 M9 hp9 _ _ => ?_)
  obtain ⟨x9, w1, rfl, rfl, hq9⟩ := hp9
  have hx9 := (hR9 _ _ hq9).1
  have hF9 := (hR9 _ _ hq9).2
  subst hx9
  refine a_eq (st' := [.int x9]) rfl rfl rfl ?_
  refine a_istore C dL_law_1880 (by decide) ?_
  refine a_eq (L' := [some (.ref 1003), some (.ref 0), some (.ref 204), some (.ref 218), some (.int (nI i)), some (.int x9), none, none, none]) rfl rfl rfl ?_
  refine a_aload_n C dL_law_1882 rfl rfl ?_
  refine a_aload_n C dL_law_1883 rfl rfl ?_
  refine a_iload C dL_law_1884 rfl ?_
  refine a_iconst (v := nI 1) C dL_law_1886 (by decide) ?_
  refine n_iadd C dL_law_1887 ?_
  refine a_scl C hX dL_law_1888 rfl (show i + 1 < N by omega) hN ?_
  refine a_aload_n C dL_law_1889 rfl rfl ?_
  refine a_iload C dL_law_1890 rfl ?_
  refine a_iconst (v := nI 2) C dL_law_1892 (by decide) ?_
  refine n_iadd C dL_law_1893 ?_
  refine a_scl C hX dL_law_1894 rfl (show i + 2 < N by omega) hN ?_
  refine a_callV C [.int (xs (i + 1)), .int (xs (i + 2))] 7 (hF9 (ex + d9) (us + 6 * d9)) vL_212 (show 204 < 219 by decide) (by decide) (show fz w1 204 = .inr (7, _) from rfl) rfl dL_law_1895 rfl (Nat.le_of_ble_eq_true rfl) ⟨Nat.succ_le_succ m3, by show 8 + (3 + 11) + l2 ≤ 438; omega⟩ ⟨by show 219 + (ex + d9) + 0 ≤ 0 + 601024; omega, by show us + 6 * d9 + 0 ≤ 0 + 7293034; omega⟩ (fun r9 M9 hp9 _ _ => ?_)
  obtain ⟨w2, rfl, b9, rfl, ht9, hl9, I2⟩ := hp9
  refine a_eq (st' := [.int b9]) rfl rfl rfl ?_
  refine a_istore C dL_law_1898 (by decide) ?_
  refine a_eq (L' := [some (.ref 1003), some (.ref 0), some (.ref 204), some (.ref 218), some (.int (nI i)), some (.int x9), some (.int b9), none, none]) rfl rfl rfl ?_
  refine a_aload_n C dL_law_1900 rfl rfl ?_
  refine a_callV C [] 7 (K_X7_thrown (w := w2) (ex + d9) (us + 6 * d9)) vL_115 (show 204 < 219 by decide) (by decide) (show fz w2 204 = .inr (7, _) from rfl) rfl dL_law_1901 rfl (Nat.le_of_ble_eq_true rfl) ⟨by decide, by decide⟩ ⟨by show 219 + (ex + d9) + 0 ≤ 0 + 601024; omega, by show us + 6 * d9 + 0 ≤ 0 + 7293034; omega⟩ (fun r9 M9 hp9 _ _ => ?_)
  obtain ⟨w3, rfl, rfl, e3⟩ := hp9
  subst e3
  refine a_eq (st' := [.int (w3.1 204 0)]) rfl rfl rfl ?_
  refine a_iload C dL_law_1904 rfl ?_
  refine a_icmp_eq (tgt := 1911) C dL_law_1906 (by decide) (fun _ => ?_) (fun h9 => absurd ht9 h9)
  refine a_iload C dL_law_1911 rfl ?_
  have K9 : WA G p l e room_1 s m args below meth c Q 9 0 0 1928 [some (.ref 1003), some (.ref 0), some (.ref 204), some (.ref 218), some (.int (nI i)), some (.int x9), some (.int b9), none, none] [] (fzM w3 (ex + d9) (us + 6 * d9)) := a_goto (tgt := 2085) C dL_law_1928 (by decide) (a_cut5 (k d9 w3 hd9 I2))
  refine a_if_ne (tgt := 1928) C dL_law_1913 (by decide) (fun _ => K9) (fun h9 => ?_)
  refine a_aload_n C dL_law_1916 rfl rfl ?_
  refine a_iconst (v := nI 0) C dL_law_1917 (by decide) ?_
  refine a_lald C dL_law_1918 (show 218 < 219 by decide) (by decide) (show fz w3 218 = .inl (11, (1, .inr (.inl (fun _ => w3.2 218)))) from rfl) rfl (show 0 < 1 by decide) (by decide) ?_
  refine a_iload C dL_law_1919 rfl ?_
  refine a_i2l C dL_law_1921 ?_
  refine a_lcmp C dL_law_1922 ?_
  exact a_if_eq (tgt := 1928) C dL_law_1923 (by decide) (fun _ => K9) (fun h8 => absurd ((lg_cmp_eq _ _).mpr (hl9 h9)) h8)
theorem lc_crossedIn (C : aCtx G p s m args meth c cL_law 9 RL) (hfl : l.flags = flags0) (hX : aScr G s N xs) (hN : N < 2 ^ 31) (hi : i + 2 < N) (I : Inv w) (hb : ex ≤ 2000 ∧ us ≤ 100000) (k : lwK G p l e s m args below meth c Q i ex us) : WA G p l e room_1 s m args below meth c Q 9 0 0 1931 (lwL i) [] (fzM w ex us) := by
  obtain ⟨d9, o9, Q9, f1, l1, f2, l2, hd9, ⟨m1, m2, m3, m4⟩, hH9, hR9⟩ := S_crossedIn (x0 := xs (i + 1)) I
  refine a_pad 4 ?_
  refine a_eq (L' := [some (.ref 1003), some (.ref 0), some (.ref 204), some (.ref 218), some (.int (nI i)), none, none, none, none]) rfl rfl rfl ?_
  refine a_aload_n C dL_law_1931 rfl rfl ?_
  refine a_aload_n C dL_law_1932 rfl rfl ?_
  refine a_iload C dL_law_1933 rfl ?_
  refine a_iconst (v := nI 1) C dL_law_1935 (by decide) ?_
  refine n_iadd C dL_law_1936 ?_
  refine a_scl C hX dL_law_1937 rfl (show i + 1 < N by omega) hN ?_
  refine a_aload_n C dL_law_1938 rfl rfl ?_
  refine a_callSW C hfl [.ref 0, .int (xs (i + 1)), .ref 218] (hH9 ex us) sL_213 dL_law_1939 rfl (Nat.le_of_ble_eq_true rfl) ⟨Nat.succ_le_succ m1, by show 8 + (4 + 11) + l1 ≤ 438; omega⟩ ⟨by show 219 + ex + d9 ≤ 0 + 601024; omega, by show us + 6 * d9 ≤ 0 + 7293034; omega⟩ (fun r9 M9 hp9 _ _ => ?_)
  obtain ⟨x9, w1, rfl, rfl, hq9⟩ := hp9
  have hx9 := (hR9 _ _ hq9).1
  have hF9 := (hR9 _ _ hq9).2
  subst hx9
  refine a_eq (st' := [.int x9]) rfl rfl rfl ?_
  refine a_istore C dL_law_1942 (by decide) ?_
  refine a_eq (L' := [some (.ref 1003), some (.ref 0), some (.ref 204), some (.ref 218), some (.int (nI i)), some (.int x9), none, none, none]) rfl rfl rfl ?_
  refine a_aload_n C dL_law_1944 rfl rfl ?_
  refine a_aload_n C dL_law_1945 rfl rfl ?_
  refine a_iload C dL_law_1946 rfl ?_
  refine a_iconst (v := nI 1) C dL_law_1948 (by decide) ?_
  refine n_iadd C dL_law_1949 ?_
  refine a_scl C hX dL_law_1950 rfl (show i + 1 < N by omega) hN ?_
  refine a_callV C [.int (xs (i + 1))] 7 (hF9 (ex + d9) (us + 6 * d9)) vL_215 (show 204 < 219 by decide) (by decide) (show fz w1 204 = .inr (7, _) from rfl) rfl dL_law_1951 rfl (Nat.le_of_ble_eq_true rfl) ⟨Nat.succ_le_succ m3, by show 8 + (2 + 11) + l2 ≤ 438; omega⟩ ⟨by show 219 + (ex + d9) + 0 ≤ 0 + 601024; omega, by show us + 6 * d9 + 0 ≤ 0 + 7293034; omega⟩ (fun r9 M9 hp9 _ _ => ?_)
  obtain ⟨w2, rfl, b9, rfl, ht9, hl9, I2⟩ := hp9
  refine a_eq (st' := [.int b9]) rfl rfl rfl ?_
  refine a_istore C dL_law_1954 (by decide) ?_
  refine a_eq (L' := [some (.ref 1003), some (.ref 0), some (.ref 204), some (.ref 218), some (.int (nI i)), some (.int x9), some (.int b9), none, none]) rfl rfl rfl ?_
  refine a_aload_n C dL_law_1956 rfl rfl ?_
  refine a_callV C [] 7 (K_X7_thrown (w := w2) (ex + d9) (us + 6 * d9)) vL_115 (show 204 < 219 by decide) (by decide) (show fz w2 204 = .inr (7, _) from rfl) rfl dL_law_1957 rfl (Nat.le_of_ble_eq_true rfl) ⟨by decide, by decide⟩ ⟨by show 219 + (ex + d9) + 0 ≤ 0 + 601024; omega, by show us + 6 * d9 + 0 ≤ 0 + 7293034; omega⟩ (fun r9 M9 hp9 _ _ => ?_)
  obtain ⟨w3, rfl, rfl, e3⟩ := hp9
  subst e3
  refine a_eq (st' := [.int (w3.1 204 0)]) rfl rfl rfl ?_
  refine a_iload C dL_law_1960 rfl ?_
  refine a_icmp_eq (tgt := 1967) C dL_law_1962 (by decide) (fun _ => ?_) (fun h9 => absurd ht9 h9)
  refine a_iload C dL_law_1967 rfl ?_
  have K9 : WA G p l e room_1 s m args below meth c Q 9 0 0 1984 [some (.ref 1003), some (.ref 0), some (.ref 204), some (.ref 218), some (.int (nI i)), some (.int x9), some (.int b9), none, none] [] (fzM w3 (ex + d9) (us + 6 * d9)) := a_goto (tgt := 2085) C dL_law_1984 (by decide) (a_cut5 (k d9 w3 hd9 I2))
  refine a_if_ne (tgt := 1984) C dL_law_1969 (by decide) (fun _ => K9) (fun h9 => ?_)
  refine a_aload_n C dL_law_1972 rfl rfl ?_
  refine a_iconst (v := nI 0) C dL_law_1973 (by decide) ?_
  refine a_lald C dL_law_1974 (show 218 < 219 by decide) (by decide) (show fz w3 218 = .inl (11, (1, .inr (.inl (fun _ => w3.2 218)))) from rfl) rfl (show 0 < 1 by decide) (by decide) ?_
  refine a_iload C dL_law_1975 rfl ?_
  refine a_i2l C dL_law_1977 ?_
  refine a_lcmp C dL_law_1978 ?_
  exact a_if_eq (tgt := 1984) C dL_law_1979 (by decide) (fun _ => K9) (fun h8 => absurd ((lg_cmp_eq _ _).mpr (hl9 h9)) h8)
theorem lc_freeShare (C : aCtx G p s m args meth c cL_law 9 RL) (hfl : l.flags = flags0) (hX : aScr G s N xs) (hN : N < 2 ^ 31) (hi : i + 2 < N) (I : Inv w) (hb : ex ≤ 2000 ∧ us ≤ 100000) (k : lwK G p l e s m args below meth c Q i ex us) : WA G p l e room_1 s m args below meth c Q 9 0 0 1987 (lwL i) [] (fzM w ex us) := by
  obtain ⟨x9, f1, l1, f2, l2, ⟨m1, m2, m3, m4⟩, hF9⟩ := S_freeShare I
  refine a_pad 4 ?_
  refine a_eq (L' := [some (.ref 1003), some (.ref 0), some (.ref 204), some (.ref 218), some (.int (nI i)), none, none, none, none]) rfl rfl rfl ?_
  refine a_aload_n C dL_law_1987 rfl rfl ?_
  refine a_callV C [] 6 (hF9 ex us) vL_216 (show 0 < 219 by decide) (by decide) (show fz w 0 = .inr (6, _) from rfl) rfl dL_law_1988 rfl (Nat.le_of_ble_eq_true rfl) ⟨Nat.succ_le_succ m1, by show 8 + (2 + 11) + l1 ≤ 438; omega⟩ ⟨by show 219 + ex + 0 ≤ 0 + 601024; omega, by show us + 0 ≤ 0 + 7293034; omega⟩ (fun r9 M9 hp9 _ _ => ?_)
  obtain ⟨w1, rfl, rfl, hG9⟩ := hp9
  refine a_eq (st' := [.double x9]) rfl rfl rfl ?_
  refine a_dstore C dL_law_1991 (by decide) ?_
  refine a_eq (L' := [some (.ref 1003), some (.ref 0), some (.ref 204), some (.ref 218), some (.int (nI i)), some (.double x9), none, none, none]) rfl rfl rfl ?_
  refine a_aload_n C dL_law_1993 rfl rfl ?_
  refine a_callV C [] 7 (hG9 ex us) vL_220 (show 204 < 219 by decide) (by decide) (show fz w1 204 = .inr (7, _) from rfl) rfl dL_law_1994 rfl (Nat.le_of_ble_eq_true rfl) ⟨Nat.succ_le_succ m3, by show 8 + (1 + 11) + l2 ≤ 438; omega⟩ ⟨by show 219 + ex + 0 ≤ 0 + 601024; omega, by show us + 0 ≤ 0 + 7293034; omega⟩ (fun r9 M9 hp9 _ _ => ?_)
  obtain ⟨w2, rfl, rfl, I2⟩ := hp9
  refine a_eq (st' := [.double x9]) rfl rfl rfl ?_
  refine a_dstore C dL_law_1997 (by decide) ?_
  refine a_eq (L' := [some (.ref 1003), some (.ref 0), some (.ref 204), some (.ref 218), some (.int (nI i)), some (.double x9), none, some (.double x9), none]) rfl rfl rfl ?_
  refine a_dload C dL_law_1999 rfl ?_
  refine a_dload C dL_law_2001 rfl ?_
  refine a_dcmp C dL_law_2003 ?_
  have K9 : WA G p l e room_1 s m args below meth c Q 9 0 0 2025 [some (.ref 1003), some (.ref 0), some (.ref 204), some (.ref 218), some (.int (nI i)), some (.double x9), none, some (.double x9), none] [] (fzM w2 ex us) := a_goto (tgt := 2085) C dL_law_2025 (by decide) (a_cut5 (k 0 w2 (Nat.zero_le 1) I2))
  refine a_if_eq (tgt := 2025) C dL_law_2004 (by decide) (fun _ => K9) (fun h9 => ?_)
  refine a_dload C dL_law_2007 rfl ?_
  refine a_dload C dL_law_2009 rfl ?_
  refine a_dcmp C dL_law_2011 ?_
  refine a_if_eq (tgt := 2023) C dL_law_2012 (by decide) (fun h8 => absurd h8 h9) (fun _ => ?_)
  refine a_dload C dL_law_2015 rfl ?_
  refine a_dload C dL_law_2017 rfl ?_
  refine a_dcmp C dL_law_2019 ?_
  exact a_if_ne (tgt := 2025) C dL_law_2020 (by decide) (fun _ => K9) (fun h8 => absurd h8 h9)
theorem lc_meanLevel (C : aCtx G p s m args meth c cL_law 9 RL) (hfl : l.flags = flags0) (hX : aScr G s N xs) (hN : N < 2 ^ 31) (hi : i + 2 < N) (I : Inv w) (hb : ex ≤ 2000 ∧ us ≤ 100000) (k : lwK G p l e s m args below meth c Q i ex us) : WA G p l e room_1 s m args below meth c Q 9 0 0 2028 (lwL i) [] (fzM w ex us) := by
  obtain ⟨x9, hf9, f1, l1, f2, l2, ⟨m1, m2, m3, m4⟩, hF9⟩ := S_meanLevel I
  refine a_pad 4 ?_
  refine a_eq (L' := [some (.ref 1003), some (.ref 0), some (.ref 204), some (.ref 218), some (.int (nI i)), none, none, none, none]) rfl rfl rfl ?_
  refine a_aload_n C dL_law_2028 rfl rfl ?_
  refine a_callV C [] 6 (hF9 ex us) vL_221 (show 0 < 219 by decide) (by decide) (show fz w 0 = .inr (6, _) from rfl) rfl dL_law_2029 rfl (Nat.le_of_ble_eq_true rfl) ⟨Nat.succ_le_succ m1, by show 8 + (3 + 11) + l1 ≤ 438; omega⟩ ⟨by show 219 + ex + 0 ≤ 0 + 601024; omega, by show us + 0 ≤ 0 + 7293034; omega⟩ (fun r9 M9 hp9 _ _ => ?_)
  obtain ⟨w1, rfl, rfl, hG9⟩ := hp9
  refine a_eq (st' := [.float x9]) rfl rfl rfl ?_
  refine a_f2d C dL_law_2032 hf9 ?_
  refine a_dstore C dL_law_2033 (by decide) ?_
  refine a_eq (L' := [some (.ref 1003), some (.ref 0), some (.ref 204), some (.ref 218), some (.int (nI i)), some (.double (FP.f2d x9)), none, none, none]) rfl rfl rfl ?_
  refine a_aload_n C dL_law_2035 rfl rfl ?_
  refine a_callV C [] 7 (hG9 ex us) vL_225 (show 204 < 219 by decide) (by decide) (show fz w1 204 = .inr (7, _) from rfl) rfl dL_law_2036 rfl (Nat.le_of_ble_eq_true rfl) ⟨Nat.succ_le_succ m3, by show 8 + (1 + 11) + l2 ≤ 438; omega⟩ ⟨by show 219 + ex + 0 ≤ 0 + 601024; omega, by show us + 0 ≤ 0 + 7293034; omega⟩ (fun r9 M9 hp9 _ _ => ?_)
  obtain ⟨w2, rfl, rfl, I2⟩ := hp9
  refine a_eq (st' := [.float x9]) rfl rfl rfl ?_
  refine a_f2d C dL_law_2039 hf9 ?_
  refine a_dstore C dL_law_2040 (by decide) ?_
  refine a_eq (L' := [some (.ref 1003), some (.ref 0), some (.ref 204), some (.ref 218), some (.int (nI i)), some (.double (FP.f2d x9)), none, some (.double (FP.f2d x9)), none]) rfl rfl rfl ?_
  refine a_dload C dL_law_2042 rfl ?_
  refine a_dload C dL_law_2044 rfl ?_
  refine a_dcmp C dL_law_2046 ?_
  have K9 : WA G p l e room_1 s m args below meth c Q 9 0 0 2068 [some (.ref 1003), some (.ref 0), some (.ref 204), some (.ref 218), some (.int (nI i)), some (.double (FP.f2d x9)), none, some (.double (FP.f2d x9)), none] [] (fzM w2 ex us) := a_goto (tgt := 2085) C dL_law_2068 (by decide) (a_cut5 (k 0 w2 (Nat.zero_le 1) I2))
  refine a_if_eq (tgt := 2068) C dL_law_2047 (by decide) (fun _ => K9) (fun h9 => ?_)
  refine a_dload C dL_law_2050 rfl ?_
  refine a_dload C dL_law_2052 rfl ?_
  refine a_dcmp C dL_law_2054 ?_
  refine a_if_eq (tgt := 2066) C dL_law_2055 (by decide) (fun h8 => absurd h8 h9) (fun _ => ?_)
  refine a_dload C dL_law_2058 rfl ?_
  refine a_dload C dL_law_2060 rfl ?_
  refine a_dcmp C dL_law_2062 ?_
  exact a_if_ne (tgt := 2068) C dL_law_2063 (by decide) (fun _ => K9) (fun h8 => absurd h8 h9)
theorem lc_digest (C : aCtx G p s m args meth c cL_law 9 RL) (hfl : l.flags = flags0) (hX : aScr G s N xs) (hN : N < 2 ^ 31) (hi : i + 2 < N) (I : Inv w) (hb : ex ≤ 2000 ∧ us ≤ 100000) (k : lwK G p l e s m args below meth c Q i ex us) : WA G p l e room_1 s m args below meth c Q 9 0 0 2071 (lwL i) [] (fzM w ex us) := by
  obtain ⟨x9, f1, l1, f2, l2, ⟨m1, m2, m3, m4⟩, hF9⟩ := S_digest I
  refine a_aload_n C dL_law_2071 rfl rfl ?_
  refine a_callV C [] 6 (hF9 ex us) vL_226 (show 0 < 219 by decide) (by decide) (show fz w 0 = .inr (6, _) from rfl) rfl dL_law_2072 rfl (Nat.le_of_ble_eq_true rfl) ⟨Nat.succ_le_succ m1, by show 8 + (4 + 11) + l1 ≤ 438; omega⟩ ⟨by show 219 + ex + 0 ≤ 0 + 601024; omega, by show us + 0 ≤ 0 + 7293034; omega⟩ (fun r9 M9 hp9 _ _ => ?_)
  obtain ⟨w1, rfl, rfl, hG9⟩ := hp9
  refine a_eq (st' := [.long x9]) rfl rfl rfl ?_
  refine a_aload_n C dL_law_2075 rfl rfl ?_
  refine a_callV C [] 7 (hG9 ex us) vL_230 (show 204 < 219 by decide) (by decide) (show fz w1 204 = .inr (7, _) from rfl) rfl dL_law_2076 rfl (Nat.le_of_ble_eq_true rfl) ⟨Nat.succ_le_succ m3, by show 8 + (2 + 11) + l2 ≤ 438; omega⟩ ⟨by show 219 + ex + 0 ≤ 0 + 601024; omega, by show us + 0 ≤ 0 + 7293034; omega⟩ (fun r9 M9 hp9 _ _ => ?_)
  obtain ⟨w2, rfl, rfl, I2⟩ := hp9
  refine a_eq (st' := [.long x9, .long x9]) rfl rfl rfl ?_
  refine a_lcmp C dL_law_2079 ?_
  exact a_if_eq (tgt := 2085) C dL_law_2080 (by decide) (fun _ => k 0 w2 (Nat.zero_le 1) I2) (fun h8 => absurd ((lg_cmp_eq _ _).mpr rfl) h8)
end A61

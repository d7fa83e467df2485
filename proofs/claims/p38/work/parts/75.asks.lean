section A75
/-! ### the law: what it asks for in one turn -/
variable {G : aG} {p : Program} {l : Launch} {e : Env} {s : State} {m : MethodId} {args : Array Value} {below : List Frame} {meth : Method} {c : Code} {Q : State → Prop} {N : Nat} {xs : Nat → Int32} {w : Wd} {A : St} {F : Nat → Bool} {i x us : Nat}
set_option maxRecDepth 20000 in
set_option maxHeartbeats 4000000 in
theorem lw_A (C : aCtx G p s m args meth c cL_law 15 RL) (hX : aScr G s N xs) (hN : N < 2 ^ 31) (hL : LR w A) (hA : AOK A) (hi : i < 44) (hb : 207 + x ≤ 600172 ∧ us ≤ 7300668)
    (k : ∀ (X Y : Int32) (t0 t : Nat), t ≤ 10 → (t = 0 → kN A < 10) → WA G p l e room_1 s m args below meth c Q 15 0 0 264 [some (.ref 1003), some (.ref 0), some (.ref 204), some (.ref 205), some (.ref 206), some (.int (nI i)), some (.int X), some (.int Y), some (.int (nI t0)), none, none, none, none, none, none] [.int (nI t)] (fzM w (0, x) us)) : WA G p l e room_1 s m args below meth c Q 15 0 0 88 [some (.ref 1003), some (.ref 0), some (.ref 204), some (.ref 205), some (.ref 206), some (.int (nI i)), none, none, none, none, none, none, none, none, none] [] (fzM w (0, x) us) := by
  have zq_n := hA.n12
  refine a_aload_n C dL_law_88 rfl rfl ?_
  refine a_iconst (v := nI 2) C dL_law_89 (by decide) ?_
  refine a_iload C dL_law_90 rfl ?_
  first | refine n_imul C dL_law_92 ?_ | refine a_imul C dL_law_92 ?_
  refine a_callSs C hX _ (K_L_cell (M := fzM w (0, x) us) (k := 2 * i) (by omega) hN) sL_207 dL_law_93 rfl (Nat.le_of_ble_eq_true rfl) ⟨Nat.le_of_ble_eq_true rfl, Nat.le_of_ble_eq_true rfl⟩ ⟨by show 207 + 0 + x ≤ 0 + 600172; omega, by show us ≤ 0 + 7300668; omega⟩ (fun r93 M93 hp93 => ?_)
  obtain ⟨rfl, rfl⟩ := hp93
  refine a_istore C dL_law_96 (by decide) ?_
  refine a_aload_n C dL_law_98 rfl rfl ?_
  refine a_iconst (v := nI 2) C dL_law_99 (by decide) ?_
  refine a_iload C dL_law_100 rfl ?_
  first | refine n_imul C dL_law_102 ?_ | refine a_imul C dL_law_102 ?_
  refine a_iconst (v := nI 1) C dL_law_103 (by decide) ?_
  first | refine n_iadd C dL_law_104 ?_ | refine a_iadd C dL_law_104 ?_
  refine a_callSs C hX _ (K_L_cell (M := fzM w (0, x) us) (k := 2 * i + 1) (by omega) hN) sL_207 dL_law_105 rfl (Nat.le_of_ble_eq_true rfl) ⟨Nat.le_of_ble_eq_true rfl, Nat.le_of_ble_eq_true rfl⟩ ⟨by show 207 + 0 + x ≤ 0 + 600172; omega, by show us ≤ 0 + 7300668; omega⟩ (fun r105 M105 hp105 => ?_)
  obtain ⟨rfl, rfl⟩ := hp105
  refine a_istore C dL_law_108 (by decide) ?_
  refine a_iload C dL_law_110 rfl ?_
  refine a_bipush (v := nI 22) C dL_law_112 (by decide) ?_
  refine g_callS C ((K_L_low _ (by first | assumption | decide | omega) (by decide))).cp sL_185 rfl dL_law_114 (Nat.le_of_ble_eq_true rfl) ⟨Nat.le_of_ble_eq_true rfl, Nat.le_of_ble_eq_true rfl⟩ ⟨by show 207 + 0 + x ≤ 0 + 600172; omega, by show us ≤ 0 + 7300668; omega⟩ ?_
  refine a_istore C dL_law_117 (by decide) ?_
  refine a_eq (L' := [some (.ref 1003), some (.ref 0), some (.ref 204), some (.ref 205), some (.ref 206), some (.int (nI i)), some (.int (celI xs N (2 * i))), some (.int (celI xs N (2 * i + 1))), some (.int (nI (lwN (celI xs N (2 * i)) 22))), none, none, none, none, none, none]) rfl rfl rfl ?_
  have ht := lwN_lt (celI xs N (2 * i)) (N := 22) (by decide)
  generalize lwN (celI xs N (2 * i)) 22 = t0 at ht ⊢
  generalize celI xs N (2 * i) = X
  generalize celI xs N (2 * i + 1) = Y
  refine a_iload C dL_law_119 rfl ?_
  refine a_bipush (v := nI 7) C dL_law_121 (by decide) ?_
  first | refine n_icmp_ge (tgt := 142) C dL_law_123 (by decide) (by first | decide | omega) (by first | decide | omega) (fun h_123 => ?_) (fun h_123 => ?_) | refine a_icmp_ge (tgt := 142) C dL_law_123 (by decide) (fun h_123 => ?_) (fun h_123 => ?_)
  · refine a_iload C dL_law_142 rfl ?_
    refine a_bipush (v := nI 7) C dL_law_144 (by decide) ?_
    first | refine n_icmp_ne (tgt := 153) C dL_law_146 (by decide) (by first | decide | omega) (by first | decide | omega) (fun h_146 => ?_) (fun h_146 => ?_) | refine a_icmp_ne (tgt := 153) C dL_law_146 (by decide) (fun h_146 => ?_) (fun h_146 => ?_)
    · refine a_iload C dL_law_153 rfl ?_
      refine a_bipush (v := nI 8) C dL_law_155 (by decide) ?_
      first | refine n_icmp_ne (tgt := 176) C dL_law_157 (by decide) (by first | decide | omega) (by first | decide | omega) (fun h_157 => ?_) (fun h_157 => ?_) | refine a_icmp_ne (tgt := 176) C dL_law_157 (by decide) (fun h_157 => ?_) (fun h_157 => ?_)
      · refine a_iload C dL_law_176 rfl ?_
        refine a_bipush (v := nI 11) C dL_law_178 (by decide) ?_
        first | refine n_icmp_ge (tgt := 191) C dL_law_180 (by decide) (by first | decide | omega) (by first | decide | omega) (fun h_180 => ?_) (fun h_180 => ?_) | refine a_icmp_ge (tgt := 191) C dL_law_180 (by decide) (fun h_180 => ?_) (fun h_180 => ?_)
        · refine a_iload C dL_law_191 rfl ?_
          refine a_bipush (v := nI 14) C dL_law_193 (by decide) ?_
          first | refine n_icmp_ge (tgt := 203) C dL_law_195 (by decide) (by first | decide | omega) (by first | decide | omega) (fun h_195 => ?_) (fun h_195 => ?_) | refine a_icmp_ge (tgt := 203) C dL_law_195 (by decide) (fun h_195 => ?_) (fun h_195 => ?_)
          · refine a_iload C dL_law_203 rfl ?_
            refine a_bipush (v := nI 14) C dL_law_205 (by decide) ?_
            first | refine n_icmp_ne (tgt := 215) C dL_law_207 (by decide) (by first | decide | omega) (by first | decide | omega) (fun h_207 => ?_) (fun h_207 => ?_) | refine a_icmp_ne (tgt := 215) C dL_law_207 (by decide) (fun h_207 => ?_) (fun h_207 => ?_)
            · refine a_iload C dL_law_215 rfl ?_
              refine a_bipush (v := nI 15) C dL_law_217 (by decide) ?_
              first | refine n_icmp_ne (tgt := 239) C dL_law_219 (by decide) (by first | decide | omega) (by first | decide | omega) (fun h_219 => ?_) (fun h_219 => ?_) | refine a_icmp_ne (tgt := 239) C dL_law_219 (by decide) (fun h_219 => ?_) (fun h_219 => ?_)
              · refine a_iload C dL_law_239 rfl ?_
                refine a_bipush (v := nI 16) C dL_law_241 (by decide) ?_
                first | refine n_icmp_ne (tgt := 251) C dL_law_243 (by decide) (by first | decide | omega) (by first | decide | omega) (fun h_243 => ?_) (fun h_243 => ?_) | refine a_icmp_ne (tgt := 251) C dL_law_243 (by decide) (fun h_243 => ?_) (fun h_243 => ?_)
                · refine a_iload C dL_law_251 rfl ?_
                  refine a_bipush (v := nI 17) C dL_law_253 (by decide) ?_
                  first | refine n_icmp_ne (tgt := 262) C dL_law_255 (by decide) (by first | decide | omega) (by first | decide | omega) (fun h_255 => ?_) (fun h_255 => ?_) | refine a_icmp_ne (tgt := 262) C dL_law_255 (by decide) (fun h_255 => ?_) (fun h_255 => ?_)
                  · refine a_bipush (v := nI 9) C dL_law_262 (by decide) ?_
                    exact k _ _ _ _ (by omega) (by omega)
                  · refine a_iconst (v := nI 5) C dL_law_258 (by decide) ?_
                    refine a_goto (tgt := 264) C dL_law_259 (by decide) ?_
                    exact k _ _ _ _ (by omega) (by omega)
                · refine a_bipush (v := nI 10) C dL_law_246 (by decide) ?_
                  refine a_goto (tgt := 264) C dL_law_248 (by decide) ?_
                  exact k _ _ _ _ (by omega) (by omega)
              · refine a_iload C dL_law_222 rfl ?_
                refine a_iconst (v := nI 4) C dL_law_224 (by decide) ?_
                refine n_irem C dL_law_225 (by first | decide | omega) (by first | decide | omega) (by first | decide | omega) ?_
                first | refine b_if_ne (tgt := 234) C dL_law_226 (by decide) (fun h_226 => ?_) (fun h_226 => ?_) | refine n_if_ne (tgt := 234) C dL_law_226 (by decide) (by first | decide | omega) (fun h_226 => ?_) (fun h_226 => ?_) | refine a_if_ne (tgt := 234) C dL_law_226 (by decide) (fun h_226 => ?_) (fun h_226 => ?_)
                · refine a_bipush (v := nI 9) C dL_law_234 (by decide) ?_
                  refine a_goto (tgt := 264) C dL_law_236 (by decide) ?_
                  exact k _ _ _ _ (by omega) (by omega)
                · refine a_bipush (v := nI 8) C dL_law_229 (by decide) ?_
                  refine a_goto (tgt := 264) C dL_law_231 (by decide) ?_
                  exact k _ _ _ _ (by omega) (by omega)
            · refine a_bipush (v := nI 7) C dL_law_210 (by decide) ?_
              refine a_goto (tgt := 264) C dL_law_212 (by decide) ?_
              exact k _ _ _ _ (by omega) (by omega)
          · refine a_bipush (v := nI 6) C dL_law_198 (by decide) ?_
            refine a_goto (tgt := 264) C dL_law_200 (by decide) ?_
            exact k _ _ _ _ (by omega) (by omega)
        · refine a_iload C dL_law_183 rfl ?_
          refine a_bipush (v := nI 6) C dL_law_185 (by decide) ?_
          refine n_isub C dL_law_187 (by first | decide | omega) ?_
          refine a_goto (tgt := 264) C dL_law_188 (by decide) ?_
          exact k _ _ _ _ (by omega) (by omega)
      · refine a_iload C dL_law_160 rfl ?_
        refine a_iconst (v := nI 3) C dL_law_162 (by decide) ?_
        refine n_irem C dL_law_163 (by first | decide | omega) (by first | decide | omega) (by first | decide | omega) ?_
        first | refine b_if_ne (tgt := 171) C dL_law_164 (by decide) (fun h_164 => ?_) (fun h_164 => ?_) | refine n_if_ne (tgt := 171) C dL_law_164 (by decide) (by first | decide | omega) (fun h_164 => ?_) (fun h_164 => ?_) | refine a_if_ne (tgt := 171) C dL_law_164 (by decide) (fun h_164 => ?_) (fun h_164 => ?_)
        · refine a_bipush (v := nI 9) C dL_law_171 (by decide) ?_
          refine a_goto (tgt := 264) C dL_law_173 (by decide) ?_
          exact k _ _ _ _ (by omega) (by omega)
        · refine a_iconst (v := nI 2) C dL_law_167 (by decide) ?_
          refine a_goto (tgt := 264) C dL_law_168 (by decide) ?_
          exact k _ _ _ _ (by omega) (by omega)
    · refine a_iconst (v := nI 1) C dL_law_149 (by decide) ?_
      refine a_goto (tgt := 264) C dL_law_150 (by decide) ?_
      exact k _ _ _ _ (by omega) (by omega)
  · refine a_aload_n C dL_law_126 rfl rfl ?_
    refine a_iconst (v := nI 0) C dL_law_127 (by decide) ?_
    refine n_iald C dL_law_128 (tw (by first | decide | omega)) (by first | decide | omega) rfl rfl (by first | decide | omega) (by decide) (LR_n hL hA) ?_
    refine a_bipush (v := nI 10) C dL_law_129 (by decide) ?_
    first | refine n_icmp_ge (tgt := 138) C dL_law_131 (by decide) (by first | decide | omega) (by first | decide | omega) (fun h_131 => ?_) (fun h_131 => ?_) | refine a_icmp_ge (tgt := 138) C dL_law_131 (by decide) (fun h_131 => ?_) (fun h_131 => ?_)
    · refine a_iconst (v := nI 2) C dL_law_138 (by decide) ?_
      refine a_goto (tgt := 264) C dL_law_139 (by decide) ?_
      exact k _ _ _ _ (by omega) (by omega)
    · refine a_iconst (v := nI 0) C dL_law_134 (by decide) ?_
      refine a_goto (tgt := 264) C dL_law_135 (by decide) ?_
      exact k _ _ _ _ (by omega) (by omega)
/-- how far the second number goes -/
def Avd (A : St) (t a : Nat) : Prop := match t with
  | 0 => a < 81
  | 1 => a ≤ kN A
  | 2 => a ≤ kN A
  | 3 => a ≤ kN A
  | 4 => a ≤ kN A
  | 5 => a ≤ kN A
  | 9 => a ≤ kN A
  | 10 => a < 4
  | _ => a < 6
theorem avd_0 {A : St} {t a : Nat} (h : t = 0) (ha : a < 81) : Avd A t a := by subst h; exact ha
theorem avd_k {A : St} {t a : Nat} (h : ¬ t = 0 ∧ t < 6 ∨ t = 9) (ha : a < kN A + 1) : Avd A t a := by
  have h2 : t = 1 ∨ t = 2 ∨ t = 3 ∨ t = 4 ∨ t = 5 ∨ t = 9 := by omega
  rcases h2 with rfl | rfl | rfl | rfl | rfl | rfl <;> exact Nat.le_of_lt_succ ha
theorem avd_10 {A : St} {t a : Nat} (h : t = 10) (ha : a < 4) : Avd A t a := by subst h; exact ha
theorem avd_l {A : St} {t a : Nat} (h : t = 6 ∨ t = 7 ∨ t = 8) (ha : a < 6) : Avd A t a := by
  rcases h with rfl | rfl | rfl <;> exact ha
theorem vl_4 {A : St} {t a r : Nat} (h : t = 0 ∨ t = 3 ∨ t = 1) (ha : Avd A t a) (h0 : t = 0 → kN A < 10) (hr : r < 4) : Vld A t a (nI r) := by
  rcases h with rfl | rfl | rfl
  · exact ⟨ha, inR_is hr (by decide), h0 rfl⟩
  · exact ⟨ha, inR_is hr (by decide)⟩
  · exact ⟨ha, inR_is hr (by decide)⟩
theorem vl_6 {A : St} {t a r : Nat} (h : t = 6) (ha : Avd A t a) (hr : r < 81) : Vld A t a (nI r) := by
  subst h
  exact ⟨ha, inR_is hr (by decide)⟩
theorem vl_7 {A : St} {t a r : Nat} (h : t = 7) (ha : Avd A t a) (hr : r < 82) : Vld A t a (nI r - nI 1) := by
  subst h
  refine ⟨ha, ?_⟩
  by_cases e : r = 0
  · subst e
    exact Or.inl (by decide)
  · rw [pk_sub (by omega)]
    exact Or.inr (inR_is (by omega) (by decide))
theorem vl_9 {A : St} {t a r : Nat} (h : t = 9) (ha : Avd A t a) (hr : r < 6) : Vld A t a (nI r) := by
  subst h
  exact ⟨ha, inR_is hr (by decide)⟩
theorem sbr_all : (List.range 4).all (fun j => (List.range 10).all fun r => sbI j (nI r) == (decide (loN j ≤ r) && decide (r ≤ hiN j))) = true := by decide +kernel
theorem sbr_at {j r : Nat} (hj : j < 4) (hr : r < 10) (h1 : loN j ≤ r) (h2 : r ≤ hiN j) : sbI j (nI r) = true := by
  have z := eq_of_beq (List.all_eq_true.mp (List.all_eq_true.mp sbr_all j (List.mem_range.mpr hj)) r (List.mem_range.mpr hr))
  rw [z, decide_eq_true h1, decide_eq_true h2]
  rfl
theorem vl_10 {A : St} {t a r : Nat} (h : t = 10) (ha : Avd A t a) (hr : a = 0 ∧ 1 ≤ r ∧ r < 3 ∨ a = 1 ∧ 1 ≤ r ∧ r < 10 ∨ a = 2 ∧ r < 5 ∨ ¬ a = 0 ∧ ¬ a = 1 ∧ ¬ a = 2 ∧ r < 2) : Vld A t a (nI r) := by
  subst h
  have h4 : a < 4 := ha
  refine ⟨h4, ?_⟩
  have h5 : a = 0 ∨ a = 1 ∨ a = 2 ∨ a = 3 := by omega
  rcases h5 with rfl | rfl | rfl | rfl
  · exact sbr_at (j := 0) (by decide) (by omega) (show 1 ≤ r by omega) (show r ≤ 2 by omega)
  · exact sbr_at (j := 1) (by decide) (by omega) (show 1 ≤ r by omega) (show r ≤ 9 by omega)
  · exact sbr_at (j := 2) (by decide) (by omega) (show 0 ≤ r by omega) (show r ≤ 9 by omega)
  · exact sbr_at (j := 3) (by decide) (by omega) (show 0 ≤ r by omega) (show r ≤ 1 by omega)
theorem vl_0 {A : St} {t a : Nat} (ht : t ≤ 10) (h : ¬ t = 0 ∧ ¬ t = 3 ∧ ¬ t = 1 ∧ ¬ t = 6 ∧ ¬ t = 7 ∧ ¬ t = 9 ∧ ¬ t = 10) (ha : Avd A t a) : Vld A t a (nI 0) := by
  have h2 : t = 2 ∨ t = 4 ∨ t = 5 ∨ t = 8 := by omega
  rcases h2 with rfl | rfl | rfl | rfl <;> exact ha
theorem avd_lt {A : St} {t a : Nat} (hA : AOK A) (h : Avd A t a) : a < 2 ^ 31 := by
  have hn := hA.n12
  unfold Avd at h
  split at h <;> omega
set_option maxRecDepth 20000 in
set_option maxHeartbeats 4000000 in
theorem lw_B (C : aCtx G p s m args meth c cL_law 15 RL) {X Y : Int32} {t0 t : Nat} (hL : LR w A) (hA : AOK A) (hb : 207 + x ≤ 600172 ∧ us ≤ 7300668) (ht : t ≤ 10)
    (k : ∀ (a : Nat), Avd A t a → WA G p l e room_1 s m args below meth c Q 15 0 0 331 [some (.ref 1003), some (.ref 0), some (.ref 204), some (.ref 205), some (.ref 206), some (.int (nI i)), some (.int X), some (.int Y), some (.int (nI t)), none, none, none, none, none, none] [.int (nI a)] (fzM w (0, x) us)) : WA G p l e room_1 s m args below meth c Q 15 0 0 264 [some (.ref 1003), some (.ref 0), some (.ref 204), some (.ref 205), some (.ref 206), some (.int (nI i)), some (.int X), some (.int Y), some (.int (nI t0)), none, none, none, none, none, none] [.int (nI t)] (fzM w (0, x) us) := by
  have zq_n := hA.n12
  refine a_istore C dL_law_264 (by decide) ?_
  refine a_eq (L' := [some (.ref 1003), some (.ref 0), some (.ref 204), some (.ref 205), some (.ref 206), some (.int (nI i)), some (.int X), some (.int Y), some (.int (nI t)), none, none, none, none, none, none]) rfl rfl rfl ?_
  refine a_iload C dL_law_266 rfl ?_
  first | refine b_if_ne (tgt := 281) C dL_law_268 (by decide) (fun h_268 => ?_) (fun h_268 => ?_) | refine n_if_ne (tgt := 281) C dL_law_268 (by decide) (by first | decide | omega) (fun h_268 => ?_) (fun h_268 => ?_) | refine a_if_ne (tgt := 281) C dL_law_268 (by decide) (fun h_268 => ?_) (fun h_268 => ?_)
  · refine a_iload C dL_law_281 rfl ?_
    refine a_bipush (v := nI 6) C dL_law_283 (by decide) ?_
    first | refine n_icmp_lt (tgt := 295) C dL_law_285 (by decide) (by first | decide | omega) (by first | decide | omega) (fun h_285 => ?_) (fun h_285 => ?_) | refine a_icmp_lt (tgt := 295) C dL_law_285 (by decide) (fun h_285 => ?_) (fun h_285 => ?_)
    · refine a_iload C dL_law_295 rfl ?_
      refine a_aload_n C dL_law_297 rfl rfl ?_
      refine a_iconst (v := nI 0) C dL_law_298 (by decide) ?_
      refine n_iald C dL_law_299 (tw (by first | decide | omega)) (by first | decide | omega) rfl rfl (by first | decide | omega) (by decide) (LR_n hL hA) ?_
      refine a_iconst (v := nI 1) C dL_law_300 (by decide) ?_
      first | refine n_iadd C dL_law_301 ?_ | refine a_iadd C dL_law_301 ?_
      refine g_callS C ((K_L_low Y (by omega) (by omega))).cp sL_185 rfl dL_law_302 (Nat.le_of_ble_eq_true rfl) ⟨Nat.le_of_ble_eq_true rfl, Nat.le_of_ble_eq_true rfl⟩ ⟨by show 207 + 0 + x ≤ 0 + 600172; omega, by show us ≤ 0 + 7300668; omega⟩ ?_
      refine a_goto (tgt := 331) C dL_law_305 (by decide) ?_
      first
        | exact k _ (avd_0 h_268 (lwN_lt _ (by decide)))
        | exact k _ (avd_k (by omega) (lwN_lt _ (by omega)))
        | exact k _ (avd_10 h_312 (lwN_lt _ (by decide)))
        | exact k _ (avd_l (by omega) (lwN_lt _ (by decide)))
    · refine a_iload C dL_law_288 rfl ?_
      refine a_bipush (v := nI 9) C dL_law_290 (by decide) ?_
      first | refine n_icmp_ne (tgt := 308) C dL_law_292 (by decide) (by first | decide | omega) (by first | decide | omega) (fun h_292 => ?_) (fun h_292 => ?_) | refine a_icmp_ne (tgt := 308) C dL_law_292 (by decide) (fun h_292 => ?_) (fun h_292 => ?_)
      · refine a_iload C dL_law_308 rfl ?_
        refine a_bipush (v := nI 10) C dL_law_310 (by decide) ?_
        first | refine n_icmp_ne (tgt := 324) C dL_law_312 (by decide) (by first | decide | omega) (by first | decide | omega) (fun h_312 => ?_) (fun h_312 => ?_) | refine a_icmp_ne (tgt := 324) C dL_law_312 (by decide) (fun h_312 => ?_) (fun h_312 => ?_)
        · refine a_iload C dL_law_324 rfl ?_
          refine a_bipush (v := nI 6) C dL_law_326 (by decide) ?_
          refine g_callS C ((K_L_low Y (by decide) (by decide))).cp sL_185 rfl dL_law_328 (Nat.le_of_ble_eq_true rfl) ⟨Nat.le_of_ble_eq_true rfl, Nat.le_of_ble_eq_true rfl⟩ ⟨by show 207 + 0 + x ≤ 0 + 600172; omega, by show us ≤ 0 + 7300668; omega⟩ ?_
          first
            | exact k _ (avd_0 h_268 (lwN_lt _ (by decide)))
            | exact k _ (avd_k (by omega) (lwN_lt _ (by omega)))
            | exact k _ (avd_10 h_312 (lwN_lt _ (by decide)))
            | exact k _ (avd_l (by omega) (lwN_lt _ (by decide)))
        · refine a_iload C dL_law_315 rfl ?_
          refine a_iconst (v := nI 4) C dL_law_317 (by decide) ?_
          refine g_callS C ((K_L_low Y (by decide) (by decide))).cp sL_185 rfl dL_law_318 (Nat.le_of_ble_eq_true rfl) ⟨Nat.le_of_ble_eq_true rfl, Nat.le_of_ble_eq_true rfl⟩ ⟨by show 207 + 0 + x ≤ 0 + 600172; omega, by show us ≤ 0 + 7300668; omega⟩ ?_
          refine a_goto (tgt := 331) C dL_law_321 (by decide) ?_
          first
            | exact k _ (avd_0 h_268 (lwN_lt _ (by decide)))
            | exact k _ (avd_k (by omega) (lwN_lt _ (by omega)))
            | exact k _ (avd_10 h_312 (lwN_lt _ (by decide)))
            | exact k _ (avd_l (by omega) (lwN_lt _ (by decide)))
      · refine a_iload C dL_law_295 rfl ?_
        refine a_aload_n C dL_law_297 rfl rfl ?_
        refine a_iconst (v := nI 0) C dL_law_298 (by decide) ?_
        refine n_iald C dL_law_299 (tw (by first | decide | omega)) (by first | decide | omega) rfl rfl (by first | decide | omega) (by decide) (LR_n hL hA) ?_
        refine a_iconst (v := nI 1) C dL_law_300 (by decide) ?_
        first | refine n_iadd C dL_law_301 ?_ | refine a_iadd C dL_law_301 ?_
        refine g_callS C ((K_L_low Y (by omega) (by omega))).cp sL_185 rfl dL_law_302 (Nat.le_of_ble_eq_true rfl) ⟨Nat.le_of_ble_eq_true rfl, Nat.le_of_ble_eq_true rfl⟩ ⟨by show 207 + 0 + x ≤ 0 + 600172; omega, by show us ≤ 0 + 7300668; omega⟩ ?_
        refine a_goto (tgt := 331) C dL_law_305 (by decide) ?_
        first
          | exact k _ (avd_0 h_268 (lwN_lt _ (by decide)))
          | exact k _ (avd_k (by omega) (lwN_lt _ (by omega)))
          | exact k _ (avd_10 h_312 (lwN_lt _ (by decide)))
          | exact k _ (avd_l (by omega) (lwN_lt _ (by decide)))
  · refine a_iload C dL_law_271 rfl ?_
    refine a_bipush (v := nI 81) C dL_law_273 (by decide) ?_
    refine g_callS C ((K_L_low Y (by decide) (by decide))).cp sL_185 rfl dL_law_275 (Nat.le_of_ble_eq_true rfl) ⟨Nat.le_of_ble_eq_true rfl, Nat.le_of_ble_eq_true rfl⟩ ⟨by show 207 + 0 + x ≤ 0 + 600172; omega, by show us ≤ 0 + 7300668; omega⟩ ?_
    refine a_goto (tgt := 331) C dL_law_278 (by decide) ?_
    first
      | exact k _ (avd_0 h_268 (lwN_lt _ (by decide)))
      | exact k _ (avd_k (by omega) (lwN_lt _ (by omega)))
      | exact k _ (avd_10 h_312 (lwN_lt _ (by decide)))
      | exact k _ (avd_l (by omega) (lwN_lt _ (by decide)))
set_option maxRecDepth 20000 in
set_option maxHeartbeats 4000000 in
theorem lw_C (C : aCtx G p s m args meth c cL_law 15 RL) {X Y : Int32} {t a : Nat} (hA : AOK A) (hb : 207 + x ≤ 600172 ∧ us ≤ 7300668) (ht : t ≤ 10) (h0 : t = 0 → kN A < 10) (ha : Avd A t a)
    (k : ∀ (b : Int32), Vld A t a b → WA G p l e room_1 s m args below meth c Q 15 0 0 519 [some (.ref 1003), some (.ref 0), some (.ref 204), some (.ref 205), some (.ref 206), some (.int (nI i)), some (.int X), some (.int Y), some (.int (nI t)), some (.int (nI a)), none, none, none, none, none] [.int b] (fzM w (0, x) us)) : WA G p l e room_1 s m args below meth c Q 15 0 0 331 [some (.ref 1003), some (.ref 0), some (.ref 204), some (.ref 205), some (.ref 206), some (.int (nI i)), some (.int X), some (.int Y), some (.int (nI t)), none, none, none, none, none, none] [.int (nI a)] (fzM w (0, x) us) := by
  refine a_istore C dL_law_331 (by decide) ?_
  refine a_eq (L' := [some (.ref 1003), some (.ref 0), some (.ref 204), some (.ref 205), some (.ref 206), some (.int (nI i)), some (.int X), some (.int Y), some (.int (nI t)), some (.int (nI a)), none, none, none, none, none]) rfl rfl rfl ?_
  refine a_iload C dL_law_333 rfl ?_
  first | refine b_if_eq (tgt := 350) C dL_law_335 (by decide) (fun h_335 => ?_) (fun h_335 => ?_) | refine n_if_eq (tgt := 350) C dL_law_335 (by decide) (by first | decide | omega) (fun h_335 => ?_) (fun h_335 => ?_) | refine a_if_eq (tgt := 350) C dL_law_335 (by decide) (fun h_335 => ?_) (fun h_335 => ?_)
  · refine a_iload C dL_law_350 rfl ?_
    refine a_bipush (v := nI 7) C dL_law_352 (by decide) ?_
    refine a_ishr C dL_law_354 ?_
    refine a_iconst (v := nI 4) C dL_law_355 (by decide) ?_
    refine g_callS C ((K_L_low _ (by decide) (by decide))).cp sL_185 rfl dL_law_356 (Nat.le_of_ble_eq_true rfl) ⟨Nat.le_of_ble_eq_true rfl, Nat.le_of_ble_eq_true rfl⟩ ⟨by show 207 + 0 + x ≤ 0 + 600172; omega, by show us ≤ 0 + 7300668; omega⟩ ?_
    refine a_goto (tgt := 519) C dL_law_359 (by decide) ?_
    first
      | (have hg : t = 0 ∨ t = 3 ∨ t = 1 := (by omega); exact k _ (vl_4 hg ha h0 (lwN_lt _ (by decide))))
      | (have hg : t = 6 := (by omega); exact k _ (vl_6 hg ha (lwN_lt _ (by decide))))
      | (have hg : t = 6 := (by omega); exact k _ (vl_6 hg ha (Nat.lt_of_lt_of_le (lwN_lt _ (by decide)) (show 14 ≤ 81 by decide))))
      | (have hg : t = 7 := (by omega); exact k _ (vl_7 hg ha (lwN_lt _ (by decide))))
      | (have hg : t = 9 := (by omega); exact k _ (vl_9 hg ha (lwN_lt _ (by decide))))
      | (have hg : t = 10 := (by omega); have hq : a = 0 := (by omega); have hr := lwN_lt (Y >>> (nI 7 &&& 31)) (N := 2) (by decide); exact k _ (vl_10 hg ha (Or.inl ⟨hq, by omega, by omega⟩)))
      | (have hg : t = 10 := (by omega); have hq : a = 1 := (by omega); have hr := lwN_lt (Y >>> (nI 7 &&& 31)) (N := 9) (by decide); exact k _ (vl_10 hg ha (Or.inr (Or.inl ⟨hq, by omega, by omega⟩))))
      | (have hg : t = 10 := (by omega); have hq : a = 2 := (by omega); have hr := lwN_lt (Y >>> (nI 7 &&& 31)) (N := 5) (by decide); exact k _ (vl_10 hg ha (Or.inr (Or.inr (Or.inl ⟨hq, by omega⟩)))))
      | (have hg : t = 10 := (by omega); have hq : ¬ a = 0 ∧ ¬ a = 1 ∧ ¬ a = 2 := (by omega); have hr := lwN_lt (Y >>> (nI 7 &&& 31)) (N := 2) (by decide); exact k _ (vl_10 hg ha (Or.inr (Or.inr (Or.inr ⟨hq.1, hq.2.1, hq.2.2, by omega⟩)))))
      | exact k _ (vl_0 ht (by omega) ha)
  · refine a_iload C dL_law_338 rfl ?_
    refine a_iconst (v := nI 3) C dL_law_340 (by decide) ?_
    first | refine n_icmp_eq (tgt := 350) C dL_law_341 (by decide) (by first | decide | omega) (by first | decide | omega) (fun h_341 => ?_) (fun h_341 => ?_) | refine a_icmp_eq (tgt := 350) C dL_law_341 (by decide) (fun h_341 => ?_) (fun h_341 => ?_)
    · refine a_iload C dL_law_350 rfl ?_
      refine a_bipush (v := nI 7) C dL_law_352 (by decide) ?_
      refine a_ishr C dL_law_354 ?_
      refine a_iconst (v := nI 4) C dL_law_355 (by decide) ?_
      refine g_callS C ((K_L_low _ (by decide) (by decide))).cp sL_185 rfl dL_law_356 (Nat.le_of_ble_eq_true rfl) ⟨Nat.le_of_ble_eq_true rfl, Nat.le_of_ble_eq_true rfl⟩ ⟨by show 207 + 0 + x ≤ 0 + 600172; omega, by show us ≤ 0 + 7300668; omega⟩ ?_
      refine a_goto (tgt := 519) C dL_law_359 (by decide) ?_
      first
        | (have hg : t = 0 ∨ t = 3 ∨ t = 1 := (by omega); exact k _ (vl_4 hg ha h0 (lwN_lt _ (by decide))))
        | (have hg : t = 6 := (by omega); exact k _ (vl_6 hg ha (lwN_lt _ (by decide))))
        | (have hg : t = 6 := (by omega); exact k _ (vl_6 hg ha (Nat.lt_of_lt_of_le (lwN_lt _ (by decide)) (show 14 ≤ 81 by decide))))
        | (have hg : t = 7 := (by omega); exact k _ (vl_7 hg ha (lwN_lt _ (by decide))))
        | (have hg : t = 9 := (by omega); exact k _ (vl_9 hg ha (lwN_lt _ (by decide))))
        | (have hg : t = 10 := (by omega); have hq : a = 0 := (by omega); have hr := lwN_lt (Y >>> (nI 7 &&& 31)) (N := 2) (by decide); exact k _ (vl_10 hg ha (Or.inl ⟨hq, by omega, by omega⟩)))
        | (have hg : t = 10 := (by omega); have hq : a = 1 := (by omega); have hr := lwN_lt (Y >>> (nI 7 &&& 31)) (N := 9) (by decide); exact k _ (vl_10 hg ha (Or.inr (Or.inl ⟨hq, by omega, by omega⟩))))
        | (have hg : t = 10 := (by omega); have hq : a = 2 := (by omega); have hr := lwN_lt (Y >>> (nI 7 &&& 31)) (N := 5) (by decide); exact k _ (vl_10 hg ha (Or.inr (Or.inr (Or.inl ⟨hq, by omega⟩)))))
        | (have hg : t = 10 := (by omega); have hq : ¬ a = 0 ∧ ¬ a = 1 ∧ ¬ a = 2 := (by omega); have hr := lwN_lt (Y >>> (nI 7 &&& 31)) (N := 2) (by decide); exact k _ (vl_10 hg ha (Or.inr (Or.inr (Or.inr ⟨hq.1, hq.2.1, hq.2.2, by omega⟩)))))
        | exact k _ (vl_0 ht (by omega) ha)
    · refine a_iload C dL_law_344 rfl ?_
      refine a_iconst (v := nI 1) C dL_law_346 (by decide) ?_
      first | refine n_icmp_ne (tgt := 362) C dL_law_347 (by decide) (by first | decide | omega) (by first | decide | omega) (fun h_347 => ?_) (fun h_347 => ?_) | refine a_icmp_ne (tgt := 362) C dL_law_347 (by decide) (fun h_347 => ?_) (fun h_347 => ?_)
      · refine a_iload C dL_law_362 rfl ?_
        refine a_bipush (v := nI 6) C dL_law_364 (by decide) ?_
        first | refine n_icmp_ne (tgt := 399) C dL_law_366 (by decide) (by first | decide | omega) (by first | decide | omega) (fun h_366 => ?_) (fun h_366 => ?_) | refine a_icmp_ne (tgt := 399) C dL_law_366 (by decide) (fun h_366 => ?_) (fun h_366 => ?_)
        · refine a_iload C dL_law_399 rfl ?_
          refine a_bipush (v := nI 7) C dL_law_401 (by decide) ?_
          first | refine n_icmp_ne (tgt := 421) C dL_law_403 (by decide) (by first | decide | omega) (by first | decide | omega) (fun h_403 => ?_) (fun h_403 => ?_) | refine a_icmp_ne (tgt := 421) C dL_law_403 (by decide) (fun h_403 => ?_) (fun h_403 => ?_)
          · refine a_iload C dL_law_421 rfl ?_
            refine a_bipush (v := nI 9) C dL_law_423 (by decide) ?_
            first | refine n_icmp_ne (tgt := 441) C dL_law_425 (by decide) (by first | decide | omega) (by first | decide | omega) (fun h_425 => ?_) (fun h_425 => ?_) | refine a_icmp_ne (tgt := 441) C dL_law_425 (by decide) (fun h_425 => ?_) (fun h_425 => ?_)
            · refine a_iload C dL_law_441 rfl ?_
              refine a_bipush (v := nI 10) C dL_law_443 (by decide) ?_
              first | refine n_icmp_ne (tgt := 518) C dL_law_445 (by decide) (by first | decide | omega) (by first | decide | omega) (fun h_445 => ?_) (fun h_445 => ?_) | refine a_icmp_ne (tgt := 518) C dL_law_445 (by decide) (fun h_445 => ?_) (fun h_445 => ?_)
              · refine a_iconst (v := nI 0) C dL_law_518 (by decide) ?_
                first
                  | (have hg : t = 0 ∨ t = 3 ∨ t = 1 := (by omega); exact k _ (vl_4 hg ha h0 (lwN_lt _ (by decide))))
                  | (have hg : t = 6 := (by omega); exact k _ (vl_6 hg ha (lwN_lt _ (by decide))))
                  | (have hg : t = 6 := (by omega); exact k _ (vl_6 hg ha (Nat.lt_of_lt_of_le (lwN_lt _ (by decide)) (show 14 ≤ 81 by decide))))
                  | (have hg : t = 7 := (by omega); exact k _ (vl_7 hg ha (lwN_lt _ (by decide))))
                  | (have hg : t = 9 := (by omega); exact k _ (vl_9 hg ha (lwN_lt _ (by decide))))
                  | (have hg : t = 10 := (by omega); have hq : a = 0 := (by omega); have hr := lwN_lt (Y >>> (nI 7 &&& 31)) (N := 2) (by decide); exact k _ (vl_10 hg ha (Or.inl ⟨hq, by omega, by omega⟩)))
                  | (have hg : t = 10 := (by omega); have hq : a = 1 := (by omega); have hr := lwN_lt (Y >>> (nI 7 &&& 31)) (N := 9) (by decide); exact k _ (vl_10 hg ha (Or.inr (Or.inl ⟨hq, by omega, by omega⟩))))
                  | (have hg : t = 10 := (by omega); have hq : a = 2 := (by omega); have hr := lwN_lt (Y >>> (nI 7 &&& 31)) (N := 5) (by decide); exact k _ (vl_10 hg ha (Or.inr (Or.inr (Or.inl ⟨hq, by omega⟩)))))
                  | (have hg : t = 10 := (by omega); have hq : ¬ a = 0 ∧ ¬ a = 1 ∧ ¬ a = 2 := (by omega); have hr := lwN_lt (Y >>> (nI 7 &&& 31)) (N := 2) (by decide); exact k _ (vl_10 hg ha (Or.inr (Or.inr (Or.inr ⟨hq.1, hq.2.1, hq.2.2, by omega⟩)))))
                  | exact k _ (vl_0 ht (by omega) ha)
              · refine a_iload C dL_law_448 rfl ?_
                refine n_if_ne (tgt := 467) C dL_law_450 (by decide) (avd_lt hA ha)  (fun h_450 => ?_) (fun h_450 => ?_)
                · refine a_iload C dL_law_467 rfl ?_
                  refine a_iconst (v := nI 1) C dL_law_469 (by decide) ?_
                  refine n_icmp_ne (tgt := 488) C dL_law_470 (by decide) (avd_lt hA ha) (by first | decide | omega) (fun h_470 => ?_) (fun h_470 => ?_)
                  · refine a_iload C dL_law_488 rfl ?_
                    refine a_iconst (v := nI 2) C dL_law_490 (by decide) ?_
                    refine n_icmp_ne (tgt := 506) C dL_law_491 (by decide) (avd_lt hA ha) (by first | decide | omega) (fun h_491 => ?_) (fun h_491 => ?_)
                    · refine a_iload C dL_law_506 rfl ?_
                      refine a_bipush (v := nI 7) C dL_law_508 (by decide) ?_
                      refine a_ishr C dL_law_510 ?_
                      refine a_iconst (v := nI 2) C dL_law_511 (by decide) ?_
                      refine g_callS C ((K_L_low _ (by decide) (by decide))).cp sL_185 rfl dL_law_512 (Nat.le_of_ble_eq_true rfl) ⟨Nat.le_of_ble_eq_true rfl, Nat.le_of_ble_eq_true rfl⟩ ⟨by show 207 + 0 + x ≤ 0 + 600172; omega, by show us ≤ 0 + 7300668; omega⟩ ?_
                      refine a_goto (tgt := 519) C dL_law_515 (by decide) ?_
                      first
                        | (have hg : t = 0 ∨ t = 3 ∨ t = 1 := (by omega); exact k _ (vl_4 hg ha h0 (lwN_lt _ (by decide))))
                        | (have hg : t = 6 := (by omega); exact k _ (vl_6 hg ha (lwN_lt _ (by decide))))
                        | (have hg : t = 6 := (by omega); exact k _ (vl_6 hg ha (Nat.lt_of_lt_of_le (lwN_lt _ (by decide)) (show 14 ≤ 81 by decide))))
                        | (have hg : t = 7 := (by omega); exact k _ (vl_7 hg ha (lwN_lt _ (by decide))))
                        | (have hg : t = 9 := (by omega); exact k _ (vl_9 hg ha (lwN_lt _ (by decide))))
                        | (have hg : t = 10 := (by omega); have hq : a = 0 := (by omega); have hr := lwN_lt (Y >>> (nI 7 &&& 31)) (N := 2) (by decide); exact k _ (vl_10 hg ha (Or.inl ⟨hq, by omega, by omega⟩)))
                        | (have hg : t = 10 := (by omega); have hq : a = 1 := (by omega); have hr := lwN_lt (Y >>> (nI 7 &&& 31)) (N := 9) (by decide); exact k _ (vl_10 hg ha (Or.inr (Or.inl ⟨hq, by omega, by omega⟩))))
                        | (have hg : t = 10 := (by omega); have hq : a = 2 := (by omega); have hr := lwN_lt (Y >>> (nI 7 &&& 31)) (N := 5) (by decide); exact k _ (vl_10 hg ha (Or.inr (Or.inr (Or.inl ⟨hq, by omega⟩)))))
                        | (have hg : t = 10 := (by omega); have hq : ¬ a = 0 ∧ ¬ a = 1 ∧ ¬ a = 2 := (by omega); have hr := lwN_lt (Y >>> (nI 7 &&& 31)) (N := 2) (by decide); exact k _ (vl_10 hg ha (Or.inr (Or.inr (Or.inr ⟨hq.1, hq.2.1, hq.2.2, by omega⟩)))))
                        | exact k _ (vl_0 ht (by omega) ha)
                    · refine a_iload C dL_law_494 rfl ?_
                      refine a_bipush (v := nI 7) C dL_law_496 (by decide) ?_
                      refine a_ishr C dL_law_498 ?_
                      refine a_iconst (v := nI 5) C dL_law_499 (by decide) ?_
                      refine g_callS C ((K_L_low _ (by decide) (by decide))).cp sL_185 rfl dL_law_500 (Nat.le_of_ble_eq_true rfl) ⟨Nat.le_of_ble_eq_true rfl, Nat.le_of_ble_eq_true rfl⟩ ⟨by show 207 + 0 + x ≤ 0 + 600172; omega, by show us ≤ 0 + 7300668; omega⟩ ?_
                      refine a_goto (tgt := 519) C dL_law_503 (by decide) ?_
                      first
                        | (have hg : t = 0 ∨ t = 3 ∨ t = 1 := (by omega); exact k _ (vl_4 hg ha h0 (lwN_lt _ (by decide))))
                        | (have hg : t = 6 := (by omega); exact k _ (vl_6 hg ha (lwN_lt _ (by decide))))
                        | (have hg : t = 6 := (by omega); exact k _ (vl_6 hg ha (Nat.lt_of_lt_of_le (lwN_lt _ (by decide)) (show 14 ≤ 81 by decide))))
                        | (have hg : t = 7 := (by omega); exact k _ (vl_7 hg ha (lwN_lt _ (by decide))))
                        | (have hg : t = 9 := (by omega); exact k _ (vl_9 hg ha (lwN_lt _ (by decide))))
                        | (have hg : t = 10 := (by omega); have hq : a = 0 := (by omega); have hr := lwN_lt (Y >>> (nI 7 &&& 31)) (N := 2) (by decide); exact k _ (vl_10 hg ha (Or.inl ⟨hq, by omega, by omega⟩)))
                        | (have hg : t = 10 := (by omega); have hq : a = 1 := (by omega); have hr := lwN_lt (Y >>> (nI 7 &&& 31)) (N := 9) (by decide); exact k _ (vl_10 hg ha (Or.inr (Or.inl ⟨hq, by omega, by omega⟩))))
                        | (have hg : t = 10 := (by omega); have hq : a = 2 := (by omega); have hr := lwN_lt (Y >>> (nI 7 &&& 31)) (N := 5) (by decide); exact k _ (vl_10 hg ha (Or.inr (Or.inr (Or.inl ⟨hq, by omega⟩)))))
                        | (have hg : t = 10 := (by omega); have hq : ¬ a = 0 ∧ ¬ a = 1 ∧ ¬ a = 2 := (by omega); have hr := lwN_lt (Y >>> (nI 7 &&& 31)) (N := 2) (by decide); exact k _ (vl_10 hg ha (Or.inr (Or.inr (Or.inr ⟨hq.1, hq.2.1, hq.2.2, by omega⟩)))))
                        | exact k _ (vl_0 ht (by omega) ha)
                  · refine a_iconst (v := nI 1) C dL_law_473 (by decide) ?_
                    refine a_iload C dL_law_474 rfl ?_
                    refine a_bipush (v := nI 7) C dL_law_476 (by decide) ?_
                    refine a_ishr C dL_law_478 ?_
                    refine a_bipush (v := nI 9) C dL_law_479 (by decide) ?_
                    refine g_callS C ((K_L_low _ (by decide) (by decide))).cp sL_185 rfl dL_law_481 (Nat.le_of_ble_eq_true rfl) ⟨Nat.le_of_ble_eq_true rfl, Nat.le_of_ble_eq_true rfl⟩ ⟨by show 207 + 0 + x ≤ 0 + 600172; omega, by show us ≤ 0 + 7300668; omega⟩ ?_
                    first | refine n_iadd C dL_law_484 ?_ | refine a_iadd C dL_law_484 ?_
                    refine a_goto (tgt := 519) C dL_law_485 (by decide) ?_
                    first
                      | (have hg : t = 0 ∨ t = 3 ∨ t = 1 := (by omega); exact k _ (vl_4 hg ha h0 (lwN_lt _ (by decide))))
                      | (have hg : t = 6 := (by omega); exact k _ (vl_6 hg ha (lwN_lt _ (by decide))))
                      | (have hg : t = 6 := (by omega); exact k _ (vl_6 hg ha (Nat.lt_of_lt_of_le (lwN_lt _ (by decide)) (show 14 ≤ 81 by decide))))
                      | (have hg : t = 7 := (by omega); exact k _ (vl_7 hg ha (lwN_lt _ (by decide))))
                      | (have hg : t = 9 := (by omega); exact k _ (vl_9 hg ha (lwN_lt _ (by decide))))
                      | (have hg : t = 10 := (by omega); have hq : a = 0 := (by omega); have hr := lwN_lt (Y >>> (nI 7 &&& 31)) (N := 2) (by decide); exact k _ (vl_10 hg ha (Or.inl ⟨hq, by omega, by omega⟩)))
                      | (have hg : t = 10 := (by omega); have hq : a = 1 := (by omega); have hr := lwN_lt (Y >>> (nI 7 &&& 31)) (N := 9) (by decide); exact k _ (vl_10 hg ha (Or.inr (Or.inl ⟨hq, by omega, by omega⟩))))
                      | (have hg : t = 10 := (by omega); have hq : a = 2 := (by omega); have hr := lwN_lt (Y >>> (nI 7 &&& 31)) (N := 5) (by decide); exact k _ (vl_10 hg ha (Or.inr (Or.inr (Or.inl ⟨hq, by omega⟩)))))
                      | (have hg : t = 10 := (by omega); have hq : ¬ a = 0 ∧ ¬ a = 1 ∧ ¬ a = 2 := (by omega); have hr := lwN_lt (Y >>> (nI 7 &&& 31)) (N := 2) (by decide); exact k _ (vl_10 hg ha (Or.inr (Or.inr (Or.inr ⟨hq.1, hq.2.1, hq.2.2, by omega⟩)))))
                      | exact k _ (vl_0 ht (by omega) ha)
                · refine a_iconst (v := nI 1) C dL_law_453 (by decide) ?_
                  refine a_iload C dL_law_454 rfl ?_
                  refine a_bipush (v := nI 7) C dL_law_456 (by decide) ?_
                  refine a_ishr C dL_law_458 ?_
                  refine a_iconst (v := nI 2) C dL_law_459 (by decide) ?_
                  refine g_callS C ((K_L_low _ (by decide) (by decide))).cp sL_185 rfl dL_law_460 (Nat.le_of_ble_eq_true rfl) ⟨Nat.le_of_ble_eq_true rfl, Nat.le_of_ble_eq_true rfl⟩ ⟨by show 207 + 0 + x ≤ 0 + 600172; omega, by show us ≤ 0 + 7300668; omega⟩ ?_
                  first | refine n_iadd C dL_law_463 ?_ | refine a_iadd C dL_law_463 ?_
                  refine a_goto (tgt := 519) C dL_law_464 (by decide) ?_
                  first
                    | (have hg : t = 0 ∨ t = 3 ∨ t = 1 := (by omega); exact k _ (vl_4 hg ha h0 (lwN_lt _ (by decide))))
                    | (have hg : t = 6 := (by omega); exact k _ (vl_6 hg ha (lwN_lt _ (by decide))))
                    | (have hg : t = 6 := (by omega); exact k _ (vl_6 hg ha (Nat.lt_of_lt_of_le (lwN_lt _ (by decide)) (show 14 ≤ 81 by decide))))
                    | (have hg : t = 7 := (by omega); exact k _ (vl_7 hg ha (lwN_lt _ (by decide))))
                    | (have hg : t = 9 := (by omega); exact k _ (vl_9 hg ha (lwN_lt _ (by decide))))
                    | (have hg : t = 10 := (by omega); have hq : a = 0 := (by omega); have hr := lwN_lt (Y >>> (nI 7 &&& 31)) (N := 2) (by decide); exact k _ (vl_10 hg ha (Or.inl ⟨hq, by omega, by omega⟩)))
                    | (have hg : t = 10 := (by omega); have hq : a = 1 := (by omega); have hr := lwN_lt (Y >>> (nI 7 &&& 31)) (N := 9) (by decide); exact k _ (vl_10 hg ha (Or.inr (Or.inl ⟨hq, by omega, by omega⟩))))
                    | (have hg : t = 10 := (by omega); have hq : a = 2 := (by omega); have hr := lwN_lt (Y >>> (nI 7 &&& 31)) (N := 5) (by decide); exact k _ (vl_10 hg ha (Or.inr (Or.inr (Or.inl ⟨hq, by omega⟩)))))
                    | (have hg : t = 10 := (by omega); have hq : ¬ a = 0 ∧ ¬ a = 1 ∧ ¬ a = 2 := (by omega); have hr := lwN_lt (Y >>> (nI 7 &&& 31)) (N := 2) (by decide); exact k _ (vl_10 hg ha (Or.inr (Or.inr (Or.inr ⟨hq.1, hq.2.1, hq.2.2, by omega⟩)))))
                    | exact k _ (vl_0 ht (by omega) ha)
            · refine a_iload C dL_law_428 rfl ?_
              refine a_bipush (v := nI 7) C dL_law_430 (by decide) ?_
              refine a_ishr C dL_law_432 ?_
              refine a_bipush (v := nI 6) C dL_law_433 (by decide) ?_
              refine g_callS C ((K_L_low _ (by decide) (by decide))).cp sL_185 rfl dL_law_435 (Nat.le_of_ble_eq_true rfl) ⟨Nat.le_of_ble_eq_true rfl, Nat.le_of_ble_eq_true rfl⟩ ⟨by show 207 + 0 + x ≤ 0 + 600172; omega, by show us ≤ 0 + 7300668; omega⟩ ?_
              refine a_goto (tgt := 519) C dL_law_438 (by decide) ?_
              first
                | (have hg : t = 0 ∨ t = 3 ∨ t = 1 := (by omega); exact k _ (vl_4 hg ha h0 (lwN_lt _ (by decide))))
                | (have hg : t = 6 := (by omega); exact k _ (vl_6 hg ha (lwN_lt _ (by decide))))
                | (have hg : t = 6 := (by omega); exact k _ (vl_6 hg ha (Nat.lt_of_lt_of_le (lwN_lt _ (by decide)) (show 14 ≤ 81 by decide))))
                | (have hg : t = 7 := (by omega); exact k _ (vl_7 hg ha (lwN_lt _ (by decide))))
                | (have hg : t = 9 := (by omega); exact k _ (vl_9 hg ha (lwN_lt _ (by decide))))
                | (have hg : t = 10 := (by omega); have hq : a = 0 := (by omega); have hr := lwN_lt (Y >>> (nI 7 &&& 31)) (N := 2) (by decide); exact k _ (vl_10 hg ha (Or.inl ⟨hq, by omega, by omega⟩)))
                | (have hg : t = 10 := (by omega); have hq : a = 1 := (by omega); have hr := lwN_lt (Y >>> (nI 7 &&& 31)) (N := 9) (by decide); exact k _ (vl_10 hg ha (Or.inr (Or.inl ⟨hq, by omega, by omega⟩))))
                | (have hg : t = 10 := (by omega); have hq : a = 2 := (by omega); have hr := lwN_lt (Y >>> (nI 7 &&& 31)) (N := 5) (by decide); exact k _ (vl_10 hg ha (Or.inr (Or.inr (Or.inl ⟨hq, by omega⟩)))))
                | (have hg : t = 10 := (by omega); have hq : ¬ a = 0 ∧ ¬ a = 1 ∧ ¬ a = 2 := (by omega); have hr := lwN_lt (Y >>> (nI 7 &&& 31)) (N := 2) (by decide); exact k _ (vl_10 hg ha (Or.inr (Or.inr (Or.inr ⟨hq.1, hq.2.1, hq.2.2, by omega⟩)))))
                | exact k _ (vl_0 ht (by omega) ha)
          · refine a_iload C dL_law_406 rfl ?_
            refine a_bipush (v := nI 7) C dL_law_408 (by decide) ?_
            refine a_ishr C dL_law_410 ?_
            refine a_bipush (v := nI 82) C dL_law_411 (by decide) ?_
            refine g_callS C ((K_L_low _ (by decide) (by decide))).cp sL_185 rfl dL_law_413 (Nat.le_of_ble_eq_true rfl) ⟨Nat.le_of_ble_eq_true rfl, Nat.le_of_ble_eq_true rfl⟩ ⟨by show 207 + 0 + x ≤ 0 + 600172; omega, by show us ≤ 0 + 7300668; omega⟩ ?_
            refine a_iconst (v := nI 1) C dL_law_416 (by decide) ?_
            refine a_isub C dL_law_417 ?_
            refine a_goto (tgt := 519) C dL_law_418 (by decide) ?_
            first
              | (have hg : t = 0 ∨ t = 3 ∨ t = 1 := (by omega); exact k _ (vl_4 hg ha h0 (lwN_lt _ (by decide))))
              | (have hg : t = 6 := (by omega); exact k _ (vl_6 hg ha (lwN_lt _ (by decide))))
              | (have hg : t = 6 := (by omega); exact k _ (vl_6 hg ha (Nat.lt_of_lt_of_le (lwN_lt _ (by decide)) (show 14 ≤ 81 by decide))))
              | (have hg : t = 7 := (by omega); exact k _ (vl_7 hg ha (lwN_lt _ (by decide))))
              | (have hg : t = 9 := (by omega); exact k _ (vl_9 hg ha (lwN_lt _ (by decide))))
              | (have hg : t = 10 := (by omega); have hq : a = 0 := (by omega); have hr := lwN_lt (Y >>> (nI 7 &&& 31)) (N := 2) (by decide); exact k _ (vl_10 hg ha (Or.inl ⟨hq, by omega, by omega⟩)))
              | (have hg : t = 10 := (by omega); have hq : a = 1 := (by omega); have hr := lwN_lt (Y >>> (nI 7 &&& 31)) (N := 9) (by decide); exact k _ (vl_10 hg ha (Or.inr (Or.inl ⟨hq, by omega, by omega⟩))))
              | (have hg : t = 10 := (by omega); have hq : a = 2 := (by omega); have hr := lwN_lt (Y >>> (nI 7 &&& 31)) (N := 5) (by decide); exact k _ (vl_10 hg ha (Or.inr (Or.inr (Or.inl ⟨hq, by omega⟩)))))
              | (have hg : t = 10 := (by omega); have hq : ¬ a = 0 ∧ ¬ a = 1 ∧ ¬ a = 2 := (by omega); have hr := lwN_lt (Y >>> (nI 7 &&& 31)) (N := 2) (by decide); exact k _ (vl_10 hg ha (Or.inr (Or.inr (Or.inr ⟨hq.1, hq.2.1, hq.2.2, by omega⟩)))))
              | exact k _ (vl_0 ht (by omega) ha)
        · refine a_iload C dL_law_369 rfl ?_
          refine a_bipush (v := nI 7) C dL_law_371 (by decide) ?_
          refine a_ishr C dL_law_373 ?_
          refine a_iload C dL_law_374 rfl ?_
          refine a_bipush (v := nI 20) C dL_law_376 (by decide) ?_
          refine a_ishr C dL_law_378 ?_
          refine a_iconst (v := nI 2) C dL_law_379 (by decide) ?_
          refine g_callS C ((K_L_low _ (by decide) (by decide))).cp sL_185 rfl dL_law_380 (Nat.le_of_ble_eq_true rfl) ⟨Nat.le_of_ble_eq_true rfl, Nat.le_of_ble_eq_true rfl⟩ ⟨by show 207 + 0 + x ≤ 0 + 600172; omega, by show us ≤ 0 + 7300668; omega⟩ ?_
          refine n_if_ne (tgt := 391) C dL_law_383 (by decide) (Nat.lt_trans (lwN_lt _ (by decide)) (by decide))  (fun h_383 => ?_) (fun h_383 => ?_)
          · refine a_bipush (v := nI 81) C dL_law_391 (by decide) ?_
            refine g_callS C ((K_L_low _ (by decide) (by decide))).cp sL_185 rfl dL_law_393 (Nat.le_of_ble_eq_true rfl) ⟨Nat.le_of_ble_eq_true rfl, Nat.le_of_ble_eq_true rfl⟩ ⟨by show 207 + 0 + x ≤ 0 + 600172; omega, by show us ≤ 0 + 7300668; omega⟩ ?_
            refine a_goto (tgt := 519) C dL_law_396 (by decide) ?_
            first
              | (have hg : t = 0 ∨ t = 3 ∨ t = 1 := (by omega); exact k _ (vl_4 hg ha h0 (lwN_lt _ (by decide))))
              | (have hg : t = 6 := (by omega); exact k _ (vl_6 hg ha (lwN_lt _ (by decide))))
              | (have hg : t = 6 := (by omega); exact k _ (vl_6 hg ha (Nat.lt_of_lt_of_le (lwN_lt _ (by decide)) (show 14 ≤ 81 by decide))))
              | (have hg : t = 7 := (by omega); exact k _ (vl_7 hg ha (lwN_lt _ (by decide))))
              | (have hg : t = 9 := (by omega); exact k _ (vl_9 hg ha (lwN_lt _ (by decide))))
              | (have hg : t = 10 := (by omega); have hq : a = 0 := (by omega); have hr := lwN_lt (Y >>> (nI 7 &&& 31)) (N := 2) (by decide); exact k _ (vl_10 hg ha (Or.inl ⟨hq, by omega, by omega⟩)))
              | (have hg : t = 10 := (by omega); have hq : a = 1 := (by omega); have hr := lwN_lt (Y >>> (nI 7 &&& 31)) (N := 9) (by decide); exact k _ (vl_10 hg ha (Or.inr (Or.inl ⟨hq, by omega, by omega⟩))))
              | (have hg : t = 10 := (by omega); have hq : a = 2 := (by omega); have hr := lwN_lt (Y >>> (nI 7 &&& 31)) (N := 5) (by decide); exact k _ (vl_10 hg ha (Or.inr (Or.inr (Or.inl ⟨hq, by omega⟩)))))
              | (have hg : t = 10 := (by omega); have hq : ¬ a = 0 ∧ ¬ a = 1 ∧ ¬ a = 2 := (by omega); have hr := lwN_lt (Y >>> (nI 7 &&& 31)) (N := 2) (by decide); exact k _ (vl_10 hg ha (Or.inr (Or.inr (Or.inr ⟨hq.1, hq.2.1, hq.2.2, by omega⟩)))))
              | exact k _ (vl_0 ht (by omega) ha)
          · refine a_bipush (v := nI 14) C dL_law_386 (by decide) ?_
            refine a_goto (tgt := 393) C dL_law_388 (by decide) ?_
            refine g_callS C ((K_L_low _ (by decide) (by decide))).cp sL_185 rfl dL_law_393 (Nat.le_of_ble_eq_true rfl) ⟨Nat.le_of_ble_eq_true rfl, Nat.le_of_ble_eq_true rfl⟩ ⟨by show 207 + 0 + x ≤ 0 + 600172; omega, by show us ≤ 0 + 7300668; omega⟩ ?_
            refine a_goto (tgt := 519) C dL_law_396 (by decide) ?_
            first
              | (have hg : t = 0 ∨ t = 3 ∨ t = 1 := (by omega); exact k _ (vl_4 hg ha h0 (lwN_lt _ (by decide))))
              | (have hg : t = 6 := (by omega); exact k _ (vl_6 hg ha (lwN_lt _ (by decide))))
              | (have hg : t = 6 := (by omega); exact k _ (vl_6 hg ha (Nat.lt_of_lt_of_le (lwN_lt _ (by decide)) (show 14 ≤ 81 by decide))))
              | (have hg : t = 7 := (by omega); exact k _ (vl_7 hg ha (lwN_lt _ (by decide))))
              | (have hg : t = 9 := (by omega); exact k _ (vl_9 hg ha (lwN_lt _ (by decide))))
              | (have hg : t = 10 := (by omega); have hq : a = 0 := (by omega); have hr := lwN_lt (Y >>> (nI 7 &&& 31)) (N := 2) (by decide); exact k _ (vl_10 hg ha (Or.inl ⟨hq, by omega, by omega⟩)))
              | (have hg : t = 10 := (by omega); have hq : a = 1 := (by omega); have hr := lwN_lt (Y >>> (nI 7 &&& 31)) (N := 9) (by decide); exact k _ (vl_10 hg ha (Or.inr (Or.inl ⟨hq, by omega, by omega⟩))))
              | (have hg : t = 10 := (by omega); have hq : a = 2 := (by omega); have hr := lwN_lt (Y >>> (nI 7 &&& 31)) (N := 5) (by decide); exact k _ (vl_10 hg ha (Or.inr (Or.inr (Or.inl ⟨hq, by omega⟩)))))
              | (have hg : t = 10 := (by omega); have hq : ¬ a = 0 ∧ ¬ a = 1 ∧ ¬ a = 2 := (by omega); have hr := lwN_lt (Y >>> (nI 7 &&& 31)) (N := 2) (by decide); exact k _ (vl_10 hg ha (Or.inr (Or.inr (Or.inr ⟨hq.1, hq.2.1, hq.2.2, by omega⟩)))))
              | exact k _ (vl_0 ht (by omega) ha)
      · refine a_iload C dL_law_350 rfl ?_
        refine a_bipush (v := nI 7) C dL_law_352 (by decide) ?_
        refine a_ishr C dL_law_354 ?_
        refine a_iconst (v := nI 4) C dL_law_355 (by decide) ?_
        refine g_callS C ((K_L_low _ (by decide) (by decide))).cp sL_185 rfl dL_law_356 (Nat.le_of_ble_eq_true rfl) ⟨Nat.le_of_ble_eq_true rfl, Nat.le_of_ble_eq_true rfl⟩ ⟨by show 207 + 0 + x ≤ 0 + 600172; omega, by show us ≤ 0 + 7300668; omega⟩ ?_
        refine a_goto (tgt := 519) C dL_law_359 (by decide) ?_
        first
          | (have hg : t = 0 ∨ t = 3 ∨ t = 1 := (by omega); exact k _ (vl_4 hg ha h0 (lwN_lt _ (by decide))))
          | (have hg : t = 6 := (by omega); exact k _ (vl_6 hg ha (lwN_lt _ (by decide))))
          | (have hg : t = 6 := (by omega); exact k _ (vl_6 hg ha (Nat.lt_of_lt_of_le (lwN_lt _ (by decide)) (show 14 ≤ 81 by decide))))
          | (have hg : t = 7 := (by omega); exact k _ (vl_7 hg ha (lwN_lt _ (by decide))))
          | (have hg : t = 9 := (by omega); exact k _ (vl_9 hg ha (lwN_lt _ (by decide))))
          | (have hg : t = 10 := (by omega); have hq : a = 0 := (by omega); have hr := lwN_lt (Y >>> (nI 7 &&& 31)) (N := 2) (by decide); exact k _ (vl_10 hg ha (Or.inl ⟨hq, by omega, by omega⟩)))
          | (have hg : t = 10 := (by omega); have hq : a = 1 := (by omega); have hr := lwN_lt (Y >>> (nI 7 &&& 31)) (N := 9) (by decide); exact k _ (vl_10 hg ha (Or.inr (Or.inl ⟨hq, by omega, by omega⟩))))
          | (have hg : t = 10 := (by omega); have hq : a = 2 := (by omega); have hr := lwN_lt (Y >>> (nI 7 &&& 31)) (N := 5) (by decide); exact k _ (vl_10 hg ha (Or.inr (Or.inr (Or.inl ⟨hq, by omega⟩)))))
          | (have hg : t = 10 := (by omega); have hq : ¬ a = 0 ∧ ¬ a = 1 ∧ ¬ a = 2 := (by omega); have hr := lwN_lt (Y >>> (nI 7 &&& 31)) (N := 2) (by decide); exact k _ (vl_10 hg ha (Or.inr (Or.inr (Or.inr ⟨hq.1, hq.2.1, hq.2.2, by omega⟩)))))
          | exact k _ (vl_0 ht (by omega) ha)
end A75

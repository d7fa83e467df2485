section A46
/-! ### the reference is made -/
def hX7 (f : Nat → aC) (gs go gc : Nat → Int32) : Nat → aC := fun a => if a = 204 then .inr (7, [.int 0, .ref 205, .ref 206, .int 0, .ref 207, .int 0, .ref 208, .int 0, .int 0, .int 0, .int 0, .int 0, .ref 209, .ref 210, .ref 211, .ref 212, .ref 213, .ref 214, .ref 215, .ref 216, .ref 217, .int 0, .long 0]) else if a = 205 then .inl (8, (112, .inl gs)) else if a = 206 then .inl (8, (672, .inl (fun _ => 0))) else if a = 207 then .inl (8, (112, .inl (fun _ => 0))) else if a = 208 then .inl (8, (60, .inl (fun _ => 0))) else if a = 209 then .inl (8, (82, .inl go)) else if a = 210 then .inl (8, (1215, .inl gc)) else if a = 211 then .inl (8, (81, .inl (fun _ => 0))) else if a = 212 then .inl (8, (81, .inl (fun _ => 0))) else if a = 213 then .inl (8, (81, .inl (fun _ => 0))) else if a = 214 then .inl (8, (81, .inl (fun _ => 0))) else if a = 215 then .inl (8, (81, .inl (fun _ => 0))) else if a = 216 then .inl (8, (81, .inl (fun _ => 0))) else if a = 217 then .inl (8, (81, .inl (fun _ => 0))) else f a
def MX7 (us : Nat) (f : Nat → aC) (gs go gc : Nat → Int32) : aH := (218, 0, us + 2820, hX7 f gs go gc)
theorem MX7_s {us : Nat} {f : Nat → aC} {gs go gc g : Nat → Int32} : aPut (MX7 us f gs go gc) 205 (.inl (8, (112, .inl g))) = MX7 us f g go gc := by
  unfold aPut MX7 hX7 aUp
  congr 3
  funext a
  by_cases h : a = 205
  · subst h; rfl
  · simp [h]
theorem MX7_o {us : Nat} {f : Nat → aC} {gs go gc g : Nat → Int32} : aPut (MX7 us f gs go gc) 209 (.inl (8, (82, .inl g))) = MX7 us f gs g gc := by
  unfold aPut MX7 hX7 aUp
  congr 3
  funext a
  by_cases h : a = 209
  · subst h; rfl
  · simp [h]
theorem MX7_c {us : Nat} {f : Nat → aC} {gs go gc g : Nat → Int32} : aPut (MX7 us f gs go gc) 210 (.inl (8, (1215, .inl g))) = MX7 us f gs go g := by
  unfold aPut MX7 hX7 aUp
  congr 3
  funext a
  by_cases h : a = 210
  · subst h; rfl
  · simp [h]
def st6 : Nat → Int32 := upd (upd (upd (upd (upd (upd (fun _ => 0) 6 (-1)) 7 (-1)) 8 (nI 2)) 9 (nI 2)) 10 (nI 4)) 11 (nI 1)
def stI : Nat → Nat → Int32
  | 0 => st6
  | k + 1 => upd (upd (stI k) (16 + 4 * k + 0) (-1)) (16 + 4 * k + 1) (-1)
def upLd (c d : Nat) : List Nat := (List.range d).filter (und c)
theorem upLd_s {c d : Nat} : upLd c (d + 1) = upLd c d ++ (if und c d = true then [d] else []) := by
  unfold upLd
  rw [List.range_succ, List.filter_append]
  congr 1
  by_cases h : und c d = true
  · rw [if_pos h, List.filter_cons_of_pos h]; rfl
  · rw [if_neg h, List.filter_cons_of_neg h]; rfl
theorem upLd_pre {c d : Nat} : ∀ k, ∃ r, upLd c (d + k) = upLd c d ++ r
  | 0 => ⟨[], (List.append_nil _).symm⟩
  | k + 1 => by
    obtain ⟨r, h⟩ := upLd_pre (c := c) (d := d) k
    exact ⟨_, by rw [← Nat.add_assoc, upLd_s, h, List.append_assoc]⟩
theorem upLd_at {c d : Nat} (hc : c < 81) (hd : d < 81) (h : und c d = true) : ovC (ovS c + (upLd c d).length) = d ∧ (upLd c d).length < (upL c).length := by
  obtain ⟨r, e⟩ := upLd_pre (c := c) (d := d + 1) (80 - d)
  rw [show d + 1 + (80 - d) = 81 by omega, upLd_s (c := c) (d := d), if_pos h, List.append_assoc] at e
  have e2 : upL c = upLd c d ++ ([d] ++ r) := e
  have hl : (upLd c d).length < (upL c).length := by
    rw [e2, List.length_append, List.length_append]
    show (upLd c d).length < (upLd c d).length + (1 + r.length)
    omega
  refine ⟨?_, hl⟩
  rw [ovC_at hc hl, e2, List.getD_eq_getElem?_getD, List.getElem?_append_right (Nat.le_refl _), Nat.sub_self]
  rfl
theorem upLd_n {c d : Nat} (h : und c d = false) : upLd c (d + 1) = upLd c d := by
  rw [upLd_s, if_neg (by rw [h]; decide), List.append_nil]
theorem upLd_l {c d : Nat} (h : und c d = true) : (upLd c (d + 1)).length = (upLd c d).length + 1 := by
  rw [upLd_s, if_pos h, List.length_append]
  rfl
theorem ovS_e {c : Nat} : ovS c + (upLd c 81).length = ovS (c + 1) := (ovS_s c).symm
theorem ovS_0 : ovS 0 = 0 := rfl
set_option maxRecDepth 20000 in
set_option maxHeartbeats 4000000 in
theorem K_X7_init {us : Nat} {f : Nat → aC} (hf : f 204 = .inr (7, [.int 0, .null, .null, .int 0, .null, .int 0, .null, .int 0, .int 0, .int 0, .int 0, .int 0, .null, .null, .null, .null, .null, .null, .null, .null, .null, .int 0, .long 0])) : CM yX7_init cX7_init 4 none 3 64 [.ref 204] (205, 0, us, f) 13 2820 (fun r M' => r = none ∧ ∃ go gc : Nat → Int32, M' = MX7 us f (stI 6) go gc ∧ (∀ j, j < 82 → go j = nI (ovS j)) ∧ ∀ e, e < 1215 → gc e = nI (ovC e)) := by
  refine CM.of ok_X7_init (Nat.le_of_ble_eq_true rfl) (fun G9 p9 l9 e9 s9 m9 ar9 be9 me9 co9 C hr hin => ?_)
  have ZL204 : ∀ (zd204 : Nat) (c : Nat) (go gc : Nat → Int32), 81 + 1 ≤ c + zd204 → c ≤ 81 → (∀ j, j < c → go j = nI (ovS j)) → (∀ e, e < ovS c → gc e = nI (ovC e)) → WA G9 p9 l9 e9 ({ frames := 3, cells := 13, slots := 2820, locals := 64 } : Room) s9 m9 ar9 be9 me9 co9 (MQ be9 (aQc G9 (205, 0, us, f) 13 2820 (fun r M' => r = none ∧ ∃ go gc : Nat → Int32, M' = MX7 us f (stI 6) go gc ∧ (∀ j, j < 82 → go j = nI (ovS j)) ∧ ∀ e, e < 1215 → gc e = nI (ovC e))) ar9 s9 13 2820 (aOld G9)) 4 205 us 204 [some (.ref 204), some (.int (nI (ovS c))), some (.int (nI c)), none] [] (MX7 us f (stI 6) go gc) := by
    intro zd204
    induction zd204 with
    | zero => intro c go gc zm204 zh_c zh_o zh_g; exfalso; omega
    | succ zd204 zih204 =>
      intro c go gc zm204 zh_c zh_o zh_g
      have zq_o := ovS_le zh_c
      have ZL219 : ∀ (zd219 : Nat) (d : Nat) (go2 gc : Nat → Int32), 81 + 1 ≤ d + zd219 → d ≤ 81 → c < 81 → (∀ j, j < c + 1 → go2 j = nI (ovS j)) → (∀ e, e < ovS c + (upLd c d).length → gc e = nI (ovC e)) → WA G9 p9 l9 e9 ({ frames := 3, cells := 13, slots := 2820, locals := 64 } : Room) s9 m9 ar9 be9 me9 co9 (MQ be9 (aQc G9 (205, 0, us, f) 13 2820 (fun r M' => r = none ∧ ∃ go gc : Nat → Int32, M' = MX7 us f (stI 6) go gc ∧ (∀ j, j < 82 → go j = nI (ovS j)) ∧ ∀ e, e < 1215 → gc e = nI (ovC e))) ar9 s9 13 2820 (aOld G9)) 4 205 us 219 [some (.ref 204), some (.int (nI (ovS c + (upLd c d).length))), some (.int (nI c)), some (.int (nI d))] [] (MX7 us f (stI 6) go2 gc) := by
        intro zd219
        induction zd219 with
        | zero => intro d go2 gc zm219 zk_d h_207 zk_o zk_g; exfalso; omega
        | succ zd219 zih219 =>
          intro d go2 gc zm219 zk_d h_207 zk_o zk_g
          refine a_iload_n C dX7_init_219 rfl rfl ?_
          refine a_bipush (v := nI 81) C dX7_init_220 (by decide) ?_
          first | refine n_icmp_ge (tgt := 249) C dX7_init_222 (by decide) (by first | decide | omega) (by first | decide | omega) (fun h_222 => ?_) (fun h_222 => ?_) | refine a_icmp_ge (tgt := 249) C dX7_init_222 (by decide) (fun h_222 => ?_) (fun h_222 => ?_)
          · obtain rfl : d = 81 := by omega
            refine n_iinc C dX7_init_249 rfl (by decide) ?_
            refine a_goto (tgt := 204) C dX7_init_252 (by decide) ?_
            refine a_join (aLe_s ?_ (aLe_s ?_ (aLe_s ?_ (aLe_n aLe_nil)))) rfl rfl (zih204 (c + 1) go2 gc (by omega) (by omega) zk_o (fun e he => zk_g e (by rw [ovS_e]; exact he)))
            · first | with_reducible rfl | exact gl (by first | with_reducible rfl | (refine iF ?_; simp [h_222]; done) | (refine iT ?_; simp [h_222]; done) | (refine iB ?_; simp [h_222]; done) | (simp [h_222]; done) | (simp [h_222]; omega) | omega)
            · exact gl (by rw [ovS_e])
            · first | with_reducible rfl | exact gl (by first | with_reducible rfl | (refine iF ?_; simp [h_222]; done) | (refine iT ?_; simp [h_222]; done) | (refine iB ?_; simp [h_222]; done) | (simp [h_222]; done) | (simp [h_222]; omega) | omega)
          · refine a_iload_n C dX7_init_225 rfl rfl ?_
            refine a_iload_n C dX7_init_226 rfl rfl ?_
            refine s_callS C (K_X7_liesUnder h_207 (by omega)) sX7_49 rfl dX7_init_227 (Nat.le_of_ble_eq_true rfl) ⟨by decide, by decide⟩ ⟨by show 218 + 0 ≤ 205 + 13; decide, by show us + 2820 ≤ us + 2820; omega⟩ ?_
            first | refine b_if_eq (tgt := 243) C dX7_init_230 (by decide) (fun h_230 => ?_) (fun h_230 => ?_) | refine n_if_eq (tgt := 243) C dX7_init_230 (by decide) (by first | decide | omega) (fun h_230 => ?_) (fun h_230 => ?_) | refine a_if_eq (tgt := 243) C dX7_init_230 (by decide) (fun h_230 => ?_) (fun h_230 => ?_)
            · obtain ⟨gc9, zy_M, zy_n, zy_g⟩ : ∃ gc9, MX7 us f (stI 6) go2 gc = MX7 us f (stI 6) go2 gc9 ∧ ovS c + (upLd c d).length = ovS c + (upLd c (d + 1)).length ∧ (∀ e, e < ovS c + (upLd c (d + 1)).length → gc9 e = nI (ovC e)) := ⟨gc, rfl, by rw [upLd_n h_230], by rw [upLd_n h_230]; exact zk_g⟩
              refine n_iinc C dX7_init_243 rfl (by decide) ?_
              refine a_goto (tgt := 219) C dX7_init_246 (by decide) ?_
              refine a_join (aLe_s ?_ (aLe_s ?_ (aLe_s ?_ (aLe_s ?_ aLe_nil)))) rfl zy_M (zih219 (d + 1) go2 gc9 (by omega) (by omega) h_207 zk_o zy_g)
              · first | with_reducible rfl | exact gl (by first | with_reducible rfl | (refine iF ?_; simp [h_222, h_230]; done) | (refine iT ?_; simp [h_222, h_230]; done) | (refine iB ?_; simp [h_222, h_230]; done) | (simp [h_222, h_230]; done) | (simp [h_222, h_230]; omega) | omega)
              · exact gl (by rw [zy_n])
              · first | with_reducible rfl | exact gl (by first | with_reducible rfl | (refine iF ?_; simp [h_222, h_230]; done) | (refine iT ?_; simp [h_222, h_230]; done) | (refine iB ?_; simp [h_222, h_230]; done) | (simp [h_222, h_230]; done) | (simp [h_222, h_230]; omega) | omega)
              · first | with_reducible rfl | exact gl (by first | with_reducible rfl | (refine iF ?_; simp [h_222, h_230]; done) | (refine iT ?_; simp [h_222, h_230]; done) | (refine iB ?_; simp [h_222, h_230]; done) | (simp [h_222, h_230]; done) | (simp [h_222, h_230]; omega) | omega)
            · have zq_at := upLd_at h_207 (show d < 81 by omega) h_230
              have zq_l1 : ovS c + (upLd c d).length < 1215 := by have := ovS_le (show c + 1 ≤ 81 by omega); rw [ovS_s] at this; omega
              obtain ⟨gc9, zy_M, zy_n, zy_g⟩ : ∃ gc9, aPut (MX7 us f (stI 6) go2 gc) 210 (.inl (8, (1215, .inl (upd gc (ovS c + (upLd c d).length) (nI d))))) = MX7 us f (stI 6) go2 gc9 ∧ ovS c + (upLd c d).length + 1 = ovS c + (upLd c (d + 1)).length ∧ (∀ e, e < ovS c + (upLd c (d + 1)).length → gc9 e = nI (ovC e)) := ⟨_, MX7_c, by rw [upLd_l h_230]; omega, fun e he => by
                rw [upLd_l h_230] at he
                by_cases e9 : e = ovS c + (upLd c d).length
                · subst e9; rw [upd_at, zq_at.1]
                · exact (upd_ne e9).trans (zk_g e (by omega))⟩
              refine a_aload_n C dX7_init_233 rfl rfl ?_
              refine a_getfF C fX7_25 dX7_init_234 (by first | decide | omega | exact Nat.le_of_ble_eq_true rfl) (by first | decide | omega) rfl rfl ?_
              refine a_iload_n C dX7_init_237 rfl rfl ?_
              refine a_iload_n C dX7_init_238 rfl rfl ?_
              refine a_iast C dX7_init_239 (by first | decide | omega | exact Nat.le_of_ble_eq_true rfl) (by decide) rfl rfl (by first | decide | omega) (by decide) ?_
              refine n_iinc C dX7_init_240 rfl (by decide) ?_
              refine n_iinc C dX7_init_243 rfl (by decide) ?_
              refine a_goto (tgt := 219) C dX7_init_246 (by decide) ?_
              refine a_join (aLe_s ?_ (aLe_s ?_ (aLe_s ?_ (aLe_s ?_ aLe_nil)))) rfl zy_M (zih219 (d + 1) go2 gc9 (by omega) (by omega) h_207 zk_o zy_g)
              · first | with_reducible rfl | exact gl (by first | with_reducible rfl | (refine iF ?_; simp [h_222, h_230]; done) | (refine iT ?_; simp [h_222, h_230]; done) | (refine iB ?_; simp [h_222, h_230]; done) | (simp [h_222, h_230]; done) | (simp [h_222, h_230]; omega) | omega)
              · exact gl (by rw [zy_n])
              · first | with_reducible rfl | exact gl (by first | with_reducible rfl | (refine iF ?_; simp [h_222, h_230]; done) | (refine iT ?_; simp [h_222, h_230]; done) | (refine iB ?_; simp [h_222, h_230]; done) | (simp [h_222, h_230]; done) | (simp [h_222, h_230]; omega) | omega)
              · first | with_reducible rfl | exact gl (by first | with_reducible rfl | (refine iF ?_; simp [h_222, h_230]; done) | (refine iT ?_; simp [h_222, h_230]; done) | (refine iB ?_; simp [h_222, h_230]; done) | (simp [h_222, h_230]; done) | (simp [h_222, h_230]; omega) | omega)
      refine a_iload_n C dX7_init_204 rfl rfl ?_
      refine a_bipush (v := nI 81) C dX7_init_205 (by decide) ?_
      first | refine n_icmp_ge (tgt := 255) C dX7_init_207 (by decide) (by first | decide | omega) (by first | decide | omega) (fun h_207 => ?_) (fun h_207 => ?_) | refine a_icmp_ge (tgt := 255) C dX7_init_207 (by decide) (fun h_207 => ?_) (fun h_207 => ?_)
      · obtain rfl : c = 81 := by omega
        refine a_aload_n C dX7_init_255 rfl rfl ?_
        refine a_getfF C fX7_22 dX7_init_256 (by first | decide | omega | exact Nat.le_of_ble_eq_true rfl) (by first | decide | omega) rfl rfl ?_
        refine a_bipush (v := nI 81) C dX7_init_259 (by decide) ?_
        refine a_iload_n C dX7_init_261 rfl rfl ?_
        refine a_iast C dX7_init_262 (by first | decide | omega | exact Nat.le_of_ble_eq_true rfl) (by decide) rfl rfl (by first | decide | omega) (by decide) ?_
        refine a_eq rfl rfl MX7_o ?_
        exact a_vret (M0 := (205, 0, us, f)) C hr dX7_init_263 rfl rfl ⟨rfl, _, gc, rfl, fun j hj => by
          by_cases e9 : j = 81
          · subst e9; exact upd_at
          · exact (upd_ne e9).trans (zh_o j (by omega)), fun e he => zh_g e (by rw [ovS_81]; exact he)⟩
      · refine a_aload_n C dX7_init_210 rfl rfl ?_
        refine a_getfF C fX7_22 dX7_init_211 (by first | decide | omega | exact Nat.le_of_ble_eq_true rfl) (by first | decide | omega) rfl rfl ?_
        refine a_iload_n C dX7_init_214 rfl rfl ?_
        refine a_iload_n C dX7_init_215 rfl rfl ?_
        refine a_iast C dX7_init_216 (by first | decide | omega | exact Nat.le_of_ble_eq_true rfl) (by decide) rfl rfl (by first | decide | omega) (by decide) ?_
        refine a_iconst (v := nI 0) C dX7_init_217 (by decide) ?_
        refine a_istore_n C dX7_init_218 rfl (by decide) ?_
        refine a_join (aLe_s ?_ (aLe_s ?_ (aLe_s ?_ (aLe_s ?_ aLe_nil)))) rfl MX7_o (ZL219 (81 + 1) 0 (upd go c (nI (ovS c))) gc (by omega) (by omega) h_207 (fun j hj => by
          by_cases e9 : j = c
          · subst e9; exact upd_at
          · exact (upd_ne e9).trans (zh_o j (by omega))) (fun e he => zh_g e he))
        · first | with_reducible rfl | exact gl (by first | with_reducible rfl | (refine iF ?_; simp [h_207]; done) | (refine iT ?_; simp [h_207]; done) | (refine iB ?_; simp [h_207]; done) | (simp [h_207]; done) | (simp [h_207]; omega) | omega | rfl)
        · exact rfl
        · first | with_reducible rfl | exact gl (by first | with_reducible rfl | (refine iF ?_; simp [h_207]; done) | (refine iT ?_; simp [h_207]; done) | (refine iB ?_; simp [h_207]; done) | (simp [h_207]; done) | (simp [h_207]; omega) | omega | rfl)
        · first | with_reducible rfl | exact gl (by first | with_reducible rfl | (refine iF ?_; simp [h_207]; done) | (refine iT ?_; simp [h_207]; done) | (refine iB ?_; simp [h_207]; done) | (simp [h_207]; done) | (simp [h_207]; omega) | omega | rfl)
  have ZL160 : ∀ (zd160 : Nat) (k : Nat), 6 + 1 ≤ k + zd160 → k ≤ 6 → WA G9 p9 l9 e9 ({ frames := 3, cells := 13, slots := 2820, locals := 64 } : Room) s9 m9 ar9 be9 me9 co9 (MQ be9 (aQc G9 (205, 0, us, f) 13 2820 (fun r M' => r = none ∧ ∃ go gc : Nat → Int32, M' = MX7 us f (stI 6) go gc ∧ (∀ j, j < 82 → go j = nI (ovS j)) ∧ ∀ e, e < 1215 → gc e = nI (ovC e))) ar9 s9 13 2820 (aOld G9)) 4 205 us 160 [some (.ref 204), some (.int (nI k)), none, none] [] (MX7 us f (stI k) (fun _ => 0) (fun _ => 0)) := by
    intro zd160
    induction zd160 with
    | zero => intro k zm160 zh_k; exfalso; omega
    | succ zd160 zih160 =>
      intro k zm160 zh_k
      refine a_iload_n C dX7_init_160 rfl rfl ?_
      refine a_bipush (v := nI 6) C dX7_init_161 (by decide) ?_
      first | refine n_icmp_ge (tgt := 200) C dX7_init_163 (by decide) (by first | decide | omega) (by first | decide | omega) (fun h_163 => ?_) (fun h_163 => ?_) | refine a_icmp_ge (tgt := 200) C dX7_init_163 (by decide) (fun h_163 => ?_) (fun h_163 => ?_)
      · obtain rfl : k = 6 := by omega
        refine a_iconst (v := nI 0) C dX7_init_200 (by decide) ?_
        refine a_istore_n C dX7_init_201 rfl (by decide) ?_
        refine a_iconst (v := nI 0) C dX7_init_202 (by decide) ?_
        refine a_istore_n C dX7_init_203 rfl (by decide) ?_
        refine a_join (aLe_s ?_ (aLe_s ?_ (aLe_s ?_ (aLe_n aLe_nil)))) rfl rfl (ZL204 (81 + 1) 0 (fun _ => 0) (fun _ => 0) (by omega) (by omega) (fun j hj => absurd hj (Nat.not_lt_zero j)) (fun e he => absurd he (Nat.not_lt_zero e)))
        · first | with_reducible rfl | exact gl (by first | with_reducible rfl | (refine iF ?_; simp [h_163]; done) | (refine iT ?_; simp [h_163]; done) | (refine iB ?_; simp [h_163]; done) | (simp [h_163]; done) | (simp [h_163]; omega) | omega | rfl)
        · first | with_reducible rfl | exact gl (by first | with_reducible rfl | (refine iF ?_; simp [h_163]; done) | (refine iT ?_; simp [h_163]; done) | (refine iB ?_; simp [h_163]; done) | (simp [h_163]; done) | (simp [h_163]; omega) | omega | rfl)
        · first | with_reducible rfl | exact gl (by first | with_reducible rfl | (refine iF ?_; simp [h_163]; done) | (refine iT ?_; simp [h_163]; done) | (refine iB ?_; simp [h_163]; done) | (simp [h_163]; done) | (simp [h_163]; omega) | omega | rfl)
      · refine a_aload_n C dX7_init_166 rfl rfl ?_
        refine a_getfF C fX7_7 dX7_init_167 (by first | decide | omega | exact Nat.le_of_ble_eq_true rfl) (by first | decide | omega) rfl rfl ?_
        refine a_bipush (v := nI 16) C dX7_init_170 (by decide) ?_
        refine a_iconst (v := nI 4) C dX7_init_172 (by decide) ?_
        refine a_iload_n C dX7_init_173 rfl rfl ?_
        first | refine n_imul C dX7_init_174 ?_ | refine a_imul C dX7_init_174 ?_
        first | refine n_iadd C dX7_init_175 ?_ | refine a_iadd C dX7_init_175 ?_
        refine a_iconst (v := nI 0) C dX7_init_176 (by decide) ?_
        first | refine n_iadd C dX7_init_177 ?_ | refine a_iadd C dX7_init_177 ?_
        refine a_iconst (v := (-1)) C dX7_init_178 (by decide) ?_
        refine a_iast C dX7_init_179 (by first | decide | omega | exact Nat.le_of_ble_eq_true rfl) (by decide) rfl rfl (by first | decide | omega) (by decide) ?_
        refine a_eq rfl rfl MX7_s ?_
        refine a_aload_n C dX7_init_180 rfl rfl ?_
        refine a_getfF C fX7_7 dX7_init_181 (by first | decide | omega | exact Nat.le_of_ble_eq_true rfl) (by first | decide | omega) rfl rfl ?_
        refine a_bipush (v := nI 16) C dX7_init_184 (by decide) ?_
        refine a_iconst (v := nI 4) C dX7_init_186 (by decide) ?_
        refine a_iload_n C dX7_init_187 rfl rfl ?_
        first | refine n_imul C dX7_init_188 ?_ | refine a_imul C dX7_init_188 ?_
        first | refine n_iadd C dX7_init_189 ?_ | refine a_iadd C dX7_init_189 ?_
        refine a_iconst (v := nI 1) C dX7_init_190 (by decide) ?_
        first | refine n_iadd C dX7_init_191 ?_ | refine a_iadd C dX7_init_191 ?_
        refine a_iconst (v := (-1)) C dX7_init_192 (by decide) ?_
        refine a_iast C dX7_init_193 (by first | decide | omega | exact Nat.le_of_ble_eq_true rfl) (by decide) rfl rfl (by first | decide | omega) (by decide) ?_
        refine a_eq rfl rfl (show _ = MX7 us f (stI (k + 1)) (fun _ => 0) (fun _ => 0) from MX7_s) ?_
        refine n_iinc C dX7_init_194 rfl (by decide) ?_
        refine a_goto (tgt := 160) C dX7_init_197 (by decide) ?_
        refine a_join (aLe_s ?_ (aLe_s ?_ (aLe_n (aLe_n aLe_nil)))) rfl rfl (zih160 (k + 1) (by omega) (by omega))
        · first | with_reducible rfl | exact gl (by first | with_reducible rfl | (refine iF ?_; simp [h_163]; done) | (refine iT ?_; simp [h_163]; done) | (refine iB ?_; simp [h_163]; done) | (simp [h_163]; done) | (simp [h_163]; omega) | omega)
        · first | with_reducible rfl | exact gl (by first | with_reducible rfl | (refine iF ?_; simp [h_163]; done) | (refine iT ?_; simp [h_163]; done) | (refine iB ?_; simp [h_163]; done) | (simp [h_163]; done) | (simp [h_163]; omega) | omega)
  refine a_pad 3 ?_
  refine a_eq (L' := [some (.ref 204), none, none, none]) rfl rfl rfl ?_
  refine a_aload_n C dX7_init_0 rfl rfl ?_
  refine a_objI C oI_X7 jo_2 jo_3 dX7_init_1 ⟨by decide, by decide⟩ ?_
  refine a_aload_n C dX7_init_4 rfl rfl ?_
  refine a_bipush (v := nI 112) C dX7_init_5 (by decide) ?_
  refine a_newaI C dX7_init_7 (N := 112) rfl (by decide) (show 205 < 1000 by decide) rfl ⟨show 205 + 1 ≤ 205 + 13 by decide, show us + 112 ≤ us + 2820 by omega⟩ ?_
  refine a_eq (st' := [.ref 205, .ref 204]) rfl rfl rfl ?_
  refine a_putF C fX7_7 hin (fun _ _ _ h => by cases h; rfl) dX7_init_9 (show 204 < 206 by decide) (by decide) hf rfl rfl (by decide) ?_
  refine a_eq (M' := (aPut (aNew (205, 0, us, f) (.inl (8, (112, .inl (fun _ => 0)))) 112) 204 (.inr (7, [.int 0, .ref 205, .null, .int 0, .null, .int 0, .null, .int 0, .int 0, .int 0, .int 0, .int 0, .null, .null, .null, .null, .null, .null, .null, .null, .null, .int 0, .long 0])))) rfl rfl rfl ?_
  refine a_aload_n C dX7_init_12 rfl rfl ?_
  refine a_sipush (v := nI 672) C dX7_init_13 (by decide) ?_
  refine a_newaI C dX7_init_16 (N := 672) rfl (by decide) (show 206 < 1000 by decide) rfl ⟨show 206 + 1 ≤ 205 + 13 by decide, show us + 112 + 672 ≤ us + 2820 by omega⟩ ?_
  refine a_eq (st' := [.ref 206, .ref 204]) rfl rfl rfl ?_
  refine a_putF C fX7_13 hin (fun _ _ _ h => by cases h; rfl) dX7_init_18 (show 204 < 207 by decide) (by decide) rfl rfl rfl (by decide) ?_
  refine a_eq (M' := (aPut (aNew (aPut (aNew (205, 0, us, f) (.inl (8, (112, .inl (fun _ => 0)))) 112) 204 (.inr (7, [.int 0, .ref 205, .null, .int 0, .null, .int 0, .null, .int 0, .int 0, .int 0, .int 0, .int 0, .null, .null, .null, .null, .null, .null, .null, .null, .null, .int 0, .long 0]))) (.inl (8, (672, .inl (fun _ => 0)))) 672) 204 (.inr (7, [.int 0, .ref 205, .ref 206, .int 0, .null, .int 0, .null, .int 0, .int 0, .int 0, .int 0, .int 0, .null, .null, .null, .null, .null, .null, .null, .null, .null, .int 0, .long 0])))) rfl rfl rfl ?_
  refine a_aload_n C dX7_init_21 rfl rfl ?_
  refine a_bipush (v := nI 112) C dX7_init_22 (by decide) ?_
  refine a_newaI C dX7_init_24 (N := 112) rfl (by decide) (show 207 < 1000 by decide) rfl ⟨show 207 + 1 ≤ 205 + 13 by decide, show us + 112 + 672 + 112 ≤ us + 2820 by omega⟩ ?_
  refine a_eq (st' := [.ref 207, .ref 204]) rfl rfl rfl ?_
  refine a_putF C fX7_16 hin (fun _ _ _ h => by cases h; rfl) dX7_init_26 (show 204 < 208 by decide) (by decide) rfl rfl rfl (by decide) ?_
  refine a_eq (M' := (aPut (aNew (aPut (aNew (aPut (aNew (205, 0, us, f) (.inl (8, (112, .inl (fun _ => 0)))) 112) 204 (.inr (7, [.int 0, .ref 205, .null, .int 0, .null, .int 0, .null, .int 0, .int 0, .int 0, .int 0, .int 0, .null, .null, .null, .null, .null, .null, .null, .null, .null, .int 0, .long 0]))) (.inl (8, (672, .inl (fun _ => 0)))) 672) 204 (.inr (7, [.int 0, .ref 205, .ref 206, .int 0, .null, .int 0, .null, .int 0, .int 0, .int 0, .int 0, .int 0, .null, .null, .null, .null, .null, .null, .null, .null, .null, .int 0, .long 0]))) (.inl (8, (112, .inl (fun _ => 0)))) 112) 204 (.inr (7, [.int 0, .ref 205, .ref 206, .int 0, .ref 207, .int 0, .null, .int 0, .int 0, .int 0, .int 0, .int 0, .null, .null, .null, .null, .null, .null, .null, .null, .null, .int 0, .long 0])))) rfl rfl rfl ?_
  refine a_aload_n C dX7_init_29 rfl rfl ?_
  refine a_bipush (v := nI 60) C dX7_init_30 (by decide) ?_
  refine a_newaI C dX7_init_32 (N := 60) rfl (by decide) (show 208 < 1000 by decide) rfl ⟨show 208 + 1 ≤ 205 + 13 by decide, show us + 112 + 672 + 112 + 60 ≤ us + 2820 by omega⟩ ?_
  refine a_eq (st' := [.ref 208, .ref 204]) rfl rfl rfl ?_
  refine a_putF C fX7_19 hin (fun _ _ _ h => by cases h; rfl) dX7_init_34 (show 204 < 209 by decide) (by decide) rfl rfl rfl (by decide) ?_
  refine a_eq (M' := (aPut (aNew (aPut (aNew (aPut (aNew (aPut (aNew (205, 0, us, f) (.inl (8, (112, .inl (fun _ => 0)))) 112) 204 (.inr (7, [.int 0, .ref 205, .null, .int 0, .null, .int 0, .null, .int 0, .int 0, .int 0, .int 0, .int 0, .null, .null, .null, .null, .null, .null, .null, .null, .null, .int 0, .long 0]))) (.inl (8, (672, .inl (fun _ => 0)))) 672) 204 (.inr (7, [.int 0, .ref 205, .ref 206, .int 0, .null, .int 0, .null, .int 0, .int 0, .int 0, .int 0, .int 0, .null, .null, .null, .null, .null, .null, .null, .null, .null, .int 0, .long 0]))) (.inl (8, (112, .inl (fun _ => 0)))) 112) 204 (.inr (7, [.int 0, .ref 205, .ref 206, .int 0, .ref 207, .int 0, .null, .int 0, .int 0, .int 0, .int 0, .int 0, .null, .null, .null, .null, .null, .null, .null, .null, .null, .int 0, .long 0]))) (.inl (8, (60, .inl (fun _ => 0)))) 60) 204 (.inr (7, [.int 0, .ref 205, .ref 206, .int 0, .ref 207, .int 0, .ref 208, .int 0, .int 0, .int 0, .int 0, .int 0, .null, .null, .null, .null, .null, .null, .null, .null, .null, .int 0, .long 0])))) rfl rfl rfl ?_
  refine a_aload_n C dX7_init_37 rfl rfl ?_
  refine a_bipush (v := nI 82) C dX7_init_38 (by decide) ?_
  refine a_newaI C dX7_init_40 (N := 82) rfl (by decide) (show 209 < 1000 by decide) rfl ⟨show 209 + 1 ≤ 205 + 13 by decide, show us + 112 + 672 + 112 + 60 + 82 ≤ us + 2820 by omega⟩ ?_
  refine a_eq (st' := [.ref 209, .ref 204]) rfl rfl rfl ?_
  refine a_putF C fX7_22 hin (fun _ _ _ h => by cases h; rfl) dX7_init_42 (show 204 < 210 by decide) (by decide) rfl rfl rfl (by decide) ?_
  refine a_eq (M' := (aPut (aNew (aPut (aNew (aPut (aNew (aPut (aNew (aPut (aNew (205, 0, us, f) (.inl (8, (112, .inl (fun _ => 0)))) 112) 204 (.inr (7, [.int 0, .ref 205, .null, .int 0, .null, .int 0, .null, .int 0, .int 0, .int 0, .int 0, .int 0, .null, .null, .null, .null, .null, .null, .null, .null, .null, .int 0, .long 0]))) (.inl (8, (672, .inl (fun _ => 0)))) 672) 204 (.inr (7, [.int 0, .ref 205, .ref 206, .int 0, .null, .int 0, .null, .int 0, .int 0, .int 0, .int 0, .int 0, .null, .null, .null, .null, .null, .null, .null, .null, .null, .int 0, .long 0]))) (.inl (8, (112, .inl (fun _ => 0)))) 112) 204 (.inr (7, [.int 0, .ref 205, .ref 206, .int 0, .ref 207, .int 0, .null, .int 0, .int 0, .int 0, .int 0, .int 0, .null, .null, .null, .null, .null, .null, .null, .null, .null, .int 0, .long 0]))) (.inl (8, (60, .inl (fun _ => 0)))) 60) 204 (.inr (7, [.int 0, .ref 205, .ref 206, .int 0, .ref 207, .int 0, .ref 208, .int 0, .int 0, .int 0, .int 0, .int 0, .null, .null, .null, .null, .null, .null, .null, .null, .null, .int 0, .long 0]))) (.inl (8, (82, .inl (fun _ => 0)))) 82) 204 (.inr (7, [.int 0, .ref 205, .ref 206, .int 0, .ref 207, .int 0, .ref 208, .int 0, .int 0, .int 0, .int 0, .int 0, .ref 209, .null, .null, .null, .null, .null, .null, .null, .null, .int 0, .long 0])))) rfl rfl rfl ?_
  refine a_aload_n C dX7_init_45 rfl rfl ?_
  refine a_sipush (v := nI 1215) C dX7_init_46 (by decide) ?_
  refine a_newaI C dX7_init_49 (N := 1215) rfl (by decide) (show 210 < 1000 by decide) rfl ⟨show 210 + 1 ≤ 205 + 13 by decide, show us + 112 + 672 + 112 + 60 + 82 + 1215 ≤ us + 2820 by omega⟩ ?_
  refine a_eq (st' := [.ref 210, .ref 204]) rfl rfl rfl ?_
  refine a_putF C fX7_25 hin (fun _ _ _ h => by cases h; rfl) dX7_init_51 (show 204 < 211 by decide) (by decide) rfl rfl rfl (by decide) ?_
  refine a_eq (M' := (aPut (aNew (aPut (aNew (aPut (aNew (aPut (aNew (aPut (aNew (aPut (aNew (205, 0, us, f) (.inl (8, (112, .inl (fun _ => 0)))) 112) 204 (.inr (7, [.int 0, .ref 205, .null, .int 0, .null, .int 0, .null, .int 0, .int 0, .int 0, .int 0, .int 0, .null, .null, .null, .null, .null, .null, .null, .null, .null, .int 0, .long 0]))) (.inl (8, (672, .inl (fun _ => 0)))) 672) 204 (.inr (7, [.int 0, .ref 205, .ref 206, .int 0, .null, .int 0, .null, .int 0, .int 0, .int 0, .int 0, .int 0, .null, .null, .null, .null, .null, .null, .null, .null, .null, .int 0, .long 0]))) (.inl (8, (112, .inl (fun _ => 0)))) 112) 204 (.inr (7, [.int 0, .ref 205, .ref 206, .int 0, .ref 207, .int 0, .null, .int 0, .int 0, .int 0, .int 0, .int 0, .null, .null, .null, .null, .null, .null, .null, .null, .null, .int 0, .long 0]))) (.inl (8, (60, .inl (fun _ => 0)))) 60) 204 (.inr (7, [.int 0, .ref 205, .ref 206, .int 0, .ref 207, .int 0, .ref 208, .int 0, .int 0, .int 0, .int 0, .int 0, .null, .null, .null, .null, .null, .null, .null, .null, .null, .int 0, .long 0]))) (.inl (8, (82, .inl (fun _ => 0)))) 82) 204 (.inr (7, [.int 0, .ref 205, .ref 206, .int 0, .ref 207, .int 0, .ref 208, .int 0, .int 0, .int 0, .int 0, .int 0, .ref 209, .null, .null, .null, .null, .null, .null, .null, .null, .int 0, .long 0]))) (.inl (8, (1215, .inl (fun _ => 0)))) 1215) 204 (.inr (7, [.int 0, .ref 205, .ref 206, .int 0, .ref 207, .int 0, .ref 208, .int 0, .int 0, .int 0, .int 0, .int 0, .ref 209, .ref 210, .null, .null, .null, .null, .null, .null, .null, .int 0, .long 0])))) rfl rfl rfl ?_
  refine a_aload_n C dX7_init_54 rfl rfl ?_
  refine a_bipush (v := nI 81) C dX7_init_55 (by decide) ?_
  refine a_newaI C dX7_init_57 (N := 81) rfl (by decide) (show 211 < 1000 by decide) rfl ⟨show 211 + 1 ≤ 205 + 13 by decide, show us + 112 + 672 + 112 + 60 + 82 + 1215 + 81 ≤ us + 2820 by omega⟩ ?_
  refine a_eq (st' := [.ref 211, .ref 204]) rfl rfl rfl ?_
  refine a_putF C fX7_28 hin (fun _ _ _ h => by cases h; rfl) dX7_init_59 (show 204 < 212 by decide) (by decide) rfl rfl rfl (by decide) ?_
  refine a_eq (M' := (aPut (aNew (aPut (aNew (aPut (aNew (aPut (aNew (aPut (aNew (aPut (aNew (aPut (aNew (205, 0, us, f) (.inl (8, (112, .inl (fun _ => 0)))) 112) 204 (.inr (7, [.int 0, .ref 205, .null, .int 0, .null, .int 0, .null, .int 0, .int 0, .int 0, .int 0, .int 0, .null, .null, .null, .null, .null, .null, .null, .null, .null, .int 0, .long 0]))) (.inl (8, (672, .inl (fun _ => 0)))) 672) 204 (.inr (7, [.int 0, .ref 205, .ref 206, .int 0, .null, .int 0, .null, .int 0, .int 0, .int 0, .int 0, .int 0, .null, .null, .null, .null, .null, .null, .null, .null, .null, .int 0, .long 0]))) (.inl (8, (112, .inl (fun _ => 0)))) 112) 204 (.inr (7, [.int 0, .ref 205, .ref 206, .int 0, .ref 207, .int 0, .null, .int 0, .int 0, .int 0, .int 0, .int 0, .null, .null, .null, .null, .null, .null, .null, .null, .null, .int 0, .long 0]))) (.inl (8, (60, .inl (fun _ => 0)))) 60) 204 (.inr (7, [.int 0, .ref 205, .ref 206, .int 0, .ref 207, .int 0, .ref 208, .int 0, .int 0, .int 0, .int 0, .int 0, .null, .null, .null, .null, .null, .null, .null, .null, .null, .int 0, .long 0]))) (.inl (8, (82, .inl (fun _ => 0)))) 82) 204 (.inr (7, [.int 0, .ref 205, .ref 206, .int 0, .ref 207, .int 0, .ref 208, .int 0, .int 0, .int 0, .int 0, .int 0, .ref 209, .null, .null, .null, .null, .null, .null, .null, .null, .int 0, .long 0]))) (.inl (8, (1215, .inl (fun _ => 0)))) 1215) 204 (.inr (7, [.int 0, .ref 205, .ref 206, .int 0, .ref 207, .int 0, .ref 208, .int 0, .int 0, .int 0, .int 0, .int 0, .ref 209, .ref 210, .null, .null, .null, .null, .null, .null, .null, .int 0, .long 0]))) (.inl (8, (81, .inl (fun _ => 0)))) 81) 204 (.inr (7, [.int 0, .ref 205, .ref 206, .int 0, .ref 207, .int 0, .ref 208, .int 0, .int 0, .int 0, .int 0, .int 0, .ref 209, .ref 210, .ref 211, .null, .null, .null, .null, .null, .null, .int 0, .long 0])))) rfl rfl rfl ?_
  refine a_aload_n C dX7_init_62 rfl rfl ?_
  refine a_bipush (v := nI 81) C dX7_init_63 (by decide) ?_
  refine a_newaI C dX7_init_65 (N := 81) rfl (by decide) (show 212 < 1000 by decide) rfl ⟨show 212 + 1 ≤ 205 + 13 by decide, show us + 112 + 672 + 112 + 60 + 82 + 1215 + 81 + 81 ≤ us + 2820 by omega⟩ ?_
  refine a_eq (st' := [.ref 212, .ref 204]) rfl rfl rfl ?_
  refine a_putF C fX7_31 hin (fun _ _ _ h => by cases h; rfl) dX7_init_67 (show 204 < 213 by decide) (by decide) rfl rfl rfl (by decide) ?_
  refine a_eq (M' := (aPut (aNew (aPut (aNew (aPut (aNew (aPut (aNew (aPut (aNew (aPut (aNew (aPut (aNew (aPut (aNew (205, 0, us, f) (.inl (8, (112, .inl (fun _ => 0)))) 112) 204 (.inr (7, [.int 0, .ref 205, .null, .int 0, .null, .int 0, .null, .int 0, .int 0, .int 0, .int 0, .int 0, .null, .null, .null, .null, .null, .null, .null, .null, .null, .int 0, .long 0]))) (.inl (8, (672, .inl (fun _ => 0)))) 672) 204 (.inr (7, [.int 0, .ref 205, .ref 206, .int 0, .null, .int 0, .null, .int 0, .int 0, .int 0, .int 0, .int 0, .null, .null, .null, .null, .null, .null, .null, .null, .null, .int 0, .long 0]))) (.inl (8, (112, .inl (fun _ => 0)))) 112) 204 (.inr (7, [.int 0, .ref 205, .ref 206, .int 0, .ref 207, .int 0, .null, .int 0, .int 0, .int 0, .int 0, .int 0, .null, .null, .null, .null, .null, .null, .null, .null, .null, .int 0, .long 0]))) (.inl (8, (60, .inl (fun _ => 0)))) 60) 204 (.inr (7, [.int 0, .ref 205, .ref 206, .int 0, .ref 207, .int 0, .ref 208, .int 0, .int 0, .int 0, .int 0, .int 0, .null, .null, .null, .null, .null, .null, .null, .null, .null, .int 0, .long 0]))) (.inl (8, (82, .inl (fun _ => 0)))) 82) 204 (.inr (7, [.int 0, .ref 205, .ref 206, .int 0, .ref 207, .int 0, .ref 208, .int 0, .int 0, .int 0, .int 0, .int 0, .ref 209, .null, .null, .null, .null, .null, .null, .null, .null, .int 0, .long 0]))) (.inl (8, (1215, .inl (fun _ => 0)))) 1215) 204 (.inr (7, [.int 0, .ref 205, .ref 206, .int 0, .ref 207, .int 0, .ref 208, .int 0, .int 0, .int 0, .int 0, .int 0, .ref 209, .ref 210, .null, .null, .null, .null, .null, .null, .null, .int 0, .long 0]))) (.inl (8, (81, .inl (fun _ => 0)))) 81) 204 (.inr (7, [.int 0, .ref 205, .ref 206, .int 0, .ref 207, .int 0, .ref 208, .int 0, .int 0, .int 0, .int 0, .int 0, .ref 209, .ref 210, .ref 211, .null, .null, .null, .null, .null, .null, .int 0, .long 0]))) (.inl (8, (81, .inl (fun _ => 0)))) 81) 204 (.inr (7, [.int 0, .ref 205, .ref 206, .int 0, .ref 207, .int 0, .ref 208, .int 0, .int 0, .int 0, .int 0, .int 0, .ref 209, .ref 210, .ref 211, .ref 212, .null, .null, .null, .null, .null, .int 0, .long 0])))) rfl rfl rfl ?_
  refine a_aload_n C dX7_init_70 rfl rfl ?_
  refine a_bipush (v := nI 81) C dX7_init_71 (by decide) ?_
  refine a_newaI C dX7_init_73 (N := 81) rfl (by decide) (show 213 < 1000 by decide) rfl ⟨show 213 + 1 ≤ 205 + 13 by decide, show us + 112 + 672 + 112 + 60 + 82 + 1215 + 81 + 81 + 81 ≤ us + 2820 by omega⟩ ?_
  refine a_eq (st' := [.ref 213, .ref 204]) rfl rfl rfl ?_
  refine a_putF C fX7_34 hin (fun _ _ _ h => by cases h; rfl) dX7_init_75 (show 204 < 214 by decide) (by decide) rfl rfl rfl (by decide) ?_
  refine a_eq (M' := (aPut (aNew (aPut (aNew (aPut (aNew (aPut (aNew (aPut (aNew (aPut (aNew (aPut (aNew (aPut (aNew (aPut (aNew (205, 0, us, f) (.inl (8, (112, .inl (fun _ => 0)))) 112) 204 (.inr (7, [.int 0, .ref 205, .null, .int 0, .null, .int 0, .null, .int 0, .int 0, .int 0, .int 0, .int 0, .null, .null, .null, .null, .null, .null, .null, .null, .null, .int 0, .long 0]))) (.inl (8, (672, .inl (fun _ => 0)))) 672) 204 (.inr (7, [.int 0, .ref 205, .ref 206, .int 0, .null, .int 0, .null, .int 0, .int 0, .int 0, .int 0, .int 0, .null, .null, .null, .null, .null, .null, .null, .null, .null, .int 0, .long 0]))) (.inl (8, (112, .inl (fun _ => 0)))) 112) 204 (.inr (7, [.int 0, .ref 205, .ref 206, .int 0, .ref 207, .int 0, .null, .int 0, .int 0, .int 0, .int 0, .int 0, .null, .null, .null, .null, .null, .null, .null, .null, .null, .int 0, .long 0]))) (.inl (8, (60, .inl (fun _ => 0)))) 60) 204 (.inr (7, [.int 0, .ref 205, .ref 206, .int 0, .ref 207, .int 0, .ref 208, .int 0, .int 0, .int 0, .int 0, .int 0, .null, .null, .null, .null, .null, .null, .null, .null, .null, .int 0, .long 0]))) (.inl (8, (82, .inl (fun _ => 0)))) 82) 204 (.inr (7, [.int 0, .ref 205, .ref 206, .int 0, .ref 207, .int 0, .ref 208, .int 0, .int 0, .int 0, .int 0, .int 0, .ref 209, .null, .null, .null, .null, .null, .null, .null, .null, .int 0, .long 0]))) (.inl (8, (1215, .inl (fun _ => 0)))) 1215) 204 (.inr (7, [.int 0, .ref 205, .ref 206, .int 0, .ref 207, .int 0, .ref 208, .int 0, .int 0, .int 0, .int 0, .int 0, .ref 209, .ref 210, .null, .null, .null, .null, .null, .null, .null, .int 0, .long 0]))) (.inl (8, (81, .inl (fun _ => 0)))) 81) 204 (.inr (7, [.int 0, .ref 205, .ref 206, .int 0, .ref 207, .int 0, .ref 208, .int 0, .int 0, .int 0, .int 0, .int 0, .ref 209, .ref 210, .ref 211, .null, .null, .null, .null, .null, .null, .int 0, .long 0]))) (.inl (8, (81, .inl (fun _ => 0)))) 81) 204 (.inr (7, [.int 0, .ref 205, .ref 206, .int 0, .ref 207, .int 0, .ref 208, .int 0, .int 0, .int 0, .int 0, .int 0, .ref 209, .ref 210, .ref 211, .ref 212, .null, .null, .null, .null, .null, .int 0, .long 0]))) (.inl (8, (81, .inl (fun _ => 0)))) 81) 204 (.inr (7, [.int 0, .ref 205, .ref 206, .int 0, .ref 207, .int 0, .ref 208, .int 0, .int 0, .int 0, .int 0, .int 0, .ref 209, .ref 210, .ref 211, .ref 212, .ref 213, .null, .null, .null, .null, .int 0, .long 0])))) rfl rfl rfl ?_
  refine a_aload_n C dX7_init_78 rfl rfl ?_
  refine a_bipush (v := nI 81) C dX7_init_79 (by decide) ?_
  refine a_newaI C dX7_init_81 (N := 81) rfl (by decide) (show 214 < 1000 by decide) rfl ⟨show 214 + 1 ≤ 205 + 13 by decide, show us + 112 + 672 + 112 + 60 + 82 + 1215 + 81 + 81 + 81 + 81 ≤ us + 2820 by omega⟩ ?_
  refine a_eq (st' := [.ref 214, .ref 204]) rfl rfl rfl ?_
  refine a_putF C fX7_37 hin (fun _ _ _ h => by cases h; rfl) dX7_init_83 (show 204 < 215 by decide) (by decide) rfl rfl rfl (by decide) ?_
  refine a_eq (M' := (aPut (aNew (aPut (aNew (aPut (aNew (aPut (aNew (aPut (aNew (aPut (aNew (aPut (aNew (aPut (aNew (aPut (aNew (aPut (aNew (205, 0, us, f) (.inl (8, (112, .inl (fun _ => 0)))) 112) 204 (.inr (7, [.int 0, .ref 205, .null, .int 0, .null, .int 0, .null, .int 0, .int 0, .int 0, .int 0, .int 0, .null, .null, .null, .null, .null, .null, .null, .null, .null, .int 0, .long 0]))) (.inl (8, (672, .inl (fun _ => 0)))) 672) 204 (.inr (7, [.int 0, .ref 205, .ref 206, .int 0, .null, .int 0, .null, .int 0, .int 0, .int 0, .int 0, .int 0, .null, .null, .null, .null, .null, .null, .null, .null, .null, .int 0, .long 0]))) (.inl (8, (112, .inl (fun _ => 0)))) 112) 204 (.inr (7, [.int 0, .ref 205, .ref 206, .int 0, .ref 207, .int 0, .null, .int 0, .int 0, .int 0, .int 0, .int 0, .null, .null, .null, .null, .null, .null, .null, .null, .null, .int 0, .long 0]))) (.inl (8, (60, .inl (fun _ => 0)))) 60) 204 (.inr (7, [.int 0, .ref 205, .ref 206, .int 0, .ref 207, .int 0, .ref 208, .int 0, .int 0, .int 0, .int 0, .int 0, .null, .null, .null, .null, .null, .null, .null, .null, .null, .int 0, .long 0]))) (.inl (8, (82, .inl (fun _ => 0)))) 82) 204 (.inr (7, [.int 0, .ref 205, .ref 206, .int 0, .ref 207, .int 0, .ref 208, .int 0, .int 0, .int 0, .int 0, .int 0, .ref 209, .null, .null, .null, .null, .null, .null, .null, .null, .int 0, .long 0]))) (.inl (8, (1215, .inl (fun _ => 0)))) 1215) 204 (.inr (7, [.int 0, .ref 205, .ref 206, .int 0, .ref 207, .int 0, .ref 208, .int 0, .int 0, .int 0, .int 0, .int 0, .ref 209, .ref 210, .null, .null, .null, .null, .null, .null, .null, .int 0, .long 0]))) (.inl (8, (81, .inl (fun _ => 0)))) 81) 204 (.inr (7, [.int 0, .ref 205, .ref 206, .int 0, .ref 207, .int 0, .ref 208, .int 0, .int 0, .int 0, .int 0, .int 0, .ref 209, .ref 210, .ref 211, .null, .null, .null, .null, .null, .null, .int 0, .long 0]))) (.inl (8, (81, .inl (fun _ => 0)))) 81) 204 (.inr (7, [.int 0, .ref 205, .ref 206, .int 0, .ref 207, .int 0, .ref 208, .int 0, .int 0, .int 0, .int 0, .int 0, .ref 209, .ref 210, .ref 211, .ref 212, .null, .null, .null, .null, .null, .int 0, .long 0]))) (.inl (8, (81, .inl (fun _ => 0)))) 81) 204 (.inr (7, [.int 0, .ref 205, .ref 206, .int 0, .ref 207, .int 0, .ref 208, .int 0, .int 0, .int 0, .int 0, .int 0, .ref 209, .ref 210, .ref 211, .ref 212, .ref 213, .null, .null, .null, .null, .int 0, .long 0]))) (.inl (8, (81, .inl (fun _ => 0)))) 81) 204 (.inr (7, [.int 0, .ref 205, .ref 206, .int 0, .ref 207, .int 0, .ref 208, .int 0, .int 0, .int 0, .int 0, .int 0, .ref 209, .ref 210, .ref 211, .ref 212, .ref 213, .ref 214, .null, .null, .null, .int 0, .long 0])))) rfl rfl rfl ?_
  refine a_aload_n C dX7_init_86 rfl rfl ?_
  refine a_bipush (v := nI 81) C dX7_init_87 (by decide) ?_
  refine a_newaI C dX7_init_89 (N := 81) rfl (by decide) (show 215 < 1000 by decide) rfl ⟨show 215 + 1 ≤ 205 + 13 by decide, show us + 112 + 672 + 112 + 60 + 82 + 1215 + 81 + 81 + 81 + 81 + 81 ≤ us + 2820 by omega⟩ ?_
  refine a_eq (st' := [.ref 215, .ref 204]) rfl rfl rfl ?_
  refine a_putF C fX7_40 hin (fun _ _ _ h => by cases h; rfl) dX7_init_91 (show 204 < 216 by decide) (by decide) rfl rfl rfl (by decide) ?_
  refine a_eq (M' := (aPut (aNew (aPut (aNew (aPut (aNew (aPut (aNew (aPut (aNew (aPut (aNew (aPut (aNew (aPut (aNew (aPut (aNew (aPut (aNew (aPut (aNew (205, 0, us, f) (.inl (8, (112, .inl (fun _ => 0)))) 112) 204 (.inr (7, [.int 0, .ref 205, .null, .int 0, .null, .int 0, .null, .int 0, .int 0, .int 0, .int 0, .int 0, .null, .null, .null, .null, .null, .null, .null, .null, .null, .int 0, .long 0]))) (.inl (8, (672, .inl (fun _ => 0)))) 672) 204 (.inr (7, [.int 0, .ref 205, .ref 206, .int 0, .null, .int 0, .null, .int 0, .int 0, .int 0, .int 0, .int 0, .null, .null, .null, .null, .null, .null, .null, .null, .null, .int 0, .long 0]))) (.inl (8, (112, .inl (fun _ => 0)))) 112) 204 (.inr (7, [.int 0, .ref 205, .ref 206, .int 0, .ref 207, .int 0, .null, .int 0, .int 0, .int 0, .int 0, .int 0, .null, .null, .null, .null, .null, .null, .null, .null, .null, .int 0, .long 0]))) (.inl (8, (60, .inl (fun _ => 0)))) 60) 204 (.inr (7, [.int 0, .ref 205, .ref 206, .int 0, .ref 207, .int 0, .ref 208, .int 0, .int 0, .int 0, .int 0, .int 0, .null, .null, .null, .null, .null, .null, .null, .null, .null, .int 0, .long 0]))) (.inl (8, (82, .inl (fun _ => 0)))) 82) 204 (.inr (7, [.int 0, .ref 205, .ref 206, .int 0, .ref 207, .int 0, .ref 208, .int 0, .int 0, .int 0, .int 0, .int 0, .ref 209, .null, .null, .null, .null, .null, .null, .null, .null, .int 0, .long 0]))) (.inl (8, (1215, .inl (fun _ => 0)))) 1215) 204 (.inr (7, [.int 0, .ref 205, .ref 206, .int 0, .ref 207, .int 0, .ref 208, .int 0, .int 0, .int 0, .int 0, .int 0, .ref 209, .ref 210, .null, .null, .null, .null, .null, .null, .null, .int 0, .long 0]))) (.inl (8, (81, .inl (fun _ => 0)))) 81) 204 (.inr (7, [.int 0, .ref 205, .ref 206, .int 0, .ref 207, .int 0, .ref 208, .int 0, .int 0, .int 0, .int 0, .int 0, .ref 209, .ref 210, .ref 211, .null, .null, .null, .null, .null, .null, .int 0, .long 0]))) (.inl (8, (81, .inl (fun _ => 0)))) 81) 204 (.inr (7, [.int 0, .ref 205, .ref 206, .int 0, .ref 207, .int 0, .ref 208, .int 0, .int 0, .int 0, .int 0, .int 0, .ref 209, .ref 210, .ref 211, .ref 212, .null, .null, .null, .null, .null, .int 0, .long 0]))) (.inl (8, (81, .inl (fun _ => 0)))) 81) 204 (.inr (7, [.int 0, .ref 205, .ref 206, .int 0, .ref 207, .int 0, .ref 208, .int 0, .int 0, .int 0, .int 0, .int 0, .ref 209, .ref 210, .ref 211, .ref 212, .ref 213, .null, .null, .null, .null, .int 0, .long 0]))) (.inl (8, (81, .inl (fun _ => 0)))) 81) 204 (.inr (7, [.int 0, .ref 205, .ref 206, .int 0, .ref 207, .int 0, .ref 208, .int 0, .int 0, .int 0, .int 0, .int 0, .ref 209, .ref 210, .ref 211, .ref 212, .ref 213, .ref 214, .null, .null, .null, .int 0, .long 0]))) (.inl (8, (81, .inl (fun _ => 0)))) 81) 204 (.inr (7, [.int 0, .ref 205, .ref 206, .int 0, .ref 207, .int 0, .ref 208, .int 0, .int 0, .int 0, .int 0, .int 0, .ref 209, .ref 210, .ref 211, .ref 212, .ref 213, .ref 214, .ref 215, .null, .null, .int 0, .long 0])))) rfl rfl rfl ?_
  refine a_aload_n C dX7_init_94 rfl rfl ?_
  refine a_bipush (v := nI 81) C dX7_init_95 (by decide) ?_
  refine a_newaI C dX7_init_97 (N := 81) rfl (by decide) (show 216 < 1000 by decide) rfl ⟨show 216 + 1 ≤ 205 + 13 by decide, show us + 112 + 672 + 112 + 60 + 82 + 1215 + 81 + 81 + 81 + 81 + 81 + 81 ≤ us + 2820 by omega⟩ ?_
  refine a_eq (st' := [.ref 216, .ref 204]) rfl rfl rfl ?_
  refine a_putF C fX7_43 hin (fun _ _ _ h => by cases h; rfl) dX7_init_99 (show 204 < 217 by decide) (by decide) rfl rfl rfl (by decide) ?_
  refine a_eq (M' := (aPut (aNew (aPut (aNew (aPut (aNew (aPut (aNew (aPut (aNew (aPut (aNew (aPut (aNew (aPut (aNew (aPut (aNew (aPut (aNew (aPut (aNew (aPut (aNew (205, 0, us, f) (.inl (8, (112, .inl (fun _ => 0)))) 112) 204 (.inr (7, [.int 0, .ref 205, .null, .int 0, .null, .int 0, .null, .int 0, .int 0, .int 0, .int 0, .int 0, .null, .null, .null, .null, .null, .null, .null, .null, .null, .int 0, .long 0]))) (.inl (8, (672, .inl (fun _ => 0)))) 672) 204 (.inr (7, [.int 0, .ref 205, .ref 206, .int 0, .null, .int 0, .null, .int 0, .int 0, .int 0, .int 0, .int 0, .null, .null, .null, .null, .null, .null, .null, .null, .null, .int 0, .long 0]))) (.inl (8, (112, .inl (fun _ => 0)))) 112) 204 (.inr (7, [.int 0, .ref 205, .ref 206, .int 0, .ref 207, .int 0, .null, .int 0, .int 0, .int 0, .int 0, .int 0, .null, .null, .null, .null, .null, .null, .null, .null, .null, .int 0, .long 0]))) (.inl (8, (60, .inl (fun _ => 0)))) 60) 204 (.inr (7, [.int 0, .ref 205, .ref 206, .int 0, .ref 207, .int 0, .ref 208, .int 0, .int 0, .int 0, .int 0, .int 0, .null, .null, .null, .null, .null, .null, .null, .null, .null, .int 0, .long 0]))) (.inl (8, (82, .inl (fun _ => 0)))) 82) 204 (.inr (7, [.int 0, .ref 205, .ref 206, .int 0, .ref 207, .int 0, .ref 208, .int 0, .int 0, .int 0, .int 0, .int 0, .ref 209, .null, .null, .null, .null, .null, .null, .null, .null, .int 0, .long 0]))) (.inl (8, (1215, .inl (fun _ => 0)))) 1215) 204 (.inr (7, [.int 0, .ref 205, .ref 206, .int 0, .ref 207, .int 0, .ref 208, .int 0, .int 0, .int 0, .int 0, .int 0, .ref 209, .ref 210, .null, .null, .null, .null, .null, .null, .null, .int 0, .long 0]))) (.inl (8, (81, .inl (fun _ => 0)))) 81) 204 (.inr (7, [.int 0, .ref 205, .ref 206, .int 0, .ref 207, .int 0, .ref 208, .int 0, .int 0, .int 0, .int 0, .int 0, .ref 209, .ref 210, .ref 211, .null, .null, .null, .null, .null, .null, .int 0, .long 0]))) (.inl (8, (81, .inl (fun _ => 0)))) 81) 204 (.inr (7, [.int 0, .ref 205, .ref 206, .int 0, .ref 207, .int 0, .ref 208, .int 0, .int 0, .int 0, .int 0, .int 0, .ref 209, .ref 210, .ref 211, .ref 212, .null, .null, .null, .null, .null, .int 0, .long 0]))) (.inl (8, (81, .inl (fun _ => 0)))) 81) 204 (.inr (7, [.int 0, .ref 205, .ref 206, .int 0, .ref 207, .int 0, .ref 208, .int 0, .int 0, .int 0, .int 0, .int 0, .ref 209, .ref 210, .ref 211, .ref 212, .ref 213, .null, .null, .null, .null, .int 0, .long 0]))) (.inl (8, (81, .inl (fun _ => 0)))) 81) 204 (.inr (7, [.int 0, .ref 205, .ref 206, .int 0, .ref 207, .int 0, .ref 208, .int 0, .int 0, .int 0, .int 0, .int 0, .ref 209, .ref 210, .ref 211, .ref 212, .ref 213, .ref 214, .null, .null, .null, .int 0, .long 0]))) (.inl (8, (81, .inl (fun _ => 0)))) 81) 204 (.inr (7, [.int 0, .ref 205, .ref 206, .int 0, .ref 207, .int 0, .ref 208, .int 0, .int 0, .int 0, .int 0, .int 0, .ref 209, .ref 210, .ref 211, .ref 212, .ref 213, .ref 214, .ref 215, .null, .null, .int 0, .long 0]))) (.inl (8, (81, .inl (fun _ => 0)))) 81) 204 (.inr (7, [.int 0, .ref 205, .ref 206, .int 0, .ref 207, .int 0, .ref 208, .int 0, .int 0, .int 0, .int 0, .int 0, .ref 209, .ref 210, .ref 211, .ref 212, .ref 213, .ref 214, .ref 215, .ref 216, .null, .int 0, .long 0])))) rfl rfl rfl ?_
  refine a_aload_n C dX7_init_102 rfl rfl ?_
  refine a_bipush (v := nI 81) C dX7_init_103 (by decide) ?_
  refine a_newaI C dX7_init_105 (N := 81) rfl (by decide) (show 217 < 1000 by decide) rfl ⟨show 217 + 1 ≤ 205 + 13 by decide, show us + 112 + 672 + 112 + 60 + 82 + 1215 + 81 + 81 + 81 + 81 + 81 + 81 + 81 ≤ us + 2820 by omega⟩ ?_
  refine a_eq (st' := [.ref 217, .ref 204]) rfl rfl rfl ?_
  refine a_putF C fX7_46 hin (fun _ _ _ h => by cases h; rfl) dX7_init_107 (show 204 < 218 by decide) (by decide) rfl rfl rfl (by decide) ?_
  refine a_eq (M' := (aPut (aNew (aPut (aNew (aPut (aNew (aPut (aNew (aPut (aNew (aPut (aNew (aPut (aNew (aPut (aNew (aPut (aNew (aPut (aNew (aPut (aNew (aPut (aNew (aPut (aNew (205, 0, us, f) (.inl (8, (112, .inl (fun _ => 0)))) 112) 204 (.inr (7, [.int 0, .ref 205, .null, .int 0, .null, .int 0, .null, .int 0, .int 0, .int 0, .int 0, .int 0, .null, .null, .null, .null, .null, .null, .null, .null, .null, .int 0, .long 0]))) (.inl (8, (672, .inl (fun _ => 0)))) 672) 204 (.inr (7, [.int 0, .ref 205, .ref 206, .int 0, .null, .int 0, .null, .int 0, .int 0, .int 0, .int 0, .int 0, .null, .null, .null, .null, .null, .null, .null, .null, .null, .int 0, .long 0]))) (.inl (8, (112, .inl (fun _ => 0)))) 112) 204 (.inr (7, [.int 0, .ref 205, .ref 206, .int 0, .ref 207, .int 0, .null, .int 0, .int 0, .int 0, .int 0, .int 0, .null, .null, .null, .null, .null, .null, .null, .null, .null, .int 0, .long 0]))) (.inl (8, (60, .inl (fun _ => 0)))) 60) 204 (.inr (7, [.int 0, .ref 205, .ref 206, .int 0, .ref 207, .int 0, .ref 208, .int 0, .int 0, .int 0, .int 0, .int 0, .null, .null, .null, .null, .null, .null, .null, .null, .null, .int 0, .long 0]))) (.inl (8, (82, .inl (fun _ => 0)))) 82) 204 (.inr (7, [.int 0, .ref 205, .ref 206, .int 0, .ref 207, .int 0, .ref 208, .int 0, .int 0, .int 0, .int 0, .int 0, .ref 209, .null, .null, .null, .null, .null, .null, .null, .null, .int 0, .long 0]))) (.inl (8, (1215, .inl (fun _ => 0)))) 1215) 204 (.inr (7, [.int 0, .ref 205, .ref 206, .int 0, .ref 207, .int 0, .ref 208, .int 0, .int 0, .int 0, .int 0, .int 0, .ref 209, .ref 210, .null, .null, .null, .null, .null, .null, .null, .int 0, .long 0]))) (.inl (8, (81, .inl (fun _ => 0)))) 81) 204 (.inr (7, [.int 0, .ref 205, .ref 206, .int 0, .ref 207, .int 0, .ref 208, .int 0, .int 0, .int 0, .int 0, .int 0, .ref 209, .ref 210, .ref 211, .null, .null, .null, .null, .null, .null, .int 0, .long 0]))) (.inl (8, (81, .inl (fun _ => 0)))) 81) 204 (.inr (7, [.int 0, .ref 205, .ref 206, .int 0, .ref 207, .int 0, .ref 208, .int 0, .int 0, .int 0, .int 0, .int 0, .ref 209, .ref 210, .ref 211, .ref 212, .null, .null, .null, .null, .null, .int 0, .long 0]))) (.inl (8, (81, .inl (fun _ => 0)))) 81) 204 (.inr (7, [.int 0, .ref 205, .ref 206, .int 0, .ref 207, .int 0, .ref 208, .int 0, .int 0, .int 0, .int 0, .int 0, .ref 209, .ref 210, .ref 211, .ref 212, .ref 213, .null, .null, .null, .null, .int 0, .long 0]))) (.inl (8, (81, .inl (fun _ => 0)))) 81) 204 (.inr (7, [.int 0, .ref 205, .ref 206, .int 0, .ref 207, .int 0, .ref 208, .int 0, .int 0, .int 0, .int 0, .int 0, .ref 209, .ref 210, .ref 211, .ref 212, .ref 213, .ref 214, .null, .null, .null, .int 0, .long 0]))) (.inl (8, (81, .inl (fun _ => 0)))) 81) 204 (.inr (7, [.int 0, .ref 205, .ref 206, .int 0, .ref 207, .int 0, .ref 208, .int 0, .int 0, .int 0, .int 0, .int 0, .ref 209, .ref 210, .ref 211, .ref 212, .ref 213, .ref 214, .ref 215, .null, .null, .int 0, .long 0]))) (.inl (8, (81, .inl (fun _ => 0)))) 81) 204 (.inr (7, [.int 0, .ref 205, .ref 206, .int 0, .ref 207, .int 0, .ref 208, .int 0, .int 0, .int 0, .int 0, .int 0, .ref 209, .ref 210, .ref 211, .ref 212, .ref 213, .ref 214, .ref 215, .ref 216, .null, .int 0, .long 0]))) (.inl (8, (81, .inl (fun _ => 0)))) 81) 204 (.inr (7, [.int 0, .ref 205, .ref 206, .int 0, .ref 207, .int 0, .ref 208, .int 0, .int 0, .int 0, .int 0, .int 0, .ref 209, .ref 210, .ref 211, .ref 212, .ref 213, .ref 214, .ref 215, .ref 216, .ref 217, .int 0, .long 0])))) rfl rfl rfl ?_
  have zM9 : (aPut (aNew (aPut (aNew (aPut (aNew (aPut (aNew (aPut (aNew (aPut (aNew (aPut (aNew (aPut (aNew (aPut (aNew (aPut (aNew (aPut (aNew (aPut (aNew (aPut (aNew (205, 0, us, f) (.inl (8, (112, .inl (fun _ => 0)))) 112) 204 (.inr (7, [.int 0, .ref 205, .null, .int 0, .null, .int 0, .null, .int 0, .int 0, .int 0, .int 0, .int 0, .null, .null, .null, .null, .null, .null, .null, .null, .null, .int 0, .long 0]))) (.inl (8, (672, .inl (fun _ => 0)))) 672) 204 (.inr (7, [.int 0, .ref 205, .ref 206, .int 0, .null, .int 0, .null, .int 0, .int 0, .int 0, .int 0, .int 0, .null, .null, .null, .null, .null, .null, .null, .null, .null, .int 0, .long 0]))) (.inl (8, (112, .inl (fun _ => 0)))) 112) 204 (.inr (7, [.int 0, .ref 205, .ref 206, .int 0, .ref 207, .int 0, .null, .int 0, .int 0, .int 0, .int 0, .int 0, .null, .null, .null, .null, .null, .null, .null, .null, .null, .int 0, .long 0]))) (.inl (8, (60, .inl (fun _ => 0)))) 60) 204 (.inr (7, [.int 0, .ref 205, .ref 206, .int 0, .ref 207, .int 0, .ref 208, .int 0, .int 0, .int 0, .int 0, .int 0, .null, .null, .null, .null, .null, .null, .null, .null, .null, .int 0, .long 0]))) (.inl (8, (82, .inl (fun _ => 0)))) 82) 204 (.inr (7, [.int 0, .ref 205, .ref 206, .int 0, .ref 207, .int 0, .ref 208, .int 0, .int 0, .int 0, .int 0, .int 0, .ref 209, .null, .null, .null, .null, .null, .null, .null, .null, .int 0, .long 0]))) (.inl (8, (1215, .inl (fun _ => 0)))) 1215) 204 (.inr (7, [.int 0, .ref 205, .ref 206, .int 0, .ref 207, .int 0, .ref 208, .int 0, .int 0, .int 0, .int 0, .int 0, .ref 209, .ref 210, .null, .null, .null, .null, .null, .null, .null, .int 0, .long 0]))) (.inl (8, (81, .inl (fun _ => 0)))) 81) 204 (.inr (7, [.int 0, .ref 205, .ref 206, .int 0, .ref 207, .int 0, .ref 208, .int 0, .int 0, .int 0, .int 0, .int 0, .ref 209, .ref 210, .ref 211, .null, .null, .null, .null, .null, .null, .int 0, .long 0]))) (.inl (8, (81, .inl (fun _ => 0)))) 81) 204 (.inr (7, [.int 0, .ref 205, .ref 206, .int 0, .ref 207, .int 0, .ref 208, .int 0, .int 0, .int 0, .int 0, .int 0, .ref 209, .ref 210, .ref 211, .ref 212, .null, .null, .null, .null, .null, .int 0, .long 0]))) (.inl (8, (81, .inl (fun _ => 0)))) 81) 204 (.inr (7, [.int 0, .ref 205, .ref 206, .int 0, .ref 207, .int 0, .ref 208, .int 0, .int 0, .int 0, .int 0, .int 0, .ref 209, .ref 210, .ref 211, .ref 212, .ref 213, .null, .null, .null, .null, .int 0, .long 0]))) (.inl (8, (81, .inl (fun _ => 0)))) 81) 204 (.inr (7, [.int 0, .ref 205, .ref 206, .int 0, .ref 207, .int 0, .ref 208, .int 0, .int 0, .int 0, .int 0, .int 0, .ref 209, .ref 210, .ref 211, .ref 212, .ref 213, .ref 214, .null, .null, .null, .int 0, .long 0]))) (.inl (8, (81, .inl (fun _ => 0)))) 81) 204 (.inr (7, [.int 0, .ref 205, .ref 206, .int 0, .ref 207, .int 0, .ref 208, .int 0, .int 0, .int 0, .int 0, .int 0, .ref 209, .ref 210, .ref 211, .ref 212, .ref 213, .ref 214, .ref 215, .null, .null, .int 0, .long 0]))) (.inl (8, (81, .inl (fun _ => 0)))) 81) 204 (.inr (7, [.int 0, .ref 205, .ref 206, .int 0, .ref 207, .int 0, .ref 208, .int 0, .int 0, .int 0, .int 0, .int 0, .ref 209, .ref 210, .ref 211, .ref 212, .ref 213, .ref 214, .ref 215, .ref 216, .null, .int 0, .long 0]))) (.inl (8, (81, .inl (fun _ => 0)))) 81) 204 (.inr (7, [.int 0, .ref 205, .ref 206, .int 0, .ref 207, .int 0, .ref 208, .int 0, .int 0, .int 0, .int 0, .int 0, .ref 209, .ref 210, .ref 211, .ref 212, .ref 213, .ref 214, .ref 215, .ref 216, .ref 217, .int 0, .long 0]))) = MX7 us f (fun _ => 0) (fun _ => 0) (fun _ => 0) := by
    show ((218, 0, us + 112 + 672 + 112 + 60 + 82 + 1215 + 81 + 81 + 81 + 81 + 81 + 81 + 81, _) : aH) = (218, 0, us + 2820, _)
    rw [show us + 112 + 672 + 112 + 60 + 82 + 1215 + 81 + 81 + 81 + 81 + 81 + 81 + 81 = us + 2820 by omega]
    refine aH_ext (fun a => ?_)
    unfold hX7
    simp only [aUp, aPut, aNew]
    by_cases h204 : a = 204
    · subst h204; rfl
    by_cases h205 : a = 205
    · subst h205; rfl
    by_cases h206 : a = 206
    · subst h206; rfl
    by_cases h207 : a = 207
    · subst h207; rfl
    by_cases h208 : a = 208
    · subst h208; rfl
    by_cases h209 : a = 209
    · subst h209; rfl
    by_cases h210 : a = 210
    · subst h210; rfl
    by_cases h211 : a = 211
    · subst h211; rfl
    by_cases h212 : a = 212
    · subst h212; rfl
    by_cases h213 : a = 213
    · subst h213; rfl
    by_cases h214 : a = 214
    · subst h214; rfl
    by_cases h215 : a = 215
    · subst h215; rfl
    by_cases h216 : a = 216
    · subst h216; rfl
    by_cases h217 : a = 217
    · subst h217; rfl
    simp [h204, h205, h206, h207, h208, h209, h210, h211, h212, h213, h214, h215, h216, h217]
  refine a_eq rfl rfl zM9 ?_
  refine a_aload_n C dX7_init_110 rfl rfl ?_
  refine a_getfF C fX7_7 dX7_init_111 (by first | decide | omega | exact Nat.le_of_ble_eq_true rfl) (by first | decide | omega) rfl rfl ?_
  refine a_bipush (v := nI 6) C dX7_init_114 (by decide) ?_
  refine a_iconst (v := (-1)) C dX7_init_116 (by decide) ?_
  refine a_iast C dX7_init_117 (by first | decide | omega | exact Nat.le_of_ble_eq_true rfl) (by decide) rfl rfl (by first | decide | omega) (by decide) ?_
  refine a_eq rfl rfl MX7_s ?_
  refine a_aload_n C dX7_init_118 rfl rfl ?_
  refine a_getfF C fX7_7 dX7_init_119 (by first | decide | omega | exact Nat.le_of_ble_eq_true rfl) (by first | decide | omega) rfl rfl ?_
  refine a_bipush (v := nI 7) C dX7_init_122 (by decide) ?_
  refine a_iconst (v := (-1)) C dX7_init_124 (by decide) ?_
  refine a_iast C dX7_init_125 (by first | decide | omega | exact Nat.le_of_ble_eq_true rfl) (by decide) rfl rfl (by first | decide | omega) (by decide) ?_
  refine a_eq rfl rfl MX7_s ?_
  refine a_aload_n C dX7_init_126 rfl rfl ?_
  refine a_getfF C fX7_7 dX7_init_127 (by first | decide | omega | exact Nat.le_of_ble_eq_true rfl) (by first | decide | omega) rfl rfl ?_
  refine a_bipush (v := nI 8) C dX7_init_130 (by decide) ?_
  refine a_iconst (v := nI 2) C dX7_init_132 (by decide) ?_
  refine a_iast C dX7_init_133 (by first | decide | omega | exact Nat.le_of_ble_eq_true rfl) (by decide) rfl rfl (by first | decide | omega) (by decide) ?_
  refine a_eq rfl rfl MX7_s ?_
  refine a_aload_n C dX7_init_134 rfl rfl ?_
  refine a_getfF C fX7_7 dX7_init_135 (by first | decide | omega | exact Nat.le_of_ble_eq_true rfl) (by first | decide | omega) rfl rfl ?_
  refine a_bipush (v := nI 9) C dX7_init_138 (by decide) ?_
  refine a_iconst (v := nI 2) C dX7_init_140 (by decide) ?_
  refine a_iast C dX7_init_141 (by first | decide | omega | exact Nat.le_of_ble_eq_true rfl) (by decide) rfl rfl (by first | decide | omega) (by decide) ?_
  refine a_eq rfl rfl MX7_s ?_
  refine a_aload_n C dX7_init_142 rfl rfl ?_
  refine a_getfF C fX7_7 dX7_init_143 (by first | decide | omega | exact Nat.le_of_ble_eq_true rfl) (by first | decide | omega) rfl rfl ?_
  refine a_bipush (v := nI 10) C dX7_init_146 (by decide) ?_
  refine a_iconst (v := nI 4) C dX7_init_148 (by decide) ?_
  refine a_iast C dX7_init_149 (by first | decide | omega | exact Nat.le_of_ble_eq_true rfl) (by decide) rfl rfl (by first | decide | omega) (by decide) ?_
  refine a_eq rfl rfl MX7_s ?_
  refine a_aload_n C dX7_init_150 rfl rfl ?_
  refine a_getfF C fX7_7 dX7_init_151 (by first | decide | omega | exact Nat.le_of_ble_eq_true rfl) (by first | decide | omega) rfl rfl ?_
  refine a_bipush (v := nI 11) C dX7_init_154 (by decide) ?_
  refine a_iconst (v := nI 1) C dX7_init_156 (by decide) ?_
  refine a_iast C dX7_init_157 (by first | decide | omega | exact Nat.le_of_ble_eq_true rfl) (by decide) rfl rfl (by first | decide | omega) (by decide) ?_
  refine a_eq rfl rfl MX7_s ?_
  refine a_iconst (v := nI 0) C dX7_init_158 (by decide) ?_
  refine a_istore_n C dX7_init_159 rfl (by decide) ?_
  refine a_join (aLe_s ?_ (aLe_s ?_ (aLe_n (aLe_n aLe_nil)))) rfl rfl (ZL160 (6 + 1) 0 (by omega) (by omega))
  · first | with_reducible rfl | exact gl (by first | with_reducible rfl | (refine iF ?_; simp []; done) | (refine iT ?_; simp []; done) | (refine iB ?_; simp []; done) | (simp []; done) | (simp []; omega) | omega | rfl)
  · first | with_reducible rfl | exact gl (by first | with_reducible rfl | (refine iF ?_; simp []; done) | (refine iT ?_; simp []; done) | (refine iB ?_; simp []; done) | (simp []; done) | (simp []; omega) | omega | rfl)
end A46

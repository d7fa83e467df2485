section A72
/-! ### the world at the beginning of the runs -/
def st6 : Nat → Int32 := upd (upd (upd (upd (upd (upd (fun _ => 0) 6 (-1)) 7 (-1)) 8 (nI 2)) 9 (nI 2)) 10 (nI 4)) 11 (nI 1)
def stI : Nat → Nat → Int32
  | 0 => st6
  | k + 1 => upd (upd (stI k) (16 + 4 * k + 0) (-1)) (16 + 4 * k + 1) (-1)
def stR (r : Nat) : Nat → Int32 := if r = 0 then upd (upd (fun _ => 0) 10 (-1)) 11 (-1) else if r = 4 then set0 else if r < 17 then (fun _ => 0) else upd (upd (fun _ => 0) 0 (-1)) 1 (-1)
def w0 : Wd := (fun a => if a = 0 then upd (fun _ => 0) 7 5 else if a < 3 then (fun _ => 0) else if a < 26 then stR (a - 3) else if a < 49 then stR (a - 26) else if a < 66 then (fun _ => 0) else if a < 204 then stR ((a - 66) % 23) else (fun _ => 0), fun _ => 0)
theorem stH_sm {b x : Nat} (hx : x < 23) : aSm (stH b (b + x)) (fzS b x (stR x)) := by
  unfold stH hX5
  have hz : ¬ b + x < b := by omega
  rw [if_neg hz]
  by_cases h0 : x = 0
  · subst h0
    rw [if_pos (show b + 0 = b by omega)]
    exact Or.inl rfl
  · rw [if_neg (show ¬ b + x = b by omega)]
    by_cases h1 : x = 1
    · subst h1
      rw [if_pos rfl]
      exact aSm.r (fun j hj => if_pos hj)
    · rw [if_neg (show ¬ b + x = b + 1 by omega)]
      by_cases h2 : x = 2
      · subst h2
        rw [if_pos rfl]
        exact aSm.r (fun j hj => if_pos hj)
      · rw [if_neg (show ¬ b + x = b + 2 by omega)]
        by_cases h3 : x = 3
        · subst h3
          rw [if_pos rfl]
          exact Or.inl rfl
        · rw [if_neg (show ¬ b + x = b + 3 by omega)]
          by_cases h4 : x = 4
          · subst h4
            rw [if_pos rfl]
            exact Or.inl rfl
          · rw [if_neg (show ¬ b + x = b + 4 by omega)]
            by_cases h5 : x < 17
            · rw [if_pos (show b + x < b + 5 + 12 by omega)]
              unfold fzS stR
              rw [if_neg h0, if_neg h1, if_neg h2, if_neg h3, if_neg h4, if_pos h5, if_neg h0, if_neg h4, if_pos h5]
              exact Or.inl rfl
            · rw [if_neg (show ¬ b + x < b + 5 + 12 by omega), if_pos (show b + x < b + 5 + 12 + 6 by omega)]
              unfold fzS stR
              rw [if_neg h0, if_neg h1, if_neg h2, if_neg h3, if_neg h4, if_neg h5, if_neg h0, if_neg h4, if_neg h5]
              exact Or.inl rfl
/-- the heap behind the constructor and the law's three rows -/
def hL (F : Nat → aC) : Nat → aC := fun a => if a = 204 then .inl (8, (14, .inl (fun _ => 0))) else if a = 205 then .inl (8, (64, .inl (fun _ => 0))) else if a = 206 then .inl (8, (24, .inl (fun _ => 0))) else F a
theorem hL_lo {F : Nat → aC} {a : Nat} (h : a < 204) : hL F a = F a := by
  unfold hL
  rw [if_neg (by omega), if_neg (by omega), if_neg (by omega)]
theorem fz_now {w : Wd} {x : Nat} (h : x < 23) : fz w (3 + x) = fzS 3 x (w.1 (3 + x)) := by
  unfold fz fzc
  rw [if_neg (by omega), if_neg (by omega), if_neg (by omega), if_pos (by omega), show 3 + x - 3 = x by omega]
theorem fz_snap {w : Wd} {x : Nat} (h : x < 23) : fz w (26 + x) = fzS 26 x (w.1 (26 + x)) := by
  unfold fz fzc
  rw [if_neg (by omega), if_neg (by omega), if_neg (by omega), if_neg (by omega), if_pos (by omega), show 26 + x - 26 = x by omega]
theorem fz_saved {w : Wd} {q x : Nat} (hq : q < 6) (h : x < 23) : fz w (66 + 23 * q + x) = fzS (66 + 23 * q) x (w.1 (66 + 23 * q + x)) := by
  unfold fz fzc
  rw [if_neg (by omega), if_neg (by omega), if_neg (by omega), if_neg (by omega), if_neg (by omega), if_neg (by omega), if_neg (by omega), if_neg (by omega), if_neg (by omega), if_neg (by omega), if_neg (by omega), if_neg (by omega), if_neg (by omega), if_neg (by omega), if_neg (by omega), if_neg (by omega), if_pos (by omega), show (66 + 23 * q + x - 66) / 23 = q by omega, show (66 + 23 * q + x - 66) % 23 = x by omega]
theorem w0_now {x : Nat} (h : x < 23) : w0.1 (3 + x) = stR x := by
  show (if _ then _ else _) = _
  rw [if_neg (by omega), if_neg (by omega), if_pos (by omega), show 3 + x - 3 = x by omega]
theorem w0_snap {x : Nat} (h : x < 23) : w0.1 (26 + x) = stR x := by
  show (if _ then _ else _) = _
  rw [if_neg (by omega), if_neg (by omega), if_neg (by omega), if_pos (by omega), show 26 + x - 26 = x by omega]
theorem w0_saved {q x : Nat} (hq : q < 6) (h : x < 23) : w0.1 (66 + 23 * q + x) = stR x := by
  show (if _ then _ else _) = _
  rw [if_neg (by omega), if_neg (by omega), if_neg (by omega), if_neg (by omega), if_neg (by omega), if_pos (by omega), show (66 + 23 * q + x - 66) % 23 = x by omega]
theorem hL_sm {F : Nat → aC} (hF : Md6 F) (hv : F 49 = .inl (14, (6, .inr (.inr (.inr (.inr (svF 6))))))) (hs : ∀ q, q < 6 → ∀ x, x < 23 → F (66 + 23 * q + x) = stH (66 + 23 * q) (66 + 23 * q + x)) :
    ∀ a, a < 207 → aSm (hL F a) (fz w0 a) := by
  intro a ha
  obtain ⟨q0, q1, q2, q3, q4, q50, ⟨g1, g2, g3, g4, q51, q52, q53, q54, qg⟩, q55, q56, q57, q58, q59, q60, q61, q62, q63, q64, q65⟩ := hF
  by_cases h204 : a < 204
  · have e : hL F a = F a := hL_lo h204
    rw [e]
    by_cases h66 : a < 66
    · by_cases h3 : a < 3
      · match a, h3 with
        | 0, _ => rw [q0]; exact Or.inl rfl
        | 1, _ => rw [q1]; exact Or.inl rfl
        | 2, _ => rw [q2]; exact Or.inl rfl
      · by_cases h26 : a < 26
        · obtain ⟨x, rfl⟩ : ∃ x, a = 3 + x := ⟨a - 3, by omega⟩
          rw [q3 x (by omega), fz_now (by omega), w0_now (by omega)]
          exact stH_sm (by omega)
        · by_cases h49 : a < 49
          · obtain ⟨x, rfl⟩ : ∃ x, a = 26 + x := ⟨a - 26, by omega⟩
            rw [q4 x (by omega), fz_snap (by omega), w0_snap (by omega)]
            exact stH_sm (by omega)
          · obtain ⟨x, rfl⟩ : ∃ x, a = 49 + x := ⟨a - 49, by omega⟩
            match x, (show x < 17 by omega) with
            | 0, _ => rw [show F (49 + 0) = .inl (14, (6, .inr (.inr (.inr (.inr (svF 6)))))) from hv]; exact aSm.r (fun j hj => if_pos hj)
            | 1, _ => rw [show F (49 + 1) = _ from q50]; exact Or.inl rfl
            | 2, _ => rw [show F (49 + 2) = _ from q51]; exact aSm.i (fun j hj => (qg j hj).1)
            | 3, _ => rw [show F (49 + 3) = _ from q52]; exact aSm.i (fun j hj => (qg j hj).2.1)
            | 4, _ => rw [show F (49 + 4) = _ from q53]; exact aSm.i (fun j hj => (qg j hj).2.2.1)
            | 5, _ => rw [show F (49 + 5) = _ from q54]; exact aSm.i (fun j hj => (qg j hj).2.2.2)
            | 6, _ => rw [show F (49 + 6) = _ from q55]; exact Or.inl rfl
            | 7, _ => rw [show F (49 + 7) = _ from q56]; exact Or.inl rfl
            | 8, _ => rw [show F (49 + 8) = _ from q57]; exact Or.inl rfl
            | 9, _ => rw [show F (49 + 9) = _ from q58]; exact Or.inl rfl
            | 10, _ => rw [show F (49 + 10) = _ from q59]; exact Or.inl rfl
            | 11, _ => rw [show F (49 + 11) = _ from q60]; exact Or.inl rfl
            | 12, _ => rw [show F (49 + 12) = _ from q61]; exact Or.inl rfl
            | 13, _ => rw [show F (49 + 13) = _ from q62]; exact Or.inl rfl
            | 14, _ => rw [show F (49 + 14) = _ from q63]; exact Or.inl rfl
            | 15, _ => rw [show F (49 + 15) = _ from q64]; exact Or.inl rfl
            | 16, _ => rw [show F (49 + 16) = _ from q65]; exact Or.inl rfl
            | k + 17, hk => exact absurd hk (by omega)
    · obtain ⟨q, x, hq, hx, rfl⟩ : ∃ q x, q < 6 ∧ x < 23 ∧ a = 66 + 23 * q + x := ⟨(a - 66) / 23, (a - 66) % 23, by omega, Nat.mod_lt _ (by decide), by omega⟩
      rw [hs q hq x hx, fz_saved hq hx, w0_saved hq hx]
      exact stH_sm hx
  · obtain ⟨x, rfl⟩ : ∃ x, a = 204 + x := ⟨a - 204, by omega⟩
    match x, (show x < 3 by omega) with
    | 0, _ => exact Or.inl rfl
    | 1, _ => exact Or.inl rfl
    | 2, _ => exact Or.inl rfl
    | k + 3, hk => exact absurd hk (by omega)
theorem wdt_no : wdt (fun _ => false) = 0 := by
  obtain ⟨A, a1, -, a3⟩ := wdt_has (T := fun _ => false) rfl
  rw [← a3]
  have z : ∀ c, A c = false := fun c => by
    by_cases h : A c = true
    · exact Bool.noConfusion (show false = true from a1 c h)
    · exact Bool.not_eq_true _ ▸ h
  have y : ∀ k, cntN A k = 0 := fun k => by
    induction k with
    | zero => rfl
    | succ k ih => show cntN A k + (if A k = true then 1 else 0) = 0; rw [ih, z k]; rfl
  exact y 81
theorem chs_no : (chs (fun _ => false) 81).length = 0 := by
  have := chs_len (fun _ => false) 81
  rw [wdt_no] at this
  omega
theorem w0_mo : Mo w0 (fun _ => false) := by
  refine ⟨(fun c h => Bool.noConfusion (show false = true from h)), fun c hc => rfl, ?_, ?_, ?_⟩
  · rw [wdt_no]; rfl
  · rw [chs_no]; rfl
  · rw [chs_no]; exact fun j hj => absurd hj (Nat.not_lt_zero j)
theorem w0_sv (S : Nat → St) : SvC w0 S 0 5 := ⟨⟨rfl, by decide⟩, ⟨rfl, by decide⟩, fun q hq => absurd hq (Nat.not_lt_zero q)⟩
theorem st0_n : kN (stI 6) = 0 := by decide +kernel
theorem w0_dr : DR w0 3 (stI 6) := by
  refine ⟨by decide +kernel, fun k hk => ?_, by decide +kernel, by decide +kernel, by decide +kernel, by decide +kernel⟩
  rw [st0_n] at hk
  exact absurd hk (Nat.not_lt_zero k)
theorem st0_ok : AOK (stI 6) := by
  refine ⟨by decide +kernel, by decide +kernel, by decide +kernel, by decide +kernel, by decide +kernel, by decide +kernel, ?_⟩
  decide +kernel
/-- the law's rows once they are filled -/
def w1 : Wd := wSet (wSet (wSet (wSet w0 204 6 (nI 2)) 204 7 (nI 2)) 204 8 (nI 4)) 204 9 (nI 1)
def lR (e : Nat) : Nat → Int32 := fun i => if i < 4 * e ∧ i % 4 < 2 then -1 else 0
theorem lR_0 : w1.1 206 = lR 0 := funext fun i => (if_neg (by omega)).symm
theorem lR_s {v : Wd} {e : Nat} (h : v.1 206 = lR e) : (wSet (wSet v 206 (4 * e) (-1)) 206 (4 * e + 1) (-1)).1 206 = lR (e + 1) := by
  funext i
  rw [wSet_get, wSet_get, h]
  unfold lR
  by_cases h1 : i = 4 * e + 1
  · rw [if_pos ⟨rfl, h1⟩, if_pos (by omega)]
  · rw [if_neg (by omega)]
    by_cases h2 : i = 4 * e
    · rw [if_pos ⟨rfl, h2⟩, if_pos (by omega)]
    · rw [if_neg (by omega)]
      by_cases h3 : i < 4 * e ∧ i % 4 < 2
      · rw [if_pos h3, if_pos (by omega)]
      · rw [if_neg h3, if_neg (by omega)]
theorem q_all : (List.range 16).all (fun i => !lok i || w1.1 204 (lF i) == stI 6 i) = true := by decide +kernel
theorem l_all : (List.range 24).all (fun i => lR 6 i == stI 6 (i + 16)) = true := by decide +kernel
theorem w0_lr {v : Wd} (hF : Frm [206] w1 v) (h6 : v.1 206 = lR 6) : LR v (stI 6) := by
  refine ⟨?_, by rw [st0_n]; decide⟩
  rw [st0_n]
  intro i hi hl
  by_cases h : i < 16
  · rw [lT_q h]
    show v.1 204 (lF i) = _
    rw [hF.at 204 (by decide)]
    have z := List.all_eq_true.mp q_all i (List.mem_range.mpr h)
    rw [hl] at z
    exact eq_of_beq z
  · rw [lT_l (by omega), lF_l (by omega)]
    show v.1 206 (i - 16) = _
    rw [h6]
    have z := eq_of_beq (List.all_eq_true.mp l_all (i - 16) (List.mem_range.mpr (by omega)))
    rw [show i - 16 + 16 = i by omega] at z
    exact z
theorem w1_x {v : Wd} (hF : Frm [206] w1 v) : Frm L3 w0 v := (Frm.set (Frm.set (Frm.set (Frm.set Frm.rf (by decide)) (by decide)) (by decide)) (by decide)).tr (hF.up (by decide))
theorem v0_dr {v : Wd} (hF : Frm L3 w0 v) : DR v 3 (stI 6) := w0_dr.same st0_ok (fun a h1 h2 => hF.at a (by simp; omega))
theorem v0_mo {v : Wd} (hF : Frm L3 w0 v) : Mo v (fun _ => false) := w0_mo.same (fun a h1 h2 => hF.at a (by simp; omega))
theorem v0_sv {v : Wd} (hF : Frm L3 w0 v) (S : Nat → St) : SvC v S 0 5 := ⟨⟨by rw [hF.at 0 (by decide)]; rfl, by decide⟩, ⟨by rw [hF.at 0 (by decide)]; rfl, by decide⟩, fun q hq => absurd hq (Nat.not_lt_zero q)⟩
end A72

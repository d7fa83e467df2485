section A49
/-! ### the world at the beginning of the runs -/
def stR (r : Nat) : Nat → Int32 := if r = 0 then upd (upd (fun _ => 0) 10 (-1)) 11 (-1) else if r = 4 then set0 else if r < 17 then (fun _ => 0) else upd (upd (fun _ => 0) 0 (-1)) 1 (-1)
def w0 : Wd := (fun a => if a = 0 then upd (fun _ => 0) 7 5 else if a < 3 then (fun _ => 0) else if a < 26 then stR (a - 3) else if a < 49 then stR (a - 26) else if a < 66 then (fun _ => 0) else if a < 204 then stR ((a - 66) % 23) else if a = 205 then stI 6 else (fun _ => 0), fun _ => 0)
theorem stH_sm {b x : Nat} (hx : x < 23) : aSm (stH b (b + x)) (fzS b x (stR x)) := by
  unfold stH hX5
  have hz : ¬ b + x < b := by omega
  rw [if_neg hz]
  by_cases h0 : x = 0
  · subst h0
    rw [if_pos (show b + 0 = b by omega)]
    exact Or.inl rfl
  · rw [if_neg (show ¬ b + x = b by omega)]
    by_cases h1 : x = 1
    · subst h1
      rw [if_pos rfl]
      exact aSm.r (fun j hj => if_pos hj)
    · rw [if_neg (show ¬ b + x = b + 1 by omega)]
      by_cases h2 : x = 2
      · subst h2
        rw [if_pos rfl]
        exact aSm.r (fun j hj => if_pos hj)
      · rw [if_neg (show ¬ b + x = b + 2 by omega)]
        by_cases h3 : x = 3
        · subst h3
          rw [if_pos rfl]
          exact Or.inl rfl
        · rw [if_neg (show ¬ b + x = b + 3 by omega)]
          by_cases h4 : x = 4
          · subst h4
            rw [if_pos rfl]
            exact Or.inl rfl
          · rw [if_neg (show ¬ b + x = b + 4 by omega)]
            by_cases h5 : x < 17
            · rw [if_pos (show b + x < b + 5 + 12 by omega)]
              unfold fzS stR
              rw [if_neg h0, if_neg h1, if_neg h2, if_neg h3, if_neg h4, if_pos h5, if_neg h0, if_neg h4, if_pos h5]
              exact Or.inl rfl
            · rw [if_neg (show ¬ b + x < b + 5 + 12 by omega), if_pos (show b + x < b + 5 + 12 + 6 by omega)]
              unfold fzS stR
              rw [if_neg h0, if_neg h1, if_neg h2, if_neg h3, if_neg h4, if_neg h5, if_neg h0, if_neg h4, if_neg h5]
              exact Or.inl rfl
/-- the heap behind both constructors and the law's row -/
def hL (F : Nat → aC) (go gc : Nat → Int32) : Nat → aC := fun a => if a = 218 then .inl (11, (1, .inr (.inl (fun _ => 0)))) else hX7 F (stI 6) go gc a
theorem hX7_lo {f : Nat → aC} {gs go gc : Nat → Int32} {a : Nat} (h : a < 204) : hX7 f gs go gc a = f a := by
  unfold hX7
  rw [if_neg (by omega), if_neg (by omega), if_neg (by omega), if_neg (by omega), if_neg (by omega), if_neg (by omega), if_neg (by omega), if_neg (by omega), if_neg (by omega), if_neg (by omega), if_neg (by omega), if_neg (by omega), if_neg (by omega), if_neg (by omega)]
theorem fz_now {w : Wd} {x : Nat} (h : x < 23) : fz w (3 + x) = fzS 3 x (w.1 (3 + x)) := by
  unfold fz fzc
  rw [if_neg (by omega), if_neg (by omega), if_neg (by omega), if_pos (by omega), show 3 + x - 3 = x by omega]
theorem fz_snap {w : Wd} {x : Nat} (h : x < 23) : fz w (26 + x) = fzS 26 x (w.1 (26 + x)) := by
  unfold fz fzc
  rw [if_neg (by omega), if_neg (by omega), if_neg (by omega), if_neg (by omega), if_pos (by omega), show 26 + x - 26 = x by omega]
theorem fz_saved {w : Wd} {q x : Nat} (hq : q < 6) (h : x < 23) : fz w (66 + 23 * q + x) = fzS (66 + 23 * q) x (w.1 (66 + 23 * q + x)) := by
  unfold fz fzc
  rw [if_neg (by omega), if_neg (by omega), if_neg (by omega), if_neg (by omega), if_neg (by omega), if_neg (by omega), if_neg (by omega), if_neg (by omega), if_neg (by omega), if_neg (by omega), if_neg (by omega), if_neg (by omega), if_neg (by omega), if_neg (by omega), if_neg (by omega), if_neg (by omega), if_pos (by omega), show (66 + 23 * q + x - 66) / 23 = q by omega, show (66 + 23 * q + x - 66) % 23 = x by omega]
theorem w0_now {x : Nat} (h : x < 23) : w0.1 (3 + x) = stR x := by
  show (if _ then _ else _) = _
  rw [if_neg (by omega), if_neg (by omega), if_pos (by omega), show 3 + x - 3 = x by omega]
theorem w0_snap {x : Nat} (h : x < 23) : w0.1 (26 + x) = stR x := by
  show (if _ then _ else _) = _
  rw [if_neg (by omega), if_neg (by omega), if_neg (by omega), if_pos (by omega), show 26 + x - 26 = x by omega]
theorem w0_saved {q x : Nat} (hq : q < 6) (h : x < 23) : w0.1 (66 + 23 * q + x) = stR x := by
  show (if _ then _ else _) = _
  rw [if_neg (by omega), if_neg (by omega), if_neg (by omega), if_neg (by omega), if_neg (by omega), if_pos (by omega), show (66 + 23 * q + x - 66) % 23 = x by omega]
theorem hL_sm {F : Nat → aC} {go gc : Nat → Int32} (hF : Md6 F) (hv : F 49 = .inl (14, (6, .inr (.inr (.inr (.inr (svF 6))))))) (hs : ∀ q, q < 6 → ∀ x, x < 23 → F (66 + 23 * q + x) = stH (66 + 23 * q) (66 + 23 * q + x)) (ho : ∀ j, j < 82 → go j = nI (ovS j)) (hc : ∀ e, e < 1215 → gc e = nI (ovC e)) :
    ∀ a, a < 207 → aSm (hL F go gc a) (fz w0 a) := by
  intro a ha
  obtain ⟨q0, q1, q2, q3, q4, q50, ⟨g1, g2, g3, g4, q51, q52, q53, q54, qg⟩, q55, q56, q57, q58, q59, q60, q61, q62, q63, q64, q65⟩ := hF
  by_cases h204 : a < 204
  · have e : hL F go gc a = F a := (if_neg (show ¬ a = 218 by omega)).trans (hX7_lo h204)
    rw [e]
    by_cases h66 : a < 66
    · by_cases h3 : a < 3
      · match a, h3 with
        | 0, _ => rw [q0]; exact Or.inl rfl
        | 1, _ => rw [q1]; exact Or.inl rfl
        | 2, _ => rw [q2]; exact Or.inl rfl
      · by_cases h26 : a < 26
        · obtain ⟨x, rfl⟩ : ∃ x, a = 3 + x := ⟨a - 3, by omega⟩
          rw [q3 x (by omega), fz_now (by omega), w0_now (by omega)]
          exact stH_sm (by omega)
        · by_cases h49 : a < 49
          · obtain ⟨x, rfl⟩ : ∃ x, a = 26 + x := ⟨a - 26, by omega⟩
            rw [q4 x (by omega), fz_snap (by omega), w0_snap (by omega)]
            exact stH_sm (by omega)
          · obtain ⟨x, rfl⟩ : ∃ x, a = 49 + x := ⟨a - 49, by omega⟩
            match x, (show x < 17 by omega) with
            | 0, _ => rw [show F (49 + 0) = .inl (14, (6, .inr (.inr (.inr (.inr (svF 6)))))) from hv]; exact aSm.r (fun j hj => if_pos hj)
            | 1, _ => rw [show F (49 + 1) = _ from q50]; exact Or.inl rfl
            | 2, _ => rw [show F (49 + 2) = _ from q51]; exact aSm.i (fun j hj => (qg j hj).1)
            | 3, _ => rw [show F (49 + 3) = _ from q52]; exact aSm.i (fun j hj => (qg j hj).2.1)
            | 4, _ => rw [show F (49 + 4) = _ from q53]; exact aSm.i (fun j hj => (qg j hj).2.2.1)
            | 5, _ => rw [show F (49 + 5) = _ from q54]; exact aSm.i (fun j hj => (qg j hj).2.2.2)
            | 6, _ => rw [show F (49 + 6) = _ from q55]; exact Or.inl rfl
            | 7, _ => rw [show F (49 + 7) = _ from q56]; exact Or.inl rfl
            | 8, _ => rw [show F (49 + 8) = _ from q57]; exact Or.inl rfl
            | 9, _ => rw [show F (49 + 9) = _ from q58]; exact Or.inl rfl
            | 10, _ => rw [show F (49 + 10) = _ from q59]; exact Or.inl rfl
            | 11, _ => rw [show F (49 + 11) = _ from q60]; exact Or.inl rfl
            | 12, _ => rw [show F (49 + 12) = _ from q61]; exact Or.inl rfl
            | 13, _ => rw [show F (49 + 13) = _ from q62]; exact Or.inl rfl
            | 14, _ => rw [show F (49 + 14) = _ from q63]; exact Or.inl rfl
            | 15, _ => rw [show F (49 + 15) = _ from q64]; exact Or.inl rfl
            | 16, _ => rw [show F (49 + 16) = _ from q65]; exact Or.inl rfl
            | k + 17, hk => exact absurd hk (by omega)
    · obtain ⟨q, x, hq, hx, rfl⟩ : ∃ q x, q < 6 ∧ x < 23 ∧ a = 66 + 23 * q + x := ⟨(a - 66) / 23, (a - 66) % 23, by omega, Nat.mod_lt _ (by decide), by omega⟩
      rw [hs q hq x hx, fz_saved hq hx, w0_saved hq hx]
      exact stH_sm hx
  · obtain ⟨x, rfl⟩ : ∃ x, a = 204 + x := ⟨a - 204, by omega⟩
    match x, (show x < 15 by omega) with
    | 0, _ => exact Or.inl rfl
    | 1, _ => exact Or.inl rfl
    | 2, _ => exact Or.inl rfl
    | 3, _ => exact Or.inl rfl
    | 4, _ => exact Or.inl rfl
    | 5, _ => exact aSm.i ho
    | 6, _ => exact aSm.i hc
    | 7, _ => exact Or.inl rfl
    | 8, _ => exact Or.inl rfl
    | 9, _ => exact Or.inl rfl
    | 10, _ => exact Or.inl rfl
    | 11, _ => exact Or.inl rfl
    | 12, _ => exact Or.inl rfl
    | 13, _ => exact Or.inl rfl
    | 14, _ => exact Or.inl rfl
    | k + 15, hk => exact absurd hk (by omega)
end A49

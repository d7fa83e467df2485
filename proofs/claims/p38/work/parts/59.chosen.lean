section A59
/-! ### the chosen set: as many as the most, rising, apart, and no free code is apart from all of them -/
variable {S : Nat → Bool}
def elB (l : List Nat) : Nat → Bool := qB (fun i => l.getD i 0) l.length
theorem elB_of {l : List Nat} {a : Nat} (h : elB l a = true) : ∃ i, i < l.length ∧ l.getD i 0 = a := qB_of h
theorem elB_in {l : List Nat} {i : Nat} (h : i < l.length) : elB l (l.getD i 0) = true := qB_in (q := fun i => l.getD i 0) h
theorem aprt_in {l : List Nat} {a b : Nat} (ha : elB l a = true) (hb : aprt l b = true) : crs a b = false := by
  obtain ⟨i, hi, rfl⟩ := elB_of ha
  exact aprt_at hb hi
theorem aprt_of {l : List Nat} {b : Nat} (h : ∀ i, i < l.length → crs (l.getD i 0) b = false) : aprt l b = true := by
  refine List.all_eq_true.mpr fun x hx => ?_
  obtain ⟨k, hk, e⟩ := List.mem_iff_getElem.mp hx
  have z := h k hk
  rw [List.getD_eq_getElem?_getD, List.getElem?_eq_getElem hk, Option.getD_some, e] at z
  rw [z]
  rfl
/-- an antichain of what is left, and what was chosen -/
theorem join_an {l : List Nat} {B : Nat → Bool} (hl : Ap S l) (hB : Sub B (remS S l)) (hC : Anti B) : Sub (fun x => B x || elB l x) S ∧ Anti (fun x => B x || elB l x) := by
  have e1 : ∀ a, B a = true → S a = true ∧ aprt l a = true := fun a h => Bool.and_eq_true_iff.mp (hB a h)
  refine ⟨fun a ha => ?_, fun a b ha hb => ?_⟩
  · rcases Bool.or_eq_true_iff.mp ha with h | h
    · exact (e1 a h).1
    · obtain ⟨i, hi, rfl⟩ := elB_of h
      exact hl.1 i hi
  · rcases Bool.or_eq_true_iff.mp ha with h | h
    · rcases Bool.or_eq_true_iff.mp hb with h2 | h2
      · exact hC a b h h2
      · have z := aprt_in h2 (e1 a h).2
        exact (crs_f z).2.2
    · rcases Bool.or_eq_true_iff.mp hb with h2 | h2
      · exact (crs_f (aprt_in h (e1 b h2).2)).2.1
      · obtain ⟨i, hi, rfl⟩ := elB_of h
        obtain ⟨j, hj, rfl⟩ := elB_of h2
        cases e : crs (l.getD i 0) (l.getD j 0) with
        | false => exact (crs_f e).2.1
        | true =>
          have z := hl.2 i j hi hj e
          subst z
          exact und_irr _
theorem join_ct {l : List Nat} {B : Nat → Bool} (hS : Su S) (hl : Ap S l) (hB : Sub B (remS S l)) : cntN B 81 + l.length ≤ cntN (fun x => B x || elB l x) 81 := by
  have e1 : ∀ a, B a = true → S a = true ∧ aprt l a = true := fun a h => Bool.and_eq_true_iff.mp (hB a h)
  rw [cntN_split (fun x => B x || elB l x) B 81]
  have h1 : cntN B 81 ≤ cntN (fun i => (B i || elB l i) && B i) 81 := cntN_mono 81 (fun i _ h => by simp [h])
  have h2 : l.length ≤ cntN (fun i => (B i || elB l i) && !B i) 81 := by
    have z := cntN_rel (P := fun _ => true) (R := fun i y => y = l.getD i 0) (m := 81) l.length (fun i => (B i || elB l i) && !B i) (fun i hi _ => ⟨l.getD i 0, hS _ (hl.1 i hi), (by
      have z1 := elB_in hi
      have z2 : B (l.getD i 0) = false := by
        cases e : B (l.getD i 0) with
        | false => rfl
        | true =>
          have z3 := aprt_in z1 (e1 _ e).2
          rw [crs_rf] at z3
          cases z3
      show ((B (l.getD i 0) || elB l (l.getD i 0)) && !B (l.getD i 0)) = true
      rw [z1, z2]
      rfl), rfl⟩) (fun i j y hi hj _ _ z1 z2 => hl.2 i j hi hj (by rw [← z1, z2]; exact crs_rf _))
    rwa [cntN_all] at z
  omega
theorem rem_le {l : List Nat} (hS : Su S) (hl : Ap S l) : l.length + wdt (remS S l) ≤ wdt S := by
  obtain ⟨B, b1, b2, b3⟩ := wdt_has (T := remS S l) rfl
  have z := wdt_ge (join_an hl b1 b2).1 (join_an hl b1 b2).2
  have z2 := join_ct hS hl b1
  omega
/-- a full antichain that holds what was chosen leaves a full rest -/
theorem rem_ge {l : List Nat} {F : Nat → Bool} (hl : Ap S l) (hF : Sub F S) (hC : Anti F) (hin : ∀ i, i < l.length → F (l.getD i 0) = true) : cntN F 81 ≤ l.length + wdt (remS S l) := by
  have h1 : Sub (fun x => F x && !elB l x) (remS S l) := fun a ha => by
    obtain ⟨a1, a2⟩ := Bool.and_eq_true_iff.mp ha
    refine Bool.and_eq_true_iff.mpr ⟨hF a a1, aprt_of fun i hi => ?_⟩
    have ne : ¬ l.getD i 0 = a := fun z => by
      have := elB_in hi
      rw [z] at this
      rw [this] at a2
      cases a2
    have u1 := hC _ _ (hin i hi) a1
    have u2 := hC _ _ a1 (hin i hi)
    unfold crs
    rw [u1, u2, beq_eq_false_iff_ne.mpr ne]
    rfl
  have h2 : Anti (fun x => F x && !elB l x) := fun a b ha hb => hC a b (Bool.and_eq_true_iff.mp ha).1 (Bool.and_eq_true_iff.mp hb).1
  have h3 := wdt_ge h1 h2
  rw [cntN_split F (elB l) 81]
  have h4 : cntN (fun i => F i && elB l i) 81 ≤ l.length := by
    have z := cntN_rel (P := fun i => F i && elB l i) (R := fun d i => l.getD i 0 = d) (m := l.length) 81 (fun _ => true) (fun i hi hp => by
      obtain ⟨k, hk, e⟩ := elB_of (Bool.and_eq_true_iff.mp hp).2
      exact ⟨k, hk, rfl, e⟩) (fun i j y _ _ _ _ z1 z2 => z1.symm.trans z2)
    rwa [cntN_all] at z
  omega
theorem chs_eq (S : Nat → Bool) : ∀ c, (chs S c).length + wdt (remS S (chs S c)) = wdt S
  | 0 => by
    show 0 + wdt (remS S []) = wdt S
    rw [wdt_cg (fun c => remS_0 (S := S) (d := c)), Nat.zero_add]
  | c + 1 => by
    have ih := chs_eq S c
    by_cases h : (chs S c).length < wdt S ∧ remS S (chs S c) c = true ∧ (chs S c).length + 1 + wdt (remS S (chs S c ++ [c])) = wdt S
    · rw [chs_y h.1 h.2.1 h.2.2, List.length_append]
      exact h.2.2
    · have e : chs S (c + 1) = chs S c := if_neg h
      rw [e]
      exact ih
theorem chs_pre (S : Nat → Bool) (c : Nat) : ∀ k, ∃ r, chs S (c + k) = chs S c ++ r
  | 0 => ⟨[], (List.append_nil _).symm⟩
  | k + 1 => by
    obtain ⟨r, e⟩ := chs_pre S c k
    by_cases h : (chs S (c + k)).length < wdt S ∧ remS S (chs S (c + k)) (c + k) = true ∧ (chs S (c + k)).length + 1 + wdt (remS S (chs S (c + k) ++ [c + k])) = wdt S
    · refine ⟨r ++ [c + k], ?_⟩
      rw [show c + (k + 1) = c + k + 1 by omega, chs_y h.1 h.2.1 h.2.2, e, List.append_assoc]
    · refine ⟨r, ?_⟩
      rw [show c + (k + 1) = c + k + 1 by omega, ← e]
      exact if_neg h
theorem pre_at {l r : List Nat} {i : Nat} (h : i < l.length) : (l ++ r).getD i 0 = l.getD i 0 := by
  rw [List.getD_eq_getElem?_getD, List.getElem?_append_left h, ← List.getD_eq_getElem?_getD]
theorem pre_ap {l r : List Nat} {d : Nat} (h : aprt (l ++ r) d = true) : aprt l d = true := aprt_of fun i hi => by
  rw [← pre_at (r := r) hi]
  exact aprt_at h (by rw [List.length_append]; omega)
theorem chs_most (hS : Su S) : (chs S 81).length = wdt S := by
  have hE := chs_eq S 81
  by_cases h0 : wdt (remS S (chs S 81)) = 0
  · omega
  · exfalso
    obtain ⟨B, b1, b2, b3⟩ := wdt_has (T := remS S (chs S 81)) rfl
    have hx : ∃ d, d < 81 ∧ B d = true := by
      by_cases hx : ∃ d, d < 81 ∧ B d = true
      · exact hx
      · exfalso
        have z : cntN B 81 = cntN (fun _ => false) 81 := cntN_cg 81 (fun i hi => by
          cases e : B i with
          | false => rfl
          | true => exact absurd ⟨i, hi, e⟩ hx)
        have z2 : cntN (fun _ => false) 81 = 0 := by decide
        omega
    obtain ⟨d, hd, hB⟩ := hx
    obtain ⟨s1, s2⟩ := Bool.and_eq_true_iff.mp (b1 d hB)
    obtain ⟨r, e⟩ := chs_pre S d (81 - d)
    rw [show d + (81 - d) = 81 by omega] at e
    have hl := chs_ap S 81
    have hld := chs_ap S d
    have hr : remS S (chs S d) d = true := Bool.and_eq_true_iff.mpr ⟨s1, pre_ap (by rw [← e]; exact s2)⟩
    have hq := hld.snoc hr
    have hF := join_an hl b1 b2
    have hct := join_ct hS hl b1
    have hge := rem_ge hq hF.1 hF.2 (fun i hi => by
      show (B _ || elB (chs S 81) _) = true
      by_cases ei : i = (chs S d).length
      · subst ei
        rw [getD_r, hB]
        rfl
      · have hi2 : i < (chs S d).length := by rw [List.length_append] at hi; simp at hi; omega
        rw [getD_l hi2, ← pre_at (r := r) hi2, ← e, elB_in (by rw [e, List.length_append]; omega), Bool.or_true])
    have hle := rem_le hS hq
    rw [List.length_append] at hge hle
    have h1 : [d].length = 1 := rfl
    have hy : chs S (d + 1) = chs S d ++ [d] := chs_y (by omega) hr (by omega)
    obtain ⟨r2, e2⟩ := chs_pre S (d + 1) (81 - (d + 1))
    rw [show d + 1 + (81 - (d + 1)) = 81 by omega, hy] at e2
    have hin : elB (chs S 81) d = true := by
      have z := elB_in (l := chs S 81) (i := (chs S d).length) (by rw [e2]; simp)
      rwa [show (chs S 81).getD (chs S d).length 0 = d by rw [e2, pre_at (by simp), getD_r]] at z
    have z := aprt_in hin s2
    rw [crs_rf] at z
    cases z
theorem chs_lt (S : Nat → Bool) : ∀ c i, i < (chs S c).length → (chs S c).getD i 0 < c
  | 0, i, h => absurd h (Nat.not_lt_zero i)
  | c + 1, i, h => by
    by_cases hc : (chs S c).length < wdt S ∧ remS S (chs S c) c = true ∧ (chs S c).length + 1 + wdt (remS S (chs S c ++ [c])) = wdt S
    · rw [chs_y hc.1 hc.2.1 hc.2.2] at h ⊢
      by_cases ei : i = (chs S c).length
      · subst ei
        rw [getD_r]
        omega
      · have hi2 : i < (chs S c).length := by rw [List.length_append] at h; simp at h; omega
        rw [getD_l hi2]
        have := chs_lt S c i hi2
        omega
    · have e : chs S (c + 1) = chs S c := if_neg hc
      rw [e] at h ⊢
      have := chs_lt S c i h
      omega
theorem chs_up (S : Nat → Bool) : ∀ c i j, i < j → j < (chs S c).length → (chs S c).getD i 0 < (chs S c).getD j 0
  | 0, i, j, _, h => absurd h (Nat.not_lt_zero j)
  | c + 1, i, j, hij, h => by
    by_cases hc : (chs S c).length < wdt S ∧ remS S (chs S c) c = true ∧ (chs S c).length + 1 + wdt (remS S (chs S c ++ [c])) = wdt S
    · rw [chs_y hc.1 hc.2.1 hc.2.2] at h ⊢
      by_cases ei : j = (chs S c).length
      · subst ei
        rw [getD_r, getD_l hij]
        exact chs_lt S c i hij
      · have hi2 : j < (chs S c).length := by rw [List.length_append] at h; simp at h; omega
        rw [getD_l hi2, getD_l (by omega)]
        exact chs_up S c i j hij hi2
    · have e : chs S (c + 1) = chs S c := if_neg hc
      rw [e] at h ⊢
      exact chs_up S c i j hij h
/-- no code of S is apart from all chosen ones -/
theorem chs_max (hS : Su S) {d : Nat} (hd : S d = true) : ∃ i, i < (chs S 81).length ∧ crs ((chs S 81).getD i 0) d = true := by
  by_cases hx : ∃ i, i < (chs S 81).length ∧ crs ((chs S 81).getD i 0) d = true
  · exact hx
  · exfalso
    have hr : remS S (chs S 81) d = true := Bool.and_eq_true_iff.mpr ⟨hd, aprt_of fun i hi => by
      cases e : crs ((chs S 81).getD i 0) d with
      | false => rfl
      | true => exact absurd ⟨i, hi, e⟩ hx⟩
    have h1 := (chs_ap S 81).snoc hr
    have h2 := rem_le hS h1
    have h3 := chs_most hS
    rw [List.length_append] at h2
    simp at h2
    omega
def chL : List Nat := [0, 0, 0, 1, 1, 0, 2, 1, 1, 3, 3, 3, 4, 4, 4, 2, 2, 1, 5, 5, 3, 6, 5, 4, 6, 2, 1, 7, 7, 7, 8, 8, 0, 9, 9, 0, 10, 10, 7, 11, 10, 7, 11, 9, 0, 12, 12, 3, 13, 5, 4, 6, 2, 1, 14, 14, 14, 15, 8, 8, 15, 15, 8, 16, 16, 14, 17, 10, 7, 11, 9, 0, 18, 12, 3, 13, 5, 4, 6, 2, 1]
def chN (c : Nat) : Nat := chL.getD c 0
set_option maxRecDepth 20000 in
theorem ch_all : (List.range 81).all (fun c => (List.range 81).all fun d => !(chN c == chN d) || crs c d) = true := by decide +kernel
theorem ch_lt : (List.range 81).all (fun c => decide (chN c < 19)) = true := by decide +kernel
theorem wdt_19 (hS : Su S) : wdt S ≤ 19 := by
  obtain ⟨A, a1, a2, a3⟩ := wdt_has (T := S) rfl
  rw [← a3]
  have z := cntN_rel (P := A) (R := fun a t => chN a = t) (m := 19) 81 (fun _ => true) (fun i hi _ => ⟨chN i, of_decide_eq_true (all81 (P := fun c => decide (chN c < 19)) ch_lt hi), rfl, rfl⟩) (fun i j y hi hj h1 h2 z1 z2 => by
    have z3 := all81b (P := fun c d => !(chN c == chN d) || crs c d) ch_all hi hj
    rw [z1, z2, beq_self_eq_true] at z3
    have z4 : crs i j = true := z3
    unfold crs at z4
    rw [a2 i j h1 h2, a2 j i h2 h1, Bool.or_false, Bool.or_false] at z4
    exact eq_of_beq z4)
  rwa [cntN_all] at z
theorem lie_ap {c d : Nat} (h : crs c d = false) : lieN c d = 0 := by
  obtain ⟨h1, h2, h3⟩ := crs_f h
  unfold lieN
  rw [if_neg h1, h2, h3]
  rfl
theorem lie_no {c d : Nat} (h : lieN c d = 0) : crs c d = false := by
  unfold lieN at h
  unfold crs
  by_cases e : c = d
  · rw [if_pos e] at h; cases h
  · rw [if_neg e] at h
    cases e1 : und c d with
    | true => rw [e1] at h; cases h
    | false =>
      cases e2 : und d c with
      | true => rw [e1, e2] at h; cases h
      | false => rw [beq_eq_false_iff_ne.mpr e]; rfl
end A59

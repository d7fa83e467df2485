section A28
/-! ### orders as a text: what is read, in words of its own -/
theorem dI1 {P : Prop} [Decidable P] (h : P) : nI 1 = bI (decide P) := by rw [decide_eq_true h]; rfl
theorem dI0 {P : Prop} [Decidable P] (h : ¬ P) : nI 0 = bI (decide P) := by rw [decide_eq_false h]; rfl
/-- the sign at p is between a and b -/
def isB (t : Nat → Nat) (ln a b p : Nat) : Bool := decide (p < ln ∧ a ≤ t p ∧ t p ≤ b)
def dgB (t : Nat → Nat) (ln b p : Nat) : Bool := isB t ln 48 (48 + b - 1) p
def chB (t : Nat → Nat) (ln c p : Nat) : Bool := isB t ln c c p
def stp (b : Bool) (p : Nat) : Nat := if b then p + 1 else p
abbrev PR : Type := Bool × Nat × Nat
abbrev PO : Type := Bool × Nat × Nat × Nat × Nat
/-- so many digits below 3 -/
def rdC (t : Nat → Nat) (ln : Nat) : Nat → Nat → Nat → PR
  | 0, p, v => (true, p, v)
  | n + 1, p, v => if dgB t ln 3 p then rdC t ln n (p + 1) (3 * v + (t p - 48)) else (false, p, v)
def rdK (t : Nat → Nat) (ln p : Nat) : PR := if dgB t ln 10 p then (if t p - 48 = 1 ∧ dgB t ln 2 (p + 1) = true then (true, p + 2, 10 + (t (p + 1) - 48)) else (true, p + 1, t p - 48)) else (false, p, 0)
/-- behind a code or a key: a sign, and a digit -/
def rdT (t : Nat → Nat) (ln lt c b : Nat) (r : PR) : PO := if r.1 then (if chB t ln c r.2.1 then (if dgB t ln b (r.2.1 + 1) then (true, r.2.1 + 2, lt, r.2.2, t (r.2.1 + 1) - 48) else (false, r.2.1 + 1, lt, 0, 0)) else (false, r.2.1, lt, 0, 0)) else (false, r.2.1, lt, 0, 0)
def rdL (lt : Nat) (r : PR) : PO := (r.1, r.2.1, lt, r.2.2, 0)
def rdO (t : Nat → Nat) (ln p : Nat) : PO := if chB t ln 99 p then rdT t ln 99 64 4 (rdC t ln 4 (p + 1) 0) else if chB t ln 100 p then rdT t ln 100 44 4 (rdK t ln (p + 1)) else if chB t ln 116 p then rdT t ln 116 44 6 (rdK t ln (p + 1)) else if chB t ln 108 p then rdL 108 (rdK t ln (p + 1)) else if chB t ln 102 p then rdL 102 (rdK t ln (p + 1)) else (false, p, 0, 0, 0)
def rdA (t : Nat → Nat) (ln : Nat) : Nat → Nat → Bool × Nat
  | 0, p => (false, p)
  | n + 1, p => if (rdO t ln p).1 then (if (rdO t ln p).2.1 = ln then (true, ln) else if chB t ln 59 (rdO t ln p).2.1 then rdA t ln n ((rdO t ln p).2.1 + 1) else (false, (rdO t ln p).2.1)) else (false, (rdO t ln p).2.1)
variable {t : Nat → Nat} {ln p : Nat}
theorem isB_at {a b : Nat} (h : isB t ln a b p = true) : p < ln ∧ a ≤ t p ∧ t p ≤ b := of_decide_eq_true h
theorem isB_ne {a b : Nat} (h : isB t ln a b p = false) : ¬ (p < ln ∧ a ≤ t p ∧ t p ≤ b) := of_decide_eq_false h
theorem chB_no {c d : Nat} (h : chB t ln c p = true) (hd : ¬ c = d) : chB t ln d p = false := decide_eq_false (fun z => by have := isB_at h; omega)
theorem rdC_f {n v : Nat} (h : dgB t ln 3 p = false) : rdC t ln (n + 1) p v = (false, p, v) := by
  unfold rdC
  rw [h]
  rfl
theorem rdC_t {n v : Nat} (h : dgB t ln 3 p = true) : rdC t ln (n + 1) p v = rdC t ln n (p + 1) (3 * v + (t p - 48)) := by
  rw [show rdC t ln (n + 1) p v = if dgB t ln 3 p then rdC t ln n (p + 1) (3 * v + (t p - 48)) else (false, p, v) from rfl, h]
  rfl
theorem rdK_0 (h : dgB t ln 10 p = false) : rdK t ln p = (false, p, 0) := by
  unfold rdK
  rw [h]
  rfl
theorem rdK_1 (h : dgB t ln 10 p = true) (h2 : ¬ (t p - 48 = 1 ∧ dgB t ln 2 (p + 1) = true)) : rdK t ln p = (true, p + 1, t p - 48) := by
  unfold rdK
  rw [h, if_pos rfl, if_neg h2]
theorem rdK_2 (h : dgB t ln 10 p = true) (h2 : t p - 48 = 1) (h3 : dgB t ln 2 (p + 1) = true) : rdK t ln p = (true, p + 2, 10 + (t (p + 1) - 48)) := by
  unfold rdK
  rw [h, if_pos rfl, if_pos ⟨h2, h3⟩]
theorem rdT_0 {lt c b : Nat} {r : PR} (h : r.1 = false) : rdT t ln lt c b r = (false, r.2.1, lt, 0, 0) := by
  unfold rdT
  rw [h]
  rfl
theorem rdT_1 {lt c b : Nat} {r : PR} (h : r.1 = true) (h2 : chB t ln c r.2.1 = false) : rdT t ln lt c b r = (false, r.2.1, lt, 0, 0) := by
  unfold rdT
  rw [h, h2]
  rfl
theorem rdT_2 {lt c b : Nat} {r : PR} (h : r.1 = true) (h2 : chB t ln c r.2.1 = true) (h3 : dgB t ln b (r.2.1 + 1) = false) : rdT t ln lt c b r = (false, r.2.1 + 1, lt, 0, 0) := by
  unfold rdT
  rw [h, h2, h3]
  rfl
theorem rdT_3 {lt c b : Nat} {r : PR} (h : r.1 = true) (h2 : chB t ln c r.2.1 = true) (h3 : dgB t ln b (r.2.1 + 1) = true) : rdT t ln lt c b r = (true, r.2.1 + 2, lt, r.2.2, t (r.2.1 + 1) - 48) := by
  unfold rdT
  rw [h, h2, h3]
  rfl
theorem rdO_c (h : chB t ln 99 p = true) : rdO t ln p = rdT t ln 99 64 4 (rdC t ln 4 (p + 1) 0) := by
  unfold rdO
  rw [h]
  rfl
theorem rdO_d (h : chB t ln 100 p = true) : rdO t ln p = rdT t ln 100 44 4 (rdK t ln (p + 1)) := by
  unfold rdO
  rw [chB_no h (d := 99) (by decide), h]
  rfl
theorem rdO_t (h : chB t ln 116 p = true) : rdO t ln p = rdT t ln 116 44 6 (rdK t ln (p + 1)) := by
  unfold rdO
  rw [chB_no h (d := 99) (by decide), chB_no h (d := 100) (by decide), h]
  rfl
theorem rdO_l (h : chB t ln 108 p = true) : rdO t ln p = rdL 108 (rdK t ln (p + 1)) := by
  unfold rdO
  rw [chB_no h (d := 99) (by decide), chB_no h (d := 100) (by decide), chB_no h (d := 116) (by decide), h]
  rfl
theorem rdO_f (h : chB t ln 102 p = true) : rdO t ln p = rdL 102 (rdK t ln (p + 1)) := by
  unfold rdO
  rw [chB_no h (d := 99) (by decide), chB_no h (d := 100) (by decide), chB_no h (d := 116) (by decide), chB_no h (d := 108) (by decide), h]
  rfl
theorem rdO_n (h1 : chB t ln 99 p = false) (h2 : chB t ln 100 p = false) (h3 : chB t ln 116 p = false) (h4 : chB t ln 108 p = false) (h5 : chB t ln 102 p = false) : rdO t ln p = (false, p, 0, 0, 0) := by
  unfold rdO
  rw [h1, h2, h3, h4, h5]
  rfl
theorem rdC_le : ∀ (n p v : Nat), p ≤ ln → (rdC t ln n p v).2.1 ≤ ln ∧ p ≤ (rdC t ln n p v).2.1
  | 0, p, v, h => ⟨h, Nat.le_refl _⟩
  | n + 1, p, v, h => by
    cases e : dgB t ln 3 p with
    | false => rw [rdC_f e]; exact ⟨h, Nat.le_refl _⟩
    | true =>
      have z := isB_at e
      rw [rdC_t e]
      have z2 := rdC_le n (p + 1) (3 * v + (t p - 48)) (by omega)
      exact ⟨z2.1, by omega⟩
theorem rdC_v : ∀ (n k p v : Nat), v < 3 ^ k → (rdC t ln n p v).1 = true → (rdC t ln n p v).2.2 < 3 ^ (k + n) ∧ (rdC t ln n p v).2.1 = p + n
  | 0, k, p, v, h, _ => ⟨h, rfl⟩
  | n + 1, k, p, v, h, hr => by
    cases e : dgB t ln 3 p with
    | false => rw [rdC_f e] at hr; cases hr
    | true =>
      have z := isB_at e
      rw [rdC_t e] at hr ⊢
      have z3 : 3 ^ (k + 1) = 3 * 3 ^ k := by rw [Nat.pow_succ, Nat.mul_comm]
      have z2 := rdC_v n (k + 1) (p + 1) (3 * v + (t p - 48)) (by rw [z3]; omega) hr
      rw [show k + (n + 1) = k + 1 + n by omega]
      exact ⟨z2.1, by omega⟩
theorem rdK_le (h : p ≤ ln) : (rdK t ln p).2.1 ≤ ln ∧ p ≤ (rdK t ln p).2.1 ∧ ((rdK t ln p).1 = true → p < (rdK t ln p).2.1 ∧ (rdK t ln p).2.2 < 12) := by
  cases e : dgB t ln 10 p with
  | false => rw [rdK_0 e]; exact ⟨h, Nat.le_refl _, fun z => by cases z⟩
  | true =>
    have z := isB_at e
    by_cases e2 : t p - 48 = 1 ∧ dgB t ln 2 (p + 1) = true
    · have z2 := isB_at e2.2
      rw [rdK_2 e e2.1 e2.2]
      exact ⟨by show p + 2 ≤ ln; omega, by show p ≤ p + 2; omega, fun _ => ⟨by show p < p + 2; omega, by show 10 + (t (p + 1) - 48) < 12; omega⟩⟩
    · rw [rdK_1 e e2]
      exact ⟨by show p + 1 ≤ ln; omega, by show p ≤ p + 1; omega, fun _ => ⟨by show p < p + 1; omega, by show t p - 48 < 12; omega⟩⟩
theorem rdT_le {lt c b : Nat} {r : PR} (h : r.2.1 ≤ ln) : (rdT t ln lt c b r).2.1 ≤ ln ∧ r.2.1 ≤ (rdT t ln lt c b r).2.1 ∧ (rdT t ln lt c b r).2.2.1 = lt ∧ ((rdT t ln lt c b r).1 = true → r.1 = true ∧ (rdT t ln lt c b r).2.2.2.1 = r.2.2 ∧ (0 < b → (rdT t ln lt c b r).2.2.2.2 < b)) := by
  cases e : r.1 with
  | false => rw [rdT_0 e]; exact ⟨h, Nat.le_refl _, rfl, fun z => by cases z⟩
  | true =>
    cases e2 : chB t ln c r.2.1 with
    | false => rw [rdT_1 e e2]; exact ⟨h, Nat.le_refl _, rfl, fun z => by cases z⟩
    | true =>
      have z := isB_at e2
      cases e3 : dgB t ln b (r.2.1 + 1) with
      | false => rw [rdT_2 e e2 e3]; exact ⟨by show r.2.1 + 1 ≤ ln; omega, by show r.2.1 ≤ r.2.1 + 1; omega, rfl, fun z => by cases z⟩
      | true =>
        have z3 := isB_at e3
        rw [rdT_3 e e2 e3]
        exact ⟨by show r.2.1 + 2 ≤ ln; omega, by show r.2.1 ≤ r.2.1 + 2; omega, rfl, fun _ => ⟨rfl, rfl, fun hb => by show t (r.2.1 + 1) - 48 < b; omega⟩⟩
/-- what an order that is read can be -/
def oOK (R : PO) : Prop := (R.2.2.1 = 99 ∧ R.2.2.2.1 < 81 ∧ R.2.2.2.2 < 4) ∨ (R.2.2.1 = 100 ∧ R.2.2.2.1 < 12 ∧ R.2.2.2.2 < 4) ∨ (R.2.2.1 = 116 ∧ R.2.2.2.1 < 12 ∧ R.2.2.2.2 < 6) ∨ (R.2.2.1 = 108 ∧ R.2.2.2.1 < 12) ∨ (R.2.2.1 = 102 ∧ R.2.2.2.1 < 12)
theorem rdO_le (h : p ≤ ln) : (rdO t ln p).2.1 ≤ ln ∧ ((rdO t ln p).1 = true → p + 2 ≤ (rdO t ln p).2.1 ∧ p < ln ∧ oOK (rdO t ln p)) := by
  cases e1 : chB t ln 99 p with
  | true =>
    have z := isB_at e1
    rw [rdO_c e1]
    have y1 := rdC_le (t := t) 4 (p + 1) 0 (show p + 1 ≤ ln by omega)
    have y2 := rdT_le (t := t) (lt := 99) (c := 64) (b := 4) y1.1
    refine ⟨y2.1, fun hr => ?_⟩
    obtain ⟨w1, w2, w3⟩ := y2.2.2.2 hr
    have y3 := rdC_v 4 0 (p + 1) 0 (by decide) w1
    exact ⟨by omega, by omega, Or.inl ⟨y2.2.2.1, by rw [w2]; exact y3.1, w3 (by decide)⟩⟩
  | false =>
    cases e2 : chB t ln 100 p with
    | true =>
      have z := isB_at e2
      rw [rdO_d e2]
      have y1 := rdK_le (t := t) (show p + 1 ≤ ln by omega)
      have y2 := rdT_le (t := t) (lt := 100) (c := 44) (b := 4) y1.1
      refine ⟨y2.1, fun hr => ?_⟩
      obtain ⟨w1, w2, w3⟩ := y2.2.2.2 hr
      have y3 := y1.2.2 w1
      exact ⟨by omega, by omega, Or.inr (Or.inl ⟨y2.2.2.1, by rw [w2]; exact y3.2, w3 (by decide)⟩)⟩
    | false =>
      cases e3 : chB t ln 116 p with
      | true =>
        have z := isB_at e3
        rw [rdO_t e3]
        have y1 := rdK_le (t := t) (show p + 1 ≤ ln by omega)
        have y2 := rdT_le (t := t) (lt := 116) (c := 44) (b := 6) y1.1
        refine ⟨y2.1, fun hr => ?_⟩
        obtain ⟨w1, w2, w3⟩ := y2.2.2.2 hr
        have y3 := y1.2.2 w1
        exact ⟨by omega, by omega, Or.inr (Or.inr (Or.inl ⟨y2.2.2.1, by rw [w2]; exact y3.2, w3 (by decide)⟩))⟩
      | false =>
        cases e4 : chB t ln 108 p with
        | true =>
          have z := isB_at e4
          rw [rdO_l e4]
          have y1 := rdK_le (t := t) (show p + 1 ≤ ln by omega)
          refine ⟨y1.1, fun hr => ?_⟩
          have y3 := y1.2.2 hr
          exact ⟨by show p + 2 ≤ (rdK t ln (p + 1)).2.1; omega, by omega, Or.inr (Or.inr (Or.inr (Or.inl ⟨rfl, y3.2⟩)))⟩
        | false =>
          cases e5 : chB t ln 102 p with
          | true =>
            have z := isB_at e5
            rw [rdO_f e5]
            have y1 := rdK_le (t := t) (show p + 1 ≤ ln by omega)
            refine ⟨y1.1, fun hr => ?_⟩
            have y3 := y1.2.2 hr
            exact ⟨by show p + 2 ≤ (rdK t ln (p + 1)).2.1; omega, by omega, Or.inr (Or.inr (Or.inr (Or.inr ⟨rfl, y3.2⟩)))⟩
          | false =>
            rw [rdO_n e1 e2 e3 e4 e5]
            exact ⟨h, fun z => by cases z⟩
theorem rdA_0 {n : Nat} (h : (rdO t ln p).1 = false) : rdA t ln (n + 1) p = (false, (rdO t ln p).2.1) := by
  unfold rdA
  rw [h]
  rfl
theorem rdA_1 {n : Nat} (h : (rdO t ln p).1 = true) (h2 : (rdO t ln p).2.1 = ln) : rdA t ln (n + 1) p = (true, ln) := by
  unfold rdA
  rw [h, if_pos rfl, if_pos h2]
theorem rdA_2 {n : Nat} (h : (rdO t ln p).1 = true) (h2 : ¬ (rdO t ln p).2.1 = ln) (h3 : chB t ln 59 (rdO t ln p).2.1 = false) : rdA t ln (n + 1) p = (false, (rdO t ln p).2.1) := by
  unfold rdA
  rw [h, if_pos rfl, if_neg h2, h3]
  rfl
theorem rdA_3 {n : Nat} (h : (rdO t ln p).1 = true) (h2 : ¬ (rdO t ln p).2.1 = ln) (h3 : chB t ln 59 (rdO t ln p).2.1 = true) : rdA t ln (n + 1) p = rdA t ln n ((rdO t ln p).2.1 + 1) := by
  rw [show rdA t ln (n + 1) p = if (rdO t ln p).1 then (if (rdO t ln p).2.1 = ln then (true, ln) else if chB t ln 59 (rdO t ln p).2.1 then rdA t ln n ((rdO t ln p).2.1 + 1) else (false, (rdO t ln p).2.1)) else (false, (rdO t ln p).2.1) from rfl, h, if_pos rfl, if_neg h2, h3, if_pos rfl]

end A28

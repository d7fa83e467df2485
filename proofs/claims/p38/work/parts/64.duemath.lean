section A64
/-! ### what the law does to its own rows -/
abbrev L3 : List Nat := [204, 205, 206]
def PD (w : Wd) (A' : St) (v : Int32) : Option Value → Wd → Prop := fun r w' => r = some (.int v) ∧ LR w' A' ∧ Frm L3 w w'
theorem PD_no {w : Wd} {A : St} {v : Int32} (h : LR w A) : PD w A v (some (.int v)) w := ⟨rfl, h, Frm.rf⟩
theorem LN.cut6 {w : Wd} {A : St} {n : Nat} {x0 x1 x2 x3 x4 x5 : Int32} (h : LN w A n) :
    LN (wSet (wSet (wSet (wSet (wSet (wSet w 205 (6 * n) x0) 205 (6 * n + 1) x1) 205 (6 * n + 2) x2) 205 (6 * n + 3) x3) 205 (6 * n + 4) x4) 205 (6 * n + 5) x5) (upd (upd (upd (upd (upd (upd A (40 + 6 * n + 0) x0) (40 + 6 * n + 1) x1) (40 + 6 * n + 2) x2) (40 + 6 * n + 3) x3) (40 + 6 * n + 4) x4) (40 + 6 * n + 5) x5) (n + 1) := by
  refine ((((((h.setk (k := n) (j := 0)).setk (k := n) (j := 1)).setk (k := n) (j := 2)).setk (k := n) (j := 3)).setk (k := n) (j := 4)).setk (k := n) (j := 5)).ext (fun j hj => ?_)
  match j, hj with
  | 0, _ => rw [wSet_ne (by omega), wSet_ne (by omega), wSet_ne (by omega), wSet_ne (by omega), wSet_ne (by omega), upd_ne (by omega), upd_ne (by omega), upd_ne (by omega), upd_ne (by omega), upd_ne (by omega), upd_at]; exact wSet_at
  | 1, _ => rw [wSet_ne (by omega), wSet_ne (by omega), wSet_ne (by omega), wSet_ne (by omega), upd_ne (by omega), upd_ne (by omega), upd_ne (by omega), upd_ne (by omega), upd_at]; exact wSet_at
  | 2, _ => rw [wSet_ne (by omega), wSet_ne (by omega), wSet_ne (by omega), upd_ne (by omega), upd_ne (by omega), upd_ne (by omega), upd_at]; exact wSet_at
  | 3, _ => rw [wSet_ne (by omega), wSet_ne (by omega), upd_ne (by omega), upd_ne (by omega), upd_at]; exact wSet_at
  | 4, _ => rw [wSet_ne (by omega), upd_ne (by omega), upd_at]; exact wSet_at
  | 5, _ => rw [upd_at]; exact wSet_at
theorem cut_kN {A : St} {c q : Nat} (h : kN A < 12) : kN (cutA A c q) = kN A + 1 := by
  show iN (cutA A c q 0) = _
  unfold cutA
  rw [upd_ne (by decide), upd_at]
  exact iN_nI (by omega)
theorem cut_LR {w : Wd} {A : St} {c q : Nat} (h : LR w A) (h10 : kN A < 10) :
    LR (wSet (wSet (wSet (wSet (wSet (wSet (wSet (wSet w 205 (6 * kN A) (nI c)) 205 (6 * kN A + 1) (nI q)) 205 (6 * kN A + 2) (nI 0)) 205 (6 * kN A + 3) (nI c)) 205 (6 * kN A + 4) (nI 0)) 205 (6 * kN A + 5) (nI 0)) 204 1 (A 1 + nI (sN A 1 * lvN c))) 204 0 (nI (kN A + 1))) (cutA A c q) := by
  have z := ((h.1.cut6 (x0 := nI c) (x1 := nI q) (x2 := nI 0) (x3 := nI c) (x4 := nI 0) (x5 := nI 0)).setq (j := 1) (x := A 1 + nI (sN A 1 * lvN c)) (by decide)).setq (j := 0) (x := nI (kN A + 1)) (by decide)
  refine ⟨?_, ?_⟩
  · rw [cut_kN (by omega)]
    rw [upd_comm (show ¬ 0 = 1 by decide)] at z
    exact z
  · rw [cut_kN (by omega)]
    omega
theorem kN_same {A B : St} (h : B 0 = A 0) : kN B = kN A := congrArg iN h
theorem LR_set {w : Wd} {A B : St} (h : LN w B (kN A)) (h0 : kN B = kN A) (h10 : kN A ≤ 10) : LR w B := ⟨by rw [h0]; exact h, by rw [h0]; exact h10⟩
/-- the keys behind one that goes move up: so far those below e -/
def shR (r : Nat → Int32) (k e : Nat) : Nat → Int32 := fun i => if 6 * k ≤ i ∧ i < e then r (i + 6) else r i
theorem shR_0 {r : Nat → Int32} {k : Nat} : r = shR r k (6 * k) := funext fun i => (if_neg (by omega)).symm
theorem shR_s {v : Wd} {r : Nat → Int32} {k e : Nat} (h : v.1 205 = shR r k e) (hk : 6 * k ≤ e) : (wSet v 205 e (v.1 205 (e + 6))).1 205 = shR r k (e + 1) := by
  funext i
  rw [wSet_get, h]
  by_cases h1 : i = e
  · rw [if_pos ⟨rfl, h1⟩]
    unfold shR
    rw [if_neg (by omega), if_pos (by omega), h1]
  · rw [if_neg (by omega)]
    unfold shR
    by_cases h2 : 6 * k ≤ i ∧ i < e
    · rw [if_pos h2, if_pos (by omega)]
    · rw [if_neg h2, if_neg (by omega)]
theorem ret_kN {A : St} {k : Nat} (hA : AOK A) (hk : k < kN A) : kN (retA A k) = kN A - 1 := by
  have := hA.n12
  show iN (retA A k 0) = _
  unfold retA
  rw [upd_ne (by decide), rtK_lo (by omega), upd_at]
  exact iN_nI (by omega)
theorem ret_LR {w v : Wd} {A : St} {k : Nat} (hA : AOK A) (h : LR w A) (hk : k < kN A) (hF : Frm [205] w v) (h5 : v.1 205 = shR (w.1 205) k (6 * kN A - 6)) : LR (wSet (wSet v 204 0 (nI (kN A - 1))) 204 5 (A 5 + nI 1)) (retA A k) := by
  have hn := ret_kN hA hk
  refine ⟨?_, by rw [hn]; have := h.2; omega⟩
  rw [hn]
  intro i hi hl
  have hv : ∀ a, 204 ≤ a → a < 207 → ¬ a = 205 → v.1 a = w.1 a := fun a _ _ ha => hF.at a (by simpa using ha)
  by_cases h40 : i < 40
  · have z0 := h.1 i (by omega) hl
    have hlk := lok_no hl
    have hT : ¬ lT i = 1 := by unfold lT; split <;> (try split) <;> omega
    have hT3 : lT i < 3 := by unfold lT; split <;> (try split) <;> omega
    by_cases e0 : i = 0
    · subst e0
      unfold retA
      rw [upd_ne (by decide), rtK_lo (by omega), upd_at]
      show (wSet (wSet v 204 0 (nI (kN A - 1))) 204 5 (A 5 + nI 1)).1 204 0 = _
      rw [wSet_ne (by decide)]
      exact wSet_at
    · by_cases e5 : i = 5
      · subst e5
        unfold retA
        rw [upd_at]
        exact wSet_at
      · have ne0 : ¬ (204 + lT i = 204 ∧ lF i = 0) := fun z => e0 (lTF_inj hl (j := 0) rfl (by rw [show lT 0 = 0 from rfl]; omega) (by rw [show lF 0 = 0 from rfl]; exact z.2))
        have ne5 : ¬ (204 + lT i = 204 ∧ lF i = 5) := fun z => e5 (lTF_inj hl (j := 5) rfl (by rw [show lT 5 = 0 from rfl]; omega) (by rw [show lF 5 = 5 from rfl]; exact z.2))
        rw [wSet_ne ne5, wSet_ne ne0, hv _ (by omega) (by omega) (by omega), z0]
        unfold retA
        rw [upd_ne e5, rtK_lo (by omega), upd_ne e0]
  · rw [lT_k (by omega), lF_k (by omega), wSet_ne (by omega), wSet_ne (by omega)]
    show v.1 205 (i - 40) = _
    rw [h5]
    unfold retA shR
    rw [upd_ne (by omega)]
    by_cases h1 : 6 * k ≤ i - 40
    · have zz := h.1 (i + 6) (by omega) (lok_of (by omega))
      rw [lT_k (by omega), lF_k (by omega)] at zz
      rw [if_pos (by omega), rtK_in _ (by omega), ← zz, show i - 40 + 6 = i + 6 - 40 by omega]
    · have zz := h.1 i (by omega) hl
      rw [lT_k (by omega), lF_k (by omega)] at zz
      rw [if_neg (by omega), rtK_lo (by omega), upd_ne (by omega)]
      exact zz
theorem bI_xor (b : Bool) : bI b ^^^ nI 1 = bI (!b) := by cases b <;> decide
def nQ (c : Nat) : Nat → Nat
  | 0 => 0
  | d + 1 => if dep c (3 - d) ≤ dep c (nQ c d) then 3 - d else nQ c d
theorem nQ_lt (c : Nat) : ∀ d, nQ c d < 4
  | 0 => Nat.zero_lt_succ 3
  | d + 1 => by
    have h := nQ_lt c d
    unfold nQ
    split <;> omega
theorem nQ_all : (List.range 81).all (fun c => nQ c 4 == shN c) = true := by decide +kernel
theorem nQ_4 {c : Nat} (hc : c < 81) : nQ c 4 = shN c := eq_of_beq (all81 (P := fun c => nQ c 4 == shN c) nQ_all hc)
theorem d4 {d : Nat} (h : d ≤ 4) : (nI (4 - d) - nI 1 < 0 → d = 4) ∧ (¬ nI (4 - d) - nI 1 < 0 → d < 4) := by
  by_cases e : d = 4
  · subst e
    exact ⟨fun _ => rfl, fun z => absurd (by decide) z⟩
  · refine ⟨fun z => ?_, fun _ => by omega⟩
    rw [pk_sub (by omega)] at z
    exact absurd z (nI_pos (by omega))
theorem ii_m1 (x : Int32) : x + Int32.ofInt (-1) = x - nI 1 := by rw [Int32.sub_eq_add_neg]; rfl
theorem frm3 {w v : Wd} {K : List Nat} (h : Frm K w v) (hs : ∀ a, a ∈ K → a ∈ L3) : Frm L3 w v := h.up hs
/-- the ones of a set, and how many there are -/
theorem ones_one : (List.range 4096).all (fun x => (List.range 12).all fun k => !decide (x < 2 ^ k) || onesN (x ||| 2 ^ k) == onesN x + 1) = true := by decide +kernel
theorem ones_msk (P : Nat → Bool) : ∀ n, n ≤ 12 → onesN (mskN P n) = cntN P n
  | 0, _ => on_0
  | n + 1, h => by
    have ih := ones_msk P n (by omega)
    have hl := mskN_lt P n
    show onesN (mskN P n ||| (if P n then 2 ^ n else 0)) = cntN P n + (if P n then 1 else 0)
    cases e : P n with
    | false => simp [ih]
    | true =>
      have h12 : 2 ^ n ≤ 2 ^ 11 := Nat.pow_le_pow_right (by decide) (by omega)
      have z := List.all_eq_true.mp (List.all_eq_true.mp ones_one (mskN P n) (List.mem_range.mpr (by omega))) n (List.mem_range.mpr (by omega))
      rw [decide_eq_true hl] at z
      have z2 : onesN (mskN P n ||| 2 ^ n) = onesN (mskN P n) + 1 := eq_of_beq z
      simp [z2, ih]
/-- a lock's four ints are emptied: so far those below e -/
def tkR (r : Nat → Int32) (p e : Nat) : Nat → Int32 := fun i => if 4 * p ≤ i ∧ i < 4 * p + e then (if i < 4 * p + 2 then -1 else nI 0) else r i
theorem tkR_0 {r : Nat → Int32} {p : Nat} : r = tkR r p 0 := funext fun i => (if_neg (by omega)).symm
theorem tkR_s {v : Wd} {r : Nat → Int32} {p e : Nat} (h : v.1 206 = tkR r p e) : (wSet v 206 (4 * p + e) (if e < 2 then -1 else nI 0)).1 206 = tkR r p (e + 1) := by
  funext i
  rw [wSet_get, h]
  unfold tkR
  by_cases h1 : i = 4 * p + e
  · subst h1
    rw [if_pos ⟨rfl, rfl⟩, if_pos (show 4 * p ≤ 4 * p + e ∧ 4 * p + e < 4 * p + (e + 1) by omega)]
    by_cases h2 : e < 2
    · rw [if_pos h2, if_pos (by omega)]
    · rw [if_neg h2, if_neg (by omega)]
  · rw [if_neg (by omega)]
    by_cases h2 : 4 * p ≤ i ∧ i < 4 * p + e
    · have h3 : 4 * p ≤ i ∧ i < 4 * p + (e + 1) := by omega
      rw [if_pos h2, if_pos h3]
    · have h3 : ¬ (4 * p ≤ i ∧ i < 4 * p + (e + 1)) := by omega
      rw [if_neg h2, if_neg h3]
theorem tak_LR {w v : Wd} {A : St} {p : Nat} (h : LR w A) (hp : p < 6) (hF : Frm [206] w v) (h6 : v.1 206 = tkR (w.1 206) p 4) : LR v (takA A p) := by
  refine LR_set ?_ tak_kN h.2
  intro i hi hl
  have hv : ∀ a, ¬ a = 206 → v.1 a = w.1 a := fun a ha => hF.at a (by simpa using ha)
  have z := h.1 i hi hl
  by_cases hb : 16 ≤ i ∧ i < 40
  · rw [lT_l hb, lF_l hb] at z ⊢
    show v.1 206 (i - 16) = _
    rw [h6]
    unfold tkR takA
    by_cases h1 : 4 * p ≤ i - 16 ∧ i - 16 < 4 * p + 4
    · rw [if_pos h1]
      obtain ⟨j, hj, e⟩ : ∃ j, j < 4 ∧ i = 16 + 4 * p + j := ⟨i - 16 - 4 * p, by omega, by omega⟩
      match j, hj with
      | 0, _ => rw [e, if_pos (by omega), upd_ne (by omega), upd_ne (by omega), upd_ne (by omega), upd_at]
      | 1, _ => rw [e, if_pos (by omega), upd_ne (by omega), upd_ne (by omega), upd_at]
      | 2, _ => rw [e, if_neg (by omega), upd_ne (by omega), upd_at]
      | 3, _ => rw [e, if_neg (by omega), upd_at]
    · rw [if_neg h1, upd_ne (by omega), upd_ne (by omega), upd_ne (by omega), upd_ne (by omega)]
      exact z
  · have hT : ¬ 204 + lT i = 206 := by unfold lT; split <;> (try split) <;> omega
    rw [hv _ hT, z]
    unfold takA
    rw [upd_ne (by omega), upd_ne (by omega), upd_ne (by omega), upd_ne (by omega)]
end A64

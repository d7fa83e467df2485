section A21
/-! ### the class's state, an index at a time -/
def toI (i : Nat) : Nat := if i < 8 then 0 else if i < 12 then 4 else if i < 16 then 3 else if i < 40 then 17 + (i - 16) / 4 else 5 + (i - 40) / 6
def pmI (m : Nat) : Nat := if m = 0 then 0 else if m = 1 then 3 else if m = 2 then 5 else if m = 3 then 1 else if m = 4 then 2 else 4
def fdI (i : Nat) : Nat := if i = 0 then 1 else if i < 8 then i + 4 else if i < 12 then i - 8 else if i < 16 then i - 12 else if i < 40 then (i - 16) % 4 else pmI ((i - 40) % 6)
def DN (w : Wd) (b : Nat) (A : St) (N : Nat) : Prop := ∀ i, i < 40 + 6 * N → w.1 (b + toI i) (fdI i) = A i
theorem tk {k j : Nat} (hj : j < 6) : toI (40 + 6 * k + j) = 5 + k := by
  unfold toI
  rw [if_neg (by omega), if_neg (by omega), if_neg (by omega), if_neg (by omega)]
  omega
theorem fk {k j : Nat} (hj : j < 6) : fdI (40 + 6 * k + j) = pmI j := by
  unfold fdI
  rw [if_neg (by omega), if_neg (by omega), if_neg (by omega), if_neg (by omega), if_neg (by omega), show (40 + 6 * k + j - 40) % 6 = j by omega]
theorem tl {p j : Nat} (hp : p < 6) (hj : j < 4) : toI (16 + 4 * p + j) = 17 + p := by
  unfold toI
  rw [if_neg (by omega), if_neg (by omega), if_neg (by omega), if_pos (by omega)]
  omega
theorem fl {p j : Nat} (hp : p < 6) (hj : j < 4) : fdI (16 + 4 * p + j) = j := by
  unfold fdI
  rw [if_neg (by omega), if_neg (by omega), if_neg (by omega), if_neg (by omega), if_pos (by omega)]
  omega
theorem tp {q : Nat} (hq : q < 4) : toI (12 + q) = 3 := by
  unfold toI
  rw [if_neg (by omega), if_neg (by omega), if_pos (by omega)]
theorem fp {q : Nat} (hq : q < 4) : fdI (12 + q) = q := by
  unfold fdI
  rw [if_neg (by omega), if_neg (by omega), if_neg (by omega), if_pos (by omega)]
  omega
theorem ts {j : Nat} (hj : j < 4) : toI (8 + j) = 4 := by
  unfold toI
  rw [if_neg (by omega), if_pos (by omega)]
theorem fs {j : Nat} (hj : j < 4) : fdI (8 + j) = j := by
  unfold fdI
  rw [if_neg (by omega), if_neg (by omega), if_pos (by omega)]
  omega
theorem tc {i : Nat} (hi : i < 8) : toI i = 0 := if_pos hi
theorem fc {i : Nat} (hi : 0 < i ∧ i < 8) : fdI i = i + 4 := by
  unfold fdI
  rw [if_neg (by omega), if_pos (by omega)]
set_option maxRecDepth 20000 in
theorem tf_all : (List.range 112).all (fun i => (List.range 112).all fun j => !(toI i == toI j && fdI i == fdI j) || i == j) = true := by decide +kernel
theorem tf_inj {i j : Nat} (hi : i < 112) (hj : j < 112) (h1 : toI i = toI j) (h2 : fdI i = fdI j) : i = j := by
  have h := List.all_eq_true.mp (List.all_eq_true.mp tf_all i (List.mem_range.mpr hi)) j (List.mem_range.mpr hj)
  rw [h1, h2] at h
  simpa using h
theorem toI_lt {i : Nat} (h : i < 112) : toI i < 23 := by
  unfold toI
  repeat' split
  all_goals omega
variable {w w' : Wd} {b : Nat} {A B : St} {N : Nat}
theorem DN.set {i : Nat} {x : Int32} (h : DN w b A N) (hN : N ≤ 12) (hi : i < 112) : DN (wSet w (b + toI i) (fdI i) x) b (upd A i x) N := by
  intro j hj
  rw [wSet_get]
  by_cases h1 : j = i
  · subst h1
    rw [if_pos ⟨rfl, rfl⟩, upd_at]
  · rw [if_neg (fun z => h1 (tf_inj (by omega) hi (by omega) z.2)), upd_ne h1]
    exact h j hj
theorem DN.k {k j : Nat} (h : DN w b A N) (hk : k < N) (hj : j < 6) : w.1 (b + 5 + k) (pmI j) = A (40 + 6 * k + j) := by
  have h1 := h (40 + 6 * k + j) (by omega)
  rw [tk hj, fk hj] at h1
  rw [Nat.add_assoc]
  exact h1
theorem DN.l {p j : Nat} (h : DN w b A N) (hp : p < 6) (hj : j < 4) : w.1 (b + 17 + p) j = A (16 + 4 * p + j) := by
  have h1 := h (16 + 4 * p + j) (by omega)
  rw [tl hp hj, fl hp hj] at h1
  rw [Nat.add_assoc]
  exact h1
theorem DN.p {q : Nat} (h : DN w b A N) (hq : q < 4) : w.1 (b + 3) q = A (12 + q) := by
  have h1 := h (12 + q) (by omega)
  rwa [tp hq, fp hq] at h1
theorem DN.s {j : Nat} (h : DN w b A N) (hj : j < 4) : w.1 (b + 4) j = A (8 + j) := by
  have h1 := h (8 + j) (by omega)
  rwa [ts hj, fs hj] at h1
theorem DN.c {i : Nat} (h : DN w b A N) (hi : 0 < i ∧ i < 8) : w.1 b (i + 4) = A i := by
  have h1 := h i (by omega)
  rwa [tc hi.2, fc hi] at h1
theorem DN.n (h : DN w b A N) : w.1 b 1 = A 0 := h 0 (by omega)
theorem DR.dn (h : DR w b A) : DN w b A (kN A) := by
  intro i hi
  have c1 : i = 0 ∨ (0 < i ∧ i < 8) ∨ (∃ j, j < 4 ∧ i = 8 + j) ∨ (∃ q, q < 4 ∧ i = 12 + q) ∨ (∃ p j, p < 6 ∧ j < 4 ∧ i = 16 + 4 * p + j) ∨ (∃ k j, k < kN A ∧ j < 6 ∧ i = 40 + 6 * k + j) := by
    by_cases a1 : i < 8
    · omega
    · by_cases a2 : i < 12
      · exact Or.inr (Or.inr (Or.inl ⟨i - 8, by omega, by omega⟩))
      · by_cases a3 : i < 16
        · exact Or.inr (Or.inr (Or.inr (Or.inl ⟨i - 12, by omega, by omega⟩)))
        · by_cases a4 : i < 40
          · exact Or.inr (Or.inr (Or.inr (Or.inr (Or.inl ⟨(i - 16) / 4, (i - 16) % 4, by omega, by omega, by omega⟩))))
          · exact Or.inr (Or.inr (Or.inr (Or.inr (Or.inr ⟨(i - 40) / 6, (i - 40) % 6, by omega, by omega, by omega⟩))))
  rcases c1 with rfl | hi | ⟨j, hj, rfl⟩ | ⟨q, hq, rfl⟩ | ⟨p, j, hp, hj, rfl⟩ | ⟨k, j, hk, hj, rfl⟩
  · exact h.1
  · rw [tc hi.2, fc hi]
    obtain ⟨r1, r2, r3, r4, r5, r6, r7⟩ := h.2.2.2.2.2
    match i, hi with
    | 1, _ => exact r1
    | 2, _ => exact r2
    | 3, _ => exact r3
    | 4, _ => exact r4
    | 5, _ => exact r5
    | 6, _ => exact r6
    | 7, _ => exact r7
  · rw [ts hj, fs hj]
    exact h.2.2.2.2.1 j hj
  · rw [tp hq, fp hq]
    exact h.2.2.2.1 q hq
  · rw [tl hp hj, fl hp hj, ← Nat.add_assoc]
    obtain ⟨r1, r2, r3, r4⟩ := h.2.2.1 p hp
    match j, hj with
    | 0, _ => exact r1
    | 1, _ => exact r2
    | 2, _ => exact r3
    | 3, _ => exact r4
  · rw [tk hj, fk hj, ← Nat.add_assoc]
    obtain ⟨r1, r2, r3, r4, r5, r6⟩ := h.2.1 k hk
    match j, hj with
    | 0, _ => exact r1
    | 1, _ => exact r4
    | 2, _ => exact r6
    | 3, _ => exact r2
    | 4, _ => exact r3
    | 5, _ => exact r5
theorem DN.dr (h : DN w b A N) (hN : kN A = N) : DR w b A := by
  subst hN
  exact ⟨h.n, fun k hk => ⟨h.k (j := 0) hk (by decide), h.k (j := 3) hk (by decide), h.k (j := 4) hk (by decide), h.k (j := 1) hk (by decide), h.k (j := 5) hk (by decide), h.k (j := 2) hk (by decide)⟩,
    fun p hp => ⟨h.l (j := 0) hp (by decide), h.l (j := 1) hp (by decide), h.l (j := 2) hp (by decide), h.l (j := 3) hp (by decide)⟩, fun q hq => h.p hq, fun j hj => h.s hj,
    h.c (i := 1) (by decide), h.c (i := 2) (by decide), h.c (i := 3) (by decide), h.c (i := 4) (by decide), h.c (i := 5) (by decide), h.c (i := 6) (by decide), h.c (i := 7) (by decide)⟩
theorem DN.ext (h : DN w b A N) (hk : ∀ j, j < 6 → w.1 (b + 5 + N) (pmI j) = A (40 + 6 * N + j)) : DN w b A (N + 1) := by
  intro i hi
  by_cases h1 : i < 40 + 6 * N
  · exact h i h1
  · have h2 := hk (i - (40 + 6 * N)) (by omega)
    rw [show 40 + 6 * N + (i - (40 + 6 * N)) = i by omega] at h2
    have h3 : toI i = 5 + N := by
      have := tk (k := N) (j := i - (40 + 6 * N)) (by omega)
      rwa [show 40 + 6 * N + (i - (40 + 6 * N)) = i by omega] at this
    have h4 : fdI i = pmI (i - (40 + 6 * N)) := by
      have := fk (k := N) (j := i - (40 + 6 * N)) (by omega)
      rwa [show 40 + 6 * N + (i - (40 + 6 * N)) = i by omega] at this
    rw [h3, h4, ← Nat.add_assoc]
    exact h2
theorem DN.congr (h : DN w b A N) (hA : ∀ i, i < 40 + 6 * N → A i = B i) : DN w b B N := fun i hi => (h i hi).trans (hA i hi)
theorem DN.less {M : Nat} (h : DN w b A N) (hM : M ≤ N) : DN w b A M := fun i hi => h i (by omega)
/-- the same things in both worlds -/
theorem DN.same (h : DN w b A N) (hN : N ≤ 12) (hw : ∀ a, b ≤ a → a < b + 23 → w'.1 a = w.1 a) : DN w' b A N := fun i hi => by
  have := toI_lt (i := i) (by omega)
  rw [hw _ (by omega) (by omega)]
  exact h i hi
theorem DR.same (h : DR w b A) (hA : AOK A) (hw : ∀ a, b ≤ a → a < b + 23 → w'.1 a = w.1 a) : DR w' b A := (h.dn.same hA.n12 hw).dr rfl
theorem kN_upd {i : Nat} {x : Int32} (h : ¬ i = 0) : kN (upd A i x) = kN A := by
  unfold kN
  rw [upd_ne (fun z => h z.symm)]
/-! ### stores, and what is known behind them -/
variable {G : aG} {p : Program} {l : Launch} {e : Env} {R : Room} {s : State} {m : MethodId} {args : Array Value} {below : List Frame} {meth : Method} {c : Code} {Q : State → Prop} {n k0 u0 pc : Nat} {L : aL} {st : List Value} {ex : Nat × Nat} {us : Nat} {x : Int32}
theorem a_dnK {k j : Nat} (h : DN w b A N) (hN : N ≤ 12) (hk : k < 12) (hj : j < 6) (kk : DN (wSet w (b + 5 + k) (pmI j) x) b (upd A (40 + 6 * k + j) x) N → WA G p l e R s m args below meth c Q n k0 u0 pc L st (fzM (wSet w (b + 5 + k) (pmI j) x) ex us)) : WA G p l e R s m args below meth c Q n k0 u0 pc L st (fzM (wSet w (b + 5 + k) (pmI j) x) ex us) := by
  refine kk ?_
  have h1 := h.set (i := 40 + 6 * k + j) (x := x) hN (by omega)
  rwa [tk hj, fk hj, ← Nat.add_assoc] at h1
theorem a_dnL {q j : Nat} (h : DN w b A N) (hN : N ≤ 12) (hq : q < 6) (hj : j < 4) (kk : DN (wSet w (b + 17 + q) j x) b (upd A (16 + 4 * q + j) x) N → WA G p l e R s m args below meth c Q n k0 u0 pc L st (fzM (wSet w (b + 17 + q) j x) ex us)) : WA G p l e R s m args below meth c Q n k0 u0 pc L st (fzM (wSet w (b + 17 + q) j x) ex us) := by
  refine kk ?_
  have h1 := h.set (i := 16 + 4 * q + j) (x := x) hN (by omega)
  rwa [tl hq hj, fl hq hj, ← Nat.add_assoc] at h1
theorem a_dnP {q : Nat} (h : DN w b A N) (hN : N ≤ 12) (hq : q < 4) (kk : DN (wSet w (b + 3) q x) b (upd A (12 + q) x) N → WA G p l e R s m args below meth c Q n k0 u0 pc L st (fzM (wSet w (b + 3) q x) ex us)) : WA G p l e R s m args below meth c Q n k0 u0 pc L st (fzM (wSet w (b + 3) q x) ex us) := by
  refine kk ?_
  have h1 := h.set (i := 12 + q) (x := x) hN (by omega)
  rwa [tp hq, fp hq] at h1
theorem a_dnS {q : Nat} (h : DN w b A N) (hN : N ≤ 12) (hq : q < 4) (kk : DN (wSet w (b + 4) q x) b (upd A (8 + q) x) N → WA G p l e R s m args below meth c Q n k0 u0 pc L st (fzM (wSet w (b + 4) q x) ex us)) : WA G p l e R s m args below meth c Q n k0 u0 pc L st (fzM (wSet w (b + 4) q x) ex us) := by
  refine kk ?_
  have h1 := h.set (i := 8 + q) (x := x) hN (by omega)
  rwa [ts hq, fs hq] at h1
theorem a_dnC (i : Nat) (h : DN w b A N) (hN : N ≤ 12) (hi : 0 < i ∧ i < 8) (kk : DN (wSet w b (i + 4) x) b (upd A i x) N → WA G p l e R s m args below meth c Q n k0 u0 pc L st (fzM (wSet w b (i + 4) x) ex us)) : WA G p l e R s m args below meth c Q n k0 u0 pc L st (fzM (wSet w b (i + 4) x) ex us) := by
  refine kk ?_
  have h1 := h.set (i := i) (x := x) hN (by omega)
  rwa [tc hi.2, fc hi] at h1
theorem a_dnN (h : DN w b A N) (hN : N ≤ 12) (kk : DN (wSet w b 1 x) b (upd A 0 x) N → WA G p l e R s m args below meth c Q n k0 u0 pc L st (fzM (wSet w b 1 x) ex us)) : WA G p l e R s m args below meth c Q n k0 u0 pc L st (fzM (wSet w b 1 x) ex us) := by
  refine kk ?_
  exact h.set (i := 0) (x := x) hN (by omega)
/-! ### what stays as it was -/
/-- all but the state that is now -/
def Fr (w w' : Wd) : Prop := (∀ a, a < 3 ∨ 26 ≤ a → w'.1 a = w.1 a) ∧ w'.2 = w.2
theorem Fr_refl : Fr w w := ⟨fun _ _ => rfl, rfl⟩
theorem Fr_set {a k : Nat} {x : Int32} (ha : 3 ≤ a ∧ a < 26) (h : Fr w w') : Fr w (wSet w' a k x) := ⟨fun c hc => by
  rw [← h.1 c hc]
  have : ¬ c = a := by omega
  simp [wSet, this], h.2⟩
theorem Fr_row {a : Nat} {f : Nat → Int32} (ha : 3 ≤ a ∧ a < 26) (h : Fr w w') : Fr w (wRow w' a f) := ⟨fun c hc => by
  rw [← h.1 c hc, wRow_ne (by omega)], h.2⟩
theorem Fr.trans {w2 : Wd} (h1 : Fr w w') (h2 : Fr w' w2) : Fr w w2 := ⟨fun a ha => (h2.1 a ha).trans (h1.1 a ha), h2.2.trans h1.2⟩
end A21

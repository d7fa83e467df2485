section A11
theorem nI_prd {n : Nat} (hn : n ≤ 12) : (nI n - nI 1).toInt = (n : Int) - 1 := by
  have : (List.range 13).all (fun n => decide ((nI n - nI 1).toInt = (n : Int) - 1)) = true := by decide +kernel
  exact of_decide_eq_true (List.all_eq_true.mp this n (List.mem_range.mpr (by omega)))
theorem inR_key {x : Int32} {n : Nat} (hn : n ≤ 12) : decide (nI 0 ≤ x ∧ x ≤ nI n - nI 1) = inR x n := by
  unfold inR
  have : (nI 0 ≤ x ∧ x ≤ nI n - nI 1) ↔ (0 ≤ x.toInt ∧ x.toInt < n) := by
    simp only [Int32.le_iff_toInt_le]
    rw [nI_toInt (by decide), nI_prd hn]
    omega
  simp only [this]
theorem wth3 {a b s : Nat} (ha : a < 3) (hb : b < 3) (hs : s ≤ 2) : decide (-(nI s) ≤ nI a - nI b ∧ nI a - nI b ≤ nI s) = decide (dfN a b ≤ s) := by
  have : (List.range 3).all (fun a => (List.range 3).all fun b => (List.range 3).all fun s => decide (-(nI s) ≤ nI a - nI b ∧ nI a - nI b ≤ nI s) == decide (dfN a b ≤ s)) = true := by decide +kernel
  have h1 := List.all_eq_true.mp this a (List.mem_range.mpr ha)
  have h2 := List.all_eq_true.mp h1 b (List.mem_range.mpr hb)
  have h3 := List.all_eq_true.mp h2 s (List.mem_range.mpr (by omega))
  exact eq_of_beq h3
/-- sound, by the notches ahead of k alone -/
def sdQ (A : St) (c n : Nat) : Bool := n == 0 || decide (dfN (dep c n) (dep c (n - 1)) ≤ sN A 0)
def sndP (A : St) (c k : Nat) : Bool := allN (sdQ A c) k
theorem sndP_s (A : St) (c k : Nat) : sndP A c (k + 1) = (sndP A c k && sdQ A c k) := rfl
theorem sndP_4 (A : St) (c : Nat) : sndP A c 4 = sndA A c := by
  have h : sndP A c 4 = (decide (dfN (dep c 1) (dep c 0) ≤ sN A 0) && decide (dfN (dep c 2) (dep c 1) ≤ sN A 0) && decide (dfN (dep c 3) (dep c 2) ≤ sN A 0)) := by
    simp [sndP, allN, sdQ]
  rw [h, sndA, spN, ← Bool.decide_and, ← Bool.decide_and]
  exact decide_eq_decide.mpr (by omega)
theorem fndA_lt (A : St) (c : Nat) (ex : Int32) (k : Nat) : fndA A c ex k ≤ 5 := by
  unfold fndA
  repeat' split
  all_goals decide
theorem clsA_lt (A : St) (c : Nat) (ex : Int32) : ∀ k, clsA A c ex k ≤ 5
  | 0 => Nat.zero_le 5
  | k + 1 => by
    have h1 := clsA_lt A c ex k
    have h2 := fndA_lt A c ex k
    show mrgN _ _ ≤ 5
    unfold mrgN
    split <;> omega
end A11

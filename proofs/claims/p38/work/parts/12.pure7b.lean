section A12
theorem woN_lt {c : Nat} (hc : c < 81) : woN c < 81 := by
  have : (List.range 81).all (fun c => decide (woN c < 81)) = true := by decide +kernel
  exact of_decide_eq_true (List.all_eq_true.mp this c (List.mem_range.mpr hc))
theorem bhA_lt {A : St} (hA : AOK A) {k : Nat} (hk : k < kN A) : ∀ u, bhA A k u < 81
  | 0 => hA.c81 (Nat.lt_of_lt_of_le hk hA.n12)
  | u + 1 => by
    have h := bhA_lt hA hk u
    show (if wrA A (A (40 + 6 * k + 4) + nI (u + 1)) then woN (bhA A k u) else bhA A k u) < 81
    split
    · exact woN_lt h
    · exact h
theorem alP_a {A : St} {x p : Nat} (h : x / 2 ^ p &&& 1 = 0) : alP A x p = true := by
  unfold alP
  rw [h]
  rfl
theorem alP_b {A : St} {x p : Nat} (h : wdA A p = true) : alP A x p = true := by
  unfold alP
  rw [h, Bool.or_true]
theorem alP_c {A : St} {x p : Nat} (h : x / 2 ^ p &&& 1 ≠ 0) (h2 : wdA A p = false) : alP A x p = false := by
  unfold alP
  rw [h2, Bool.or_false]
  exact beq_eq_false_iff_ne.mpr h
theorem iN_nI {n : Nat} (h : n < 2 ^ 31) : iN (nI n) = n := by
  unfold iN
  rw [nI_toInt h]
  rfl
end A12

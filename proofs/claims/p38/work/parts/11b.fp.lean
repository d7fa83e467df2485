section A11b
theorem cntN_one {P : Nat → Bool} {j : Nat} (h : P j = true) : ∀ k, j < k → 1 ≤ cntN P k
  | 0, hj => absurd hj (Nat.not_lt_zero j)
  | k + 1, hj => by
    show 1 ≤ cntN P k + (if P k then 1 else 0)
    by_cases zq_1 : j = k
    · subst zq_1
      rw [h]
      exact Nat.le_add_left 1 _
    · have zq_2 := cntN_one h k (by omega)
      omega
theorem sumN_le {P : Nat → Nat} {b : Nat} (h : ∀ k, P k ≤ b) : ∀ k, sumN P k ≤ b * k
  | 0 => Nat.le_refl _
  | k + 1 => by
    have zq_1 := sumN_le h k
    have zq_2 := h k
    show sumN P k + P k ≤ b * (k + 1)
    rw [Nat.mul_add, Nat.mul_one]
    exact Nat.add_le_add zq_1 zq_2
theorem sd0 (A : St) : sndA A 0 = true := decide_eq_true (Nat.le_trans (show spN 0 ≤ 0 by decide) (Nat.zero_le _))
def n64 (r : UInt64) : Bool := decide (r &&& 0x7fffffffffffffff ≤ 0x7ff0000000000000)
def n32 (r : UInt32) : Bool := decide (r &&& 0x7fffffff ≤ 0x7f800000)
theorem n64_of {r : UInt64} (h : n64 r = true) : vf_n64 r := of_decide_eq_true (p := r &&& 0x7fffffffffffffff ≤ 0x7ff0000000000000) h
theorem n32_of {r : UInt32} (h : n32 r = true) : vf_n32 r := of_decide_eq_true (p := r &&& 0x7fffffff ≤ 0x7f800000) h
set_option maxRecDepth 100000 in
theorem shr_all : (List.range 82).all (fun a => (List.range 81).all fun b => n64 (FP.ddiv (FP.i2d (nI a)) (FP.i2d (nI (b + 1))))) = true := by decide +kernel
set_option maxRecDepth 100000 in
theorem mna_all : (List.range 97).all (fun a => (List.range 12).all fun b => n32 (FP.fdiv (FP.i2f (nI a)) (FP.i2f (nI (b + 1))))) = true := by decide +kernel
theorem shr_nn (A : St) : vf_n64 (FP.ddiv (FP.i2d (nI (cdsA A true))) (FP.i2d (nI (cdsA A false)))) := by
  have zq_1 : 1 ≤ cdsA A false := cntN_one (j := 0) (show cdP A false 0 = true from sd0 A) 81 (by decide)
  have zq_2 : cdsA A false ≤ 81 := cntN_le _ 81
  have zq_3 : cdsA A true ≤ 81 := cntN_le _ 81
  have zq_4 := List.all_eq_true.mp shr_all (cdsA A true) (List.mem_range.mpr (by omega))
  have zq_5 := List.all_eq_true.mp zq_4 (cdsA A false - 1) (List.mem_range.mpr (by omega))
  rw [show cdsA A false - 1 + 1 = cdsA A false by omega] at zq_5
  exact n64_of zq_5
def mnA (A : St) : UInt32 := if kN A = 0 then FP.fconst0 else FP.fdiv (FP.i2f (nI (lvsA A))) (FP.i2f (nI (kN A)))
theorem mnA_nn {A : St} (hA : AOK A) (h : ¬ kN A = 0) : vf_n32 (FP.fdiv (FP.i2f (nI (lvsA A))) (FP.i2f (nI (kN A)))) := by
  have zq_0 := hA.n12
  have zq_1 : lvsA A ≤ 8 * kN A := sumN_le (fun k => lvN_le _) _
  have zq_4 := List.all_eq_true.mp mna_all (lvsA A) (List.mem_range.mpr (by omega))
  have zq_5 := List.all_eq_true.mp zq_4 (kN A - 1) (List.mem_range.mpr (by omega))
  rw [show kN A - 1 + 1 = kN A by omega] at zq_5
  exact n32_of zq_5
end A11b

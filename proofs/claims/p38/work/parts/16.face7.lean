section A16
theorem wSet2 {w : Wd} {a k : Nat} {x y : Int32} : wSet (wSet w a k x) a k y = wSet w a k y := by
  unfold wSet
  refine Prod.ext (funext fun b => ?_) rfl
  by_cases zq_1 : b = a
  · subst zq_1
    simp only [if_true]
    funext j
    unfold upd
    by_cases zq_2 : j = k
    · simp [zq_2]
    · simp [zq_2]
  · simp [zq_1]
/-- an answer of the reference, and what it says was thrown -/
abbrev FA (w : Wd) (v : Value) (t : Nat) : Option Value → Wd → Prop := fun r w' => r = some v ∧ w' = wSet w 204 0 (nI t)
theorem win_eq {v : Int32} {n : Nat} {b : Bool} (hn : n < 2 ^ 31) (h : inR v (n + 1) = b) : decide (nI 0 ≤ v ∧ v ≤ nI n) = b := by
  have zq_1 : (nI 0 ≤ v ∧ v ≤ nI n) ↔ (0 ≤ v.toInt ∧ v.toInt < (n : Int) + 1) := by
    simp only [Int32.le_iff_toInt_le]
    rw [nI_toInt (by decide), nI_toInt hn]
    omega
  rw [← h]
  unfold inR
  exact decide_eq_decide.mpr (zq_1.trans (by omega))
theorem opD {A : St} {x c : Nat} : opC A x c = ((sndA A c && (lksA A c &&& x == x)) && (oprA A x c == -1 || decide (lvN c < lvN (iN (oprA A x c))))) := opr_cond.symm
theorem opr_nx (A : St) (x c : Nat) : oprA A x (c + 1) = if (sndA A c && (lksA A c &&& x == x)) && (oprA A x c == -1 || decide (lvN c < lvN (iN (oprA A x c)))) then nI c else oprA A x c := rfl
end A16

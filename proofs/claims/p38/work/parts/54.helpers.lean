section A54
/-! ### the law's helpers: an answer goes to the row, a throw becomes a number -/
def CH (y : MethodName) (cc : ByteArray) (n : Nat) (hh : List (Nat × Nat × Nat × Nat)) (fr lo : Nat) (av : List Value) (w : Wd) (d : Nat) (P : Int32 → Wd → Prop) : Prop :=
  ∀ ex us : Nat, CW y cc n (some .int) hh fr lo av (fzM w ex us) d (6 * d) (fun r M' => ∃ (x : Int32) (w' : Wd), r = some (.int x) ∧ M' = fzM w' (ex + d) (us + 6 * d) ∧ P x w')
end A54

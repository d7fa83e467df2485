section A50
/-! ### what holds of the world at the beginning -/
theorem wdt_no : wdt (fun _ => false) = 0 := by
  obtain ⟨A, a1, -, a3⟩ := wdt_has (T := fun _ => false) rfl
  rw [← a3]
  have z : ∀ c, A c = false := fun c => by
    by_cases h : A c = true
    · exact Bool.noConfusion (show false = true from a1 c h)
    · exact Bool.not_eq_true _ ▸ h
  have y : ∀ k, cntN A k = 0 := fun k => by
    induction k with
    | zero => rfl
    | succ k ih => show cntN A k + (if A k = true then 1 else 0) = 0; rw [ih, z k]; rfl
  exact y 81
theorem chs_no : (chs (fun _ => false) 81).length = 0 := by
  have := chs_len (fun _ => false) 81
  rw [wdt_no] at this
  omega
theorem w0_mo : Mo w0 (fun _ => false) := by
  refine ⟨(fun c h => Bool.noConfusion (show false = true from h)), fun c hc => rfl, ?_, ?_, ?_⟩
  · rw [wdt_no]; rfl
  · rw [chs_no]; rfl
  · rw [chs_no]; exact fun j hj => absurd hj (Nat.not_lt_zero j)
theorem w0_tx (t : Nat → Nat) : Tx w0 t 0 := ⟨rfl, by decide, fun j hj => absurd hj (Nat.not_lt_zero j)⟩
theorem w0_tm (t : Nat → Nat) : Tm w0 t 0 := ⟨rfl, by decide, fun j hj => absurd hj (Nat.not_lt_zero j)⟩
theorem w0_sv (S : Nat → St) : SvC w0 S 0 5 := ⟨⟨rfl, by decide⟩, ⟨rfl, by decide⟩, fun q hq => absurd hq (Nat.not_lt_zero q)⟩
theorem w0_rr : RR w0 (stI 6) := rfl
theorem st0_n : kN (stI 6) = 0 := by decide +kernel
theorem w0_dr : DR w0 3 (stI 6) := by
  refine ⟨by decide +kernel, fun k hk => ?_, by decide +kernel, by decide +kernel, by decide +kernel, by decide +kernel⟩
  rw [st0_n] at hk
  exact absurd hk (Nat.not_lt_zero k)
theorem st0_ok : AOK (stI 6) := by
  refine ⟨by decide +kernel, by decide +kernel, by decide +kernel, by decide +kernel, by decide +kernel, by decide +kernel, ?_⟩
  decide +kernel
end A50

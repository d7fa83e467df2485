section A18
def cutA (A : St) (c q : Nat) : St := upd (upd (upd (upd (upd (upd (upd (upd A (40 + 6 * kN A + 0) (nI c)) (40 + 6 * kN A + 1) (nI q)) (40 + 6 * kN A + 2) (nI 0)) (40 + 6 * kN A + 3) (nI c)) (40 + 6 * kN A + 4) (nI 0)) (40 + 6 * kN A + 5) (nI 0)) 0 (nI (kN A + 1))) 1 (A 1 + nI (sN A 1 * lvN c))
def deeA (A : St) (k j : Nat) : St := upd (upd A (40 + 6 * k + 0) (nI (cN A k + wtN j))) 1 (A 1 + nI (sN A 1))
def losA (A : St) (k : Nat) (b : Bool) : St := upd A (40 + 6 * k + 2) (bI b)
/-- a use: the key's code behind it -/
def behA (A : St) (k : Nat) : Nat := if wrA A (A (40 + 6 * k + 4) + nI 1) then woN (cN A k) else cN A k
def tu1A (A : St) (k : Nat) : St := upd A (40 + 6 * k + 4) (A (40 + 6 * k + 4) + nI 1)
def tu4A (A : St) (k p : Nat) : St := upd (upd (upd (tu1A A k) (12 + oN A k) (A (12 + oN A k) + nI 1)) (16 + 4 * p + 2) (A (16 + 4 * p + 2) + nI 1)) 2 (A 2 + nI 1)
def tu7A (A : St) (k p : Nat) : St := upd (upd (upd (tu4A A k p) (40 + 6 * k + 0) (nI (behA A k))) (40 + 6 * k + 5) (A (40 + 6 * k + 5) + nI 1)) 4 (A 4 + nI 1)
def failA (A : St) (p : Nat) : St := upd (upd A (16 + 4 * p + 3) (A (16 + 4 * p + 3) + nI 1)) 3 (A 3 + nI 1)
def turA (A : St) (k p : Nat) : St := if opnA A (cN A k) p then (if behA A k = cN A k then tu4A A k p else tu7A A k p) else failA A p
theorem opn_k {A : St} {i : Nat} {x : Int32} {c p : Nat} (hp : p < 6) (hi : 40 ≤ i) : opnA (upd A i x) c p = opnA A c p := by
  unfold opnA wdA gdA wN gN
  rw [upd_ne (by omega), upd_ne (by omega)]
theorem lks_k {A : St} {i : Nat} {x : Int32} {c : Nat} (hi : 40 ≤ i) : lksA (upd A i x) c = lksA A c := mskN_congr 6 (fun p hp => opn_k hp hi)
theorem losA_ok {A : St} (hA : AOK A) (k : Nat) (b : Bool) : AOK (losA A k b) := hA.upd (by rw [okB_k2]; exact bI_in b) (Or.inr (Or.inl (by omega)))
theorem lks_lt (A : St) (c : Nat) : lksA A c < 64 := mskN_lt _ 6
theorem kys_lt {A : St} (hA : AOK A) (p : Nat) : kysA A p < 2 ^ 12 := Nat.lt_of_lt_of_le (mskN_lt _ (kN A)) (Nat.pow_le_pow_right (by decide) hA.n12)
theorem fr_u {k : Nat} : frI (40 + 6 * k + 4) = true := by
  unfold frI
  rw [decide_eq_true (show 12 ≤ 40 + 6 * k + 4 by omega), decide_eq_true (show 40 ≤ 40 + 6 * k + 4 by omega), decide_eq_true (show 3 ≤ (40 + 6 * k + 4 - 40) % 6 by omega)]
  simp
theorem fr_p {q : Nat} (hq : q < 4) : frI (12 + q) = true := by
  unfold frI
  rw [decide_eq_true (show 12 ≤ 12 + q by omega), decide_eq_true (show 12 + q < 16 by omega), decide_eq_true (show 12 + q < 40 by omega)]
  simp
theorem fr_l2 {p j : Nat} (hp : p < 6) (hj : 2 ≤ j ∧ j < 4) : frI (16 + 4 * p + j) = true := by
  unfold frI
  rw [decide_eq_true (show 12 ≤ 16 + 4 * p + j by omega), decide_eq_true (show 2 ≤ (16 + 4 * p + j - 16) % 4 by omega), decide_eq_true (show 16 + 4 * p + j < 40 by omega)]
  simp
theorem tu1_ok {A : St} (hA : AOK A) (k : Nat) : AOK (tu1A A k) := hA.upd (okB_k3 (by decide) _) (Or.inr (Or.inl (by omega)))
theorem tu4_ok {A : St} (hA : AOK A) {k p : Nat} (hk : k < 12) (hp : p < 6) : AOK (tu4A A k p) := by
  have zq_o := hA.o4 hk
  exact (((tu1_ok hA k).upd (okB_i (by omega) _) (Or.inl (by omega))).upd (okB_l2 hp (by decide) _) (by omega)).upd (okB_i (by decide) _) (Or.inl (by decide))
theorem tu4_ae {A : St} (hA : AOK A) {k p : Nat} (hk : k < 12) (hp : p < 6) : AE (tu4A A k p) A := ((AE_upd rfl).trans (AE_upd (fr_l2 hp (by decide)))).trans ((AE_upd (fr_p (hA.o4 hk))).trans (AE_upd fr_u))
theorem tur_f {A : St} {k p : Nat} (h : opnA A (cN A k) p = false) : failA A p = turA A k p := by
  unfold turA
  rw [h]
  rfl
theorem tur_4 {A : St} {k p : Nat} (h : opnA A (cN A k) p = true) (h2 : behA A k = cN A k) : tu4A A k p = turA A k p := by
  unfold turA
  rw [h, if_pos rfl, if_pos h2]
theorem tur_7 {A : St} {k p : Nat} (h : opnA A (cN A k) p = true) (h2 : ¬ behA A k = cN A k) : tu7A A k p = turA A k p := by
  unfold turA
  rw [h, if_pos rfl, if_neg h2]
theorem beh_lt {A : St} (hA : AOK A) {k : Nat} (hk : k < 12) : behA A k < 81 := by
  unfold behA
  split
  · exact woN_lt (hA.c81 hk)
  · exact hA.c81 hk
end A18

section A56
/-! ### the law's own rows: 204 counts, settings and uses of persons; 205 keys, six ints each; 206 locks, four ints each. They hold a state A -/
def lT (i : Nat) : Nat := if i < 16 then 0 else if i < 40 then 2 else 1
def lF (i : Nat) : Nat := if i < 8 then i else if i < 16 then i - 2 else if i < 40 then i - 16 else i - 40
def lok (i : Nat) : Bool := i != 6 && i != 7
def LN (w : Wd) (A : St) (N : Nat) : Prop := ∀ i, i < 40 + 6 * N → lok i = true → w.1 (204 + lT i) (lF i) = A i
theorem lok_of {i : Nat} (h : ¬ i = 6 ∧ ¬ i = 7) : lok i = true := by simp [lok, h.1, h.2]
theorem lok_no {i : Nat} (h : lok i = true) : ¬ i = 6 ∧ ¬ i = 7 := by simpa [lok] using h
theorem lT_q {i : Nat} (h : i < 16) : lT i = 0 := if_pos h
theorem lT_l {i : Nat} (h : 16 ≤ i ∧ i < 40) : lT i = 2 := by unfold lT; rw [if_neg (by omega), if_pos h.2]
theorem lT_k {i : Nat} (h : 40 ≤ i) : lT i = 1 := by unfold lT; rw [if_neg (by omega), if_neg (by omega)]
theorem lF_q {i : Nat} (h : i < 8) : lF i = i := if_pos h
theorem lF_s {i : Nat} (h : 8 ≤ i ∧ i < 16) : lF i = i - 2 := by unfold lF; rw [if_neg (by omega), if_pos h.2]
theorem lF_l {i : Nat} (h : 16 ≤ i ∧ i < 40) : lF i = i - 16 := by unfold lF; rw [if_neg (by omega), if_neg (by omega), if_pos h.2]
theorem lF_k {i : Nat} (h : 40 ≤ i) : lF i = i - 40 := by unfold lF; rw [if_neg (by omega), if_neg (by omega), if_neg (by omega)]
theorem lTF_inj {i j : Nat} (hi : lok i = true) (hj : lok j = true) (h1 : lT i = lT j) (h2 : lF i = lF j) : i = j := by
  have a := lok_no hi
  have b := lok_no hj
  unfold lT at h1
  unfold lF at h2
  split at h1 <;> split at h1 <;> split at h2 <;> split at h2 <;> (try split at h1) <;> (try split at h1) <;> (try split at h2) <;> (try split at h2) <;> (try split at h2) <;> (try split at h2) <;> omega
variable {w w' : Wd} {A B : St} {N : Nat}
theorem LN.q {j : Nat} (h : LN w A N) (hj : j < 6) : w.1 204 j = A j := by
  have z := h j (by omega) (lok_of (by omega))
  rwa [lT_q (by omega), lF_q (by omega)] at z
theorem LN.s {j : Nat} (h : LN w A N) (hj : j < 4) : w.1 204 (6 + j) = A (8 + j) := by
  have z := h (8 + j) (by omega) (lok_of (by omega))
  rwa [lT_q (by omega), lF_s (by omega), show 8 + j - 2 = 6 + j by omega] at z
theorem LN.p {j : Nat} (h : LN w A N) (hj : j < 4) : w.1 204 (10 + j) = A (12 + j) := by
  have z := h (12 + j) (by omega) (lok_of (by omega))
  rwa [lT_q (by omega), lF_s (by omega), show 12 + j - 2 = 10 + j by omega] at z
theorem LN.l {p j : Nat} (h : LN w A N) (hp : p < 6) (hj : j < 4) : w.1 206 (4 * p + j) = A (16 + 4 * p + j) := by
  have z := h (16 + 4 * p + j) (by omega) (lok_of (by omega))
  rwa [lT_l (by omega), lF_l (by omega), show 16 + 4 * p + j - 16 = 4 * p + j by omega] at z
theorem LN.k {k j : Nat} (h : LN w A N) (hk : k < N) (hj : j < 6) : w.1 205 (6 * k + j) = A (40 + 6 * k + j) := by
  have z := h (40 + 6 * k + j) (by omega) (lok_of (by omega))
  rwa [lT_k (by omega), lF_k (by omega), show 40 + 6 * k + j - 40 = 6 * k + j by omega] at z
theorem LN.set {i : Nat} {x : Int32} (h : LN w A N) (hi : lok i = true) : LN (wSet w (204 + lT i) (lF i) x) (upd A i x) N := fun j hj hl => by
  by_cases e : j = i
  · subst e
    rw [upd_at]
    exact wSet_at
  · rw [upd_ne e, wSet_ne (fun z => e (lTF_inj hl hi (by omega) z.2))]
    exact h j hj hl
theorem LN.setq {j : Nat} {x : Int32} (h : LN w A N) (hj : j < 6) : LN (wSet w 204 j x) (upd A j x) N := by
  have z := h.set (i := j) (x := x) (lok_of (by omega))
  rwa [lT_q (by omega), lF_q (by omega)] at z
theorem LN.sets {j : Nat} {x : Int32} (h : LN w A N) (hj : j < 4) : LN (wSet w 204 (6 + j) x) (upd A (8 + j) x) N := by
  have z := h.set (i := 8 + j) (x := x) (lok_of (by omega))
  rwa [lT_q (by omega), lF_s (by omega), show 8 + j - 2 = 6 + j by omega] at z
theorem LN.setp {j : Nat} {x : Int32} (h : LN w A N) (hj : j < 4) : LN (wSet w 204 (10 + j) x) (upd A (12 + j) x) N := by
  have z := h.set (i := 12 + j) (x := x) (lok_of (by omega))
  rwa [lT_q (by omega), lF_s (by omega), show 12 + j - 2 = 10 + j by omega] at z
theorem LN.setl {p j : Nat} {x : Int32} (h : LN w A N) (hp : p < 6) (hj : j < 4) : LN (wSet w 206 (4 * p + j) x) (upd A (16 + 4 * p + j) x) N := by
  have z := h.set (i := 16 + 4 * p + j) (x := x) (lok_of (by omega))
  rwa [lT_l (by omega), lF_l (by omega), show 16 + 4 * p + j - 16 = 4 * p + j by omega] at z
theorem LN.setk {k j : Nat} {x : Int32} (h : LN w A N) : LN (wSet w 205 (6 * k + j) x) (upd A (40 + 6 * k + j) x) N := by
  have z := h.set (i := 40 + 6 * k + j) (x := x) (lok_of (by omega))
  rwa [lT_k (by omega), lF_k (by omega), show 40 + 6 * k + j - 40 = 6 * k + j by omega] at z
theorem LN.less {M : Nat} (h : LN w A N) (hM : M ≤ N) : LN w A M := fun i hi hl => h i (by omega) hl
theorem LN.congr (h : LN w A N) (hA : ∀ i, i < 40 + 6 * N → lok i = true → A i = B i) : LN w B N := fun i hi hl => (h i hi hl).trans (hA i hi hl)
theorem LN.same (h : LN w A N) (hw : ∀ a, 204 ≤ a → a < 207 → w'.1 a = w.1 a) : LN w' A N := fun i hi hl => by
  have hT : lT i < 3 := by unfold lT; split <;> (try split) <;> omega
  rw [hw _ (by omega) (by omega)]
  exact h i hi hl
theorem LN.ext (h : LN w A N) (hk : ∀ j, j < 6 → w.1 205 (6 * N + j) = A (40 + 6 * N + j)) : LN w A (N + 1) := fun i hi hl => by
  by_cases e : i < 40 + 6 * N
  · exact h i e hl
  · obtain ⟨j, hj, rfl⟩ : ∃ j, j < 6 ∧ i = 40 + 6 * N + j := ⟨i - (40 + 6 * N), by omega, by omega⟩
    rw [lT_k (by omega), lF_k (by omega), show 40 + 6 * N + j - 40 = 6 * N + j by omega]
    exact hk j hj
/-- the law's rows hold A, and its keys fit them -/
def LR (w : Wd) (A : St) : Prop := LN w A (kN A) ∧ kN A ≤ 10
theorem LR.same (h : LR w A) (hw : ∀ a, 204 ≤ a → a < 207 → w'.1 a = w.1 a) : LR w' A := ⟨h.1.same hw, h.2⟩
theorem LR_n (h : LR w A) (hA : AOK A) : w.1 204 0 = nI (kN A) := (h.1.q (by decide)).trans hA.n
theorem LR_q {j : Nat} (h : LR w A) (hj : j < 6) : w.1 204 j = A j := h.1.q hj
theorem LR_s {j : Nat} (h : LR w A) (hA : AOK A) (hj : j < 4) : w.1 204 (6 + j) = nI (sN A j) := (h.1.s hj).trans (hA.s hj)
theorem LR_s0 (h : LR w A) (hA : AOK A) : w.1 204 6 = nI (sN A 0) := LR_s (j := 0) h hA (by decide)
theorem LR_s1 (h : LR w A) (hA : AOK A) : w.1 204 7 = nI (sN A 1) := LR_s (j := 1) h hA (by decide)
theorem LR_s2 (h : LR w A) (hA : AOK A) : w.1 204 8 = nI (sN A 2) := LR_s (j := 2) h hA (by decide)
theorem LR_s3 (h : LR w A) (hA : AOK A) : w.1 204 9 = nI (sN A 3) := LR_s (j := 3) h hA (by decide)
theorem LR_p {j : Nat} (h : LR w A) (hj : j < 4) : w.1 204 (10 + j) = A (12 + j) := h.1.p hj
theorem LR_kc {k : Nat} (h : LR w A) (hA : AOK A) (hk : k < kN A) : w.1 205 (6 * k) = nI (cN A k) := (h.1.k (j := 0) hk (by decide)).trans (hA.c (Nat.lt_of_lt_of_le hk hA.n12))
theorem LR_ko {k : Nat} (h : LR w A) (hA : AOK A) (hk : k < kN A) : w.1 205 (6 * k + 1) = nI (oN A k) := (h.1.k (j := 1) hk (by decide)).trans (hA.o (Nat.lt_of_lt_of_le hk hA.n12))
theorem LR_kl {k : Nat} (h : LR w A) (hA : AOK A) (hk : k < kN A) : w.1 205 (6 * k + 2) = bI (lsA A k) := (h.1.k (j := 2) hk (by decide)).trans (hA.ls (Nat.lt_of_lt_of_le hk hA.n12))
theorem LR_kf {k : Nat} (h : LR w A) (hk : k < kN A) : w.1 205 (6 * k + 3) = A (40 + 6 * k + 3) := h.1.k hk (by decide)
theorem LR_ku {k : Nat} (h : LR w A) (hk : k < kN A) : w.1 205 (6 * k + 4) = A (40 + 6 * k + 4) := h.1.k hk (by decide)
theorem LR_kw {k : Nat} (h : LR w A) (hk : k < kN A) : w.1 205 (6 * k + 5) = A (40 + 6 * k + 5) := h.1.k hk (by decide)
theorem LR_lw {p : Nat} (h : LR w A) (hp : p < 6) : w.1 206 (4 * p) = A (16 + 4 * p + 0) := h.1.l (j := 0) hp (by decide)
theorem LR_lg {p : Nat} (h : LR w A) (hp : p < 6) : w.1 206 (4 * p + 1) = A (16 + 4 * p + 1) := h.1.l hp (by decide)
theorem LR_lu {p : Nat} (h : LR w A) (hp : p < 6) : w.1 206 (4 * p + 2) = A (16 + 4 * p + 2) := h.1.l hp (by decide)
theorem LR_lf {p : Nat} (h : LR w A) (hp : p < 6) : w.1 206 (4 * p + 3) = A (16 + 4 * p + 3) := h.1.l hp (by decide)
theorem nn_nI {n : Nat} (h : n < 2 ^ 31) : (0 : Int32) ≤ nI n := Int32.le_iff_toInt_le.mpr (by rw [nI_toInt h]; exact Int.natCast_nonneg n)
theorem wd_ge {p : Nat} (hA : AOK A) (hp : p < 6) (h : (0 : Int32) ≤ A (16 + 4 * p + 0)) : wdA A p = true := wdA_t (fun z => by rw [z] at h; exact absurd h (by decide))
theorem wd_lt {p : Nat} (hA : AOK A) (hp : p < 6) (h : ¬ (0 : Int32) ≤ A (16 + 4 * p + 0)) : wdA A p = false := by
  cases e : wdA A p with
  | false => rfl
  | true => rw [hA.w hp e] at h; exact absurd (nn_nI (Nat.lt_trans (hA.w81 hp e) (by decide))) h
theorem gd_ge {p : Nat} (hA : AOK A) (hp : p < 6) (h : (0 : Int32) ≤ A (16 + 4 * p + 1)) : gdA A p = true := gdA_t (fun z => by rw [z] at h; exact absurd h (by decide))
theorem gd_lt {p : Nat} (hA : AOK A) (hp : p < 6) (h : ¬ (0 : Int32) ≤ A (16 + 4 * p + 1)) : gdA A p = false := by
  cases e : gdA A p with
  | false => rfl
  | true => rw [hA.g hp e] at h; exact absurd (nn_nI (Nat.lt_trans (hA.g81 hp e) (by decide))) h
/-! ### how two codes lie -/
def lieN (c d : Nat) : Nat := if c = d then 3 else if und c d then 4 else if und d c then 5 else 0
def gtP (c d k : Nat) : Bool := decide (dep d k < dep c k)
theorem n1 {b : Bool} (h : b = true) : nI 1 = nI (if b = true then 1 else 0) := by rw [if_pos h]
theorem n0 {b : Bool} (h : b = false) : nI 0 = nI (if b = true then 1 else 0) := by rw [h]; rfl
theorem lie_all : (List.range 81).all (fun c => (List.range 81).all fun d => lieN c d == if cntN (gtP c d) 4 + cntN (gtP d c) 4 = 0 then 3 else if cntN (gtP c d) 4 = 0 then 4 else if cntN (gtP d c) 4 = 0 then 5 else 0) = true := by decide +kernel
theorem lie_cnt {c d : Nat} (hc : c < 81) (hd : d < 81) : lieN c d = if cntN (gtP c d) 4 + cntN (gtP d c) 4 = 0 then 3 else if cntN (gtP c d) 4 = 0 then 4 else if cntN (gtP d c) 4 = 0 then 5 else 0 := eq_of_beq (all81b (P := fun c d => lieN c d == if cntN (gtP c d) 4 + cntN (gtP d c) 4 = 0 then 3 else if cntN (gtP c d) 4 = 0 then 4 else if cntN (gtP d c) 4 = 0 then 5 else 0) lie_all hc hd)
theorem lie_lt (c d : Nat) : lieN c d < 6 := by unfold lieN; split <;> (try split) <;> (try split) <;> omega
def msN (c : Nat) : Nat → Nat
  | 0 => 0
  | n + 1 => max (msN c n) (dfN (dep c n) (dep c (n + 1)))
theorem msN_lt (c : Nat) : ∀ n, msN c n < 3
  | 0 => Nat.zero_lt_succ 2
  | n + 1 => by
    have h1 := msN_lt c n
    have h2 := dep_lt c n
    have h3 := dep_lt c (n + 1)
    show max _ _ < 3
    unfold dfN
    omega
theorem ms_all : (List.range 81).all (fun c => msN c 3 == spN c) = true := by decide +kernel
theorem ms_sp {c : Nat} (hc : c < 81) : msN c 3 = spN c := eq_of_beq (all81 (P := fun c => msN c 3 == spN c) ms_all hc)
theorem mx_b : (List.range 3).all (fun a => (List.range 3).all fun b => (List.range 3).all fun m => decide ((nI a - nI b ≤ nI m ∨ nI a - nI b = nI (max m (dfN a b))) ∧ (¬ (nI a - nI b ≤ nI m) ∨ -(nI a - nI b) ≤ nI m ∨ -(nI a - nI b) = nI (max m (dfN a b))) ∧ (¬ (nI a - nI b ≤ nI m) ∨ ¬ (-(nI a - nI b) ≤ nI m) ∨ nI m = nI (max m (dfN a b))))) = true := by decide +kernel
theorem mx_at {a b m : Nat} (ha : a < 3) (hb : b < 3) (hm : m < 3) : (nI a - nI b ≤ nI m ∨ nI a - nI b = nI (max m (dfN a b))) ∧ (¬ (nI a - nI b ≤ nI m) ∨ -(nI a - nI b) ≤ nI m ∨ -(nI a - nI b) = nI (max m (dfN a b))) ∧ (¬ (nI a - nI b ≤ nI m) ∨ ¬ (-(nI a - nI b) ≤ nI m) ∨ nI m = nI (max m (dfN a b))) :=
  of_decide_eq_true (List.all_eq_true.mp (List.all_eq_true.mp (List.all_eq_true.mp mx_b a (List.mem_range.mpr ha)) b (List.mem_range.mpr hb)) m (List.mem_range.mpr hm))
theorem mx1 {a b m : Nat} (ha : a < 3) (hb : b < 3) (hm : m < 3) (h : ¬ nI a - nI b ≤ nI m) : nI a - nI b = nI (max m (dfN a b)) := (mx_at ha hb hm).1.resolve_left h
theorem mx2 {a b m : Nat} (ha : a < 3) (hb : b < 3) (hm : m < 3) (h : nI a - nI b ≤ nI m) (h2 : ¬ -(nI a - nI b) ≤ nI m) : -(nI a - nI b) = nI (max m (dfN a b)) := ((mx_at ha hb hm).2.1.resolve_left (fun z => z h)).resolve_left h2
theorem mx3 {a b m : Nat} (ha : a < 3) (hb : b < 3) (hm : m < 3) (h : nI a - nI b ≤ nI m) (h2 : -(nI a - nI b) ≤ nI m) : nI m = nI (max m (dfN a b)) := ((mx_at ha hb hm).2.2.resolve_left (fun z => z h)).resolve_left (fun z => z h2)
theorem fnd_no {A : St} {c : Nat} {ex : Int32} {k : Nat} (h : ctsA A ex k = false) : nI 0 = nI (fndA A c ex k) := by simp [fndA, h]
theorem fnd_lie {A : St} {c : Nat} {ex : Int32} {k : Nat} (h : ctsA A ex k = true) : nI (lieN c (cN A k)) = nI (fndA A c ex k) := by
  congr 1
  unfold fndA lieN
  rw [h]
  by_cases e : c = cN A k
  · simp [e]
  · have e2 : ¬ cN A k = c := fun z => e z.symm
    simp [e, e2]
def rsN (r : Nat) : Nat := if r = 0 then 9 else r
theorem rs_keep {r f : Nat} (hf : f < 9) (h : f = 0 ∨ rsN r ≤ f) : nI (rsN r) = nI (rsN (mrgN r f)) := by
  congr 1
  unfold rsN mrgN at *
  split at h <;> (repeat' split) <;> omega
theorem rs_new {r f : Nat} (h0 : 0 < f) (h : f < rsN r) : nI f = nI (rsN (mrgN r f)) := by
  congr 1
  unfold rsN mrgN at *
  split at h <;> (repeat' split) <;> omega
theorem rs_end {r : Nat} (hr : r ≤ 5) : (rsN r = 9 → nI 0 = nI r) ∧ (¬ rsN r = 9 → nI (rsN r) = nI r) := by
  unfold rsN
  by_cases e : r = 0
  · simp [e]
  · simp [e]
    omega
theorem rs_lt {r : Nat} (hr : r ≤ 5) : rsN r < 10 := by unfold rsN; split <;> omega
def o1A (A : St) (c p : Nat) : Nat := if wdA A p then lieN c (wN A p) else 0
def o2A (A : St) (c p : Nat) : Nat := if gdA A p then lieN c (gN A p) else 0
theorem rl_all : (List.range 81).all (fun c => (List.range 81).all fun d => rch c d == (lieN c d == 3 || lieN c d == 5)) = true := by decide +kernel
theorem rch_lie {c d : Nat} (hc : c < 81) (hd : d < 81) : rch c d = (lieN c d == 3 || lieN c d == 5) := eq_of_beq (all81b (P := fun c d => rch c d == (lieN c d == 3 || lieN c d == 5)) rl_all hc hd)
theorem opn_o {A : St} {c p : Nat} (hA : AOK A) (hc : c < 81) (hp : p < 6) : opnA A c p = ((o1A A c p == 3 || o1A A c p == 5) || (o2A A c p == 3 || o2A A c p == 5)) := by
  unfold opnA o1A o2A
  cases e : wdA A p with
  | false => simp [hA.gw hp e]
  | true =>
    rw [rch_lie hc (hA.w81 hp e)]
    cases e2 : gdA A p with
    | false => simp
    | true => rw [rch_lie hc (hA.g81 hp e2)]; simp
theorem o1_lt (A : St) (c p : Nat) : o1A A c p < 6 := by unfold o1A; split; exact lie_lt _ _; decide
theorem o2_lt (A : St) (c p : Nat) : o2A A c p < 6 := by unfold o2A; split; exact lie_lt _ _; decide
theorem on_all : (List.range 64).all (fun x => x == 0 || (onesN (x &&& (x - 1)) + 1 == onesN x && decide (x &&& (x - 1) < x))) = true := by decide +kernel
theorem on_s {x : Nat} (hx : x < 64) (h0 : ¬ x = 0) : onesN (x &&& (x - 1)) + 1 = onesN x ∧ x &&& (x - 1) < x := by
  have z := List.all_eq_true.mp on_all x (List.mem_range.mpr hx)
  simp only [Bool.or_eq_true, beq_iff_eq, Bool.and_eq_true, decide_eq_true_eq] at z
  rcases z with z | z
  · exact absurd z h0
  · exact z
theorem on_0 : onesN 0 = 0 := by decide
end A56

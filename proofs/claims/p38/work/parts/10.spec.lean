section A10
/-! ### the state as a row of 112 ints, and what the calls tell of it -/
abbrev St : Type := Nat → Int32
def iN (x : Int32) : Nat := x.toInt.toNat
def kN (A : St) : Nat := iN (A 0)
def sN (A : St) (j : Nat) : Nat := iN (A (8 + j))
def cN (A : St) (k : Nat) : Nat := iN (A (40 + 6 * k + 0))
def oN (A : St) (k : Nat) : Nat := iN (A (40 + 6 * k + 1))
def lsA (A : St) (k : Nat) : Bool := A (40 + 6 * k + 2) == 1
def wdA (A : St) (p : Nat) : Bool := A (16 + 4 * p + 0) != -1
def gdA (A : St) (p : Nat) : Bool := A (16 + 4 * p + 1) != -1
def wN (A : St) (p : Nat) : Nat := iN (A (16 + 4 * p + 0))
def gN (A : St) (p : Nat) : Nat := iN (A (16 + 4 * p + 1))
def AOK (A : St) : Prop :=
  (A 0 = nI (kN A) ∧ kN A ≤ 12) ∧ (∀ j, j < 4 → A (8 + j) = nI (sN A j) ∧ sN A j < 10) ∧ (1 ≤ sN A 0 ∧ sN A 0 ≤ 2 ∧ 1 ≤ sN A 1 ∧ sN A 3 ≤ 1) ∧
  (∀ k, k < 12 → A (40 + 6 * k + 0) = nI (cN A k) ∧ cN A k < 81) ∧ (∀ k, k < 12 → A (40 + 6 * k + 1) = nI (oN A k) ∧ oN A k < 4) ∧ (∀ k, k < 12 → A (40 + 6 * k + 2) = bI (lsA A k)) ∧
  (∀ p, p < 6 → (wdA A p = true → A (16 + 4 * p + 0) = nI (wN A p) ∧ wN A p < 81) ∧ (gdA A p = true → A (16 + 4 * p + 1) = nI (gN A p) ∧ gN A p < 81) ∧ (wdA A p = false → gdA A p = false))
theorem AOK.n {A : St} (h : AOK A) : A 0 = nI (kN A) := h.1.1
theorem AOK.n12 {A : St} (h : AOK A) : kN A ≤ 12 := h.1.2
theorem AOK.s {A : St} (h : AOK A) {j : Nat} (hj : j < 4) : A (8 + j) = nI (sN A j) := (h.2.1 j hj).1
theorem AOK.s10 {A : St} (h : AOK A) {j : Nat} (hj : j < 4) : sN A j < 10 := (h.2.1 j hj).2
theorem AOK.s0 {A : St} (h : AOK A) : 1 ≤ sN A 0 ∧ sN A 0 ≤ 2 := ⟨h.2.2.1.1, h.2.2.1.2.1⟩
theorem AOK.s3 {A : St} (h : AOK A) : sN A 3 ≤ 1 := h.2.2.1.2.2.2
theorem AOK.c {A : St} (h : AOK A) {k : Nat} (hk : k < 12) : A (40 + 6 * k + 0) = nI (cN A k) := (h.2.2.2.1 k hk).1
theorem AOK.c81 {A : St} (h : AOK A) {k : Nat} (hk : k < 12) : cN A k < 81 := (h.2.2.2.1 k hk).2
theorem AOK.o {A : St} (h : AOK A) {k : Nat} (hk : k < 12) : A (40 + 6 * k + 1) = nI (oN A k) := (h.2.2.2.2.1 k hk).1
theorem AOK.o4 {A : St} (h : AOK A) {k : Nat} (hk : k < 12) : oN A k < 4 := (h.2.2.2.2.1 k hk).2
theorem AOK.ls {A : St} (h : AOK A) {k : Nat} (hk : k < 12) : A (40 + 6 * k + 2) = bI (lsA A k) := h.2.2.2.2.2.1 k hk
theorem AOK.w {A : St} (h : AOK A) {p : Nat} (hp : p < 6) (hw : wdA A p = true) : A (16 + 4 * p + 0) = nI (wN A p) := ((h.2.2.2.2.2.2 p hp).1 hw).1
theorem AOK.w81 {A : St} (h : AOK A) {p : Nat} (hp : p < 6) (hw : wdA A p = true) : wN A p < 81 := ((h.2.2.2.2.2.2 p hp).1 hw).2
theorem AOK.g {A : St} (h : AOK A) {p : Nat} (hp : p < 6) (hw : gdA A p = true) : A (16 + 4 * p + 1) = nI (gN A p) := ((h.2.2.2.2.2.2 p hp).2.1 hw).1
theorem AOK.g81 {A : St} (h : AOK A) {p : Nat} (hp : p < 6) (hw : gdA A p = true) : gN A p < 81 := ((h.2.2.2.2.2.2 p hp).2.1 hw).2
theorem AOK.gw {A : St} (h : AOK A) {p : Nat} (hp : p < 6) (hw : wdA A p = false) : gdA A p = false := (h.2.2.2.2.2.2 p hp).2.2 hw
theorem wdA_f {A : St} {p : Nat} (h : wdA A p = false) : A (16 + 4 * p + 0) = -1 := by simpa [wdA] using h
theorem gdA_f {A : St} {p : Nat} (h : gdA A p = false) : A (16 + 4 * p + 1) = -1 := by simpa [gdA] using h
theorem wdA_t {A : St} {p : Nat} (h : ¬ A (16 + 4 * p + 0) = -1) : wdA A p = true := by simpa [wdA] using h
theorem wdA_n {A : St} {p : Nat} (h : A (16 + 4 * p + 0) = -1) : wdA A p = false := by simpa [wdA] using h
theorem gdA_t {A : St} {p : Nat} (h : ¬ A (16 + 4 * p + 1) = -1) : gdA A p = true := by simpa [gdA] using h
theorem gdA_n {A : St} {p : Nat} (h : A (16 + 4 * p + 1) = -1) : gdA A p = false := by simpa [gdA] using h
/-- the reference's state -/
def RR (w : Wd) (A : St) : Prop := w.1 205 = A
theorem RR.at {w : Wd} {A : St} (h : RR w A) {j : Nat} : w.1 205 j = A j := congrFun h j
theorem RR_n {w : Wd} {A : St} (h : RR w A) (hA : AOK A) : w.1 205 0 = nI (kN A) := h.at.trans hA.n
theorem RR_s {w : Wd} {A : St} (h : RR w A) (hA : AOK A) {j : Nat} (hj : j < 4) : w.1 205 (8 + j) = nI (sN A j) := h.at.trans (hA.s hj)
/-- the class's state at base b: what is behind the keys that are there may be anything -/
def DR (w : Wd) (b : Nat) (A : St) : Prop :=
  w.1 b 1 = A 0 ∧ (∀ k, k < kN A → w.1 (b + 5 + k) 0 = A (40 + 6 * k + 0) ∧ w.1 (b + 5 + k) 1 = A (40 + 6 * k + 3) ∧ w.1 (b + 5 + k) 2 = A (40 + 6 * k + 4) ∧ w.1 (b + 5 + k) 3 = A (40 + 6 * k + 1) ∧ w.1 (b + 5 + k) 4 = A (40 + 6 * k + 5) ∧ w.1 (b + 5 + k) 5 = A (40 + 6 * k + 2)) ∧
  (∀ p, p < 6 → w.1 (b + 17 + p) 0 = A (16 + 4 * p + 0) ∧ w.1 (b + 17 + p) 1 = A (16 + 4 * p + 1) ∧ w.1 (b + 17 + p) 2 = A (16 + 4 * p + 2) ∧ w.1 (b + 17 + p) 3 = A (16 + 4 * p + 3)) ∧
  (∀ j, j < 4 → w.1 (b + 3) j = A (12 + j)) ∧ (∀ j, j < 4 → w.1 (b + 4) j = A (8 + j)) ∧
  (w.1 b 5 = A 1 ∧ w.1 b 6 = A 2 ∧ w.1 b 7 = A 3 ∧ w.1 b 8 = A 4 ∧ w.1 b 9 = A 5 ∧ w.1 b 10 = A 6 ∧ w.1 b 11 = A 7)
theorem DR_n {w : Wd} {b : Nat} {A : St} (h : DR w b A) (hA : AOK A) : w.1 b 1 = nI (kN A) := h.1.trans hA.n
theorem DR_kc {w : Wd} {b : Nat} {A : St} (h : DR w b A) (hA : AOK A) {k : Nat} (hk : k < kN A) : w.1 (b + 5 + k) 0 = nI (cN A k) := (h.2.1 k hk).1.trans (hA.c (Nat.lt_of_lt_of_le hk hA.n12))
theorem DR_kf {w : Wd} {b : Nat} {A : St} (h : DR w b A) {k : Nat} (hk : k < kN A) : w.1 (b + 5 + k) 1 = A (40 + 6 * k + 3) := (h.2.1 k hk).2.1
theorem DR_ku {w : Wd} {b : Nat} {A : St} (h : DR w b A) {k : Nat} (hk : k < kN A) : w.1 (b + 5 + k) 2 = A (40 + 6 * k + 4) := (h.2.1 k hk).2.2.1
theorem DR_ko {w : Wd} {b : Nat} {A : St} (h : DR w b A) (hA : AOK A) {k : Nat} (hk : k < kN A) : w.1 (b + 5 + k) 3 = nI (oN A k) := (h.2.1 k hk).2.2.2.1.trans (hA.o (Nat.lt_of_lt_of_le hk hA.n12))
theorem DR_kw {w : Wd} {b : Nat} {A : St} (h : DR w b A) {k : Nat} (hk : k < kN A) : w.1 (b + 5 + k) 4 = A (40 + 6 * k + 5) := (h.2.1 k hk).2.2.2.2.1
theorem DR_kl {w : Wd} {b : Nat} {A : St} (h : DR w b A) (hA : AOK A) {k : Nat} (hk : k < kN A) : w.1 (b + 5 + k) 5 = bI (lsA A k) := (h.2.1 k hk).2.2.2.2.2.trans (hA.ls (Nat.lt_of_lt_of_le hk hA.n12))
theorem DR_lw {w : Wd} {b : Nat} {A : St} (h : DR w b A) {p : Nat} (hp : p < 6) : w.1 (b + 17 + p) 0 = A (16 + 4 * p + 0) := (h.2.2.1 p hp).1
theorem DR_lg {w : Wd} {b : Nat} {A : St} (h : DR w b A) {p : Nat} (hp : p < 6) : w.1 (b + 17 + p) 1 = A (16 + 4 * p + 1) := (h.2.2.1 p hp).2.1
theorem DR_lu {w : Wd} {b : Nat} {A : St} (h : DR w b A) {p : Nat} (hp : p < 6) : w.1 (b + 17 + p) 2 = A (16 + 4 * p + 2) := (h.2.2.1 p hp).2.2.1
theorem DR_lf {w : Wd} {b : Nat} {A : St} (h : DR w b A) {p : Nat} (hp : p < 6) : w.1 (b + 17 + p) 3 = A (16 + 4 * p + 3) := (h.2.2.1 p hp).2.2.2
theorem DR_p {w : Wd} {b : Nat} {A : St} (h : DR w b A) {j : Nat} (hj : j < 4) : w.1 (b + 3) j = A (12 + j) := h.2.2.2.1 j hj
theorem DR_s {w : Wd} {b : Nat} {A : St} (h : DR w b A) (hA : AOK A) {j : Nat} (hj : j < 4) : w.1 (b + 4) j = nI (sN A j) := (h.2.2.2.2.1 j hj).trans (hA.s hj)
theorem DR_r {w : Wd} {b : Nat} {A : St} (h : DR w b A) : w.1 b 5 = A 1 ∧ w.1 b 6 = A 2 ∧ w.1 b 7 = A 3 ∧ w.1 b 8 = A 4 ∧ w.1 b 9 = A 5 ∧ w.1 b 10 = A 6 ∧ w.1 b 11 = A 7 := h.2.2.2.2.2
/-! ### sets and counts -/
def mskN (P : Nat → Bool) : Nat → Nat
  | 0 => 0
  | k + 1 => mskN P k ||| (if P k then 2 ^ k else 0)
def cntN (P : Nat → Bool) : Nat → Nat
  | 0 => 0
  | k + 1 => cntN P k + (if P k then 1 else 0)
def orN (P : Nat → Nat) : Nat → Nat
  | 0 => 0
  | k + 1 => orN P k ||| P k
def anyN (P : Nat → Bool) : Nat → Bool
  | 0 => false
  | k + 1 => anyN P k || P k
def allN (P : Nat → Bool) : Nat → Bool
  | 0 => true
  | k + 1 => allN P k && P k
def sumN (P : Nat → Nat) : Nat → Nat
  | 0 => 0
  | k + 1 => sumN P k + P k
/-- the first one from u on, of so many -/
def fstF (P : Nat → Bool) : Nat → Nat → Int32
  | 0, _ => -1
  | f + 1, u => if P u then nI u else fstF P f (u + 1)
def lstI (P : Nat → Bool) : Nat → Int32
  | 0 => -1
  | k + 1 => if P k && lstI P k == -1 then nI k else lstI P k
theorem mskN_lt (P : Nat → Bool) : ∀ k, mskN P k < 2 ^ k
  | 0 => Nat.zero_lt_one
  | k + 1 => by
    have h := mskN_lt P k
    have h2 : 2 ^ k < 2 ^ (k + 1) := Nat.pow_lt_pow_right (by decide) (Nat.lt_succ_self k)
    refine Nat.or_lt_two_pow (Nat.lt_trans h h2) ?_
    split
    · exact h2
    · exact Nat.pow_pos (by decide)
theorem cntN_le (P : Nat → Bool) : ∀ k, cntN P k ≤ k
  | 0 => Nat.le_refl _
  | k + 1 => by
    have h := cntN_le P k
    show cntN P k + (if P k then 1 else 0) ≤ k + 1
    split <;> omega
theorem orN_lt {P : Nat → Nat} {b : Nat} : ∀ k, (∀ j, j < k → P j < 2 ^ b) → orN P k < 2 ^ b
  | 0, _ => Nat.pow_pos (by decide)
  | k + 1, h => Nat.or_lt_two_pow (orN_lt k (fun j hj => h j (by omega))) (h k (by omega))
theorem fstF_tru {P : Nat → Bool} {B u : Nat} (hu : u < B) (h : P u = true) : fstF P (B - u) u = nI u := by
  rw [show B - u = (B - (u + 1)) + 1 by omega]
  simp [fstF, h]
theorem fstF_fal {P : Nat → Bool} {B u : Nat} (hu : u < B) (h : P u = false) : fstF P (B - u) u = fstF P (B - (u + 1)) (u + 1) := by
  rw [show B - u = (B - (u + 1)) + 1 by omega]
  simp [fstF, h]
theorem fstF_end {P : Nat → Bool} {B : Nat} : fstF P (B - B) B = -1 := by
  rw [Nat.sub_self]
  rfl
theorem nI_m1 {k : Nat} (hk : k < 2 ^ 31) : nI k ≠ -1 := by
  intro h
  have := congrArg Int32.toInt h
  rw [nI_toInt hk] at this
  have h2 : (-1 : Int32).toInt = -1 := by decide
  omega
/-! ### codes beside codes, keys and locks -/
def crs (c d : Nat) : Bool := c == d || und c d || und d c
/-- a key of code c opens for code d -/
def rch (c d : Nat) : Bool := c == d || und d c
def sndA (A : St) (c : Nat) : Bool := decide (spN c ≤ sN A 0)
/-- key k counts, beside key ex -/
def ctsA (A : St) (ex : Int32) (k : Nat) : Bool := nI k != ex && (!lsA A k || sN A 3 == 1)
def fndA (A : St) (c : Nat) (ex : Int32) (k : Nat) : Nat := if !ctsA A ex k then 0 else if cN A k = c then 3 else if und c (cN A k) then 4 else if und (cN A k) c then 5 else 0
def mrgN (r f : Nat) : Nat := if 0 < f ∧ (r = 0 ∨ f < r) then f else r
def clsA (A : St) (c : Nat) (ex : Int32) : Nat → Nat
  | 0 => 0
  | k + 1 => mrgN (clsA A c ex k) (fndA A c ex k)
def clA (A : St) (c : Nat) (ex : Int32) : Nat := clsA A c ex (kN A)
def wncA (A : St) (c : Nat) : Nat := if !sndA A c then 1 else if kN A = 12 then 2 else clA A c (-1)
def wndA (A : St) (k j : Nat) : Nat := if dep (cN A k) j = 2 then 6 else if !sndA A (cN A k + wtN j) then 1 else clA A (cN A k + wtN j) (nI k)
def freA (A : St) (c : Nat) : Bool := sndA A c && clA A c (-1) == 0
def opnA (A : St) (c p : Nat) : Bool := wdA A p && (rch c (wN A p) || (gdA A p && rch c (gN A p)))
def lksA (A : St) (c : Nat) : Nat := mskN (opnA A c) 6
def kyP (A : St) (p k : Nat) : Bool := opnA A (cN A k) p
def kysA (A : St) (p : Nat) : Nat := mskN (kyP A p) (kN A)
def oneP (x k : Nat) : Nat := x / 2 ^ k &&& 1
def onesN (x : Nat) : Nat := sumN (oneP x) 12
/-- a use of which the number is x wears -/
def wrA (A : St) (x : Int32) : Bool := decide (0 < sN A 2) && decide (x - x / nI (sN A 2) * nI (sN A 2) = 0)
/-- key k lies over code c, or under it -/
def cbP (A : St) (b : Bool) (c k : Nat) : Bool := if b then und c (cN A k) else und (cN A k) c
def cbA (A : St) (b : Bool) (c : Nat) : Nat := mskN (cbP A b c) (kN A)
def whB (A : St) (k : Nat) : Nat := if lsA A k then 4 else oN A k
def whV (A : St) (p k : Nat) : Nat := if opnA A (cN A k) p then 2 ^ whB A k else 0
def whoA (A : St) (p : Nat) : Nat := orN (whV A p) (kN A)
def pkP (A : St) (q k : Nat) : Bool := oN A k == q
def pkA (A : St) (q : Nat) : Nat := mskN (pkP A q) (kN A)
def plV (A : St) (q k : Nat) : Nat := if pkP A q k && !lsA A k then lksA A (cN A k) else 0
def plA (A : St) (q : Nat) : Nat := orN (plV A q) (kN A)
def tkA (A : St) (k j : Nat) : Int32 := match j with
  | 0 => nI (cN A k) | 1 => nI (lvN (cN A k)) | 2 => A (40 + 6 * k + 3) | 3 => A (40 + 6 * k + 4) | 4 => nI (oN A k) | 5 => bI (lsA A k) | 6 => nI (lksA A (cN A k)) | 7 => nI (cbA A true (cN A k)) | 8 => nI (cbA A false (cN A k)) | _ => A (40 + 6 * k + 5)
def tlA (A : St) (p j : Nat) : Int32 := if !wdA A p then -1 else match j with
  | 0 => A (16 + 4 * p + 0) | 1 => A (16 + 4 * p + 1) | 2 => nI (kysA A p) | 3 => A (16 + 4 * p + 2) | 4 => A (16 + 4 * p + 3) | _ => nI (whoA A p)
def tpA (A : St) (q j : Nat) : Int32 := match j with | 0 => nI (pkA A q) | 1 => nI (plA A q) | _ => A (12 + q)
def sbP (A : St) (b : Bool) (c d : Nat) : Bool := (if b then und c d else und d c) && sndA A d
def sbA (A : St) (b : Bool) (c : Nat) : Nat := cntN (sbP A b c) 81
def tcA (A : St) (c j : Nat) : Int32 := match j with
  | 0 => nI (lvN c) | 1 => bI (sndA A c) | 2 => nI (wncA A c) | 3 => nI (sbA A true c) | 4 => nI (sbA A false c) | _ => bI (freA A c)
def lvP (A : St) (v c : Nat) : Bool := lvN c == v && sndA A c
def lfP (A : St) (v c : Nat) : Bool := lvN c == v && freA A c
def lkP (A : St) (v k : Nat) : Bool := lvN (cN A k) == v
def tvA (A : St) (v j : Nat) : Int32 := match j with
  | 0 => nI (cntN (lvP A v) 81) | 1 => nI (cntN (lfP A v) 81) | 2 => nI (cntN (lkP A v) (kN A)) | _ => lstI (lfP A v) 81
def xpP (A : St) (k e : Nat) : Bool := crs (cN A k) (cN A e)
def xpC (A : St) (k : Nat) : Nat := cntN (xpP A k) k
def xprA (A : St) : Nat := sumN (xpC A) (kN A)
def lstA (A : St) : Nat := cntN (lsA A) (kN A)
def lckA (A : St) : Nat := cntN (wdA A) 6
def cdP (A : St) (b : Bool) (c : Nat) : Bool := if b then freA A c else sndA A c
def cdsA (A : St) (b : Bool) : Nat := cntN (cdP A b) 81
/-- sv: how many states are saved -/
def tnA (A : St) (sv : Int32) (j : Nat) : Int32 := match j with
  | 0 => nI (kN A) | 1 => nI (lstA A) | 2 => nI (lckA A) | 3 => nI (xprA A) | 4 => A 1 | 5 => A 2 | 6 => A 3 | 7 => A 4 | 8 => A 5 | 9 => nI (cdsA A false) | 10 => nI (cdsA A true) | _ => sv
def xwP (A : St) (k c j : Nat) : Bool := j != k && crs c (cN A j)
def xwA (A : St) (k c : Nat) : Bool := anyN (xwP A k c) (kN A)
def bhA (A : St) (k : Nat) : Nat → Nat
  | 0 => cN A k
  | u + 1 => if wrA A (A (40 + 6 * k + 4) + nI (u + 1)) then woN (bhA A k u) else bhA A k u
def fcP (A : St) (k u : Nat) : Bool := xwA A k (bhA A k u)
def fcA (A : St) (k : Nat) : Int32 := fstF (fcP A k) 100 0
/-- the locks of a set are there -/
def alP (A : St) (n p : Nat) : Bool := (n / 2 ^ p &&& 1) == 0 || wdA A p
def arlA (A : St) (x : Int32) : Bool := decide (1 ≤ x.toInt ∧ x.toInt ≤ 63) && allN (alP A (iN x)) 6
/-- the best code of those ahead of c for the locks of a set -/
def oprA (A : St) (x : Nat) : Nat → Int32
  | 0 => -1
  | c + 1 => if (sndA A c && lksA A c &&& x == x) && (oprA A x c == -1 || decide (lvN c < lvN (iN (oprA A x c)))) then nI c else oprA A x c
def lvV (A : St) (k : Nat) : Nat := lvN (cN A k)
def lvsA (A : St) : Nat := sumN (lvV A) (kN A)
theorem lvN_le (c : Nat) : lvN c ≤ 8 := by
  have h : ∀ k, dep c k < 3 := fun k => Nat.mod_lt _ (by decide)
  have h0 := h 0
  have h1 := h 1
  have h2 := h 2
  have h3 := h 3
  unfold lvN
  omega
theorem whB_le {A : St} (hA : AOK A) {k : Nat} (hk : k < 12) : whB A k ≤ 4 := by
  have := hA.o4 hk
  unfold whB
  split <;> omega
theorem p4_lt {b : Nat} (h : b ≤ 4) : 1 * 2 ^ b < 2 ^ 32 := Nat.lt_of_le_of_lt (Nat.mul_le_mul_left 1 (Nat.pow_le_pow_right (show 0 < 2 by decide) h)) (by decide)
theorem p12_lt {b : Nat} (h : b ≤ 12) : 1 * 2 ^ b < 2 ^ 32 := Nat.lt_of_le_of_lt (Nat.mul_le_mul_left 1 (Nat.pow_le_pow_right (show 0 < 2 by decide) h)) (by decide)
end A10

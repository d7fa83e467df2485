section A19
theorem b_icmp1_eq {G : aG} {p : Program} {l : Launch} {e : Env} {R : Room} {s : State} {m : MethodId} {args : Array Value} {below : List Frame} {meth : Method} {c : Code} {Q : State → Prop} {n k0 u0 pc : Nat} {cc : ByteArray} {own : String} {L : aL} {st : List Value} {M : aH} (C : aCtx G p s m args meth c cc n own) {b : Bool} {off : Int} {tgt : Nat} (hd : decode cc pc = .ok (.if_icmp .eq off, 3)) (ht : (pc : Int) + off = (tgt : Int)) (kt : b = true → WA G p l e R s m args below meth c Q n k0 u0 tgt L st M) (kf : b = false → WA G p l e R s m args below meth c Q n k0 u0 (pc + 3) L st M) : WA G p l e R s m args below meth c Q n k0 u0 pc L (.int (nI 1) :: .int (bI b) :: st) M :=
  a_icmp_eq C hd ht (fun q => kt (bI_1.mp q)) (fun q => kf (by cases b with | true => exact absurd rfl q | false => rfl))
/-! ### the saved states: a row of six -/
def shK (r : Nat → Int32) : Nat → (Nat → Int32)
  | 0 => r
  | k + 1 => upd (shK r k) k (r (k + 112))
def cpK (r : Nat → Int32) (s : Nat) (A : St) : Nat → (Nat → Int32)
  | 0 => r
  | k + 1 => upd (cpK r s A k) (s * 112 + k) (A k)
def cyK (r f : Nat → Int32) : Nat → (Nat → Int32)
  | 0 => r
  | k + 1 => upd (cyK r f k) k (f k)
theorem shK_hi {r : Nat → Int32} {j : Nat} : ∀ k, k ≤ j → shK r k j = r j
  | 0, _ => rfl
  | k + 1, h => by
    show upd (shK r k) k (r (k + 112)) j = r j
    rw [upd_ne (by omega)]
    exact shK_hi k (by omega)
theorem shK_lo {r : Nat → Int32} {j : Nat} : ∀ k, j < k → shK r k j = r (j + 112)
  | 0, h => absurd h (Nat.not_lt_zero j)
  | k + 1, h => by
    show upd (shK r k) k (r (k + 112)) j = r (j + 112)
    by_cases h1 : j = k
    · subst h1
      exact upd_at
    · rw [upd_ne h1]
      exact shK_lo k (by omega)
theorem cpK_in {r : Nat → Int32} {s : Nat} {A : St} {j : Nat} : ∀ k, j < k → cpK r s A k (s * 112 + j) = A j
  | 0, h => absurd h (Nat.not_lt_zero j)
  | k + 1, h => by
    show upd (cpK r s A k) (s * 112 + k) (A k) (s * 112 + j) = A j
    by_cases h1 : j = k
    · subst h1
      exact upd_at
    · rw [upd_ne (by omega)]
      exact cpK_in k (by omega)
theorem cpK_out {r : Nat → Int32} {s : Nat} {A : St} {j : Nat} : ∀ k, (j < s * 112 ∨ s * 112 + k ≤ j) → cpK r s A k j = r j
  | 0, _ => rfl
  | k + 1, h => by
    show upd (cpK r s A k) (s * 112 + k) (A k) j = r j
    rw [upd_ne (by omega)]
    exact cpK_out k (by omega)
theorem cyK_lo {r f : Nat → Int32} {j : Nat} : ∀ k, j < k → cyK r f k j = f j
  | 0, h => absurd h (Nat.not_lt_zero j)
  | k + 1, h => by
    show upd (cyK r f k) k (f k) j = f j
    by_cases h1 : j = k
    · subst h1
      exact upd_at
    · rw [upd_ne h1]
      exact cyK_lo k (by omega)
theorem cyK_hi {r f : Nat → Int32} {j : Nat} : ∀ k, k ≤ j → cyK r f k j = r j
  | 0, _ => rfl
  | k + 1, h => by
    show upd (cyK r f k) k (f k) j = r j
    rw [upd_ne (by omega)]
    exact cyK_hi k (by omega)
def svN (sv : Nat) : Nat := if sv = 6 then 6 else sv + 1
def svR (r : Nat → Int32) (sv : Nat) (A : St) : Nat → Int32 := if sv = 6 then cpK (shK r 560) 5 A 112 else cpK r sv A 112
def svW (w : Wd) (A : St) (sv : Nat) : Wd := wRow (wSet w 204 3 (nI (svN sv))) 206 (svR (w.1 206) sv A)
theorem wSet_wRow {w : Wd} {a b k : Nat} {x : Int32} {f : Nat → Int32} (h : ¬ a = b) : wSet (wRow w b f) a k x = wRow (wSet w a k x) b f := by
  rw [wSet_is, wSet_is, wRow_ne h, wRow_comm h]
theorem sv_eqA {w : Wd} {A : St} {sv : Nat} (h : sv ≠ 6) : wSet (wRow w 206 (cpK (w.1 206) sv A 112)) 204 3 (nI (sv + 1)) = svW w A sv := by
  unfold svW svN svR
  rw [if_neg h, if_neg h]
  exact wSet_wRow (by decide)
theorem sv_eqB {w : Wd} {A : St} {sv : Nat} (h : sv = 6) : wSet (wRow (wSet (wRow w 206 (shK (w.1 206) 560)) 204 3 (nI (sv - 1))) 206 (cpK ((wSet (wRow w 206 (shK (w.1 206) 560)) 204 3 (nI (sv - 1))).1 206) (sv - 1) A 112)) 204 3 (nI (sv - 1 + 1)) = svW w A sv := by
  subst h
  unfold svW svN svR
  rw [if_pos rfl, if_pos rfl]
  have zq_1 : (wSet (wRow w 206 (shK (w.1 206) 560)) 204 3 (nI (6 - 1))).1 206 = shK (w.1 206) 560 := rfl
  rw [zq_1, wSet_wRow (by decide), wSet2, wSet_wRow (by decide), wRow_row]
theorem wnc_n {A : St} (hA : AOK A) {c : Nat} (h : wncA A c = 0) : kN A < 12 := by
  have zq_1 := hA.n12
  unfold wncA at h
  by_cases h1 : kN A = 12
  · rw [if_pos h1] at h
    split at h <;> cases h
  · omega
theorem wnc_lt (A : St) (c : Nat) : wncA A c < 2 ^ 31 := by
  have zq_1 := clsA_lt A c (-1) (kN A)
  unfold wncA clA
  split
  · decide
  · split
    · decide
    · omega
theorem wnd_lt (A : St) (k j : Nat) : wndA A k j < 2 ^ 31 := by
  have zq_1 := clsA_lt A (cN A k + wtN j) (nI k) (kN A)
  unfold wndA clA
  split
  · decide
  · split
    · decide
    · omega
def givA (A : St) (k q : Nat) : St := upd A (40 + 6 * k + 1) (nI q)
def warA (A : St) (p : Nat) (x : Int32) : St := upd A (16 + 4 * p + 0) x
def gueA (A : St) (p : Nat) (x : Int32) : St := upd A (16 + 4 * p + 1) x
def takA (A : St) (p : Nat) : St := upd (upd (upd (upd A (16 + 4 * p + 0) (-1)) (16 + 4 * p + 1) (-1)) (16 + 4 * p + 2) (nI 0)) (16 + 4 * p + 3) (nI 0)
def setA (A : St) (j : Nat) (x : Int32) : St := upd A (8 + j) x
def loN (j : Nat) : Nat := if j < 2 then 1 else 0
def hiN (j : Nat) : Nat := if j = 0 then 2 else if j = 3 then 1 else 9
def sbI (j : Nat) (x : Int32) : Bool := decide (nI (loN j) ≤ x ∧ x ≤ nI (hiN j))
def rtK (A : St) (k : Nat) : Nat → St
  | 0 => upd A 0 (nI (kN A - 1))
  | d + 1 => upd (rtK A k d) (40 + 6 * k + d) (A (40 + 6 * k + d + 6))
def retA (A : St) (k : Nat) : St := upd (rtK A k (6 * (kN A - 1 - k))) 5 (A 5 + nI 1)
theorem rtK_lo {A : St} {k j : Nat} (h : j < 40 + 6 * k) : ∀ d, rtK A k d j = upd A 0 (nI (kN A - 1)) j
  | 0 => rfl
  | d + 1 => by
    show upd (rtK A k d) (40 + 6 * k + d) (A (40 + 6 * k + d + 6)) j = _
    rw [upd_ne (by omega)]
    exact rtK_lo h d
theorem rtK_hi {A : St} {k j : Nat} : ∀ d, 40 + 6 * k + d ≤ j → rtK A k d j = A j
  | 0, h => by
    show upd A 0 (nI (kN A - 1)) j = A j
    exact upd_ne (by omega)
  | d + 1, h => by
    show upd (rtK A k d) (40 + 6 * k + d) (A (40 + 6 * k + d + 6)) j = _
    rw [upd_ne (by omega)]
    exact rtK_hi d (by omega)
theorem rtK_in {A : St} {k j : Nat} : ∀ d, 40 + 6 * k ≤ j ∧ j < 40 + 6 * k + d → rtK A k d j = A (j + 6)
  | 0, h => by omega
  | d + 1, h => by
    show upd (rtK A k d) (40 + 6 * k + d) (A (40 + 6 * k + d + 6)) j = _
    by_cases h1 : j = 40 + 6 * k + d
    · subst h1
      exact upd_at
    · rw [upd_ne h1]
      exact rtK_in d (by omega)
end A19

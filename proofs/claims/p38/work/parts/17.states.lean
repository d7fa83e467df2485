section A17
/-! ### states changed: one index at a time -/
theorem upd_at {f : Nat → Int32} {k : Nat} {x : Int32} : upd f k x k = x := by simp [upd]
theorem upd_ne {f : Nat → Int32} {k j : Nat} {x : Int32} (h : ¬ j = k) : upd f k x j = f j := by simp [upd, h]
theorem upd_comm {f : Nat → Int32} {k j : Nat} {x y : Int32} (h : ¬ j = k) : upd (upd f k x) j y = upd (upd f j y) k x := by
  funext i
  unfold upd
  by_cases h1 : i = j
  · subst h1
    simp [h]
  · simp [h1]
/-- what a state may hold at each index -/
def okB (i : Nat) (x : Int32) : Bool :=
  if i = 0 then inR x 13 else if i < 8 then true else if i = 8 then (inR x 3 && x != nI 0) else if i = 9 then (inR x 10 && x != nI 0) else if i = 10 then inR x 10 else if i = 11 then inR x 2 else if i < 16 then true
  else if i < 40 then (decide (2 ≤ (i - 16) % 4) || x == -1 || inR x 81) else if (i - 40) % 6 = 0 then inR x 81 else if (i - 40) % 6 = 1 then inR x 4 else if (i - 40) % 6 = 2 then inR x 2 else true
def okG (A : St) : Prop := ∀ p, p < 6 → A (16 + 4 * p + 0) = -1 → A (16 + 4 * p + 1) = -1
theorem inR_at {x : Int32} {N : Nat} (h : inR x N = true) (hN : N < 2 ^ 31) : x = nI (iN x) ∧ iN x < N := by
  obtain ⟨k, h1, rfl⟩ := inR_of h hN
  rw [iN_nI (by omega)]
  exact ⟨rfl, h1⟩
theorem nI_inj0 {n m : Nat} (hn : n < 2 ^ 31) (hm : m < 2 ^ 31) (h : ¬ nI n = nI m) : ¬ n = m := fun z => h (by rw [z])
theorem inR_is {k N : Nat} (h : k < N) (hN : N < 2 ^ 31) : inR (nI k) N = true := (inR_nI (by omega)).trans (decide_eq_true h)
theorem okB_0 (x : Int32) : okB 0 x = inR x 13 := rfl
theorem okB_s {j : Nat} (hj : j < 4) (x : Int32) : okB (8 + j) x = if j = 0 then (inR x 3 && x != nI 0) else if j = 1 then (inR x 10 && x != nI 0) else if j = 2 then inR x 10 else inR x 2 := by
  match j, hj with
  | 0, _ => rfl
  | 1, _ => rfl
  | 2, _ => rfl
  | 3, _ => rfl
theorem okB_l {p j : Nat} (hp : p < 6) (hj : j < 2) (x : Int32) : okB (16 + 4 * p + j) x = (x == -1 || inR x 81) := by
  unfold okB
  rw [if_neg (by omega), if_neg (by omega), if_neg (by omega), if_neg (by omega), if_neg (by omega), if_neg (by omega), if_neg (by omega), if_pos (by omega), decide_eq_false (by omega), Bool.false_or]
theorem okB_k0 {k : Nat} (x : Int32) : okB (40 + 6 * k + 0) x = inR x 81 := by
  unfold okB
  rw [if_neg (by omega), if_neg (by omega), if_neg (by omega), if_neg (by omega), if_neg (by omega), if_neg (by omega), if_neg (by omega), if_neg (by omega), if_pos (by omega)]
theorem okB_k1 {k : Nat} (x : Int32) : okB (40 + 6 * k + 1) x = inR x 4 := by
  unfold okB
  rw [if_neg (by omega), if_neg (by omega), if_neg (by omega), if_neg (by omega), if_neg (by omega), if_neg (by omega), if_neg (by omega), if_neg (by omega), if_neg (by omega), if_pos (by omega)]
theorem okB_k2 {k : Nat} (x : Int32) : okB (40 + 6 * k + 2) x = inR x 2 := by
  unfold okB
  rw [if_neg (by omega), if_neg (by omega), if_neg (by omega), if_neg (by omega), if_neg (by omega), if_neg (by omega), if_neg (by omega), if_neg (by omega), if_neg (by omega), if_neg (by omega), if_pos (by omega)]
theorem okB_k3 {k j : Nat} (hj : 3 ≤ j ∧ j < 6) (x : Int32) : okB (40 + 6 * k + j) x = true := by
  unfold okB
  rw [if_neg (by omega), if_neg (by omega), if_neg (by omega), if_neg (by omega), if_neg (by omega), if_neg (by omega), if_neg (by omega), if_neg (by omega), if_neg (by omega), if_neg (by omega), if_neg (by omega)]
theorem okB_l2 {p j : Nat} (hp : p < 6) (hj : 2 ≤ j ∧ j < 4) (x : Int32) : okB (16 + 4 * p + j) x = true := by
  unfold okB
  rw [if_neg (by omega), if_neg (by omega), if_neg (by omega), if_neg (by omega), if_neg (by omega), if_neg (by omega), if_neg (by omega), if_pos (by omega), decide_eq_true (by omega), Bool.true_or, Bool.true_or]
theorem okB_i {i : Nat} (h : 0 < i ∧ i < 8 ∨ 12 ≤ i ∧ i < 16) (x : Int32) : okB i x = true := by
  unfold okB
  by_cases h1 : i < 8
  · rw [if_neg (by omega), if_pos (by omega)]
  · rw [if_neg (by omega), if_neg (by omega), if_neg (by omega), if_neg (by omega), if_neg (by omega), if_neg (by omega), if_pos (by omega)]
theorem bI_in (b : Bool) : inR (bI b) 2 = true := by cases b <;> decide
theorem in2_bI {x : Int32} (h : inR x 2 = true) : x = bI (x == 1) := by
  obtain ⟨k, h1, rfl⟩ := inR_of h (by decide)
  match k, h1 with
  | 0, _ => rfl
  | 1, _ => rfl
theorem AOK_of {A : St} (h : ∀ i, i < 112 → okB i (A i) = true) (hg : okG A) : AOK A := by
  have h0 := h 0 (by decide)
  rw [okB_0] at h0
  have hs : ∀ j, j < 4 → (if j = 0 then (inR (A (8 + j)) 3 && A (8 + j) != nI 0) else if j = 1 then (inR (A (8 + j)) 10 && A (8 + j) != nI 0) else if j = 2 then inR (A (8 + j)) 10 else inR (A (8 + j)) 2) = true := fun j hj => by
    rw [← okB_s hj]
    exact h _ (by omega)
  have hs0 : (inR (A (8 + 0)) 3 && A (8 + 0) != nI 0) = true := hs 0 (by decide)
  have hs1 : (inR (A (8 + 1)) 10 && A (8 + 1) != nI 0) = true := hs 1 (by decide)
  have hs2 : inR (A (8 + 2)) 10 = true := hs 2 (by decide)
  have hs3 : inR (A (8 + 3)) 2 = true := hs 3 (by decide)
  simp only [Bool.and_eq_true, bne_iff_ne] at hs0 hs1
  have e0 := inR_at hs0.1 (by decide)
  have e1 := inR_at hs1.1 (by decide)
  have e2 := inR_at hs2 (by decide)
  have e3 := inR_at hs3 (by decide)
  have n0 : ¬ sN A 0 = 0 := fun z => hs0.2 (by have := e0.1; rw [show iN (A (8 + 0)) = sN A 0 from rfl, z] at this; exact this)
  have n1 : ¬ sN A 1 = 0 := fun z => hs1.2 (by have := e1.1; rw [show iN (A (8 + 1)) = sN A 1 from rfl, z] at this; exact this)
  have e0' : sN A 0 < 3 := e0.2
  have e1' : sN A 1 < 10 := e1.2
  have e2' : sN A 2 < 10 := e2.2
  have e3' : sN A 3 < 2 := e3.2
  refine ⟨⟨(inR_at h0 (by decide)).1, by have := (inR_at h0 (by decide)).2; show kN A ≤ 12; unfold kN; omega⟩, fun j hj => ?_, ⟨by omega, by omega, by omega, by omega⟩, fun k hk => ?_, fun k hk => ?_, fun k hk => ?_, fun p hp => ⟨fun hw => ?_, fun hw => ?_, fun hw => ?_⟩⟩
  · match j, hj with
    | 0, _ => exact ⟨e0.1, by omega⟩
    | 1, _ => exact ⟨e1.1, by omega⟩
    | 2, _ => exact ⟨e2.1, by omega⟩
    | 3, _ => exact ⟨e3.1, by omega⟩
  · have h1 := h (40 + 6 * k + 0) (by omega)
    rw [okB_k0] at h1
    exact inR_at h1 (by decide)
  · have h1 := h (40 + 6 * k + 1) (by omega)
    rw [okB_k1] at h1
    exact inR_at h1 (by decide)
  · have h1 := h (40 + 6 * k + 2) (by omega)
    rw [okB_k2] at h1
    exact in2_bI h1
  · have h1 := h (16 + 4 * p + 0) (by omega)
    rw [okB_l hp (by decide)] at h1
    have h2 : (A (16 + 4 * p + 0) == -1) = false := beq_eq_false_iff_ne.mpr (bne_iff_ne.mp hw)
    rw [h2, Bool.false_or] at h1
    exact inR_at h1 (by decide)
  · have h1 := h (16 + 4 * p + 1) (by omega)
    rw [okB_l hp (by decide)] at h1
    have h2 : (A (16 + 4 * p + 1) == -1) = false := beq_eq_false_iff_ne.mpr (bne_iff_ne.mp hw)
    rw [h2, Bool.false_or] at h1
    exact inR_at h1 (by decide)
  · exact gdA_n (hg p hp (wdA_f hw))
theorem AOK.ok {A : St} (hA : AOK A) : ∀ i, i < 112 → okB i (A i) = true := by
  intro i hi
  have c1 : i = 0 ∨ (0 < i ∧ i < 8 ∨ 12 ≤ i ∧ i < 16) ∨ (∃ j, j < 4 ∧ i = 8 + j) ∨ (∃ p j, p < 6 ∧ j < 4 ∧ i = 16 + 4 * p + j) ∨ (∃ k j, k < 12 ∧ j < 6 ∧ i = 40 + 6 * k + j) := by
    by_cases a1 : i < 8
    · omega
    · by_cases a2 : i < 12
      · exact Or.inr (Or.inr (Or.inl ⟨i - 8, by omega, by omega⟩))
      · by_cases a3 : i < 16
        · omega
        · by_cases a4 : i < 40
          · exact Or.inr (Or.inr (Or.inr (Or.inl ⟨(i - 16) / 4, (i - 16) % 4, by omega, by omega, by omega⟩)))
          · exact Or.inr (Or.inr (Or.inr (Or.inr ⟨(i - 40) / 6, (i - 40) % 6, by omega, by omega, by omega⟩)))
  rcases c1 with rfl | h | ⟨j, hj, rfl⟩ | ⟨p, j, hp, hj, rfl⟩ | ⟨k, j, hk, hj, rfl⟩
  · rw [okB_0, hA.n]
    have := hA.n12
    exact inR_is (by omega) (by decide)
  · exact okB_i h _
  · have h0 := hA.s0
    have h1 : 1 ≤ sN A 1 := hA.2.2.1.2.2.1
    have h2 := hA.s10 (j := j) hj
    have h3 := hA.s3
    rw [okB_s hj, hA.s hj]
    match j, hj with
    | 0, _ =>
      have z : nI (sN A 0) ≠ nI 0 := fun z => by have := congrArg iN z; rw [iN_nI (by omega), iN_nI (by decide)] at this; omega
      simp only [if_true, Bool.and_eq_true, bne_iff_ne]
      exact ⟨inR_is (by omega) (by decide), z⟩
    | 1, _ =>
      have z : nI (sN A 1) ≠ nI 0 := fun z => by have := congrArg iN z; rw [iN_nI (by omega), iN_nI (by decide)] at this; omega
      simp only [Nat.one_ne_zero, if_false, if_true, Bool.and_eq_true, bne_iff_ne]
      exact ⟨inR_is (by omega) (by decide), z⟩
    | 2, _ => exact inR_is (by omega) (by decide)
    | 3, _ => exact inR_is (by omega) (by decide)
  · by_cases h2 : 2 ≤ j
    · exact okB_l2 hp ⟨h2, hj⟩ _
    · rw [okB_l hp (by omega)]
      match j, (show j < 2 by omega) with
      | 0, _ =>
        cases hw : wdA A p with
        | true => rw [hA.w hp hw, inR_is (hA.w81 hp hw) (by decide), Bool.or_true]
        | false => rw [wdA_f hw]; decide
      | 1, _ =>
        cases hw : gdA A p with
        | true => rw [hA.g hp hw, inR_is (hA.g81 hp hw) (by decide), Bool.or_true]
        | false => rw [gdA_f hw]; decide
  · by_cases h2 : 3 ≤ j
    · exact okB_k3 ⟨h2, hj⟩ _
    · match j, (show j < 3 by omega) with
      | 0, _ => rw [okB_k0, hA.c hk]; exact inR_is (hA.c81 hk) (by decide)
      | 1, _ => rw [okB_k1, hA.o hk]; exact inR_is (hA.o4 hk) (by decide)
      | 2, _ => rw [okB_k2, hA.ls hk]; exact bI_in _
theorem AOK.okg {A : St} (hA : AOK A) : okG A := fun p hp h => by
  have h1 := hA.gw hp (wdA_n h)
  exact gdA_f h1
theorem AOK.upd {A : St} {i : Nat} {x : Int32} (hA : AOK A) (hx : okB i x = true) (hi : i < 16 ∨ 40 ≤ i ∨ 2 ≤ (i - 16) % 4) : AOK (upd A i x) := by
  refine AOK_of (fun j hj => ?_) (fun p hp => ?_)
  · by_cases h : j = i
    · subst h
      rw [upd_at]
      exact hx
    · rw [upd_ne h]
      exact hA.ok j hj
  · rw [upd_ne (by omega), upd_ne (by omega)]
    exact hA.okg p hp
/-- states that agree where the looks look -/
def frI (i : Nat) : Bool := i != 0 && (decide (i < 8) || decide (12 ≤ i)) && (decide (i < 16) || decide (40 ≤ i) || decide (2 ≤ (i - 16) % 4)) && (decide (i < 40) || decide (3 ≤ (i - 40) % 6))
def AE (A B : St) : Prop := ∀ j, j < 112 → frI j = false → A j = B j
theorem fr_0 : frI 0 = false := rfl
theorem fr_s {j : Nat} (hj : j < 4) : frI (8 + j) = false := by
  unfold frI
  rw [decide_eq_false (show ¬ 8 + j < 8 by omega), decide_eq_false (show ¬ 12 ≤ 8 + j by omega)]
  simp
theorem fr_l {p j : Nat} (hp : p < 6) (hj : j < 2) : frI (16 + 4 * p + j) = false := by
  unfold frI
  rw [decide_eq_false (show ¬ 16 + 4 * p + j < 16 by omega), decide_eq_false (show ¬ 40 ≤ 16 + 4 * p + j by omega), decide_eq_false (show ¬ 2 ≤ (16 + 4 * p + j - 16) % 4 by omega)]
  simp
theorem fr_k {k j : Nat} (hj : j < 3) : frI (40 + 6 * k + j) = false := by
  unfold frI
  rw [decide_eq_false (show ¬ 40 + 6 * k + j < 40 by omega), decide_eq_false (show ¬ 3 ≤ (40 + 6 * k + j - 40) % 6 by omega)]
  simp
theorem AE_upd {A : St} {i : Nat} {x : Int32} (h : frI i = true) : AE (upd A i x) A := fun j _ hf => upd_ne (fun z => by rw [z, h] at hf; cases hf)
theorem AE.trans {A B D : St} (h1 : AE A B) (h2 : AE B D) : AE A D := fun j hj hf => (h1 j hj hf).trans (h2 j hj hf)
theorem AE.kN {A B : St} (h : AE A B) : kN A = kN B := congrArg iN (h 0 (by decide) fr_0)
theorem AE.sN {A B : St} (h : AE A B) {j : Nat} (hj : j < 4) : sN A j = sN B j := congrArg iN (h _ (by omega) (fr_s hj))
theorem AE.cN {A B : St} (h : AE A B) {k : Nat} (hk : k < 12) : cN A k = cN B k := congrArg iN (h _ (by omega) (fr_k (by decide)))
theorem AE.oN {A B : St} (h : AE A B) {k : Nat} (hk : k < 12) : oN A k = oN B k := congrArg iN (h _ (by omega) (fr_k (by decide)))
theorem AE.wdA {A B : St} (h : AE A B) {p : Nat} (hp : p < 6) : wdA A p = wdA B p := by
  unfold Jvm.Pilot.CNotchedKeysLaw_law_r8274_db554f.wdA
  rw [h _ (by omega) (fr_l hp (by decide))]
theorem AE.gdA {A B : St} (h : AE A B) {p : Nat} (hp : p < 6) : gdA A p = gdA B p := by
  unfold Jvm.Pilot.CNotchedKeysLaw_law_r8274_db554f.gdA
  rw [h _ (by omega) (fr_l hp (by decide))]
theorem AE.wN {A B : St} (h : AE A B) {p : Nat} (hp : p < 6) : wN A p = wN B p := congrArg iN (h _ (by omega) (fr_l hp (by decide)))
theorem AE.gN {A B : St} (h : AE A B) {p : Nat} (hp : p < 6) : gN A p = gN B p := congrArg iN (h _ (by omega) (fr_l hp (by decide)))
theorem AE.opn {A B : St} (h : AE A B) {c p : Nat} (hp : p < 6) : opnA A c p = opnA B c p := by
  unfold opnA
  rw [h.wdA hp, h.gdA hp, h.wN hp, h.gN hp]
theorem AE.wr {A B : St} (h : AE A B) (x : Int32) : wrA A x = wrA B x := by
  unfold wrA
  rw [h.sN (j := 2) (by decide)]
theorem mskN_congr {P P' : Nat → Bool} : ∀ k, (∀ j, j < k → P j = P' j) → mskN P k = mskN P' k
  | 0, _ => rfl
  | k + 1, h => by
    show mskN P k ||| (if P k then 2 ^ k else 0) = mskN P' k ||| (if P' k then 2 ^ k else 0)
    rw [mskN_congr k (fun j hj => h j (by omega)), h k (by omega)]
theorem AE.lks {A B : St} (h : AE A B) (c : Nat) : lksA A c = lksA B c := mskN_congr 6 (fun p hp => h.opn hp)
/-! ### a world with one row changed -/
def wRow (w : Wd) (a : Nat) (f : Nat → Int32) : Wd := (fun b => if b = a then f else w.1 b, w.2)
theorem wRow_row {w : Wd} {a : Nat} {f g : Nat → Int32} : wRow (wRow w a f) a g = wRow w a g := by
  unfold wRow
  refine Prod.ext (funext fun b => ?_) rfl
  by_cases h : b = a <;> simp [h]
theorem wSet_row {w : Wd} {a k : Nat} {x : Int32} {f : Nat → Int32} : wSet (wRow w a f) a k x = wRow w a (upd f k x) := by
  unfold wRow wSet
  refine Prod.ext (funext fun b => ?_) rfl
  by_cases h : b = a <;> simp [h]
theorem wRow_self {w : Wd} {a : Nat} {f : Nat → Int32} (h : w.1 a = f) : w = wRow w a f := by
  unfold wRow
  refine Prod.ext (funext fun b => ?_) rfl
  by_cases h1 : b = a
  · subst h1
    simp [h]
  · simp [h1]
theorem wSet_is {w : Wd} {a k : Nat} {x : Int32} : wSet w a k x = wRow w a (upd (w.1 a) k x) := rfl
theorem RR_row {w : Wd} {A : St} (h : RR w A) : w = wRow w 205 A := wRow_self h
theorem RR_self {w : Wd} {A : St} : RR (wRow w 205 A) A := rfl
theorem wRow_at {w : Wd} {a : Nat} {f : Nat → Int32} : (wRow w a f).1 a = f := by simp [wRow]
theorem wRow_ne {w : Wd} {a b : Nat} {f : Nat → Int32} (h : ¬ b = a) : (wRow w a f).1 b = w.1 b := by simp [wRow, h]
theorem wRow_comm {w : Wd} {a b : Nat} {f g : Nat → Int32} (h : ¬ b = a) : wRow (wRow w a f) b g = wRow (wRow w b g) a f := by
  unfold wRow
  refine Prod.ext (funext fun c => ?_) rfl
  by_cases h1 : c = b
  · subst h1
    simp [h]
  · simp [h1]
theorem a_wd {G : aG} {p : Program} {l : Launch} {e : Env} {R : Room} {s : State} {m : MethodId} {args : Array Value} {below : List Frame} {meth : Method} {c : Code} {Q : State → Prop} {n k0 u0 pc : Nat} {L : aL} {st : List Value} {w w' : Wd} {ex : Nat × Nat} {us : Nat} (h : w = w') (k : WA G p l e R s m args below meth c Q n k0 u0 pc L st (fzM w' ex us)) : WA G p l e R s m args below meth c Q n k0 u0 pc L st (fzM w ex us) := by
  subst h
  exact k
end A17

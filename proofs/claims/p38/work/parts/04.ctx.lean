section A4
abbrev vwCl : List vw_C := [(RX0, TX0, 13), (RX1, TX1, 4), (RX2, TX2, 6), (RX3, TX3, 4), (RX4, TX4, 7), (RX5, TX5, 12), (RX6, TX6, 9)]
/-- all words of the tables that stay true: every method's contract carries them all -/
def GW : List Cond := lw_tbl.filter goodWord
theorem gw_in {w : Cond} (h : w ∈ lw_tbl) (hg : goodWord w = true) : w ∈ GW := List.mem_filter.mpr ⟨h, hg⟩
theorem gw_good : GoodIn GW GW := fun w h => ⟨h, good_of_word (List.mem_filter.mp h).2⟩
theorem gw_all {ws : List Cond} (h : ∀ w ∈ ws, w ∈ lw_tbl) (hg : ws.all goodWord = true) : ∀ w ∈ ws, w ∈ GW := fun w hw => gw_in (h w hw) (List.all_eq_true.mp hg w hw)
theorem gwX0 : ∀ w ∈ u_ws RX0 TX0 13, w ∈ GW := gw_all (by decide +kernel) (by decide +kernel)
theorem gwX1 : ∀ w ∈ u_ws RX1 TX1 4, w ∈ GW := gw_all (by decide +kernel) (by decide +kernel)
theorem gwX2 : ∀ w ∈ u_ws RX2 TX2 6, w ∈ GW := gw_all (by decide +kernel) (by decide +kernel)
theorem gwX3 : ∀ w ∈ u_ws RX3 TX3 4, w ∈ GW := gw_all (by decide +kernel) (by decide +kernel)
theorem gwX4 : ∀ w ∈ u_ws RX4 TX4 7, w ∈ GW := gw_all (by decide +kernel) (by decide +kernel)
theorem gwX5 : ∀ w ∈ u_ws RX5 TX5 12, w ∈ GW := gw_all (by decide +kernel) (by decide +kernel)
theorem gwX6 : ∀ w ∈ u_ws RX6 TX6 9, w ∈ GW := gw_all (by decide +kernel) (by decide +kernel)
def tyC : Nat → Nat → FieldType := fun ci => match ci with
  | 0 => tyX0
  | 1 => tyX1
  | 2 => tyX2
  | 3 => tyX3
  | 4 => tyX4
  | 5 => tyX5
  | _ => tyX6
theorem cl_ok {ci N : Nat} {C : String} {T : u_T} (h : vwCl[ci]? = some (C, T, N)) : (∀ w ∈ u_ws C T N, w ∈ GW) ∧ (∀ k, k < N → parseFieldDescriptor (T k).2.2.1 = some (tyC ci k)) ∧ (∀ a, a < N → ∀ b, b < N → a ≠ b → (T a).2.1 ≠ (T b).2.1) := by
  match ci, h with
  | 0, h => cases h; exact ⟨gwX0, tyX0_ok, nmX0⟩
  | 1, h => cases h; exact ⟨gwX1, tyX1_ok, nmX1⟩
  | 2, h => cases h; exact ⟨gwX2, tyX2_ok, nmX2⟩
  | 3, h => cases h; exact ⟨gwX3, tyX3_ok, nmX3⟩
  | 4, h => cases h; exact ⟨gwX4, tyX4_ok, nmX4⟩
  | 5, h => cases h; exact ⟨gwX5, tyX5_ok, nmX5⟩
  | 6, h => cases h; exact ⟨gwX6, tyX6_ok, nmX6⟩
  | k + 7, h => simp [vwCl] at h
/-! ### the world's constants: class numbers and slots; the heap's size at the law's entry; the array classes by kind; the addresses of what lay there before -/
abbrev aG : Type := va_G × Nat × (Nat → ClassId) × (Nat → Nat)
/-- the things from 207 on lie behind what was thrown before they came: by so much -/
def aX (G : aG) (a : Nat) : Nat := G.2.1 + a + (if a < 207 then 0 else G.2.2.2 999)
theorem aX_le (G : aG) (a : Nat) : G.2.1 ≤ aX G a := by unfold aX; omega
theorem aX_inj {G : aG} {a b : Nat} (h : aX G a = aX G b) : a = b := by
  unfold aX at h
  by_cases ha : a < 207 <;> by_cases hb : b < 207 <;> simp only [ha, hb, if_true, if_false] at h <;> omega
theorem aX_lo {G : aG} {a : Nat} (h : a < 207) : aX G a = G.2.1 + a := by unfold aX; rw [if_pos h]; rfl
def aAd (G : aG) (a : Nat) : Nat := if a < 1000 then aX G a else G.2.2.2 (a - 1000)
def aV (G : aG) (v : Value) : Value := match v with
  | .ref a => .ref (aAd G a)
  | w => w
theorem aV_int (G : aG) (x : Int32) : aV G (.int x) = .int x := rfl
theorem aV_long (G : aG) (x : Int64) : aV G (.long x) = .long x := rfl
theorem aV_cat (G : aG) (v : Value) : (aV G v).category = v.category := by cases v <;> rfl
theorem aAd_lt {G : aG} {a : Nat} (h : a < 1000) : aAd G a = aX G a := if_pos h
/-- contents: an array (kind, length, contents), or an object (class, fields) -/
abbrev aC : Type := (Nat × vp_A) ⊕ (Nat × List Value)
def aA (G : aG) (x : vp_A) : vp_A := (x.1, match x.2 with
  | .inr (.inr (.inr (.inr f))) => .inr (.inr (.inr (.inr (fun j => (f j).map (aAd G)))))
  | y => y)
def aE (G : aG) (c : aC) : va_E := match c with
  | .inl x => .inl (G.2.2.1 x.1, aA G x.2)
  | .inr o => .inr (o.1, o.2.map (aV G))
/-- a heap: how many cells were made, how many things thrown, how many slots in all, the contents -/
abbrev aH : Type := Nat × Nat × Nat × (Nat → aC)
def aUp (f : Nat → aC) (a : Nat) (x : aC) : Nat → aC := fun j => if j = a then x else f j
def aPut (M : aH) (a : Nat) (x : aC) : aH := (M.1, M.2.1, M.2.2.1, aUp M.2.2.2 a x)
def aW (G : aG) (M : aH) : va_W := (List.range M.1).map fun i => (aX G i, aE G (M.2.2.2 i))
theorem aW_len (G : aG) (M : aH) : (aW G M).length = M.1 := by simp [aW]
theorem aW_get {G : aG} {M : aH} {i : Nat} (h : i < M.1) : (aW G M)[i]? = some (aX G i, aE G (M.2.2.2 i)) := by
  simp [aW, h]
theorem aW_at {G : aG} {M : aH} {i : Nat} {x : aC} (h : i < M.1) (hx : M.2.2.2 i = x) : (aW G M)[i]? = some (aX G i, aE G x) := by
  rw [aW_get h, hx]
theorem aW_set {G : aG} {M : aH} {i : Nat} (x : aC) : (aW G M).set i (aX G i, aE G x) = aW G (aPut M i x) := by
  apply List.ext_getElem?
  intro j
  by_cases hj : j < M.1
  · rw [List.getElem?_set, aW_get (M := aPut M i x) (by exact hj)]
    by_cases e : i = j
    · subst e
      rw [if_pos rfl, if_pos (by rw [aW_len]; exact hj)]
      simp [aPut, aUp]
    · rw [if_neg e, aW_get hj]
      have e' : ¬ j = i := fun q => e q.symm
      simp [aPut, aUp, e']
  · have h1 : ((aW G M).set i (aX G i, aE G x))[j]? = none := List.getElem?_eq_none (by rw [List.length_set, aW_len]; omega)
    have h2 : (aW G (aPut M i x))[j]? = none := List.getElem?_eq_none (by rw [aW_len]; show M.1 ≤ j; omega)
    rw [h1, h2]
theorem aW_D (G : aG) (M : aH) : va_D (fun q => G.2.1 ≤ q) (aW G M) := by
  have key : ∀ (k : Nat) (q : Nat × va_E), (aW G M)[k]? = some q → q.1 = aX G k := by
    intro k q h
    have hk : k < M.1 := by
      have := (List.getElem?_eq_some_iff.mp h).1
      rwa [aW_len] at this
    rw [aW_get hk] at h
    rw [← Option.some.inj h]
  refine ⟨fun i j p q h1 h2 e => ?_, fun k q h => ?_⟩
  · rw [key i p h1, key j q h2] at e
    exact aX_inj e
  · show G.2.1 ≤ q.1
    rw [key k q h]
    exact aX_le G k
/-- array kinds: 8 int, 9 boolean, 10 char, 11 long, 12 Key, 13 Lock, 14 State -/
def aTys (G : aG) : List (ClassId × FieldType) := [(G.2.2.1 8, .int), (G.2.2.1 9, .boolean), (G.2.2.1 10, .char), (G.2.2.1 8, .int), (G.2.2.1 12, .object RX2), (G.2.2.1 13, .object RX3), (G.2.2.1 14, .object RX5)]
/-- words that aren't good, of the tables alone -/
def aNest : List Cond := [.fieldLinkNest RX1 40 "NotchedKeys" "NOTCH_WEIGHTS" "[I" "NotchedKeys", .methodLinkNest RX6 9 yX4_init RX6, .methodLinkNest RX5 37 yX2_init RX6, .methodLinkNest RX5 38 yX3_init RX6]
def nwv (j : Nat) : Value := .int (match j with | 0 => 27 | 1 => 9 | 2 => 3 | _ => 1)
def lvv (j : Nat) : Value := .int (match j with | 0 => 1 | 1 => 1 | 2 => 0 | _ => 0)
def gvv (j : Nat) : Value := .int (match j with | 0 => 2 | 1 => 9 | 2 => 9 | _ => 1)
end A4

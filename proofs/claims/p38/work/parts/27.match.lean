section A27
/-! ### counting -/
theorem cntN_s {P : Nat → Bool} {k : Nat} : cntN P (k + 1) = cntN P k + (if P k then 1 else 0) := rfl
theorem cntN_cg {P Q : Nat → Bool} : ∀ n, (∀ i, i < n → P i = Q i) → cntN P n = cntN Q n
  | 0, _ => rfl
  | n + 1, h => by rw [cntN_s, cntN_s, cntN_cg n (fun i hi => h i (by omega)), h n (by omega)]
theorem cntN_mono {P Q : Nat → Bool} : ∀ n, (∀ i, i < n → P i = true → Q i = true) → cntN P n ≤ cntN Q n
  | 0, _ => Nat.le_refl _
  | n + 1, h => by
    have zq_1 := cntN_mono n (fun i hi => h i (by omega))
    rw [cntN_s, cntN_s]
    cases hp : P n with
    | false => simp; omega
    | true => rw [h n (by omega) hp]; simp; omega
theorem cntN_all : ∀ n, cntN (fun _ => true) n = n
  | 0 => rfl
  | n + 1 => by rw [cntN_s, cntN_all n]; rfl
theorem cntN_split (P q : Nat → Bool) : ∀ n, cntN P n = cntN (fun i => P i && q i) n + cntN (fun i => P i && !q i) n
  | 0 => rfl
  | n + 1 => by
    rw [cntN_s, cntN_s, cntN_s, cntN_split P q n]
    cases P n <;> cases q n <;> simp <;> omega
def rmv (Q : Nat → Bool) (x : Nat) : Nat → Bool := fun i => i != x && Q i
theorem rmv_at {Q : Nat → Bool} {x : Nat} : rmv Q x x = false := by simp [rmv]
theorem rmv_ne {Q : Nat → Bool} {x i : Nat} (h : ¬ i = x) : rmv Q x i = Q i := by simp [rmv, h]
theorem cntN_rmv {Q : Nat → Bool} {x : Nat} : ∀ n, x < n → Q x = true → cntN (rmv Q x) n + 1 = cntN Q n
  | 0, h, _ => absurd h (Nat.not_lt_zero x)
  | n + 1, h, hq => by
    rw [cntN_s, cntN_s]
    by_cases e : x = n
    · subst e
      rw [rmv_at, hq, cntN_cg (P := rmv Q x) (Q := Q) x (fun i hi => rmv_ne (by omega))]
      simp
    · have zq_1 := cntN_rmv n (by omega) hq
      rw [rmv_ne (fun z => e z.symm)]
      omega
theorem cntN_rel {P : Nat → Bool} {R : Nat → Nat → Prop} {m : Nat} : ∀ (n : Nat) (Q : Nat → Bool), (∀ i, i < n → P i = true → ∃ y, y < m ∧ Q y = true ∧ R i y) → (∀ i j y, i < n → j < n → P i = true → P j = true → R i y → R j y → i = j) → cntN P n ≤ cntN Q m
  | 0, _, _, _ => Nat.zero_le _
  | n + 1, Q, h, hi => by
    rw [cntN_s]
    cases hp : P n with
    | false =>
      simp
      exact cntN_rel n Q (fun i hn => h i (by omega)) (fun i j y h1 h2 => hi i j y (by omega) (by omega))
    | true =>
      obtain ⟨y, z1, z2, z3⟩ := h n (by omega) hp
      have zq_1 := cntN_rmv m z1 z2
      have zq_2 := cntN_rel (R := R) n (rmv Q y) (fun i hn hpi => by
        obtain ⟨x, x1, x2, x3⟩ := h i (by omega) hpi
        refine ⟨x, x1, ?_, x3⟩
        rw [rmv_ne (fun e => by rw [e] at x3; have := hi i n y (by omega) (by omega) hpi hp x3 z3; omega)]
        exact x2) (fun i j y h1 h2 => hi i j y (by omega) (by omega))
      simp
      omega
theorem cntN_two {P : Nat → Bool} {b : Nat} (h0 : P 0 = false) (hb : P b = false) (h : 0 < b ∧ b < 81) : cntN P 81 ≤ 79 := by
  have z1 := cntN_rmv (Q := fun _ => true) (x := 0) 81 (by decide) rfl
  have z2 := cntN_rmv (Q := rmv (fun _ => true) 0) (x := b) 81 h.2 (rmv_ne (by omega))
  rw [cntN_all] at z1
  have z3 : cntN P 81 ≤ cntN (rmv (rmv (fun _ => true) 0) b) 81 := cntN_mono 81 (fun i _ hp => by
    by_cases e : i = b
    · subst e; rw [hb] at hp; cases hp
    · rw [rmv_ne e]
      by_cases e2 : i = 0
      · subst e2; rw [h0] at hp; cases hp
      · rw [rmv_ne e2])
  omega
/-! ### codes under one another -/
theorem und_irr (a : Nat) : und a a = false := by simp [und]
theorem und_le {a b : Nat} (h : und a b = true) : dep a 0 ≤ dep b 0 ∧ dep a 1 ≤ dep b 1 ∧ dep a 2 ≤ dep b 2 ∧ dep a 3 ≤ dep b 3 := by
  simp [und] at h
  exact ⟨h.2.1.1.1, h.2.1.1.2, h.2.1.2, h.2.2⟩
theorem und_ne {a b : Nat} (h : und a b = true) : ¬ a = b := by
  simp [und] at h
  exact h.1
theorem dep_sum {a : Nat} (h : a < 81) : a = 27 * dep a 0 + 9 * dep a 1 + 3 * dep a 2 + dep a 3 := by
  show a = 27 * (a / 27 % 3) + 9 * (a / 9 % 3) + 3 * (a / 3 % 3) + a / 1 % 3
  omega
theorem und_lt {a b : Nat} (ha : a < 81) (hb : b < 81) (h : und a b = true) : a < b := by
  have z1 := und_le h
  have z2 := und_ne h
  have z3 := dep_sum ha
  have z4 := dep_sum hb
  omega
theorem und_trans {a b c : Nat} (ha : a < 81) (hb : b < 81) (hc : c < 81) (h : und a b = true) (h2 : und b c = true) : und a c = true := by
  have z1 := und_le h
  have z2 := und_le h2
  have z3 := und_lt ha hb h
  have z4 := und_lt hb hc h2
  simp [und]
  exact ⟨by omega, ⟨⟨by omega, by omega⟩, by omega⟩, by omega⟩
/-! ### matchings, chains -/
abbrev OM : Type := Nat → Option Nat
def Su (S : Nat → Bool) : Prop := ∀ c, S c = true → c < 81
def Mt (S : Nat → Bool) (nx pv : OM) : Prop := (∀ a b, nx a = some b → pv b = some a ∧ S a = true ∧ S b = true ∧ und a b = true) ∧ (∀ a b, pv b = some a → nx a = some b)
def itN (nx : OM) : Nat → Nat → Option Nat
  | 0, a => some a
  | k + 1, a => match nx a with
    | none => none
    | some b => itN nx k b
def Rc (nx : OM) (a b : Nat) : Prop := ∃ k, itN nx k a = some b
variable {S T : Nat → Bool} {nx pv : OM}
theorem Rc.rf (a : Nat) : Rc nx a a := ⟨0, rfl⟩
theorem Rc.cons {a b c : Nat} (h : nx a = some b) (h2 : Rc nx b c) : Rc nx a c := by
  obtain ⟨k, hk⟩ := h2
  refine ⟨k + 1, ?_⟩
  show (match nx a with | none => none | some b => itN nx k b) = some c
  rw [h]
  exact hk
theorem Rc.inv {a c : Nat} (h : Rc nx a c) : a = c ∨ ∃ b, nx a = some b ∧ Rc nx b c := by
  obtain ⟨k, hk⟩ := h
  cases k with
  | zero => exact Or.inl (Option.some.inj hk)
  | succ k =>
    have hk' : (match nx a with | none => none | some b => itN nx k b) = some c := hk
    cases e : nx a with
    | none => rw [e] at hk'; cases hk'
    | some b => rw [e] at hk'; exact Or.inr ⟨b, rfl, k, hk'⟩
theorem Rc.ind {c : Nat} {P : Nat → Prop} (h0 : P c) (hs : ∀ a b, nx a = some b → Rc nx b c → P b → P a) : ∀ a, Rc nx a c → P a := by
  intro a ⟨k, hk⟩
  induction k generalizing a with
  | zero => cases Option.some.inj hk; exact h0
  | succ k ih =>
    have hk' : (match nx a with | none => none | some b => itN nx k b) = some c := hk
    cases e : nx a with
    | none => rw [e] at hk'; cases hk'
    | some b => rw [e] at hk'; exact hs a b e ⟨k, hk'⟩ (ih b hk')
theorem Rc.tr {a b c : Nat} (h : Rc nx a b) (h2 : Rc nx b c) : Rc nx a c := Rc.ind (P := fun a => Rc nx a c) h2 (fun _ _ e _ ih => Rc.cons e ih) a h
theorem Rc.snoc {a b : Nat} (h : Rc nx a b) : a = b ∨ ∃ x, Rc nx a x ∧ nx x = some b :=
  Rc.ind (P := fun a => a = b ∨ ∃ x, Rc nx a x ∧ nx x = some b) (Or.inl rfl) (fun a c e _ ih => by
    rcases ih with rfl | ⟨x, h1, h2⟩
    · exact Or.inr ⟨a, Rc.rf a, e⟩
    · exact Or.inr ⟨x, Rc.cons e h1, h2⟩) a h
theorem Rc.fwd {a b c : Nat} (h : Rc nx a b) (h2 : Rc nx a c) : Rc nx b c ∨ Rc nx c b := by
  refine Rc.ind (P := fun a => Rc nx a c → Rc nx b c ∨ Rc nx c b) (fun z => Or.inl z) (fun x y e hy ih z => ?_) a h h2
  rcases z.inv with rfl | ⟨y', e', z'⟩
  · exact Or.inr (Rc.cons e hy)
  · rw [e] at e'; cases e'; exact ih z'
theorem Rc.bwd {a b c : Nat} (hM : Mt S nx pv) (h : Rc nx a c) (h2 : Rc nx b c) : Rc nx a b ∨ Rc nx b a := by
  refine Rc.ind (P := fun a => Rc nx a b ∨ Rc nx b a) (Or.inr h2) (fun x y e _ ih => ?_) a h
  rcases ih with z | z
  · exact Or.inl (Rc.cons e z)
  · rcases z.snoc with rfl | ⟨x', z1, z2⟩
    · exact Or.inl (Rc.cons e (Rc.rf _))
    · have z3 := (hM.1 _ _ e).1
      have z4 := (hM.1 _ _ z2).1
      rw [z3] at z4
      cases z4
      exact Or.inr z1
theorem Rc.un {a b : Nat} (hS : Su S) (hM : Mt S nx pv) (h : Rc nx a b) : a = b ∨ (und a b = true ∧ S a = true ∧ S b = true) := by
  refine Rc.ind (P := fun a => a = b ∨ (und a b = true ∧ S a = true ∧ S b = true)) (Or.inl rfl) (fun x y e _ ih => ?_) a h
  obtain ⟨-, z1, z2, z3⟩ := hM.1 _ _ e
  rcases ih with rfl | ⟨z4, -, z6⟩
  · exact Or.inr ⟨z3, z1, z2⟩
  · exact Or.inr ⟨und_trans (hS _ z1) (hS _ z2) (hS _ z6) z3 z4, z1, z6⟩
theorem Rc.le {a b : Nat} (hS : Su S) (hM : Mt S nx pv) (h : Rc nx a b) : a ≤ b := by
  rcases h.un hS hM with rfl | ⟨z1, z2, z3⟩
  · exact Nat.le_refl _
  · exact Nat.le_of_lt (und_lt (hS _ z2) (hS _ z3) z1)
theorem Rc.inS {a b : Nat} (hM : Mt S nx pv) (h : Rc nx a b) (ha : S a = true) : S b = true := by
  rcases h.snoc with rfl | ⟨x, _, e⟩
  · exact ha
  · exact (hM.1 _ _ e).2.2.1
/-- each has a top and a bottom -/
theorem top_ex (hS : Su S) (hM : Mt S nx pv) : ∀ (d a : Nat), S a = true → 81 ≤ a + d → ∃ t, Rc nx a t ∧ nx t = none ∧ S t = true := by
  intro d
  induction d with
  | zero => intro a h1 h2; have := hS a h1; omega
  | succ d ih =>
    intro a h1 h2
    cases e : nx a with
    | none => exact ⟨a, Rc.rf a, e, h1⟩
    | some b =>
      obtain ⟨-, -, z2, z3⟩ := hM.1 _ _ e
      have z4 := und_lt (hS _ h1) (hS _ z2) z3
      obtain ⟨t, y1, y2⟩ := ih b z2 (by omega)
      exact ⟨t, Rc.cons e y1, y2⟩
theorem bot_ex (hS : Su S) (hM : Mt S nx pv) : ∀ (d a : Nat), S a = true → a < d → ∃ t, Rc nx t a ∧ pv t = none ∧ S t = true := by
  intro d
  induction d with
  | zero => intro a _ h; exact absurd h (Nat.not_lt_zero a)
  | succ d ih =>
    intro a h1 h2
    cases e : pv a with
    | none => exact ⟨a, Rc.rf a, e, h1⟩
    | some b =>
      have e2 := hM.2 _ _ e
      obtain ⟨-, z1, z2, z3⟩ := hM.1 _ _ e2
      have z4 := und_lt (hS _ z1) (hS _ z2) z3
      obtain ⟨t, y1, y2⟩ := ih b z1 (by omega)
      exact ⟨t, y1.tr (Rc.cons e2 (Rc.rf a)), y2⟩
/-! ### the width -/
def Anti (A : Nat → Bool) : Prop := ∀ a b, A a = true → A b = true → und a b = false
def Sub (A S : Nat → Bool) : Prop := ∀ a, A a = true → S a = true
theorem weak {A : Nat → Bool} (hS : Su S) (hM : Mt S nx pv) (hA : Sub A S) (hC : Anti A) : cntN A 81 ≤ cntN (fun c => S c && (nx c).isNone) 81 := by
  refine cntN_rel (R := fun a t => Rc nx a t) 81 _ (fun i hi h => ?_) (fun i j y hi hj h1 h2 z1 z2 => ?_)
  · obtain ⟨t, y1, y2, y3⟩ := top_ex hS hM 81 i (hA i h) (by omega)
    exact ⟨t, hS t y3, by rw [y3, y2]; rfl, y1⟩
  · rcases Rc.bwd hM z1 z2 with z | z
    · rcases z.un hS hM with e | ⟨e, -, -⟩
      · exact e
      · rw [hC i j h1 h2] at e; cases e
    · rcases z.un hS hM with e | ⟨e, -, -⟩
      · exact e.symm
      · rw [hC j i h2 h1] at e; cases e
theorem tops_bots (hS : Su S) (hM : Mt S nx pv) : cntN (fun c => S c && (nx c).isNone) 81 = cntN (fun c => S c && (pv c).isNone) 81 := by
  have k1 : ∀ x : Option Nat, x.isNone = true → x = none := fun x h => Option.isNone_iff_eq_none.mp h
  refine Nat.le_antisymm ?_ ?_
  · refine cntN_rel (R := fun a t => Rc nx t a) 81 _ (fun i hi h => ?_) (fun i j y hi hj h1 h2 z1 z2 => ?_)
    · obtain ⟨t, y1, y2, y3⟩ := bot_ex hS hM 81 i (Bool.and_eq_true_iff.mp h).1 hi
      exact ⟨t, hS t y3, by rw [y3, y2]; rfl, y1⟩
    · rcases Rc.fwd z1 z2 with z | z
      · rcases z.inv with e | ⟨b, e, -⟩
        · exact e
        · rw [k1 _ (Bool.and_eq_true_iff.mp h1).2] at e; cases e
      · rcases z.inv with e | ⟨b, e, -⟩
        · exact e.symm
        · rw [k1 _ (Bool.and_eq_true_iff.mp h2).2] at e; cases e
  · refine cntN_rel (R := fun a t => Rc nx a t) 81 _ (fun i hi h => ?_) (fun i j y hi hj h1 h2 z1 z2 => ?_)
    · obtain ⟨t, y1, y2, y3⟩ := top_ex hS hM 81 i (Bool.and_eq_true_iff.mp h).1 (by omega)
      exact ⟨t, hS t y3, by rw [y3, y2]; rfl, y1⟩
    · rcases Rc.bwd hM z1 z2 with z | z
      · rcases z.snoc with e | ⟨b, -, e⟩
        · exact e
        · have e2 := (hM.1 _ _ e).1
          rw [k1 _ (Bool.and_eq_true_iff.mp h2).2] at e2; cases e2
      · rcases z.snoc with e | ⟨b, -, e⟩
        · exact e.symm
        · have e2 := (hM.1 _ _ e).1
          rw [k1 _ (Bool.and_eq_true_iff.mp h1).2] at e2; cases e2
/-- k is the width of S: so many codes can be apart, and no more -/
def IsW (S : Nat → Bool) (k : Nat) : Prop := (∃ A, Sub A S ∧ Anti A ∧ cntN A 81 = k) ∧ ∀ A, Sub A S → Anti A → cntN A 81 ≤ k
theorem max_ex {P : Nat → Prop} (h0 : ∃ k, P k) {B : Nat} (hB : ∀ k, P k → k ≤ B) : ∃ k, P k ∧ ∀ j, P j → j ≤ k := by
  have key : ∀ d k, P k → B ≤ k + d → ∃ k, P k ∧ ∀ j, P j → j ≤ k := by
    intro d
    induction d with
    | zero => intro k hk h; exact ⟨k, hk, fun j hj => by have := hB j hj; omega⟩
    | succ d ih =>
      intro k hk h
      by_cases e : ∃ j, P j ∧ k < j
      · obtain ⟨j, hj, hkj⟩ := e
        exact ih j hj (by omega)
      · exact ⟨k, hk, fun j hj => by
          by_cases z : j ≤ k
          · exact z
          · exact absurd ⟨j, hj, by omega⟩ e⟩
  obtain ⟨k, hk⟩ := h0
  exact key B k hk (by omega)
theorem isW_ex (S : Nat → Bool) : ∃ k, IsW S k := by
  have z := max_ex (P := fun k => ∃ A, Sub A S ∧ Anti A ∧ cntN A 81 = k) ⟨0, (fun _ => false), (fun _ h => Bool.noConfusion h), (fun _ _ h => Bool.noConfusion h), by decide⟩ (B := 81) (fun k ⟨A, _, _, h⟩ => by rw [← h]; exact cntN_le A 81)
  obtain ⟨k, h1, h2⟩ := z
  exact ⟨k, h1, fun A a1 a2 => h2 _ ⟨A, a1, a2, rfl⟩⟩
noncomputable def wdt (S : Nat → Bool) : Nat := Classical.choose (isW_ex S)
theorem wdt_is (S : Nat → Bool) : IsW S (wdt S) := Classical.choose_spec (isW_ex S)
theorem IsW.uniq {k j : Nat} (h : IsW S k) (h2 : IsW S j) : k = j := by
  obtain ⟨⟨A, a1, a2, a3⟩, h⟩ := h
  obtain ⟨⟨B, b1, b2, b3⟩, h2⟩ := h2
  have z1 := h B b1 b2
  have z2 := h2 A a1 a2
  omega
theorem wdt_eq {k : Nat} (h : IsW S k) : wdt S = k := (wdt_is S).uniq h
theorem wdt_le (S : Nat → Bool) : wdt S ≤ 81 := by
  obtain ⟨⟨A, _, _, h⟩, -⟩ := wdt_is S
  rw [← h]
  exact cntN_le A 81
/-- a closed part of the search: what has been looked at from codes that stay without a code over them -/
def Cl (S : Nat → Bool) (pv : OM) (ZL ZR : Nat → Bool) : Prop := (∀ a, ZL a = true → S a = true) ∧ (∀ a b, ZL a = true → S b = true → und a b = true → ZR b = true) ∧ (∀ b, ZR b = true → ∃ a, pv b = some a ∧ ZL a = true)
theorem konig {ZL ZR : Nat → Bool} (hS : Su S) (hM : Mt S nx pv) (hC : Cl S pv ZL ZR) (hf : ∀ a, S a = true → nx a = none → ZL a = true) : IsW S (cntN (fun c => S c && (nx c).isNone) 81) := by
  have k1 : ∀ x : Option Nat, x.isNone = true → x = none := fun x h => Option.isNone_iff_eq_none.mp h
  have hA1 : Sub (fun a => ZL a && !ZR a) S := fun a h => hC.1 a (Bool.and_eq_true_iff.mp h).1
  have hA2 : Anti (fun a => ZL a && !ZR a) := fun a b h1 h2 => by
    have y1 := Bool.and_eq_true_iff.mp h1
    have y2 := Bool.and_eq_true_iff.mp h2
    cases e : und a b with
    | false => rfl
    | true =>
      have z := hC.2.1 a b y1.1 (hC.1 b y2.1) e
      rw [z] at y2
      cases y2.2
  refine ⟨⟨_, hA1, hA2, Nat.le_antisymm (weak hS hM hA1 hA2) ?_⟩, fun A a1 a2 => weak hS hM a1 a2⟩
  have s1 := cntN_split ZL ZR 81
  have s2 := cntN_split ZL (fun c => (nx c).isNone) 81
  have s3 : cntN (fun c => S c && (nx c).isNone) 81 ≤ cntN (fun i => ZL i && (nx i).isNone) 81 := cntN_mono 81 (fun i _ h => by
    have y := Bool.and_eq_true_iff.mp h
    rw [hf i y.1 (k1 _ y.2), y.2]
    rfl)
  have s4 : cntN (fun i => ZL i && ZR i) 81 ≤ cntN ZR 81 := cntN_mono 81 (fun i _ h => (Bool.and_eq_true_iff.mp h).2)
  have s5 : cntN ZR 81 ≤ cntN (fun i => ZL i && !(nx i).isNone) 81 := by
    refine cntN_rel (R := fun b a => pv b = some a) 81 _ (fun i hi h => ?_) (fun i j y hi hj h1 h2 z1 z2 => ?_)
    · obtain ⟨a, a1, a2⟩ := hC.2.2 i h
      exact ⟨a, hS a (hC.1 a a2), by rw [a2, hM.2 _ _ a1]; rfl, a1⟩
    · have e1 := hM.2 _ _ z1
      have e2 := hM.2 _ _ z2
      rw [e1] at e2
      exact Option.some.inj e2
  omega
/-! ### the search for a code over s, by matching others anew -/
def oS (f : OM) (a : Nat) (x : Option Nat) : OM := fun j => if j = a then x else f j
theorem oS_at {f : OM} {a : Nat} {x : Option Nat} : oS f a x a = x := if_pos rfl
theorem oS_ne {f : OM} {a j : Nat} {x : Option Nat} (h : ¬ j = a) : oS f a x j = f j := if_neg h
def nS (f : Nat → Nat) (a x : Nat) : Nat → Nat := fun j => if j = a then x else f j
theorem nS_at {f : Nat → Nat} {a x : Nat} : nS f a x a = x := if_pos rfl
theorem nS_ne {f : Nat → Nat} {a j x : Nat} (h : ¬ j = a) : nS f a x j = f j := if_neg h
/-- reached from where, and the queue with its length -/
def Bf (S : Nat → Bool) (nx pv : OM) (s : Nat) (rf : OM) (q : Nat → Nat) (n : Nat) : Prop :=
  (S s = true ∧ nx s = none ∧ q 0 = s) ∧ n = 1 + cntN (fun d => (rf d).isSome) 81 ∧
  (∀ b x, rf b = some x → S b = true ∧ S x = true ∧ und x b = true ∧ ∃ j, 0 < j ∧ j < n ∧ pv b = some (q j)) ∧
  (∀ j, 0 < j → j < n → ∃ b i, i < j ∧ pv b = some (q j) ∧ rf b = some (q i)) ∧
  (∀ i j, i < n → j < n → q i = q j → i = j)
theorem Bf.n1 {s n : Nat} {rf : OM} {q : Nat → Nat} (h : Bf S nx pv s rf q n) : 1 ≤ n := by have := h.2.1; omega
theorem Bf.qS {s n : Nat} {rf : OM} {q : Nat → Nat} (hM : Mt S nx pv) (h : Bf S nx pv s rf q n) {j : Nat} (hj : j < n) : S (q j) = true := by
  by_cases e : j = 0
  · subst e; rw [h.1.2.2]; exact h.1.1
  · obtain ⟨b, i, -, z, -⟩ := h.2.2.2.1 j (by omega) hj
    exact (hM.1 _ _ (hM.2 _ _ z)).2.1
theorem Bf.init {s : Nat} {q : Nat → Nat} (h1 : S s = true) (h2 : nx s = none) (hq : q 0 = s) : Bf S nx pv s (fun _ => none) q 1 := by
  refine ⟨⟨h1, h2, hq⟩, ?_, (fun _ _ h => nomatch h), (fun j h3 h4 => by omega), (fun i j h3 h4 _ => by omega)⟩
  have : cntN (fun d => ((fun _ => none : OM) d).isSome) 81 = 0 := by decide
  rw [this]
theorem Bf.rf0 {s n : Nat} {rf : OM} {q : Nat → Nat} (hS : Su S) (h : Bf S nx pv s rf q n) : rf 0 = none := by
  cases e : rf 0 with
  | none => rfl
  | some x =>
    obtain ⟨z1, z2, z3, -⟩ := h.2.2.1 0 x e
    have := und_lt (hS _ z2) (hS _ z1) z3
    omega
theorem Bf.room {s n b a : Nat} {rf : OM} {q : Nat → Nat} (hS : Su S) (h : Bf S nx pv s rf q n) (ha : S a = true) (hb : S b = true) (hu : und a b = true) (hr : rf b = none) : n < 81 := by
  have z0 := h.rf0 hS
  have z1 := und_lt (hS _ ha) (hS _ hb) hu
  have z2 := cntN_two (P := fun d => (rf d).isSome) (b := b) (by rw [z0]; rfl) (by rw [hr]; rfl) ⟨by omega, hS _ hb⟩
  have z3 := h.2.1
  omega
theorem Bf.le {s n : Nat} {rf : OM} {q : Nat → Nat} (hS : Su S) (h : Bf S nx pv s rf q n) : n ≤ 81 := by
  have z0 := h.rf0 hS
  have z1 := cntN_rmv (Q := fun _ => true) (x := 0) 81 (by decide) rfl
  rw [cntN_all] at z1
  have z2 : cntN (fun d => (rf d).isSome) 81 ≤ cntN (rmv (fun _ => true) 0) 81 := cntN_mono 81 (fun i _ hp => by
    by_cases e : i = 0
    · subst e; rw [z0] at hp; cases hp
    · rw [rmv_ne e])
  have z3 := h.2.1
  omega
theorem Bf.push {s n b k x : Nat} {rf : OM} {q : Nat → Nat} (hS : Su S) (hM : Mt S nx pv) (h : Bf S nx pv s rf q n) (hk : k < n) (hb : S b = true) (hu : und (q k) b = true) (hr : rf b = none) (hx : pv b = some x) : Bf S nx pv s (oS rf b (some (q k))) (nS q n x) (n + 1) := by
  have hb81 := hS _ hb
  have hxn := hM.2 _ _ hx
  have hn1 := h.n1
  have hd : ∀ j, j < n → ¬ q j = x := fun j hj e => by
    by_cases j0 : j = 0
    · subst j0
      rw [h.1.2.2] at e
      rw [← e, h.1.2.1] at hxn
      cases hxn
    · obtain ⟨b', i, -, z1, z2⟩ := h.2.2.2.1 j (by omega) hj
      rw [e] at z1
      have z3 := hM.2 _ _ z1
      rw [hxn] at z3
      cases z3
      rw [hr] at z2
      cases z2
  refine ⟨⟨h.1.1, h.1.2.1, by rw [nS_ne (by omega)]; exact h.1.2.2⟩, ?_, fun c y hc => ?_, fun j h3 h4 => ?_, fun i j h3 h4 e => ?_⟩
  · have z1 := cntN_rmv (Q := fun d => (oS rf b (some (q k)) d).isSome) (x := b) 81 hb81 (by rw [oS_at]; rfl)
    rw [← z1, cntN_cg (Q := fun d => (rf d).isSome) 81 (fun i hi => by
      by_cases e : i = b
      · subst e; rw [rmv_at, hr]; rfl
      · rw [rmv_ne e, oS_ne e])]
    have := h.2.1
    omega
  · by_cases e : c = b
    · subst e
      rw [oS_at] at hc
      cases hc
      exact ⟨hb, h.qS hM hk, hu, n, by omega, by omega, by rw [nS_at]; exact hx⟩
    · rw [oS_ne e] at hc
      obtain ⟨y1, y2, y3, j, y4, y5, y6⟩ := h.2.2.1 c y hc
      exact ⟨y1, y2, y3, j, y4, by omega, by rw [nS_ne (by omega)]; exact y6⟩
  · by_cases e : j = n
    · subst e
      exact ⟨b, k, hk, by rw [nS_at]; exact hx, by rw [oS_at, nS_ne (by omega)]⟩
    · obtain ⟨c, i, y1, y2, y3⟩ := h.2.2.2.1 j h3 (by omega)
      refine ⟨c, i, y1, by rw [nS_ne e]; exact y2, ?_⟩
      rw [oS_ne (fun z => by rw [z, hr] at y3; cases y3), nS_ne (by omega)]
      exact y3
  · by_cases e1 : i = n
    · by_cases e2 : j = n
      · omega
      · subst e1
        rw [nS_at, nS_ne e2] at e
        exact absurd e.symm (hd j (by omega))
    · by_cases e2 : j = n
      · subst e2
        rw [nS_at, nS_ne e1] at e
        exact absurd e (hd i (by omega))
      · rw [nS_ne e1, nS_ne e2] at e
        exact h.2.2.2.2 i j (by omega) (by omega) e
/-- all codes over the first k of the queue are reached -/
def Dn (S : Nat → Bool) (rf : OM) (q : Nat → Nat) (k : Nat) : Prop := ∀ i b, i < k → S b = true → und (q i) b = true → ¬ rf b = none
/-- .. and of those over the k-th one those below h -/
def Dh (S : Nat → Bool) (rf : OM) (a h : Nat) : Prop := ∀ b, b < h → S b = true → und a b = true → ¬ rf b = none
theorem oS_some {rf : OM} {b c y : Nat} (h : ¬ rf c = none) : ¬ oS rf b (some y) c = none := by
  by_cases e : c = b
  · subst e; rw [oS_at]; exact fun z => by cases z
  · rw [oS_ne e]; exact h
theorem Dn.push {rf : OM} {q : Nat → Nat} {k n b x y : Nat} (h : Dn S rf q k) (hk : k ≤ n) : Dn S (oS rf b (some y)) (nS q n x) k := fun i c hi h1 h2 => by
  rw [nS_ne (by omega)] at h2
  exact oS_some (h i c hi h1 h2)
theorem Dn.next {rf : OM} {q : Nat → Nat} {k : Nat} (h : Dn S rf q k) (h2 : ∀ b, S b = true → und (q k) b = true → ¬ rf b = none) : Dn S rf q (k + 1) := fun i c hi h3 h4 => by
  by_cases e : i = k
  · subst e; exact h2 c h3 h4
  · exact h i c (by omega) h3 h4
/-- the search has failed: the closed part grows -/
def qB (q : Nat → Nat) (n : Nat) : Nat → Bool := fun a => (List.range n).any fun i => q i == a
theorem qB_of {q : Nat → Nat} {n a : Nat} (h : qB q n a = true) : ∃ i, i < n ∧ q i = a := by
  obtain ⟨i, z1, z2⟩ := List.any_eq_true.mp h
  exact ⟨i, List.mem_range.mp z1, beq_iff_eq.mp z2⟩
theorem qB_in {q : Nat → Nat} {n i : Nat} (h : i < n) : qB q n (q i) = true := List.any_eq_true.mpr ⟨i, List.mem_range.mpr h, beq_self_eq_true _⟩
theorem Bf.fail {s n : Nat} {rf : OM} {q : Nat → Nat} {ZL ZR : Nat → Bool} (hM : Mt S nx pv) (h : Bf S nx pv s rf q n) (hd : Dn S rf q n) (hC : Cl S pv ZL ZR) :
    Cl S pv (fun a => ZL a || qB q n a) (fun b => ZR b || (rf b).isSome) ∧ qB q n s = true := by
  refine ⟨⟨fun a ha => ?_, fun a b ha hb hu => ?_, fun b hb => ?_⟩, ?_⟩
  · rcases Bool.or_eq_true_iff.mp ha with z | z
    · exact hC.1 a z
    · obtain ⟨i, hi, rfl⟩ := qB_of z
      exact h.qS hM hi
  · rcases Bool.or_eq_true_iff.mp ha with z | z
    · show (ZR b || (rf b).isSome) = true
      rw [hC.2.1 a b z hb hu]; rfl
    · obtain ⟨i, hi, rfl⟩ := qB_of z
      have z2 := hd i b hi hb hu
      cases e : rf b with
      | none => exact absurd e z2
      | some y =>
        show (ZR b || (rf b).isSome) = true
        rw [e, Option.isSome_some, Bool.or_true]
  · rcases Bool.or_eq_true_iff.mp hb with z | z
    · obtain ⟨a, a1, a2⟩ := hC.2.2 b z
      exact ⟨a, a1, by show (ZL a || qB q n a) = true; rw [a2]; rfl⟩
    · obtain ⟨y, hy⟩ := Option.isSome_iff_exists.mp z
      obtain ⟨-, -, -, j, -, j2, j3⟩ := h.2.2.1 b y hy
      exact ⟨q j, j3, by show (ZL (q j) || qB q n (q j)) = true; rw [qB_in j2, Bool.or_true]⟩
  · rw [← h.1.2.2]
    exact qB_in h.n1
/-! ### the way back -/
/-- at over, whose code below lies at i of the queue; nx0, pv0 as they were ahead of it -/
def Wb (S : Nat → Bool) (nx0 pv0 nx pv : OM) (s : Nat) (rf : OM) (q : Nat → Nat) (n : Nat) (ZR : Nat → Bool) (over i : Nat) : Prop :=
  (i < n ∧ rf over = some (q i) ∧ S over = true ∧ S (q i) = true ∧ und (q i) over = true) ∧
  (∀ a c, nx a = some c → pv c = some a ∧ S a = true ∧ S c = true ∧ und a c = true) ∧
  (∀ a c, pv c = some a → ¬ c = over → nx a = some c) ∧ (∀ a, ¬ nx a = some over) ∧
  (∀ j, j ≤ i → nx (q j) = nx0 (q j)) ∧ (∀ a, (nx a).isSome = (nx0 a).isSome) ∧ (ZR over = false ∧ ∀ c, ZR c = true → pv c = pv0 c) ∧
  (∀ j, 0 < j → j < n → ∃ b i, i < j ∧ pv0 b = some (q j) ∧ rf b = some (q i) ∧ S b = true ∧ S (q i) = true ∧ und (q i) b = true) ∧
  (∀ i j, i < n → j < n → q i = q j → i = j) ∧ q 0 = s ∧ nx0 s = none
theorem Bf.found {s n b k : Nat} {rf : OM} {q : Nat → Nat} {ZL ZR : Nat → Bool} (hM : Mt S nx pv) (h : Bf S nx pv s rf q n) (hk : k < n) (hb : S b = true) (hu : und (q k) b = true) (hr : rf b = none) (hx : pv b = none) (hC : Cl S pv ZL ZR) :
    Wb S nx pv nx pv s (oS rf b (some (q k))) q n ZR b k := by
  refine ⟨⟨hk, oS_at, hb, h.qS hM hk, hu⟩, hM.1, fun a c z _ => hM.2 a c z, fun a z => ?_, fun j _ => rfl, fun _ => rfl, ⟨?_, fun _ _ => rfl⟩, fun j j1 j2 => ?_, h.2.2.2.2, h.1.2.2, h.1.2.1⟩
  · have := (hM.1 _ _ z).1
    rw [hx] at this
    cases this
  · cases e : ZR b with
    | false => rfl
    | true =>
      obtain ⟨a, a1, -⟩ := hC.2.2 b e
      rw [hx] at a1
      cases a1
  · obtain ⟨c, i, c1, c2, c3⟩ := h.2.2.2.1 j j1 j2
    obtain ⟨y1, y2, y3, -⟩ := h.2.2.1 c _ c3
    exact ⟨c, i, c1, c2, by rw [oS_ne (fun z => by rw [z, hr] at c3; cases c3)]; exact c3, y1, y2, y3⟩
/-- the last step: the matching has one pair more -/
theorem Wb.last {nx0 pv0 rf : OM} {s n over : Nat} {q : Nat → Nat} {ZL ZR : Nat → Bool} (h : Wb S nx0 pv0 nx pv s rf q n ZR over 0) (hC : Cl S pv0 ZL ZR) :
    nx (q 0) = none ∧ Mt S (oS nx (q 0) (some over)) (oS pv over (some (q 0))) ∧ Cl S (oS pv over (some (q 0))) ZL ZR ∧ (∀ a, (oS nx (q 0) (some over) a).isSome = ((nx0 a).isSome || a == s)) := by
  obtain ⟨⟨g1, g2, g3, g4, g5⟩, h1, h2, h3, h4, h5, ⟨h6, h7⟩, h8, h9, h10, h11⟩ := h
  have e0 : nx (q 0) = none := by rw [h4 0 (Nat.le_refl _), h10, h11]
  refine ⟨e0, ⟨fun a c z => ?_, fun a c z => ?_⟩, ⟨hC.1, hC.2.1, fun b hb => ?_⟩, fun a => ?_⟩
  · by_cases e : a = q 0
    · subst e
      rw [oS_at] at z
      cases z
      exact ⟨oS_at, g4, g3, g5⟩
    · rw [oS_ne e] at z
      obtain ⟨y1, y2⟩ := h1 a c z
      rw [oS_ne (fun w => h3 a (by rw [z, w]))]
      exact ⟨y1, y2⟩
  · by_cases e : c = over
    · subst e
      rw [oS_at] at z
      cases z
      exact oS_at
    · rw [oS_ne e] at z
      have y := h2 a c z e
      rw [oS_ne (fun w => by rw [w, e0] at y; cases y)]
      exact y
  · obtain ⟨a, a1, a2⟩ := hC.2.2 b hb
    exact ⟨a, by rw [oS_ne (fun w => by rw [w, h6] at hb; cases hb), h7 b hb]; exact a1, a2⟩
  · by_cases e : a = q 0
    · subst e
      rw [oS_at, ← h10, beq_self_eq_true, Bool.or_true]
      rfl
    · rw [oS_ne e, h5 a, beq_eq_false_iff_ne.mpr (by rw [← h10]; exact e), Bool.or_false]
/-- a step that isn't the last one -/
theorem Wb.step {nx0 pv0 rf : OM} {s n over i : Nat} {q : Nat → Nat} {ZL ZR : Nat → Bool} (hM : Mt S nx0 pv0) (h : Wb S nx0 pv0 nx pv s rf q n ZR over i) (hC : Cl S pv0 ZL ZR) (hi : 0 < i) :
    ∃ c i', i' < i ∧ nx (q i) = some c ∧ ¬ q i = s ∧ Wb S nx0 pv0 (oS nx (q i) (some over)) (oS pv over (some (q i))) s rf q n ZR c i' := by
  obtain ⟨⟨g1, g2, g3, g4, g5⟩, h1, h2, h3, h4, h5, ⟨h6, h7⟩, h8, h9, h10, h11⟩ := h
  obtain ⟨c, i', c1, c2, c3, c4, c5, c6⟩ := h8 i hi g1
  have e0 : nx (q i) = some c := by rw [h4 i (Nat.le_refl _)]; exact hM.2 _ _ c2
  have ec := (h1 _ _ e0).1
  have hco : ¬ c = over := fun w => h3 (q i) (by rw [e0, w])
  have hqs : ¬ q i = s := fun w => by
    have := h9 i 0 g1 (by omega) (by rw [w, h10])
    omega
  refine ⟨c, i', c1, e0, hqs, ⟨by omega, c3, c4, c5, c6⟩, fun a d z => ?_, fun a d z hd => ?_, fun a z => ?_, fun j hj => ?_, fun a => ?_, ⟨?_, fun d hd => ?_⟩, h8, h9, h10, h11⟩
  · by_cases e : a = q i
    · subst e
      rw [oS_at] at z
      cases z
      exact ⟨oS_at, g4, g3, g5⟩
    · rw [oS_ne e] at z
      obtain ⟨y1, y2⟩ := h1 a d z
      rw [oS_ne (fun w => h3 a (by rw [z, w]))]
      exact ⟨y1, y2⟩
  · by_cases e : d = over
    · subst e
      rw [oS_at] at z
      cases z
      exact oS_at
    · rw [oS_ne e] at z
      have y := h2 a d z e
      rw [oS_ne (fun w => by rw [w, e0] at y; cases y; exact hd rfl)]
      exact y
  · by_cases e : a = q i
    · subst e
      rw [oS_at] at z
      cases z
      exact hco rfl
    · rw [oS_ne e] at z
      have y := (h1 _ _ z).1
      rw [ec] at y
      cases y
      exact e rfl
  · rw [oS_ne (fun w => by have := h9 j i (by omega) g1 w; omega)]
    exact h4 j (by omega)
  · by_cases e : a = q i
    · subst e
      rw [oS_at, ← h5, e0]
      rfl
    · rw [oS_ne e, h5 a]
  · cases e : ZR c with
    | false => rfl
    | true =>
      obtain ⟨a, a1, a2⟩ := hC.2.2 c e
      rw [c2] at a1
      cases a1
      rw [hC.2.1 _ over a2 g3 g5] at h6
      cases h6
  · rw [oS_ne (fun w => by rw [w, h6] at hd; cases hd)]
    exact h7 d hd
/-! ### the choice -/
theorem crs_f {a b : Nat} (h : crs a b = false) : ¬ a = b ∧ und a b = false ∧ und b a = false := by
  simp only [crs, Bool.or_eq_false_iff, beq_eq_false_iff_ne] at h
  exact ⟨h.1.1, h.1.2, h.2⟩
theorem crs_rf (a : Nat) : crs a a = true := by simp [crs]
theorem crs_sy (a b : Nat) : crs a b = crs b a := by
  unfold crs
  rw [show (a == b) = (b == a) from Bool.eq_iff_iff.mpr ⟨fun h => by rw [beq_iff_eq] at h ⊢; exact h.symm, fun h => by rw [beq_iff_eq] at h ⊢; exact h.symm⟩]
  cases (b == a) <;> cases und a b <;> cases und b a <;> rfl
theorem Rc.cr {a b : Nat} (hS : Su S) (hM : Mt S nx pv) (h : Rc nx a b ∨ Rc nx b a) : crs a b = true := by
  rcases h with h | h
  · rcases h.un hS hM with rfl | ⟨z, -, -⟩
    · exact crs_rf _
    · simp [crs, z]
  · rcases h.un hS hM with rfl | ⟨z, -, -⟩
    · exact crs_rf _
    · simp [crs, z]
/-- apart from all of a row -/
def aprt (l : List Nat) (c : Nat) : Bool := l.all fun d => !crs d c
def remS (S : Nat → Bool) (l : List Nat) : Nat → Bool := fun d => S d && aprt l d
noncomputable def chs (S : Nat → Bool) : Nat → List Nat
  | 0 => []
  | c + 1 => if (chs S c).length < wdt S ∧ remS S (chs S c) c = true ∧ (chs S c).length + 1 + wdt (remS S (chs S c ++ [c])) = wdt S then chs S c ++ [c] else chs S c
def Ap (S : Nat → Bool) (l : List Nat) : Prop := (∀ i, i < l.length → S (l.getD i 0) = true) ∧ ∀ i j, i < l.length → j < l.length → crs (l.getD i 0) (l.getD j 0) = true → i = j
theorem getD_l {l : List Nat} {c i : Nat} (h : i < l.length) : (l ++ [c]).getD i 0 = l.getD i 0 := by
  rw [List.getD_eq_getElem?_getD, List.getElem?_append_left h, ← List.getD_eq_getElem?_getD]
theorem getD_r {l : List Nat} {c : Nat} : (l ++ [c]).getD l.length 0 = c := by
  rw [List.getD_eq_getElem?_getD, List.getElem?_append_right (Nat.le_refl _), Nat.sub_self]
  rfl
theorem aprt_at {l : List Nat} {c i : Nat} (h : aprt l c = true) (hi : i < l.length) : crs (l.getD i 0) c = false := by
  have z := List.all_eq_true.mp h (l.getD i 0) (by rw [List.getD_eq_getElem?_getD, List.getElem?_eq_getElem hi]; exact List.getElem_mem hi)
  simpa using z
theorem aprt_s {l : List Nat} {c d : Nat} : aprt (l ++ [c]) d = (aprt l d && !crs c d) := by
  simp [aprt]
theorem remS_s {l : List Nat} {c d : Nat} : remS S (l ++ [c]) d = (remS S l d && !crs c d) := by
  unfold remS
  rw [aprt_s, Bool.and_assoc]
theorem remS_0 {d : Nat} : remS S [] d = S d := by
  show (S d && true) = S d
  rw [Bool.and_true]
theorem Ap.snoc {l : List Nat} {c : Nat} (h : Ap S l) (hc : remS S l c = true) : Ap S (l ++ [c]) := by
  obtain ⟨h1, h2⟩ := Bool.and_eq_true_iff.mp hc
  refine ⟨fun i hi => ?_, fun i j hi hj e => ?_⟩
  · rw [List.length_append] at hi
    by_cases e : i = l.length
    · subst e; rw [getD_r]; exact h1
    · have hi2 : i < l.length := by simp at hi; omega
      rw [getD_l hi2]; exact h.1 i hi2
  · rw [List.length_append] at hi hj
    simp at hi hj
    by_cases e1 : i = l.length
    · by_cases e2 : j = l.length
      · omega
      · subst e1
        rw [getD_r, getD_l (by omega), crs_sy, aprt_at h2 (by omega)] at e
        cases e
    · by_cases e2 : j = l.length
      · subst e2
        rw [getD_r, getD_l (by omega), aprt_at h2 (by omega)] at e
        cases e
      · rw [getD_l (by omega), getD_l (by omega)] at e
        exact h.2 i j (by omega) (by omega) e
theorem chs_ap (S : Nat → Bool) : ∀ c, Ap S (chs S c)
  | 0 => ⟨fun i hi => absurd hi (Nat.not_lt_zero i), fun i j hi => absurd hi (Nat.not_lt_zero i)⟩
  | c + 1 => by
    have ih := chs_ap S c
    unfold chs
    split
    · next h => exact ih.snoc h.2.1
    · exact ih
theorem chs_len (S : Nat → Bool) : ∀ c, (chs S c).length ≤ wdt S
  | 0 => Nat.zero_le _
  | c + 1 => by
    have ih := chs_len S c
    unfold chs
    split
    · next h => rw [List.length_append]; exact h.1
    · exact ih
theorem chs_end {c : Nat} (h : (chs S c).length = wdt S) : ∀ d, chs S (c + d) = chs S c
  | 0 => rfl
  | d + 1 => by
    have ih := chs_end h d
    show chs S (c + d + 1) = chs S c
    rw [show chs S (c + d + 1) = if (chs S (c + d)).length < wdt S ∧ remS S (chs S (c + d)) (c + d) = true ∧ (chs S (c + d)).length + 1 + wdt (remS S (chs S (c + d) ++ [c + d])) = wdt S then chs S (c + d) ++ [c + d] else chs S (c + d) from rfl, ih, if_neg (by omega)]
theorem chs_y {c : Nat} (h1 : (chs S c).length < wdt S) (h2 : remS S (chs S c) c = true) (h3 : (chs S c).length + 1 + wdt (remS S (chs S c ++ [c])) = wdt S) : chs S (c + 1) = chs S c ++ [c] := if_pos ⟨h1, h2, h3⟩
theorem chs_n1 {c : Nat} (h : remS S (chs S c) c = false) : chs S (c + 1) = chs S c := if_neg (fun z => by rw [h] at z; cases z.2.1)
theorem chs_n2 {c : Nat} (h : ¬ (chs S c).length + 1 + wdt (remS S (chs S c ++ [c])) = wdt S) : chs S (c + 1) = chs S c := if_neg (fun z => h z.2.2)
theorem wdt_cg {A B : Nat → Bool} (h : ∀ c, A c = B c) : wdt A = wdt B := by rw [show A = B from funext h]
/-! ### one code of each chain -/
def Lo (S T : Nat → Bool) (nx pv : OM) (m : Nat) (lo st : Nat → Nat) : Prop := (∀ i, i < m → T (lo i) = true ∧ Rc nx (st i) (lo i) ∧ pv (st i) = none ∧ S (st i) = true) ∧ ∀ i j, i < m → j < m → st i = st j → i = j
def Cv (T : Nat → Bool) (nx : OM) (m : Nat) (lo : Nat → Nat) : Prop := ∀ d, T d = true → ∃ i, i < m ∧ Rc nx (lo i) d
theorem bot_eq {a b x : Nat} (hM : Mt S nx pv) (h1 : Rc nx a x) (h2 : Rc nx b x) (ha : pv a = none) (hb : pv b = none) : a = b := by
  rcases Rc.bwd hM h1 h2 with z | z
  · rcases z.snoc with e | ⟨y, -, e⟩
    · exact e
    · rw [(hM.1 _ _ e).1] at hb; cases hb
  · rcases z.snoc with e | ⟨y, -, e⟩
    · exact e.symm
    · rw [(hM.1 _ _ e).1] at ha; cases ha
variable {m : Nat} {lo st : Nat → Nat}
theorem Lo.dis {i j x : Nat} (hM : Mt S nx pv) (h : Lo S T nx pv m lo st) (hi : i < m) (hj : j < m) (h1 : Rc nx (lo i) x) (h2 : Rc nx (lo j) x) : i = j := by
  obtain ⟨-, a1, a2, -⟩ := h.1 i hi
  obtain ⟨-, b1, b2, -⟩ := h.1 j hj
  exact h.2 i j hi hj (bot_eq hM (a1.tr h1) (b1.tr h2) a2 b2)
theorem Lo.cnt {A : Nat → Bool} (hS : Su S) (hM : Mt S nx pv) (hT : Sub T S) (h : Lo S T nx pv m lo st) (hc : Cv T nx m lo) (hA : Sub A T) (hC : Anti A) : cntN A 81 ≤ m := by
  have z := cntN_rel (P := A) (R := fun a i => Rc nx (lo i) a) (m := m) 81 (fun _ => true) (fun i hi hp => by
    obtain ⟨j, h1, h2⟩ := hc i (hA i hp)
    exact ⟨j, h1, rfl, h2⟩) (fun i j y hi hj h1 h2 z1 z2 => by
    rcases Rc.fwd z1 z2 with z | z
    · rcases z.un hS hM with e | ⟨e, -, -⟩
      · exact e
      · rw [hC i j h1 h2] at e; cases e
    · rcases z.un hS hM with e | ⟨e, -, -⟩
      · exact e.symm
      · rw [hC j i h2 h1] at e; cases e)
  rwa [cntN_all] at z
def Hit (T : Nat → Bool) (nx : OM) (m : Nat) (lo : Nat → Nat) : Prop := ∀ A, Sub A T → Anti A → cntN A 81 = m → ∀ i, i < m → ∃ a, A a = true ∧ Rc nx (lo i) a
theorem Lo.hit (hS : Su S) (hM : Mt S nx pv) (hT : Sub T S) (h : Lo S T nx pv m lo st) (hc : Cv T nx m lo) : Hit T nx m lo := by
  intro A hA hC hm i0 hi0
  refine Classical.byContradiction fun hno => ?_
  have z := cntN_rel (P := A) (R := fun a i => Rc nx (lo i) a) (m := m) 81 (rmv (fun _ => true) i0) (fun i hi hp => by
    obtain ⟨j, h1, h2⟩ := hc i (hA i hp)
    exact ⟨j, h1, rmv_ne (fun e => hno ⟨i, hp, by rw [← e]; exact h2⟩), h2⟩) (fun i j y hi hj h1 h2 z1 z2 => by
    rcases Rc.fwd z1 z2 with z | z
    · rcases z.un hS hM with e | ⟨e, -, -⟩
      · exact e
      · rw [hC i j h1 h2] at e; cases e
    · rcases z.un hS hM with e | ⟨e, -, -⟩
      · exact e.symm
      · rw [hC j i h2 h1] at e; cases e)
  have z2 := cntN_rmv (Q := fun _ => true) (x := i0) m hi0 rfl
  rw [cntN_all] at z2
  omega
theorem Lo.room {l : List Nat} (hS : Su S) (hM : Mt S nx pv) (hl : Ap S l) (h : Lo S (remS S l) nx pv m lo st) : m + l.length ≤ cntN (fun c => S c && (pv c).isNone) 81 := by
  have z := cntN_rel (P := fun _ => true) (R := fun x t => (x < m ∧ t = st x) ∨ (m ≤ x ∧ Rc nx t (l.getD (x - m) 0) ∧ pv t = none)) (m := 81) (m + l.length) (fun c => S c && (pv c).isNone) (fun x hx _ => by
    by_cases e : x < m
    · obtain ⟨-, -, a3, a4⟩ := h.1 x e
      exact ⟨st x, hS _ a4, by rw [a4, a3]; rfl, Or.inl ⟨e, rfl⟩⟩
    · have z1 := hl.1 (x - m) (by omega)
      obtain ⟨t, t1, t2, t3⟩ := bot_ex hS hM 81 _ z1 (hS _ z1)
      exact ⟨t, hS _ t3, by rw [t3, t2]; rfl, Or.inr ⟨by omega, t1, t2⟩⟩) (fun x y t hx hy _ _ z1 z2 => by
    rcases z1 with ⟨x1, x2⟩ | ⟨x1, x2, x3⟩
    · rcases z2 with ⟨y1, y2⟩ | ⟨y1, y2, y3⟩
      · exact h.2 x y x1 y1 (by rw [← x2, y2])
      · exfalso
        obtain ⟨a1, a2, -, -⟩ := h.1 x x1
        rw [← x2] at a2
        have e1 := Rc.cr hS hM (Rc.fwd y2 a2)
        rw [aprt_at (Bool.and_eq_true_iff.mp a1).2 (by omega)] at e1
        cases e1
    · rcases z2 with ⟨y1, y2⟩ | ⟨y1, y2, y3⟩
      · exfalso
        obtain ⟨a1, a2, -, -⟩ := h.1 y y1
        rw [← y2] at a2
        have e1 := Rc.cr hS hM (Rc.fwd x2 a2)
        rw [aprt_at (Bool.and_eq_true_iff.mp a1).2 (by omega)] at e1
        cases e1
      · have := hl.2 (x - m) (y - m) (by omega) (by omega) (Rc.cr hS hM (Rc.fwd x2 y2))
        omega)
  rwa [cntN_all] at z
/-- the first one of T from o on -/
def LF (nx : OM) (T : Nat → Bool) (o r : Option Nat) : Prop := (∀ x, r = some x → T x = true ∧ ∃ y, o = some y ∧ Rc nx y x) ∧ ∀ y d, o = some y → Rc nx y d → T d = true → ∃ x, r = some x ∧ Rc nx x d
theorem LF.none : LF nx T none none := ⟨(fun _ h => nomatch h), (fun _ _ h => nomatch h)⟩
theorem LF.here {a : Nat} (h : T a = true) : LF nx T (some a) (some a) := ⟨fun x hx => by cases hx; exact ⟨h, a, rfl, Rc.rf a⟩, fun y d hy hr _ => by cases hy; exact ⟨a, rfl, hr⟩⟩
theorem LF.step {a : Nat} {r : Option Nat} (h : T a = false) (h2 : LF nx T (nx a) r) : LF nx T (some a) r := by
  refine ⟨fun x hx => ?_, fun y d hy hr hd => ?_⟩
  · obtain ⟨z1, y, z2, z3⟩ := h2.1 x hx
    exact ⟨z1, a, rfl, Rc.cons z2 z3⟩
  · cases hy
    rcases hr.inv with rfl | ⟨b, z1, z2⟩
    · rw [h] at hd; cases hd
    · exact h2.2 b d z1 z2 hd
/-- consumed codes -/
def Co (nx : OM) (m : Nat) (lo : Nat → Nat) (B : Nat → Bool) : Prop := ∀ d, B d = true → ∀ i, i < m → ¬ Rc nx (lo i) d
def bS (B : Nat → Bool) (a : Nat) : Nat → Bool := fun d => d == a || B d
theorem cntN_bS {B : Nat → Bool} {a : Nat} (ha : a < 81) (h : B a = false) : cntN (bS B a) 81 = cntN B 81 + 1 := by
  have z := cntN_rmv (Q := bS B a) (x := a) 81 ha (by simp [bS])
  rw [← z, cntN_cg (Q := B) 81 (fun i _ => by
    by_cases e : i = a
    · subst e; rw [rmv_at, h]
    · rw [rmv_ne e]; simp [bS, e])]
/-- a move -/
theorem mv_none {i j : Nat} {r : Option Nat} (hS : Su S) (hM : Mt S nx pv) (hT : Sub T S) (h : Lo S T nx pv m lo st) (hH : Hit T nx m lo) (hi : i < m) (hj : j < m) (hu : und (lo i) (lo j) = true) (hr : LF nx T (nx (lo i)) r) (hn : r = none) : ¬ ∃ A, Sub A T ∧ Anti A ∧ cntN A 81 = m := by
  rintro ⟨A, a1, a2, a3⟩
  obtain ⟨a, b1, b2⟩ := hH A a1 a2 a3 i hi
  obtain ⟨c, c1, c2⟩ := hH A a1 a2 a3 j hj
  have t1 := hS _ (hT _ (h.1 i hi).1)
  have t2 := hS _ (hT _ (h.1 j hj).1)
  rcases b2.inv with e | ⟨y, y1, y2⟩
  · rcases c2.un hS hM with e2 | ⟨e2, -, e3⟩
    · rw [e, e2, a2 a c b1 c1] at hu; cases hu
    · have := und_trans t1 t2 (hS _ e3) hu e2
      rw [e, a2 a c b1 c1] at this; cases this
  · obtain ⟨x, x1, -⟩ := hr.2 y a y1 y2 (a1 a b1)
    rw [hn] at x1; cases x1
theorem mv_some {i j x : Nat} {B : Nat → Bool} {r : Option Nat} (hS : Su S) (hM : Mt S nx pv) (hT : Sub T S) (h : Lo S T nx pv m lo st) (hH : Hit T nx m lo) (hB : Co nx m lo B) (hi : i < m) (hj : j < m) (hu : und (lo i) (lo j) = true) (hr : LF nx T (nx (lo i)) r) (hx : r = some x) :
    Lo S T nx pv m (nS lo i x) st ∧ Hit T nx m (nS lo i x) ∧ Co nx m (nS lo i x) (bS B (lo i)) ∧ cntN (bS B (lo i)) 81 = cntN B 81 + 1 := by
  obtain ⟨x1, y, y1, y2⟩ := hr.1 x hx
  have t1 := h.1 i hi
  have t0 := hS _ (hT _ t1.1)
  have rcx : Rc nx (lo i) x := Rc.cons y1 y2
  refine ⟨⟨fun k hk => ?_, h.2⟩, fun A a1 a2 a3 k hk => ?_, fun d hd k hk hrc => ?_, cntN_bS t0 ?_⟩
  · by_cases e : k = i
    · subst e; rw [nS_at]; exact ⟨x1, t1.2.1.tr rcx, t1.2.2⟩
    · rw [nS_ne e]; exact h.1 k hk
  · by_cases e : k = i
    · subst e
      rw [nS_at]
      obtain ⟨a, b1, b2⟩ := hH A a1 a2 a3 k hk
      refine ⟨a, b1, ?_⟩
      rcases b2.inv with e | ⟨y', w1, w2⟩
      · exfalso
        obtain ⟨c, c1, c2⟩ := hH A a1 a2 a3 j hj
        rcases c2.un hS hM with e2 | ⟨e2, -, e3⟩
        · rw [e, e2, a2 a c b1 c1] at hu; cases hu
        · have := und_trans t0 (hS _ (hT _ (h.1 j hj).1)) (hS _ e3) hu e2
          rw [e, a2 a c b1 c1] at this; cases this
      · obtain ⟨x', x2, x3⟩ := hr.2 y' a w1 w2 (a1 a b1)
        rw [hx] at x2; cases x2; exact x3
    · rw [nS_ne e]; exact hH A a1 a2 a3 k hk
  · by_cases e : k = i
    · subst e
      rw [nS_at] at hrc
      by_cases e2 : d = lo k
      · subst e2
        have l1 := hrc.le hS hM
        obtain ⟨-, s1, s2, s3⟩ := hM.1 _ _ y1
        have l2 := und_lt t0 (hS _ s2) s3
        have l3 := y2.le hS hM
        omega
      · have : B d = true := by simpa [bS, e2] using hd
        exact hB d this k hk (rcx.tr hrc)
    · rw [nS_ne e] at hrc
      by_cases e2 : d = lo i
      · subst e2; exact e (h.dis hM hk hi hrc (Rc.rf _))
      · have : B d = true := by simpa [bS, e2] using hd
        exact hB d this k hk hrc
  · cases e : B (lo i) with
    | false => rfl
    | true => exact absurd (Rc.rf _) (hB _ e i hi)
/-- at the end no one lies under another one -/
theorem Lo.anti (hM : Mt S nx pv) (h : Lo S T nx pv m lo st) (hT : Sub T S) (hS : Su S) (hu : ∀ i j, i < m → j < m → und (lo i) (lo j) = false) : ∃ A, Sub A T ∧ Anti A ∧ m ≤ cntN A 81 := by
  refine ⟨qB lo m, fun a ha => ?_, fun a b ha hb => ?_, ?_⟩
  · obtain ⟨i, hi, rfl⟩ := qB_of ha
    exact (h.1 i hi).1
  · obtain ⟨i, hi, rfl⟩ := qB_of ha
    obtain ⟨j, hj, rfl⟩ := qB_of hb
    exact hu i j hi hj
  · have z := cntN_rel (P := fun _ => true) (R := fun i y => y = lo i) (m := 81) m (qB lo m) (fun i hi _ => ⟨lo i, hS _ (hT _ (h.1 i hi).1), qB_in hi, rfl⟩) (fun i j y hi hj _ _ z1 z2 => h.dis hM hi hj (by rw [← z1, z2]; exact Rc.rf _) (Rc.rf (lo j)))
    rwa [cntN_all] at z
theorem wdt_ge {A : Nat → Bool} (h1 : Sub A S) (h2 : Anti A) : cntN A 81 ≤ wdt S := (wdt_is S).2 A h1 h2
theorem Lo.wd (hS : Su S) (hM : Mt S nx pv) (hT : Sub T S) (h : Lo S T nx pv m lo st) (hc : Cv T nx m lo) : wdt T ≤ m := by
  obtain ⟨⟨A, a1, a2, a3⟩, -⟩ := wdt_is T
  rw [← a3]
  exact h.cnt hS hM hT hc a1 a2
theorem wdt_has {k : Nat} (h : wdt T = k) : ∃ A, Sub A T ∧ Anti A ∧ cntN A 81 = k := by
  obtain ⟨⟨A, a1, a2, a3⟩, -⟩ := wdt_is T
  exact ⟨A, a1, a2, by rw [a3, h]⟩
end A27

section A34
/-! ### the reference's chains -/
theorem ovL_s (c : Nat) : ovL (c + 1) = ovL c ++ upL c := by
  unfold ovL
  rw [List.range_succ, List.flatMap_append]
  simp
theorem ovS_s (c : Nat) : ovS (c + 1) = ovS c + (upL c).length := by
  unfold ovS
  rw [ovL_s, List.length_append]
theorem ovL_pre (m : Nat) : ∀ d, ∃ r, ovL (m + d) = ovL m ++ r
  | 0 => ⟨[], (List.append_nil _).symm⟩
  | d + 1 => by
    obtain ⟨r, h⟩ := ovL_pre m d
    exact ⟨r ++ upL (m + d), by rw [← Nat.add_assoc, ovL_s, h, List.append_assoc]⟩
theorem ovS_81 : ovS 81 = 1215 := by decide +kernel
theorem ovS_mono {a b : Nat} (h : a ≤ b) : ovS a ≤ ovS b := by
  obtain ⟨r, e⟩ := ovL_pre a (b - a)
  rw [show a + (b - a) = b by omega] at e
  unfold ovS
  rw [e, List.length_append]
  omega
theorem ovS_le {c : Nat} (h : c ≤ 81) : ovS c ≤ 1215 := by rw [← ovS_81]; exact ovS_mono h
theorem ovC_at {c j : Nat} (hc : c < 81) (hj : j < (upL c).length) : ovC (ovS c + j) = (upL c).getD j 0 := by
  obtain ⟨r, e⟩ := ovL_pre (c + 1) (80 - c)
  rw [show c + 1 + (80 - c) = 81 by omega, ovL_s c, List.append_assoc] at e
  unfold ovC ovS
  rw [e, List.getD_eq_getElem?_getD, List.getElem?_append_right (by omega), Nat.add_sub_cancel_left, List.getElem?_append_left hj, ← List.getD_eq_getElem?_getD]
theorem ovC_in {c e : Nat} (hc : c < 81) (h1 : ovS c ≤ e) (h2 : e < ovS (c + 1)) : ovC e < 81 ∧ und c (ovC e) = true := by
  rw [ovS_s] at h2
  obtain ⟨j, rfl⟩ : ∃ j, e = ovS c + j := ⟨e - ovS c, by omega⟩
  have hj : j < (upL c).length := by omega
  rw [ovC_at hc hj]
  have hm : (upL c).getD j 0 ∈ upL c := by
    rw [List.getD_eq_getElem?_getD, List.getElem?_eq_getElem hj]
    exact List.getElem_mem hj
  have z := List.mem_filter.mp hm
  exact ⟨List.mem_range.mp z.1, z.2⟩
theorem ovC_all {c b : Nat} (hc : c < 81) (hb : b < 81) (hu : und c b = true) : ∃ e, ovS c ≤ e ∧ e < ovS (c + 1) ∧ ovC e = b := by
  have hm : b ∈ upL c := List.mem_filter.mpr ⟨List.mem_range.mpr hb, hu⟩
  obtain ⟨j, hj, e⟩ := List.mem_iff_getElem.mp hm
  refine ⟨ovS c + j, by omega, by rw [ovS_s]; omega, ?_⟩
  rw [ovC_at hc hj, List.getD_eq_getElem?_getD, List.getElem?_eq_getElem hj]
  exact e
variable {S T : Nat → Bool} {nx pv : OM}
def De (S : Nat → Bool) (rf : OM) (a e : Nat) : Prop := ∀ x, ovS a ≤ x → x < e → S (ovC x) = true → ¬ rf (ovC x) = none
theorem De.s {rf : OM} {a e : Nat} (h : De S rf a e) (h2 : S (ovC e) = true → ¬ rf (ovC e) = none) : De S rf a (e + 1) := fun x h1 h3 h4 => by
  by_cases z : x = e
  · subst z; exact h2 h4
  · exact h x h1 (by omega) h4
theorem De.push {rf : OM} {a e b y : Nat} (h : De S rf a e) : De S (oS rf b (some y)) a e := fun x h1 h2 h3 => oS_some (h x h1 h2 h3)
theorem De.all {rf : OM} {a e : Nat} (hS : Su S) (ha : a < 81) (he : ovS (a + 1) ≤ e) (h : De S rf a e) : ∀ b, S b = true → und a b = true → ¬ rf b = none := fun b h1 h2 => by
  obtain ⟨x, x1, x2, x3⟩ := ovC_all ha (hS b h1) h2
  rw [← x3]
  exact h x x1 (by omega) (by rw [x3]; exact h1)
def uN (S : Nat → Bool) (nx : OM) (c : Nat) : Nat := cntN (fun a => S a && (nx a).isNone) c
theorem uN_s {c : Nat} : uN S nx (c + 1) = uN S nx c + (if (S c && (nx c).isNone) = true then 1 else 0) := rfl
theorem iso_n {x y : Option Nat} (h : x.isSome = y.isSome) : x.isNone = y.isNone := by cases x <;> cases y <;> first | rfl | cases h
theorem uN_cg {nx' : OM} {c : Nat} (h : ∀ a, ¬ a = c → (nx' a).isSome = (nx a).isSome) : uN S nx' c = uN S nx c := cntN_cg c (fun a ha => by rw [iso_n (h a (by omega))])
theorem Fc_uw {ZL ZR : Nat → Bool} (hS : Su S) (h : Fc S 81 nx pv ZL ZR) : wdt S = uN S nx 81 := wdt_eq (konig hS h.1 h.2.1 (fun a h1 h2 => h.2.2.1 a (hS a h1) h1 h2))
theorem uN_le (c : Nat) : uN S nx c ≤ c := cntN_le _ c
theorem allN_iff {P : Nat → Bool} : ∀ n, allN P n = true ↔ ∀ k, k < n → P k = true
  | 0 => ⟨fun _ k h => absurd h (Nat.not_lt_zero k), fun _ => rfl⟩
  | n + 1 => by
    show (allN P n && P n) = true ↔ _
    rw [Bool.and_eq_true, allN_iff n]
    refine ⟨fun h k hk => ?_, fun h => ⟨fun k hk => h k (by omega), h n (by omega)⟩⟩
    by_cases e : k = n
    · subst e; exact h.2
    · exact h.1 k (by omega)
def apP (l : List Nat) (c k : Nat) : Bool := !crs (l.getD k 0) c
theorem aprt_all {l : List Nat} {c : Nat} : allN (apP l c) l.length = aprt l c := by
  rw [Bool.eq_iff_iff, allN_iff]
  refine ⟨fun h => List.all_eq_true.mpr fun x hx => ?_, fun h k hk => ?_⟩
  · obtain ⟨k, hk, e⟩ := List.mem_iff_getElem.mp hx
    have z := h k hk
    unfold apP at z
    rw [List.getD_eq_getElem?_getD, List.getElem?_eq_getElem hk] at z
    rw [← e]
    exact z
  · unfold apP
    rw [aprt_at h hk]
    rfl
theorem allN_s {P : Nat → Bool} {n : Nat} : allN P (n + 1) = (allN P n && P n) := rfl
/-- the reference's choice -/
def Ch7 (w : Wd) (A : St) : Prop := w.1 204 21 = nI (chs (fS A) 81).length ∧ RN (w.1 217) (fun j => (chs (fS A) 81).getD j 0) (chs (fS A) 81).length
theorem RN.cut {f : Nat → Int32} {q : Nat → Nat} {n : Nat} {x : Int32} (h : RN f q n) : RN (upd f n x) q n := fun j hj => by rw [upd_ne (by omega)]; exact h j hj
theorem chs_l81 {F : Nat → Bool} (hF : Su F) (c : Nat) {j : Nat} (hj : j < (chs F c).length) : (chs F c).getD j 0 < 81 := hF _ ((chs_ap F c).1 j hj)
end A34

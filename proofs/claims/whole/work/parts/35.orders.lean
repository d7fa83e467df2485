section A35
/-! ### what each change leaves is a state -/
theorem cutA_ok {A : St} (hA : AOK A) {c q : Nat} (hn : kN A < 12) (hc : c < 81) (hq : q < 4) : AOK (cutA A c q) := by
  unfold cutA
  refine AOK.upd (AOK.upd (AOK.upd (AOK.upd (AOK.upd (AOK.upd (AOK.upd (AOK.upd hA ?_ ?_) ?_ ?_) ?_ ?_) ?_ ?_) ?_ ?_) ?_ ?_) ?_ ?_) ?_ ?_
  · rw [okB_k0]; exact inR_is hc (by decide)
  · omega
  · rw [okB_k1]; exact inR_is hq (by decide)
  · omega
  · rw [okB_k2]; exact inR_is (by decide) (by decide)
  · omega
  · exact okB_k3 (by decide) _
  · omega
  · exact okB_k3 (by decide) _
  · omega
  · exact okB_k3 (by decide) _
  · omega
  · rw [okB_0]; exact inR_is (by omega) (by decide)
  · omega
  · exact okB_i (by omega) _
  · omega
theorem deeA_ok {A : St} (hA : AOK A) {k j : Nat} (h : cN A k + wtN j < 81) : AOK (deeA A k j) := by
  unfold deeA
  refine AOK.upd (AOK.upd hA ?_ ?_) ?_ ?_
  · rw [okB_k0]; exact inR_is h (by decide)
  · omega
  · exact okB_i (by omega) _
  · omega
theorem failA_ok {A : St} (hA : AOK A) {p : Nat} (hp : p < 6) : AOK (failA A p) := by
  unfold failA
  refine AOK.upd (AOK.upd hA ?_ ?_) ?_ ?_
  · exact okB_l2 hp (by decide) _
  · omega
  · exact okB_i (by omega) _
  · omega
theorem turA_ok {A : St} (hA : AOK A) {k p : Nat} (hk : k < 12) (hp : p < 6) : AOK (turA A k p) := by
  unfold turA tu7A
  split
  · split
    · exact tu4_ok hA hk hp
    · refine AOK.upd (AOK.upd (AOK.upd (tu4_ok hA hk hp) ?_ ?_) ?_ ?_) ?_ ?_
      · rw [okB_k0]; exact inR_is (beh_lt hA hk) (by decide)
      · omega
      · exact okB_k3 (by decide) _
      · omega
      · exact okB_i (by omega) _
      · omega
  · exact failA_ok hA hp
theorem givA_ok {A : St} (hA : AOK A) {k q : Nat} (hq : q < 4) : AOK (givA A k q) := by
  unfold givA
  exact AOK.upd hA (by rw [okB_k1]; exact inR_is hq (by decide)) (by omega)
theorem setA_ok {A : St} (hA : AOK A) {j : Nat} (hj : j < 4) {y : Int32} (hy : sbI j y = true) : AOK (setA A j y) := by
  unfold setA
  refine AOK.upd hA ?_ (by omega)
  have z := of_decide_eq_true hy
  have z1 := Int32.le_iff_toInt_le.mp z.1
  have z2 := Int32.le_iff_toInt_le.mp z.2
  have hlo : loN j < 2 ^ 31 := by unfold loN; split <;> decide
  have hhi : hiN j < 10 := by unfold hiN; split <;> (try split) <;> decide
  rw [nI_toInt hlo] at z1
  rw [nI_toInt (by omega)] at z2
  have nz : loN j = 1 → ¬ y = nI 0 := fun e e2 => by
    rw [e2, e, nI_toInt (by decide)] at z1
    omega
  rw [okB_s hj]
  match j, hj with
  | 0, _ =>
    simp only [if_true, Bool.and_eq_true, bne_iff_ne]
    exact ⟨decide_eq_true ⟨by have : (loN 0 : Int) = 1 := rfl; omega, by have : (hiN 0 : Int) = 2 := rfl; omega⟩, nz rfl⟩
  | 1, _ =>
    simp only [Nat.one_ne_zero, if_false, if_true, Bool.and_eq_true, bne_iff_ne]
    exact ⟨decide_eq_true ⟨by have : (loN 1 : Int) = 1 := rfl; omega, by have : (hiN 1 : Int) = 9 := rfl; omega⟩, nz rfl⟩
  | 2, _ => exact decide_eq_true ⟨by have : (loN 2 : Int) = 0 := rfl; omega, by have : (hiN 2 : Int) = 9 := rfl; omega⟩
  | 3, _ => exact decide_eq_true ⟨by have : (loN 3 : Int) = 0 := rfl; omega, by have : (hiN 3 : Int) = 1 := rfl; omega⟩
theorem okB_w {p j : Nat} {x : Int32} (hp : p < 6) (hj : j < 2) (hx : x = -1 ∨ inR x 81 = true) : okB (16 + 4 * p + j) x = true := by
  rw [okB_l hp hj]
  rcases hx with rfl | h
  · decide
  · rw [h, Bool.or_true]
theorem AOK.w1 {A B : St} (hA : AOK A) {p : Nat} {x y : Int32} (hp : p < 6) (hx : x = -1 ∨ inR x 81 = true) (hy : y = -1 ∨ inR y 81 = true) (hg : x = -1 → y = -1) (h0 : B (16 + 4 * p + 0) = x) (h1 : B (16 + 4 * p + 1) = y) (hB : ∀ i, ¬ i = 16 + 4 * p + 0 → ¬ i = 16 + 4 * p + 1 → okB i (B i) = okB i (A i)) (hC : ∀ q, q < 6 → ¬ q = p → ∀ j, j < 2 → B (16 + 4 * q + j) = A (16 + 4 * q + j)) : AOK B := by
  refine AOK_of (fun j hj => ?_) (fun q hq h => ?_)
  · by_cases e : j = 16 + 4 * p + 0
    · subst e; rw [h0]; exact okB_w hp (by decide) hx
    · by_cases e2 : j = 16 + 4 * p + 1
      · subst e2; rw [h1]; exact okB_w hp (by decide) hy
      · rw [hB j e e2]; exact hA.ok j hj
  · by_cases e : q = p
    · subst e
      rw [h0] at h
      rw [h1]; exact hg h
    · rw [hC q hq e 0 (by decide)] at h
      rw [hC q hq e 1 (by decide)]
      exact hA.okg q hq h
theorem war_x {A : St} (hA : AOK A) {p : Nat} (hp : p < 6) : A (16 + 4 * p + 1) = -1 ∨ inR (A (16 + 4 * p + 1)) 81 = true := by
  have z := hA.ok (16 + 4 * p + 1) (by omega)
  rw [okB_l hp (by decide)] at z
  rcases Bool.or_eq_true_iff.mp z with h | h
  · exact Or.inl (beq_iff_eq.mp h)
  · exact Or.inr h
theorem war_w {A : St} (hA : AOK A) {p : Nat} (hp : p < 6) : A (16 + 4 * p + 0) = -1 ∨ inR (A (16 + 4 * p + 0)) 81 = true := by
  have z := hA.ok (16 + 4 * p + 0) (by omega)
  rw [okB_l hp (by decide)] at z
  rcases Bool.or_eq_true_iff.mp z with h | h
  · exact Or.inl (beq_iff_eq.mp h)
  · exact Or.inr h
theorem warA_ok {A : St} (hA : AOK A) {p c : Nat} (hp : p < 6) (hc : c < 81) : AOK (warA A p (nI c)) := by
  unfold warA
  exact hA.w1 hp (Or.inr (inR_is hc (by decide))) (war_x hA hp) (fun h => absurd h (nI_m1 (by omega))) upd_at (upd_ne (by omega)) (fun i h1 _ => by rw [upd_ne h1]) (fun q hq e j hj => upd_ne (by omega))
theorem gueA_ok {A : St} (hA : AOK A) {p : Nat} {x : Int32} (hp : p < 6) (hx : x = -1 ∨ inR x 81 = true) (hw : wdA A p = true) : AOK (gueA A p x) := by
  unfold gueA
  refine hA.w1 hp (war_w hA hp) hx (fun h => ?_) (upd_ne (by omega)) upd_at (fun i _ h2 => by rw [upd_ne h2]) (fun q hq e j hj => upd_ne (by omega))
  rw [wdA_n h] at hw
  cases hw
theorem takA_ok {A : St} (hA : AOK A) {p : Nat} (hp : p < 6) : AOK (takA A p) := by
  unfold takA
  refine AOK.upd (AOK.upd ?_ (okB_l2 hp (by decide) _) (by omega)) (okB_l2 hp (by decide) _) (by omega)
  exact hA.w1 hp (Or.inl rfl) (Or.inl rfl) (fun _ => rfl) ((upd_ne (by omega)).trans upd_at) upd_at (fun i h1 h2 => by rw [upd_ne h2, upd_ne h1]) (fun q hq e j hj => (upd_ne (by omega)).trans (upd_ne (by omega)))
theorem retA_ok {A : St} (hA : AOK A) {k : Nat} (hk : k < kN A) : AOK (retA A k) := by
  have hn := hA.n12
  unfold retA
  refine AOK.upd ?_ (okB_i (by omega) _) (by omega)
  refine AOK_of (fun i hi => ?_) (fun p hp h => ?_)
  · by_cases h1 : i < 40 + 6 * k
    · rw [rtK_lo h1]
      by_cases h0 : i = 0
      · subst h0
        rw [upd_at, okB_0]
        exact inR_is (by omega) (by decide)
      · rw [upd_ne h0]
        exact hA.ok i hi
    · by_cases h2 : i < 40 + 6 * k + 6 * (kN A - 1 - k)
      · rw [rtK_in _ ⟨by omega, h2⟩]
        obtain ⟨m, j, hj, rfl⟩ : ∃ m j, j < 6 ∧ i = 40 + 6 * m + j := ⟨(i - 40) / 6, (i - 40) % 6, Nat.mod_lt _ (by decide), by omega⟩
        have z := hA.ok (40 + 6 * (m + 1) + j) (by omega)
        rw [show 40 + 6 * m + j + 6 = 40 + 6 * (m + 1) + j by omega]
        by_cases h3 : 3 ≤ j
        · exact okB_k3 ⟨h3, hj⟩ _
        · match j, (show j < 3 by omega) with
          | 0, _ => rw [okB_k0] at z ⊢; exact z
          | 1, _ => rw [okB_k1] at z ⊢; exact z
          | 2, _ => rw [okB_k2] at z ⊢; exact z
      · rw [rtK_hi _ (by omega)]
        exact hA.ok i hi
  · rw [rtK_lo (by omega), upd_ne (by omega)] at h ⊢
    exact hA.okg p hp h
/-! ### orders that are obeyed -/
def rsnA (A : St) (l f s : Nat) : Nat := if l = 99 then wncA A f else if ¬ f < kN A then 7 else if l = 100 then wndA A f s else if l = 116 then (if wdA A s = true then (if lsA A f = true then 9 else 0) else 8) else if lsA A f = (l == 108) then 9 else 0
def dosA (A : St) (l f s : Nat) : St := if l = 99 then cutA A f s else if l = 100 then deeA A f s else if l = 116 then turA A f s else losA A f (l == 108)
def okO (l f s : Nat) : Prop := (l = 99 ∧ f < 81 ∧ s < 4) ∨ (l = 100 ∧ f < 12 ∧ s < 4) ∨ (l = 116 ∧ f < 12 ∧ s < 6) ∨ (l = 108 ∧ f < 12) ∨ (l = 102 ∧ f < 12)
theorem rsn_lt {A : St} {l f s : Nat} : rsnA A l f s < 2 ^ 31 := by
  have z1 := wnc_lt A f
  have z2 := wnd_lt A f s
  unfold rsnA
  repeat' split
  all_goals first | assumption | decide
theorem dos_ok {A : St} (hA : AOK A) {l f s : Nat} (ho : okO l f s) (h : rsnA A l f s = 0) : AOK (dosA A l f s) := by
  have hn := hA.n12
  rcases ho with ⟨rfl, h1, h2⟩ | ⟨rfl, h1, h2⟩ | ⟨rfl, h1, h2⟩ | ⟨rfl, h1⟩ | ⟨rfl, h1⟩
  · have z : wncA A f = 0 := h
    exact cutA_ok hA (wnc_n hA z) h1 h2
  · by_cases hk : f < kN A
    · have z : wndA A f s = 0 := by
        have h' := h
        unfold rsnA at h'
        rw [if_neg (by decide), if_neg (fun y => y hk), if_pos rfl] at h'
        exact h'
      refine deeA_ok hA (wt81 (hA.c81 (by omega)) h2 ?_)
      have y := dep_lt (cN A f) s
      unfold wndA at z
      split at z
      · cases z
      · omega
    · unfold rsnA at h
      rw [if_neg (by decide), if_pos hk] at h
      cases h
  · exact turA_ok hA h1 h2
  · exact losA_ok hA f true
  · exact losA_ok hA f false
theorem dos_6 {A : St} {l f s : Nat} (hA : AOK A) (ho : okO l f s) : dosA A l f s 6 = A 6 := by
  have hn := hA.n12
  have ho4 : ∀ k, k < 12 → oN A k < 4 := fun k hk => hA.o4 hk
  rcases ho with ⟨rfl, h1, h2⟩ | ⟨rfl, h1, h2⟩ | ⟨rfl, h1, h2⟩ | ⟨rfl, h1⟩ | ⟨rfl, h1⟩
  · show cutA A f s 6 = A 6
    unfold cutA
    repeat rw [upd_ne (by omega)]
  · show deeA A f s 6 = A 6
    unfold deeA
    repeat rw [upd_ne (by omega)]
  · show turA A f s 6 = A 6
    unfold turA tu7A tu4A tu1A failA
    split
    · split
      · repeat rw [upd_ne (by omega)]
      · repeat rw [upd_ne (by omega)]
    · repeat rw [upd_ne (by omega)]
  · show losA A f true 6 = A 6
    unfold losA
    rw [upd_ne (by omega)]
  · show losA A f false 6 = A 6
    unfold losA
    rw [upd_ne (by omega)]
def rsO (A : St) (q : PO) : Nat := rsnA A q.2.2.1 q.2.2.2.1 q.2.2.2.2
def dsO (A : St) (q : PO) : St := dosA A q.2.2.1 q.2.2.2.1 q.2.2.2.2
def stA (A : St) (d y : Nat) : St := upd (upd A 6 (nI d)) 7 (nI y)
def runO (t : Nat → Nat) (ln : Nat) : Nat → Nat → Nat → St → Nat × St
  | 0, _, d, A => (d, A)
  | n + 1, p, d, A => if rsO A (rdO t ln p) = 0 then (if (rdO t ln p).2.1 = ln then (d + 1, dsO A (rdO t ln p)) else runO t ln n ((rdO t ln p).2.1 + 1) (d + 1) (dsO A (rdO t ln p))) else (d, stA A d (rsO A (rdO t ln p)))
variable {t : Nat → Nat} {ln p : Nat}
theorem run_s {n d : Nat} {A : St} (h : ¬ rsO A (rdO t ln p) = 0) : runO t ln (n + 1) p d A = (d, stA A d (rsO A (rdO t ln p))) := by
  unfold runO
  rw [if_neg h]
theorem run_e {n d : Nat} {A : St} (h : rsO A (rdO t ln p) = 0) (h2 : (rdO t ln p).2.1 = ln) : runO t ln (n + 1) p d A = (d + 1, dsO A (rdO t ln p)) := by
  unfold runO
  rw [if_pos h, if_pos h2]
theorem run_g {n d : Nat} {A : St} (h : rsO A (rdO t ln p) = 0) (h2 : ¬ (rdO t ln p).2.1 = ln) : runO t ln (n + 1) p d A = runO t ln n ((rdO t ln p).2.1 + 1) (d + 1) (dsO A (rdO t ln p)) := by
  rw [show runO t ln (n + 1) p d A = if rsO A (rdO t ln p) = 0 then (if (rdO t ln p).2.1 = ln then (d + 1, dsO A (rdO t ln p)) else runO t ln n ((rdO t ln p).2.1 + 1) (d + 1) (dsO A (rdO t ln p))) else (d, stA A d (rsO A (rdO t ln p))) from rfl, if_pos h, if_neg h2]
/-- the rest from p on is complete orders -/
theorem rdA_in {n : Nat} (hp : p ≤ ln) (h : (rdA t ln n p).1 = true) : ∃ m, n = m + 1 ∧ (rdO t ln p).1 = true ∧ okO (rdO t ln p).2.2.1 (rdO t ln p).2.2.2.1 (rdO t ln p).2.2.2.2 ∧ p + 2 ≤ (rdO t ln p).2.1 ∧ (rdO t ln p).2.1 ≤ ln ∧ p < ln ∧ ((rdO t ln p).2.1 = ln ∨ (¬ (rdO t ln p).2.1 = ln ∧ chB t ln 59 (rdO t ln p).2.1 = true ∧ (rdA t ln m ((rdO t ln p).2.1 + 1)).1 = true)) := by
  cases n with
  | zero => cases h
  | succ m =>
    have z := rdO_le (t := t) hp
    cases e1 : (rdO t ln p).1 with
    | false => rw [rdA_0 e1] at h; cases h
    | true =>
      obtain ⟨z1, z2, z3⟩ := z.2 e1
      refine ⟨m, rfl, rfl, z3, z1, z.1, z2, ?_⟩
      by_cases e2 : (rdO t ln p).2.1 = ln
      · exact Or.inl e2
      · cases e3 : chB t ln 59 (rdO t ln p).2.1 with
        | false => rw [rdA_2 e1 e2 e3] at h; cases h
        | true => rw [rdA_3 e1 e2 e3] at h; exact Or.inr ⟨e2, rfl, h⟩
theorem st_ok {A : St} (hA : AOK A) (d y : Nat) : AOK (stA A d y) := by
  unfold stA
  exact AOK.upd (AOK.upd hA (okB_i (by omega) _) (by omega)) (okB_i (by omega) _) (by omega)
theorem run_ok : ∀ (n p d : Nat) (A : St), AOK A → p ≤ ln → (rdA t ln n p).1 = true → AOK (runO t ln n p d A).2
  | 0, p, d, A, hA, _, _ => hA
  | n + 1, p, d, A, hA, hp, h => by
    obtain ⟨m, e, z1, z2, z3, z4, z5, z6⟩ := rdA_in hp h
    cases e
    by_cases hz : rsO A (rdO t ln p) = 0
    · have ha : AOK (dsO A (rdO t ln p)) := dos_ok hA z2 hz
      rcases z6 with z6 | ⟨z6, z7, z8⟩
      · rw [run_e hz z6]; exact ha
      · rw [run_g hz z6]
        have := isB_at z7
        exact run_ok n _ _ _ ha (by omega) z8
    · rw [run_s hz]; exact st_ok hA _ _
end A35

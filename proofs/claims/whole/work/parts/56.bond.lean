section A56
/-! ### the bond between the class and the reference, in the law's loop -/
theorem CM.mono {y : MethodName} {cc : ByteArray} {n : Nat} {ret : Option FieldType} {fr lo : Nat} {av : List Value} {M : aH} {mc ms : Nat} {P P2 : Option Value → aH → Prop} (h : CM y cc n ret fr lo av M mc ms P) (hp : ∀ r M', P r M' → P2 r M') : CM y cc n ret fr lo av M mc ms P2 := by
  intro G l p e ha hc hk s m args below hf happ hP hK
  obtain ⟨k, o, h1, h2, h3, ⟨⟨r', ho, M', q1, h4⟩, h5⟩, h6⟩ := h G l p e ha hc hk s m args below hf happ hP hK
  exact ⟨k, o, h1, h2, h3, ⟨⟨r', ho, M', hp _ _ q1, h4⟩, h5⟩, h6⟩
theorem CF.mono {y : MethodName} {cc : ByteArray} {n : Nat} {ret : Option FieldType} {fr lo : Nat} {av : List Value} {w : Wd} {P P2 : Option Value → Wd → Prop} (h : CF y cc n ret fr lo av w P) (hp : ∀ r w', P r w' → P2 r w') : CF y cc n ret fr lo av w P2 := fun ex us => (h ex us).mono (fun r M' hq => by
  obtain ⟨w', hq1, hq2⟩ := hq
  exact ⟨w', hq1, hp _ _ hq2⟩)
theorem AOK.ext {A B : St} (hA : AOK A) (hB : ∀ i, i < 112 → B i = A i) : AOK B := by
  obtain ⟨⟨a1, a2⟩, a3, a4, a5, a6, a7, a8⟩ := hA
  have z0 : kN B = kN A := by unfold kN; rw [hB 0 (by decide)]
  have zs : ∀ j, j < 4 → sN B j = sN A j := fun j hj => by unfold sN; rw [hB (8 + j) (by omega)]
  refine ⟨⟨by rw [hB 0 (by decide), z0]; exact a1, by rw [z0]; exact a2⟩, fun j hj => by rw [hB (8 + j) (by omega), zs j hj]; exact a3 j hj, by rw [zs 0 (by decide), zs 1 (by decide), zs 3 (by decide)]; exact a4, fun k hk => ?_, fun k hk => ?_, fun k hk => ?_, fun q hq => ?_⟩
  · have e : cN B k = cN A k := by unfold cN; rw [hB (40 + 6 * k + 0) (by omega)]
    rw [hB (40 + 6 * k + 0) (by omega), e]; exact a5 k hk
  · have e : oN B k = oN A k := by unfold oN; rw [hB (40 + 6 * k + 1) (by omega)]
    rw [hB (40 + 6 * k + 1) (by omega), e]; exact a6 k hk
  · have e : lsA B k = lsA A k := by unfold lsA; rw [hB (40 + 6 * k + 2) (by omega)]
    rw [hB (40 + 6 * k + 2) (by omega), e]; exact a7 k hk
  · have e1 : wdA B q = wdA A q := by unfold wdA; rw [hB (16 + 4 * q + 0) (by omega)]
    have e2 : gdA B q = gdA A q := by unfold gdA; rw [hB (16 + 4 * q + 1) (by omega)]
    have e3 : wN B q = wN A q := by unfold wN; rw [hB (16 + 4 * q + 0) (by omega)]
    have e4 : gN B q = gN A q := by unfold gN; rw [hB (16 + 4 * q + 1) (by omega)]
    rw [hB (16 + 4 * q + 0) (by omega), hB (16 + 4 * q + 1) (by omega), e1, e2, e3, e4]; exact a8 q hq
theorem DR.ext {w : Wd} {b : Nat} {A B : St} (h : DR w b A) (hA : AOK A) (hB : ∀ i, i < 112 → B i = A i) : DR w b B := by
  have hn := hA.n12
  obtain ⟨d1, d2, d3, d4, d5, d6, d7, d8, d9, d10, d11, d12⟩ := h
  have z0 : kN B = kN A := by unfold kN; rw [hB 0 (by decide)]
  refine ⟨by rw [hB 0 (by decide)]; exact d1, fun k hk => ?_, fun q hq => ?_, fun j hj => by rw [hB (12 + j) (by omega)]; exact d4 j hj, fun j hj => by rw [hB (8 + j) (by omega)]; exact d5 j hj, by rw [hB 1 (by decide)]; exact d6, by rw [hB 2 (by decide)]; exact d7, by rw [hB 3 (by decide)]; exact d8, by rw [hB 4 (by decide)]; exact d9, by rw [hB 5 (by decide)]; exact d10, by rw [hB 6 (by decide)]; exact d11, by rw [hB 7 (by decide)]; exact d12⟩
  · rw [z0] at hk
    rw [hB (40 + 6 * k + 0) (by omega), hB (40 + 6 * k + 1) (by omega), hB (40 + 6 * k + 2) (by omega), hB (40 + 6 * k + 3) (by omega), hB (40 + 6 * k + 4) (by omega), hB (40 + 6 * k + 5) (by omega)]
    exact d2 k hk
  · rw [hB (16 + 4 * q + 0) (by omega), hB (16 + 4 * q + 1) (by omega), hB (16 + 4 * q + 2) (by omega), hB (16 + 4 * q + 3) (by omega)]
    exact d3 q hq
/-- the class's things; the reference's; both of one state, one row of saved states, one snapshot, one text -/
def IC (w : Wd) (A : St) (S : Nat → St) (sv lt : Nat) (hs : Bool) (B : St) (t : Nat → Nat) (ln : Nat) (F : Nat → Bool) : Prop :=
  AOK A ∧ DR w 3 A ∧ SvC w S sv lt ∧ w.1 0 5 = bI hs ∧ (hs = true → AOK B ∧ DR w 26 B) ∧ Tx w t ln ∧ Mo w F
def IR (w : Wd) (A : St) (S : Nat → St) (sv : Nat) (hs : Bool) (B : St) (t : Nat → Nat) (ln : Nat) : Prop :=
  RR w A ∧ w.1 204 3 = nI sv ∧ (∀ q, q < sv → ∀ j, j < 112 → w.1 206 ((sv - 1 - q) * 112 + j) = S q j) ∧ w.1 204 5 = bI hs ∧ (hs = true → ∀ j, j < 112 → w.1 207 j = B j) ∧ Tm w t ln
def Inv (w : Wd) : Prop := ∃ (A : St) (S : Nat → St) (sv lt : Nat) (hs : Bool) (B : St) (t : Nat → Nat) (ln : Nat) (F : Nat → Bool), IC w A S sv lt hs B t ln F ∧ IR w A S sv hs B t ln
variable {w v w' : Wd} {A A' B : St} {S : Nat → St} {sv lt ln : Nat} {hs : Bool} {t : Nat → Nat} {F : Nat → Bool}
theorem Mo.same (h : Mo w F) (hw : ∀ a, 55 ≤ a → a ≤ 57 → v.1 a = w.1 a) : Mo v F := by
  obtain ⟨h1, h2, h3, h4, h5⟩ := h
  exact ⟨h1, fun c hc => by rw [hw 56 (by decide) (by decide)]; exact h2 c hc, by rw [hw 55 (by decide) (by decide)]; exact h3, by rw [hw 55 (by decide) (by decide)]; exact h4, by rw [hw 57 (by decide) (by decide)]; exact h5⟩
theorem Tx.same (h : Tx w t ln) (h1 : v.1 1 = w.1 1) (h2 : v.1 2 = w.1 2) : Tx v t ln := ⟨by rw [h1]; exact h.1, h.2.1, fun j hj => by rw [h2]; exact h.2.2 j hj⟩
theorem Tm.same (h : Tm w t ln) (h1 : v.1 204 7 = w.1 204 7) (h2 : v.1 208 = w.1 208) : Tm v t ln := ⟨h1.trans h.1, h.2.1, fun j hj => by rw [h2]; exact h.2.2 j hj⟩
theorem IC.same (h : IC w A S sv lt hs B t ln F) (hw : ∀ a, a < 204 → v.1 a = w.1 a) : IC v A S sv lt hs B t ln F := by
  obtain ⟨c1, c2, c3, c4, c5, c6, c7⟩ := h
  exact ⟨c1, c2.same c1 (fun a _ h2 => hw a (by omega)), c3.fr ⟨by rw [hw 0 (by decide)], by rw [hw 0 (by decide)]⟩ (fun a _ h2 => hw a h2), by rw [hw 0 (by decide)]; exact c4, fun z => ⟨(c5 z).1, (c5 z).2.same (c5 z).1 (fun a _ h2 => hw a (by omega))⟩, c6.same (hw 1 (by decide)) (hw 2 (by decide)), c7.same (fun a _ h2 => hw a (by omega))⟩
theorem IR.same (h : IR w A S sv hs B t ln) (hw : ∀ a, 205 ≤ a → a ≤ 208 → v.1 a = w.1 a) (h3 : v.1 204 3 = w.1 204 3) (h5 : v.1 204 5 = w.1 204 5) (h7 : v.1 204 7 = w.1 204 7) : IR v A S sv hs B t ln := by
  obtain ⟨c1, c2, c3, c4, c5, c6⟩ := h
  exact ⟨(hw 205 (by decide) (by decide)).trans c1, h3.trans c2, fun q hq j hj => by rw [hw 206 (by decide) (by decide)]; exact c3 q hq j hj, h5.trans c4, fun z j hj => by rw [hw 207 (by decide) (by decide)]; exact c5 z j hj, c6.same h7 (hw 208 (by decide) (by decide))⟩
theorem IR.fr (h : IR w A S sv hs B t ln) (hw : ∀ a, 204 ≤ a → v.1 a = w.1 a) : IR v A S sv hs B t ln := h.same (fun a h1 _ => hw a (by omega)) (by rw [hw 204 (by decide)]) (by rw [hw 204 (by decide)]) (by rw [hw 204 (by decide)])
theorem Inv.same (h : Inv w) (hw : ∀ a, ¬ a = 204 → v.1 a = w.1 a) (h3 : ∀ j, ¬ j = 0 → v.1 204 j = w.1 204 j) : Inv v := by
  obtain ⟨A, S, sv, lt, hs, B, t, ln, F, c, r⟩ := h
  exact ⟨A, S, sv, lt, hs, B, t, ln, F, c.same (fun a ha => hw a (by omega)), r.same (fun a h1 _ => hw a (by omega)) (h3 3 (by decide)) (h3 5 (by decide)) (h3 7 (by decide))⟩
theorem Inv.note (h : Inv w) {x : Int32} : Inv (wSet w 204 0 x) := h.same (fun a ha => wSet_th ha) (fun j hj => wSet_ne (fun z => hj z.2))
theorem Inv.long (h : Inv w) {x : Int64} : Inv (wLong w 218 x) := h.same (fun a ha => rfl) (fun j hj => rfl)
/-- a state saved -/
theorem svR_at {r : Nat → Int32} (hs6 : sv ≤ 6) (h : ∀ q, q < sv → ∀ j, j < 112 → r ((sv - 1 - q) * 112 + j) = S q j) : ∀ q, q < svN sv → ∀ j, j < 112 → svR r sv A ((svN sv - 1 - q) * 112 + j) = psh A S q j := by
  intro q hq j hj
  unfold svR
  by_cases h6 : sv = 6
  · subst h6
    rw [if_pos rfl]
    have e : svN 6 = 6 := rfl
    rw [e] at hq ⊢
    cases q with
    | zero => exact cpK_in 112 hj
    | succ q =>
      rw [cpK_out 112 (by omega), shK_lo 560 (by omega), show (6 - 1 - (q + 1)) * 112 + j + 112 = (6 - 1 - q) * 112 + j by omega]
      exact h q (by omega) j hj
  · rw [if_neg h6]
    have e : svN sv = sv + 1 := if_neg h6
    rw [e] at hq ⊢
    cases q with
    | zero =>
      rw [show (sv + 1 - 1 - 0) * 112 + j = sv * 112 + j by omega]
      exact cpK_in 112 hj
    | succ q =>
      rw [cpK_out 112 (by omega), show (sv + 1 - 1 - (q + 1)) * 112 + j = (sv - 1 - q) * 112 + j by omega]
      exact h q (by omega) j hj
/-- a change made by the class, behind a save -/
theorem IC.chg (h : IC w A S sv lt hs B t ln F) (hA : AOK A') (hD : DR v 3 A') (hS : SvC v (psh A S) (svN sv) (nxL lt)) (hF : FrS w v) : IC v A' (psh A S) (svN sv) (nxL lt) hs B t ln F := by
  obtain ⟨c1, c2, c3, c4, c5, c6, c7⟩ := h
  exact ⟨hA, hD, hS, (hF.2.1 5 (by decide) (by decide)).trans c4, fun z => ⟨(c5 z).1, (c5 z).2.same (c5 z).1 (fun a h1 h2 => hF.1 a (by omega) (by omega))⟩, c6.same (hF.1 1 (by decide) (by decide)) (hF.1 2 (by decide) (by decide)), c7.same (fun a h1 h2 => hF.1 a (by omega) (by omega))⟩
theorem ref_at {x y : Int32} {f g : Nat → Int32} {a : Nat} (h4 : ¬ a = 204) (h5 : ¬ a = 205) (h6 : ¬ a = 206) : (wRow (wRow (wSet (wSet w 204 0 x) 204 3 y) 206 f) 205 g).1 a = w.1 a := by
  rw [wRow_ne h5, wRow_ne h6, wSet_th h4, wSet_th h4]
theorem IR.chg (h : IR w A S sv hs B t ln) (hs6 : sv ≤ 6) {x : Int32} : IR (wRow (svW (wSet w 204 0 x) A sv) 205 A') A' (psh A S) (svN sv) hs B t ln := by
  obtain ⟨c1, c2, c3, c4, c5, c6⟩ := h
  refine ⟨wRow_at, rfl, ?_, ?_, fun z j hj => ?_, c6.same ?_ (ref_at (by decide) (by decide) (by decide))⟩
  · exact svR_at hs6 c3
  · exact c4
  · exact c5 z j hj
  · rfl
theorem Inv.chg (hc : IC w A S sv lt hs B t ln F) (hr : IR w A S sv hs B t ln) (hA : AOK A') (hD : DR v 3 A') (hS : SvC v (psh A S) (svN sv) (nxL lt)) (hF : FrS w v) {x : Int32} {y : Int64} : Inv (wRow (svW (wSet (wLong v 218 y) 204 0 x) A sv) 205 A') := by
  have hs6 := hc.2.2.1.1.2
  refine ⟨A', psh A S, svN sv, nxL lt, hs, B, t, ln, F, (hc.chg hA hD hS hF).same (fun a ha => ?_), IR.chg (w := wLong v 218 y) (IR.fr hr (fun a ha => hF.1 a (by omega) (by omega))) hs6⟩
  exact ref_at (w := wLong v 218 y) (by omega) (by omega) (by omega)
/-! ### one step: the law's helper, then the reference's method -/
def Rm (f1 l1 f2 l2 : Nat) : Prop := f1 ≤ 11 ∧ l1 ≤ 400 ∧ f2 ≤ 11 ∧ l2 ≤ 400
def SH (yL : MethodName) (cL : ByteArray) (nL : Nat) (hL : List (Nat × Nat × Nat × Nat)) (aL : List Value) (yR : MethodName) (cR : ByteArray) (nR : Nat) (aR : List Value) (w : Wd) : Prop :=
  ∃ (d : Nat) (o : Int32) (Q : Int32 → Wd → Prop) (f1 l1 f2 l2 : Nat), d ≤ 1 ∧ Rm f1 l1 f2 l2 ∧ CH yL cL nL hL f1 l1 aL w d Q ∧ ∀ (x : Int32) (w1 : Wd), Q x w1 → x = o ∧ CF yR cR nR (some .int) f2 l2 aR w1 (fun r w2 => ∃ b : Int32, r = some (.int b) ∧ w2.1 204 0 = o ∧ (o = 0 → w2.2 218 = b.toInt64) ∧ Inv w2)
def SV (ret : FieldType) (yC : MethodName) (cC : ByteArray) (nC : Nat) (yR : MethodName) (cR : ByteArray) (nR : Nat) (w : Wd) (x : Value) : Prop :=
  ∃ (f1 l1 f2 l2 : Nat), Rm f1 l1 f2 l2 ∧ CF yC cC nC (some ret) f1 l1 [.ref 0] w (fun r w1 => r = some x ∧ CF yR cR nR (some ret) f2 l2 [.ref 204] w1 (fun r2 w2 => r2 = some x ∧ Inv w2))
section
variable {yL yR : MethodName} {cL cR : ByteArray} {nL nR : Nat} {hL : List (Nat × Nat × Nat × Nat)} {aL aR : List Value} {f1 l1 f2 l2 : Nat}
theorem SH.thr (I : Inv w) {o : Int32} {k : Nat} (ho : nI k = o) (h0 : ¬ o = 0) (hT : CH yL cL nL hL f1 l1 aL w 1 (fun o' w' => o' = o ∧ w' = w)) (hR : CF yR cR nR (some .int) f2 l2 aR w (FA w (.int (nI 0)) k)) (hm : Rm f1 l1 f2 l2) : SH yL cL nL hL aL yR cR nR aR w := by
  refine ⟨1, o, _, f1, l1, f2, l2, Nat.le_refl 1, hm, hT, fun x w1 h => ?_⟩
  obtain ⟨rfl, rfl⟩ := h
  refine ⟨rfl, hR.mono (fun r w2 h2 => ?_)⟩
  obtain ⟨rfl, rfl⟩ := h2
  exact ⟨_, rfl, wSet_at.trans ho, fun z => absurd z h0, I.note⟩
theorem SH.ans (I : Inv w) {x0 : Int32} (hH : CH yL cL nL hL f1 l1 aL w 0 (fun o w' => o = 0 ∧ ∃ v w9, (v = x0 ∧ w9 = w) ∧ w' = wLong w9 218 v.toInt64)) (hR : CF yR cR nR (some .int) f2 l2 aR (wLong w 218 x0.toInt64) (FA (wLong w 218 x0.toInt64) (.int x0) 0)) (hm : Rm f1 l1 f2 l2) : SH yL cL nL hL aL yR cR nR aR w := by
  refine ⟨0, 0, _, f1, l1, f2, l2, Nat.zero_le 1, hm, hH, fun x w1 h => ?_⟩
  obtain ⟨rfl, v, w9, ⟨rfl, rfl⟩, rfl⟩ := h
  refine ⟨rfl, hR.mono (fun r w2 h2 => ?_)⟩
  obtain ⟨rfl, rfl⟩ := h2
  exact ⟨_, rfl, wSet_at, fun _ => rfl, I.long.note⟩
theorem SH.chg (hc : IC w A S sv lt hs B t ln F) (hr : IR w A S sv hs B t ln) {x0 : Int32} (hA : AOK A') (hH : CH yL cL nL hL f1 l1 aL w 0 (fun o w' => o = 0 ∧ ∃ v w9, (v = x0 ∧ DR w9 3 A' ∧ SvC w9 (psh A S) (svN sv) (nxL lt) ∧ FrS w w9) ∧ w' = wLong w9 218 v.toInt64)) (hR : ∀ w1 : Wd, RR w1 A → w1.1 204 3 = nI sv → CF yR cR nR (some .int) f2 l2 aR w1 (fun r w' => r = some (.int x0) ∧ w' = wRow (svW (wSet w1 204 0 (nI 0)) A sv) 205 A')) (hm : Rm f1 l1 f2 l2) : SH yL cL nL hL aL yR cR nR aR w := by
  refine ⟨0, 0, _, f1, l1, f2, l2, Nat.zero_le 1, hm, hH, fun x w1 h => ?_⟩
  obtain ⟨rfl, v, w9, ⟨rfl, q1, q2, q3⟩, rfl⟩ := h
  have i2 : IR (wLong w9 218 v.toInt64) A S sv hs B t ln := IR.fr hr (fun a ha => q3.1 a (by omega) (by omega))
  refine ⟨rfl, (hR _ i2.1 i2.2.1).mono (fun r w2 h2 => ?_)⟩
  obtain ⟨rfl, rfl⟩ := h2
  exact ⟨_, rfl, rfl, fun _ => rfl, Inv.chg hc hr hA q1 q2 q3⟩
end
end A56

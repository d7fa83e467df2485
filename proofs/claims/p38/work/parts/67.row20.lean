section A67
/-! ### one thing more while isChosen() runs: its row of 20, which lies behind all that was thrown before -/
def gC (G : aG) (off : Nat) : aG := (G.1, G.2.1, G.2.2.1, fun j => if j = 999 then off else G.2.2.2 j)
theorem gC_ctx {G : aG} {off : Nat} {p : Program} {s : State} {m : MethodId} {args : Array Value} {meth : Method} {c : Code} {cc : ByteArray} {n : Nat} {own : String} (C : aCtx G p s m args meth c cc n own) : aCtx (gC G off) p s m args meth c cc n own := C
theorem aX_gC {G : aG} {off a : Nat} (h : a < 207) : aX (gC G off) a = aX G a := by
  rw [aX_lo h, aX_lo h]
  rfl
theorem aAd_gC {G : aG} {off a : Nat} (h : a < 207) : aAd (gC G off) a = aAd G a := by
  rw [aAd_lt (by omega), aAd_lt (by omega), aX_gC h]
/-- a value that is no reference to a thing from 207 on -/
def okV (v : Value) : Prop := ∀ a, v = .ref a → a < 207
theorem okV_i (x : Int32) : okV (.int x) := fun _ h => by cases h
theorem okV_n : okV .null := fun _ h => by cases h
theorem okV_r {a : Nat} (h : a < 207) : okV (.ref a) := fun b e => by cases e; exact h
theorem aV_gC {G : aG} {off : Nat} {v : Value} (h : okV v) : aV (gC G off) v = aV G v := by
  cases v with
  | ref a => show Value.ref (aAd (gC G off) a) = .ref (aAd G a); rw [aAd_gC (h a rfl)]
  | _ => rfl
theorem map_gC {G : aG} {off : Nat} {st : List Value} (h : ∀ v ∈ st, okV v) : st.map (aV (gC G off)) = st.map (aV G) := List.map_congr_left fun v hv => aV_gC (h v hv)
def okL (L : aL) : Prop := ∀ (i : Nat) (v : Value), L[i]? = some (some v) → okV v
theorem aAl_gC {G : aG} {off : Nat} {L : aL} (h : okL L) {ls : Array Slot} {n : Nat} : lv_has ls n (aAl (gC G off) L) ↔ lv_has ls n (aAl G L) := by
  constructor
  · intro h1
    refine lv_mono h1 fun q hq => ?_
    obtain ⟨w, hw, hv⟩ := aAl_of hq
    have z := aAl_in (G := gC G off) hw
    rw [aV_gC (h _ _ hw), ← hv] at z
    exact z
  · intro h1
    refine lv_mono h1 fun q hq => ?_
    obtain ⟨w, hw, hv⟩ := aAl_of hq
    have z := aAl_in (G := G) hw
    rw [← aV_gC (off := off) (h _ _ hw), ← hv] at z
    exact z
/-- contents of which the addresses stay the same -/
def okC (x : aC) : Prop := ∃ y, aSm x y ∧ aSm y x ∧ ∀ (G : aG) (off : Nat), aE (gC G off) y = aE G y
theorem okC_i {k n : Nat} {f : Nat → Int32} : okC (.inl (k, (n, .inl f))) := ⟨_, aSm.rfl', aSm.rfl', fun _ _ => rfl⟩
theorem okC_l {k n : Nat} {f : Nat → Int64} : okC (.inl (k, (n, .inr (.inl f)))) := ⟨_, aSm.rfl', aSm.rfl', fun _ _ => rfl⟩
theorem okC_o {k : Nat} {vs : List Value} (h : ∀ v ∈ vs, okV v) : okC (.inr (k, vs)) := ⟨_, aSm.rfl', aSm.rfl', fun G off => by
  show (Sum.inr (k, vs.map (aV (gC G off))) : va_E) = .inr (k, vs.map (aV G))
  rw [map_gC h]⟩
theorem okC_r {k n : Nat} {f : Nat → Nat} (h : ∀ j, j < n → f j < 207) : okC (.inl (k, (n, .inr (.inr (.inr (.inr (fun j => some (f j)))))))) := by
  refine ⟨.inl (k, (n, .inr (.inr (.inr (.inr (fun j => if j < n then some (f j) else none)))))), aSm.r (fun j hj => (if_pos hj).symm), aSm.r (fun j hj => if_pos hj), fun G off => ?_⟩
  have ef : (fun j => (if j < n then some (f j) else none).map (aAd (gC G off))) = (fun j => (if j < n then some (f j) else none).map (aAd G)) := by
    funext j
    by_cases hj : j < n
    · rw [if_pos hj]
      show some (aAd (gC G off) (f j)) = some (aAd G (f j))
      rw [aAd_gC (h j hj)]
    · rw [if_neg hj]
      simp only [Option.map_none]
  exact congrArg (fun F : Nat → Option Nat => (Sum.inl (G.2.2.1 k, (n, Sum.inr (Sum.inr (Sum.inr (Sum.inr F))))) : va_E)) ef
theorem okC_S {b r : Nat} {row : Nat → Int32} (hb : b + 23 ≤ 204) : okC (fzS b r row) := by
  unfold fzS
  by_cases h0 : r = 0
  · rw [if_pos h0]
    refine okC_o (fun v hv => ?_)
    simp only [List.mem_cons, List.mem_nil_iff, or_false] at hv
    rcases hv with rfl | rfl | rfl | rfl | rfl | rfl | rfl | rfl | rfl | rfl | rfl | rfl <;> first | exact okV_i _ | exact okV_r (by omega)
  rw [if_neg h0]
  by_cases h1 : r = 1
  · rw [if_pos h1]; exact okC_r (fun j hj => by omega)
  rw [if_neg h1]
  by_cases h2 : r = 2
  · rw [if_pos h2]; exact okC_r (fun j hj => by omega)
  rw [if_neg h2]
  by_cases h3 : r = 3
  · rw [if_pos h3]; exact okC_i
  rw [if_neg h3]
  by_cases h4 : r = 4
  · rw [if_pos h4]; exact okC_i
  rw [if_neg h4]
  by_cases h5 : r < 17
  · rw [if_pos h5]
    refine okC_o (fun v hv => ?_)
    simp only [List.mem_cons, List.mem_nil_iff, or_false] at hv
    rcases hv with rfl | rfl | rfl | rfl | rfl | rfl <;> exact okV_i _
  rw [if_neg h5]
  refine okC_o (fun v hv => ?_)
  simp only [List.mem_cons, List.mem_nil_iff, or_false] at hv
  rcases hv with rfl | rfl | rfl | rfl <;> exact okV_i _
theorem okC_fz (w : Wd) {a : Nat} (ha : a < 207) : okC (fz w a) := by
  unfold fz fzc
  have it : ∀ {P : Prop} [Decidable P] {x y : aC}, (P → okC x) → (¬ P → okC y) → okC (if P then x else y) := fun {P} _ {x y} h1 h2 => by
    by_cases h : P
    · rw [if_pos h]; exact h1 h
    · rw [if_neg h]; exact h2 h
  have ov : ∀ {k : Nat} {vs : List Value}, (vs.all (fun v => match v with | .ref a => decide (a < 207) | .int _ => true | .null => true | _ => false)) = true → okC (.inr (k, vs)) := fun {k vs} h => okC_o (fun v hv => by
    have z := List.all_eq_true.mp h v hv
    cases v with
    | ref a => exact okV_r (of_decide_eq_true z)
    | int x => exact okV_i x
    | null => exact okV_n
    | _ => cases z)
  refine it (fun _ => ov rfl) (fun _ => ?_)
  refine it (fun _ => ov rfl) (fun _ => ?_)
  refine it (fun _ => okC_i) (fun _ => ?_)
  refine it (fun _ => okC_S (by decide)) (fun _ => ?_)
  refine it (fun _ => okC_S (by decide)) (fun _ => ?_)
  refine it (fun _ => okC_r (fun j hj => by omega)) (fun _ => ?_)
  refine it (fun _ => ov rfl) (fun _ => ?_)
  refine it (fun _ => okC_i) (fun _ => ?_)
  refine it (fun _ => okC_i) (fun _ => ?_)
  refine it (fun _ => okC_i) (fun _ => ?_)
  refine it (fun _ => okC_i) (fun _ => ?_)
  refine it (fun _ => ov rfl) (fun _ => ?_)
  refine it (fun _ => okC_i) (fun _ => ?_)
  refine it (fun _ => okC_i) (fun _ => ?_)
  refine it (fun _ => okC_i) (fun _ => ?_)
  refine it (fun _ => okC_i) (fun _ => ?_)
  refine it (fun h => okC_S (by omega)) (fun _ => ?_)
  refine it (fun _ => okC_i) (fun _ => ?_)
  refine it (fun _ => okC_i) (fun _ => ?_)
  refine it (fun _ => okC_i) (fun _ => ?_)
  refine it (fun _ => okC_i) (fun _ => ?_)
  exact okC_l
theorem at_gC {G : aG} {off q : Nat} {x : aC} {H : Heap} (h : okC x) : va_at (gC G off).1 vwCl (q, aE (gC G off) x) H ↔ va_at G.1 vwCl (q, aE G x) H := by
  obtain ⟨y, s1, s2, e⟩ := h
  constructor
  · intro z
    have z1 := aSm.at (G := gC G off) s1 z
    rw [e G off] at z1
    exact aSm.at (G := G) s2 z1
  · intro z
    have z1 := aSm.at (G := G) s1 z
    rw [← e G off] at z1
    exact aSm.at (G := gC G off) s2 z1
variable {G : aG} {p : Program} {l : Launch} {e : Env} {R : Room} {s : State} {m : MethodId} {args : Array Value} {below : List Frame} {meth : Method} {c : Code} {Q : State → Prop} {n k0 u0 pc : Nat} {cc : ByteArray} {own : String} {L : aL} {st : List Value} {w : Wd} {x us : Nat}
theorem a_newC (C : aCtx G p s m args meth c cc n own) {y : Int32} (hd : decode cc pc = .ok (.newarray .int, 2)) (hx : y = nI 20) (hL : okL L) (hst : ∀ v ∈ st, okV v) (hbud : 207 + x + 1 ≤ k0 + R.cells ∧ us + 20 ≤ u0 + R.slots)
    (k : WA (gC G x) p l e R s m args below meth c Q n k0 u0 (pc + 2) L (.ref 207 :: st) (fzM (wRow w 207 (fun _ => 0)) (1, x) (us + 20))) : WA G p l e R s m args below meth c Q n k0 u0 pc L (.int y :: st) (fzM w (0, x) us) := by
  intro H locs ls cells slots h1 h2 h3 h4 h5 h6
  subst hx
  have hq : H.size = G.2.1 + (207 + x) := h3
  have hs5 : cells + k0 = 207 + x := h5
  have hs6 : slots + u0 = us := h6
  have hcl : (nI 20).toNatClampNeg = 20 := nI_clamp (by omega)
  refine va_newaK C.1 C.2.1 (atype := .int) (C.2.2.2.2.1 _ ga_I) rfl hd rfl (nI_pos (by omega)) hcl (by decide) (by omega) (by omega) rfl (fun H1 cA e1 z1 o1 hAr hNm => ?_)
  have hc : cA = G.2.2.1 8 := Option.some.inj (hNm.symm.trans (C.2.2.2.2.2.1.1.2 0 _ rfl).2)
  subst hc
  have hk : ∀ (i : Nat) (z : Nat × va_E), (aW G (fzM w (0, x) us))[i]? = some z → H1[z.1]? = H[z.1]? := fun i z hz => o1 z.1 ((h2 i z hz).lt)
  have h2' := h2.kept hk
  have hsz : aX (gC G x) 207 = H.size := by
    show G.2.1 + 207 + (if 207 < 207 then 0 else x) = H.size
    rw [if_neg (by decide)]
    omega
  have hP : va_P (gC G x).1 vwCl (aW (gC G x) (fzM (wRow w 207 (fun _ => 0)) (1, x) (us + 20))) H1 := by
    intro i z hz
    have hi : i < 208 := by
      have := (List.getElem?_eq_some_iff.mp hz).1
      rwa [aW_len] at this
    rw [aW_get (M := fzM (wRow w 207 (fun _ => 0)) (1, x) (us + 20)) hi] at hz
    cases hz
    by_cases h7 : i = 207
    · subst h7
      rw [hsz]
      show H1[H.size]? = some (vp_cell _ _)
      rw [e1]
      rfl
    · have hi2 : i < 207 := by omega
      rw [aX_gC hi2]
      show va_at _ _ (aX G i, aE (gC G x) (fz (wRow w 207 (fun _ => 0)) i)) H1
      have ef : fz (wRow w 207 (fun _ => 0)) i = fz w i := by
        unfold fz
        rw [wRow_ne h7]
        rfl
      rw [ef]
      exact (at_gC (okC_fz w hi2)).mpr (h2' i _ (aW_get (M := fzM w (0, x) us) (by show i < 207 + 0; omega)))
  have kk := k H1 locs ls (cells + 1) (slots + 20) ((aAl_gC hL).mpr h1) hP (by show H1.size = G.2.1 + (207 + 1 + x); omega) ⟨Nat.le_trans h4.1 (by omega), fun q q1 q2 => (o1 q (Nat.lt_of_lt_of_le q1 h4.1)).trans (h4.2.1 q q1 q2), h4.2.2⟩ (by show cells + 1 + k0 = 207 + 1 + x; omega) (by show slots + 20 + u0 = us + 20; omega)
  rw [List.map_cons, map_gC hst] at kk
  have er : aV (gC G x) (.ref 207) = .ref H.size := by
    show Value.ref (aAd (gC G x) 207) = _
    rw [aAd_lt (by decide), hsz]
  rw [er] at kk
  exact kk
/-- its end: the row is forgotten -/
theorem a_dropC {z : Nat} (hL : okL L) (hst : ∀ v ∈ st, okV v) (k : WA G p l e R s m args below meth c Q n k0 u0 pc L st (fzM w (0, z + 1) us)) : WA (gC G x) p l e R s m args below meth c Q n k0 u0 pc L st (fzM w (1, z) us) := by
  intro H locs ls cells slots h1 h2 h3 h4 h5 h6
  have hP : va_P G.1 vwCl (aW G (fzM w (0, z + 1) us)) H := by
    intro i y hy
    have hi : i < 207 := by
      have := (List.getElem?_eq_some_iff.mp hy).1
      rwa [aW_len] at this
    rw [aW_get (M := fzM w (0, z + 1) us) hi] at hy
    cases hy
    have z0 := h2 i _ (aW_get (G := gC G x) (M := fzM w (1, z) us) (by show i < 207 + 1; omega))
    rw [aX_gC hi] at z0
    exact (at_gC (okC_fz w hi)).mp z0
  have h3' : H.size = G.2.1 + (207 + 1 + z) := h3
  have h5' : cells + k0 = 207 + 1 + z := h5
  have kk := k H locs ls cells slots ((aAl_gC hL).mp h1) hP (by show H.size = G.2.1 + (207 + 0 + (z + 1)); omega) h4 (by show cells + k0 = 207 + 0 + (z + 1); omega) h6
  rw [map_gC hst]
  exact kk
theorem f_iastC (C : aCtx G p s m args meth c cc n own) {j : Nat} {i y : Int32} (hd : decode cc pc = .ok (.iastore, 1)) (hi : i = nI j) (hj : j < 20)
    (k : WA G p l e R s m args below meth c Q n k0 u0 (pc + 1) L st (fzM (wSet w 207 j y) (1, x) us)) : WA G p l e R s m args below meth c Q n k0 u0 pc L (.int y :: .int i :: .ref 207 :: st) (fzM w (1, x) us) :=
  a_iast C hd (show 207 < 208 by decide) (by decide) (show fz w 207 = .inl (8, (20, .inl (w.1 207))) from rfl) hi hj (by decide) (by rw [fz_put (w := w) (a := 207) (k := j) (x := y) (show fzc 207 (upd (w.1 207) j y) (w.2 207) = .inl (8, (20, .inl (upd (w.1 207) j y))) from rfl)]; exact k)
theorem n_ialdC (C : aCtx G p s m args meth c cc n own) {j : Nat} {i y : Int32} (hd : decode cc pc = .ok (.iaload, 1)) (hi : i = nI j) (hj : j < 20) (hx : w.1 207 j = y)
    (k : WA G p l e R s m args below meth c Q n k0 u0 (pc + 1) L (.int y :: st) (fzM w (1, x) us)) : WA G p l e R s m args below meth c Q n k0 u0 pc L (.int i :: .ref 207 :: st) (fzM w (1, x) us) :=
  n_iald C hd (show 207 < 208 by decide) (by decide) (show fz w 207 = .inl (8, (20, .inl (w.1 207))) from rfl) hi hj (by decide) hx k
/-- contracts for a world without that row -/
def CLz (y : MethodName) (cc : ByteArray) (n : Nat) (ret : Option FieldType) (fr lo : Nat) (av : List Value) (w : Wd) (d u : Nat) (P : Option Value → Wd → Prop) : Prop :=
  ∀ (x us : Nat), CMf y cc n ret fr lo av (fzM w (0, x) us) d u (fun r M' => ∃ w', M' = fzM w' (0, x + d) (us + u) ∧ P r w')
theorem CLz.of {y : MethodName} {cc : ByteArray} {n : Nat} {ret : Option FieldType} {fr lo : Nat} {av : List Value} {w : Wd} {d u : Nat} {P : Option Value → Wd → Prop} (hW : aCode y cc n ret) (hn : aSz av ≤ n)
    (body : ∀ (x us : Nat) (G : aG) (p : Program) (l : Launch) (e : Env) (s : State) (m : MethodId) (args : Array Value) (below : List Frame) (meth : Method) (c : Code), aCtx G p s m args meth c cc n y.cls → l.flags = flags0 → meth.sig.returnType = ret →
      WA G p l e (RL9 fr lo d u) s m args below meth c (QL G below args s w (0, x) us d u P) n (207 + 0 + x) us 0 (aEn av) [] (fzM w (0, x) us)) : CLz y cc n ret fr lo av w d u P := by
  intro x us
  exact CMf.of hW hn (fun G p l e s m args below meth c C hfl hr => body x us G p l e s m args below meth c C hfl hr)
theorem l_callZ {P : Option Value → Wd → Prop} (C : aCtx G p s m args meth c cc n own) (hfl : l.flags = flags0) {index : Nat} {y : MethodName} {bytes : ByteArray} {maxL fr lo d u : Nat} {ret : Option FieldType} (As : List Value) {rest st0 : List Value}
    (hM : CLz y bytes maxL ret fr lo As w d u P) (hw : aCs own index y bytes maxL ret As.length) (hd : decode cc pc = .ok (.invokestatic index, 3)) (hst : st0 = As.reverse ++ rest) (h8 : (rest.map fun v => v.category).sum ≤ 8)
    (hR : fr + 1 ≤ R.frames ∧ 8 + (maxL + 11) + lo ≤ R.locals) (hbud : 207 + x + d ≤ k0 + R.cells ∧ us + u ≤ u0 + R.slots)
    (k : ∀ (r : Option Value) (w' : Wd), P r w' → WA G p l e R s m args below meth c Q n k0 u0 (pc + 3) L (r.toList ++ rest) (fzM w' (0, x + d) (us + u))) : WA G p l e R s m args below meth c Q n k0 u0 pc L st0 (fzM w (0, x) us) := by
  intro H locs ls cells slots h1 h2 h3 h4 h5 h6
  subst hst
  rw [aRev]
  refine a_back (M := fzM w (0, x) us) (mc := d) (ms := u) (rest := rest) (y := y) (bytes := bytes) (maxL := maxL) (ret := ret) h4 h1 h5 h6 (va_runS (As := As.map (aV G)) (rest := rest.map (aV G)) ⟨C.1, C.2.1, C.2.2.1, C.2.2.2.1, C.2.2.2.2.1⟩ (hM x us G l hfl) ⟨aCallB C hw.1 hw.2.1 hw.2.2.2 hR, C.2.2.2.2.1 _ hw.2.2.1⟩ ⟨aPc_blind G _ _, aPre C h2 h3 h4 As⟩ rfl (by rw [List.length_map]) h1.1 rfl (lv_room (by rw [aCat]; exact h8)) hd ⟨by
    have z : cells + k0 = 207 + 0 + x := h5
    omega, by
    have z : slots + u0 = us := h6
    omega⟩) (fun r M' hp _ _ => by obtain ⟨w', rfl, hp⟩ := hp; exact k r w' hp)
end A67

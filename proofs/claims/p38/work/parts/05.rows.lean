section A5
/-! ### what holds in every state of the run: of the tables, and of what lay there before -/
def aDecls : List MethodName := [⟨"java/lang/IllegalArgumentException", "<init>", "(Ljava/lang/String;)V"⟩, ⟨"java/lang/IllegalStateException", "<init>", "(Ljava/lang/String;)V"⟩, ⟨"java/lang/IndexOutOfBoundsException", "<init>", "(Ljava/lang/String;)V"⟩, ⟨"java/lang/RuntimeException", "<init>", "(Ljava/lang/String;)V"⟩, ⟨"java/lang/Exception", "<init>", "(Ljava/lang/String;)V"⟩, ⟨"java/lang/Throwable", "<init>", "(Ljava/lang/String;)V"⟩]
def aExc : List String := ["java/lang/IllegalArgumentException", "java/lang/IllegalStateException", "java/lang/IndexOutOfBoundsException"]
def aTb (G : aG) (St : List (Nat × String)) (U : State) : Prop :=
  va_K G.1 vwCl (aTys G) U ∧
  (va_Nw (.fieldLinkNest RX1 40 "NotchedKeys" "NOTCH_WEIGHTS" "[I" "NotchedKeys") U ∧ va_Nw (.methodLinkNest RX6 9 yX4_init RX6) U ∧ va_Nw (.methodLinkNest RX5 37 yX2_init RX6) U ∧ va_Nw (.methodLinkNest RX5 38 yX3_init RX6) U) ∧
  (∀ x ∈ aDecls, va_Nw (.declares x) U) ∧ (∀ E ∈ aExc, va_Nw (.castable E E) U) ∧ (∀ q ∈ St, ∃ a, vk_R RX6 q.1 q.2 a U) ∧ (∀ E ∈ aExc, ∀ F ∈ aExc, E ≠ F → va_Nc E F U)
theorem aTb.warm {G : aG} {St : List (Nat × String)} {s U : State} (hW : s.WarmedH U.vm) (h : aTb G St s) : aTb G St U := by
  obtain ⟨h1, ⟨n1, n2, n3, n4⟩, h3, h4, h5, h6⟩ := h
  exact ⟨va_K.moved hW.alike h1, ⟨va_Nw.warmF hW n1, va_Nw.warmM hW n2, va_Nw.warmM hW n3, va_Nw.warmM hW n4⟩, fun x hx => va_Nw.warmD hW (h3 x hx), fun E hE => va_Nw.warmC hW (h4 E hE),
    fun q hq => by obtain ⟨a, ha⟩ := h5 q hq; exact ⟨a, vk_R.warm hW ha⟩, fun E hE F hF hne => va_Nc.moved hW.alike (h6 E hE F hF hne)⟩
def aOld (G : aG) : Nat → Prop := fun q => G.2.1 ≤ q
def aSt (G : aG) (U : State) (H : Heap) : Prop :=
  va_Z "NotchedKeys" "NOTCH_WEIGHTS" "[I" (.ref (G.2.2.2 0)) (aOld G) U H ∧ va_T .int (G.2.2.2 0) 4 nwv (aOld G) U H ∧
  va_Z "NotchedKeys" "LEAST_VALUES" "[I" (.ref (G.2.2.2 1)) (aOld G) U H ∧ va_T .int (G.2.2.2 1) 4 lvv (aOld G) U H ∧
  va_Z "NotchedKeys" "GREATEST_VALUES" "[I" (.ref (G.2.2.2 2)) (aOld G) U H ∧ va_T .int (G.2.2.2 2) 4 gvv (aOld G) U H ∧
  vx_Zq Bundle.tN "UNASSIGNED_STACK" Bundle.steD (aOld G) U H ∧ vx_Zq Bundle.tN "SUPPRESSED_SENTINEL" Bundle.listD (aOld G) U H
theorem aSt.moved {G : aG} {u U : State} {H : Heap} (hvm : u.vm.Alike U.vm) (h : aSt G u H) : aSt G U H := by
  obtain ⟨h1, h2, h3, h4, h5, h6, h7, h8⟩ := h
  exact ⟨va_Z.moved hvm h1, va_T.moved hvm h2, va_Z.moved hvm h3, va_T.moved hvm h4, va_Z.moved hvm h5, va_T.moved hvm h6, vx_Zq.moved hvm h7, vx_Zq.moved hvm h8⟩
theorem aSt.kept {G : aG} {U : State} {H H1 : Heap} (h : aSt G U H) (hq : ∀ a : Nat, a < H.size → ¬ aOld G a → H1[a]? = H[a]?) : aSt G U H1 := by
  obtain ⟨h1, h2, h3, h4, h5, h6, h7, h8⟩ := h
  exact ⟨va_Z.kept h1 hq, va_T.kept h2 hq, va_Z.kept h3 hq, va_T.kept h4 hq, va_Z.kept h5 hq, va_T.kept h6 hq, vx_Zq.kept h7 hq, vx_Zq.kept h8 hq⟩
/-- the string constants of the throws, by their places in NotchedKeys' pool -/
def aStr : List (Nat × String) := [(238, "there is no saved state"), (331, "what is not 0 to 11"), (112, "no such key"), (258, "what is not 0 to 9"), (145, "no such place"), (260, "what is not 0 to 5"), (269, "no such person"), (280, "what is not 0 to 2"), (59, "code or owner is out of range"), (70, "no key can be cut with this code"), (91, "no such key or notch"), (98, "this notch can not be cut deeper"), (121, "owner is out of range"), (130, "the key is lost already"), (140, "the key is not lost"), (147, "code is out of range"), (161, "there is no lock"), (172, "no such key or place"), (174, "the key is lost, or there is no lock"), (183, "no such setting"), (192, "value is out of range"), (352, "locks is no set of locks"), (333, "what is not 0 or 1"), (344, "rank is below 0")]
/-- what a method's body knows of the machine -/
def aCtx (G : aG) (p : Program) (s : State) (m : MethodId) (args : Array Value) (meth : Method) (c : Code) (cc : ByteArray) (n : Nat) (own : String) : Prop :=
  p.tables.exec = Jvm.exec ∧ c.code = cc ∧ c.maxLocals = n ∧ s.vm.findClass own = some m.cls ∧ (∀ w ∈ GW, w.before args s = true) ∧ aTb G aStr s ∧ aSt G s s.heap ∧ G.2.1 ≤ s.heap.size ∧ meth.locks = false
/-! ### local variables: a list, by number; none: unknown -/
abbrev aL : Type := List (Option Value)
def aAl (G : aG) (L : aL) : List (Nat × Value) := (List.range L.length).filterMap fun i => match L[i]? with
  | some (some v) => some (i, aV G v)
  | _ => none
theorem aAl_in {G : aG} {L : aL} {i : Nat} {v : Value} (h : L[i]? = some (some v)) : (i, aV G v) ∈ aAl G L := by
  refine List.mem_filterMap.mpr ⟨i, List.mem_range.mpr (List.getElem?_eq_some_iff.mp h).1, ?_⟩
  rw [h]
theorem aAl_of {G : aG} {L : aL} {q : Nat × Value} (h : q ∈ aAl G L) : ∃ v, L[q.1]? = some (some v) ∧ q.2 = aV G v := by
  obtain ⟨i, -, hi⟩ := List.mem_filterMap.mp h
  cases hL : L[i]? with
  | none => rw [hL] at hi; cases hi
  | some o =>
    cases o with
    | none => rw [hL] at hi; cases hi
    | some v =>
      rw [hL] at hi
      cases hi
      exact ⟨v, hL, rfl⟩
theorem lv_mono {ls : Array Slot} {nL : Nat} {l l' : List (Nat × Value)} (h : lv_has ls nL l) (hs : ∀ q ∈ l', q ∈ l) : lv_has ls nL l' := ⟨h.1, h.2.1, fun q hq => h.2.2 q (hs q hq)⟩
def aClr (L : aL) (i : Nat) : aL := match i with
  | 0 => L
  | j + 1 => match L[j]? with
    | some (some w) => if w.category = 2 then L.set j none else L
    | _ => L
def aS1 (L : aL) (i : Nat) (v : Value) : aL := (aClr L i).set i (some v)
def aS2 (L : aL) (i : Nat) (v : Value) : aL := ((aClr L i).set i (some v)).set (i + 1) none
theorem aClr_of {L : aL} {i j : Nat} {w : Value} (h : (aClr L i)[j]? = some (some w)) : L[j]? = some (some w) ∧ (j + 1 = i → ¬ w.category = 2) := by
  cases i with
  | zero => exact ⟨h, fun e => by omega⟩
  | succ k =>
    unfold aClr at h
    cases hk : L[k]? with
    | none =>
      simp only [hk] at h
      refine ⟨h, fun e => ?_⟩
      have : j = k := by omega
      subst this
      rw [hk] at h; cases h
    | some o =>
      cases o with
      | none =>
        simp only [hk] at h
        refine ⟨h, fun e => ?_⟩
        have : j = k := by omega
        subst this
        rw [hk] at h; cases h
      | some v =>
        simp only [hk] at h
        by_cases hc : v.category = 2
        · rw [if_pos hc] at h
          by_cases e : k = j
          · subst e
            rw [List.getElem?_set_self (List.getElem?_eq_some_iff.mp hk).1] at h
            cases h
          · rw [List.getElem?_set_ne e] at h
            exact ⟨h, fun e2 => absurd (by omega) e⟩
        · rw [if_neg hc] at h
          refine ⟨h, fun e => ?_⟩
          have : j = k := by omega
          subst this
          rw [hk] at h
          cases h
          exact hc
theorem aS1_ok {G : aG} {ls : Array Slot} {n i : Nat} {L : aL} {v : Value} (h : lv_has ls n ((i, aV G v) :: (aAl G L).filter (fun q => !(q.1 == i) && !(q.1 + 1 == i && q.2.category == 2)))) : lv_has ls n (aAl G (aS1 L i v)) := by
  refine lv_mono h fun q hq => ?_
  obtain ⟨w, hw, hv⟩ := aAl_of hq
  obtain ⟨j, z⟩ := q
  dsimp only at hw hv
  subst hv
  by_cases e : i = j
  · subst e
    have hlt : i < (aClr L i).length := by
      have := (List.getElem?_eq_some_iff.mp hw).1
      simpa [aS1] using this
    rw [aS1, List.getElem?_set_self hlt] at hw
    cases hw
    exact List.mem_cons_self
  · rw [aS1, List.getElem?_set_ne e] at hw
    obtain ⟨h1, h2⟩ := aClr_of hw
    refine List.mem_cons_of_mem _ (List.mem_filter.mpr ⟨aAl_in h1, ?_⟩)
    have e2 : ¬ j = i := fun q => e q.symm
    by_cases e3 : j + 1 = i
    · have := h2 e3
      simp [e2, e3, aV_cat, this]
    · simp [e2, e3]
theorem aS2_ok {G : aG} {ls : Array Slot} {n i : Nat} {L : aL} {v : Value} (h : lv_has ls n ((i, aV G v) :: (aAl G L).filter (fun q => !(q.1 == i) && (!(q.1 == i + 1) && !(q.1 + 1 == i && q.2.category == 2))))) : lv_has ls n (aAl G (aS2 L i v)) := by
  refine lv_mono h fun q hq => ?_
  obtain ⟨w, hw, hv⟩ := aAl_of hq
  obtain ⟨j, z⟩ := q
  dsimp only at hw hv
  subst hv
  by_cases e0 : i + 1 = j
  · subst e0
    have hlt : i + 1 < ((aClr L i).set i (some v)).length := by
      have := (List.getElem?_eq_some_iff.mp hw).1
      simpa [aS2] using this
    rw [aS2, List.getElem?_set_self hlt] at hw
    cases hw
  · rw [aS2, List.getElem?_set_ne e0] at hw
    by_cases e : i = j
    · subst e
      have hlt : i < (aClr L i).length := by
        have := (List.getElem?_eq_some_iff.mp hw).1
        simpa using this
      rw [List.getElem?_set_self hlt] at hw
      cases hw
      exact List.mem_cons_self
    · rw [List.getElem?_set_ne e] at hw
      obtain ⟨h1, h2⟩ := aClr_of hw
      refine List.mem_cons_of_mem _ (List.mem_filter.mpr ⟨aAl_in h1, ?_⟩)
      have e2 : ¬ j = i := fun q => e q.symm
      have e4 : ¬ j = i + 1 := fun q => e0 q.symm
      by_cases e3 : j + 1 = i
      · have := h2 e3
        simp [e2, e3, e4, aV_cat, this]
      · simp [e2, e3, e4]
/-! ### a walk over an abstract heap -/
/-- from here, with these locals, this stack and this heap, the machine comes to Q. k0, u0: how many cells (and slots) had been made when the method began -/
def WA (G : aG) (p : Program) (l : Launch) (e : Env) (R : Room) (s : State) (m : MethodId) (args : Array Value) (below : List Frame) (meth : Method) (c : Code) (Q : State → Prop) (n k0 u0 pc : Nat) (L : aL) (st : List Value) (M : aH) : Prop :=
  ∀ (H : Heap) (locs : List Loc) (ls : Array Slot) (cells slots : Nat), lv_has ls n (aAl G L) → va_P G.1 vwCl (aW G M) H → H.size = G.2.1 + (M.1 + M.2.1) → va_S (aOld G) s.heap H locs → cells + k0 = M.1 + M.2.1 → slots + u0 = M.2.2.1 →
    W p l e R s m args below meth c H locs cells slots Q (F0 m pc ls (st.map (aV G)))
variable {G : aG} {p : Program} {l : Launch} {e : Env} {R : Room} {s : State} {m : MethodId} {args : Array Value} {below : List Frame} {meth : Method} {c : Code} {Q : State → Prop} {n k0 u0 pc : Nat} {cc : ByteArray} {own : String} {L : aL} {st : List Value} {M : aH}
theorem a_sub {L' : aL} (hs : ∀ (i : Nat) (v : Value), L'[i]? = some (some v) → L[i]? = some (some v)) (k : WA G p l e R s m args below meth c Q n k0 u0 pc L' st M) : WA G p l e R s m args below meth c Q n k0 u0 pc L st M := by
  intro H locs ls cells slots h1 h2 h3 h4 h5 h6
  refine k H locs ls cells slots (lv_mono h1 fun q hq => ?_) h2 h3 h4 h5 h6
  obtain ⟨w, hw, hv⟩ := aAl_of hq
  have := aAl_in (G := G) (hs _ _ hw)
  obtain ⟨j, z⟩ := q
  dsimp only at hv this
  subst hv
  exact this

theorem a_iconst (C : aCtx G p s m args meth c cc n own) {z : Int} {v : Int32} (hd : decode cc pc = .ok (.iconst z, 1)) (hv : Int32.ofInt z = v) (k : WA G p l e R s m args below meth c Q n k0 u0 (pc + 1) L (.int v :: st) M) : WA G p l e R s m args below meth c Q n k0 u0 pc L st M := by
  intro H locs ls cells slots h1 h2 h3 h4 h5 h6
  exact lv_iconst C.1 C.2.1 hd hv (k H locs ls cells slots h1 h2 h3 h4 h5 h6)
theorem a_bipush (C : aCtx G p s m args meth c cc n own) {z : Int} {v : Int32} (hd : decode cc pc = .ok (.bipush z, 2)) (hv : (Int8.ofInt z).toInt32 = v) (k : WA G p l e R s m args below meth c Q n k0 u0 (pc + 2) L (.int v :: st) M) : WA G p l e R s m args below meth c Q n k0 u0 pc L st M := by
  intro H locs ls cells slots h1 h2 h3 h4 h5 h6
  exact lv_bipush C.1 C.2.1 hd hv (k H locs ls cells slots h1 h2 h3 h4 h5 h6)
theorem a_sipush (C : aCtx G p s m args meth c cc n own) {z : Int} {v : Int32} (hd : decode cc pc = .ok (.sipush z, 3)) (hv : (Int16.ofInt z).toInt32 = v) (k : WA G p l e R s m args below meth c Q n k0 u0 (pc + 3) L (.int v :: st) M) : WA G p l e R s m args below meth c Q n k0 u0 pc L st M := by
  intro H locs ls cells slots h1 h2 h3 h4 h5 h6
  exact lv_sipush C.1 C.2.1 hd hv (k H locs ls cells slots h1 h2 h3 h4 h5 h6)
theorem a_lconst (C : aCtx G p s m args meth c cc n own) {z : Fin 2} {v : Int64} (hd : decode cc pc = .ok (.lconst z, 1)) (hv : Int64.ofNat (z : Nat) = v) (k : WA G p l e R s m args below meth c Q n k0 u0 (pc + 1) L (.long v :: st) M) : WA G p l e R s m args below meth c Q n k0 u0 pc L st M := by
  intro H locs ls cells slots h1 h2 h3 h4 h5 h6
  exact lv_lconst C.1 C.2.1 hd hv (k H locs ls cells slots h1 h2 h3 h4 h5 h6)
theorem a_iload_n (C : aCtx G p s m args meth c cc n own) {z : Fin 4} {i : Nat} {x : Int32} (hd : decode cc pc = .ok (.iload_n z, 1)) (hi : (z : Nat) = i) (hl : L[i]? = some (some (.int x))) (k : WA G p l e R s m args below meth c Q n k0 u0 (pc + 1) L (.int x :: st) M) : WA G p l e R s m args below meth c Q n k0 u0 pc L st M := by
  intro H locs ls cells slots h1 h2 h3 h4 h5 h6
  exact lv_iload_n C.1 C.2.1 hd hi (h1.2.2 (i, _) (aAl_in hl)) (k H locs ls cells slots h1 h2 h3 h4 h5 h6)
theorem a_iload (C : aCtx G p s m args meth c cc n own) {i : Nat} {x : Int32} (hd : decode cc pc = .ok (.iload i, 2)) (hl : L[i]? = some (some (.int x))) (k : WA G p l e R s m args below meth c Q n k0 u0 (pc + 2) L (.int x :: st) M) : WA G p l e R s m args below meth c Q n k0 u0 pc L st M := by
  intro H locs ls cells slots h1 h2 h3 h4 h5 h6
  exact lv_iload C.1 C.2.1 hd (h1.2.2 (i, _) (aAl_in hl)) (k H locs ls cells slots h1 h2 h3 h4 h5 h6)
theorem a_istore_n (C : aCtx G p s m args meth c cc n own) {z : Fin 4} {i : Nat} {x : Int32} (hd : decode cc pc = .ok (.istore_n z, 1)) (hi : (z : Nat) = i) (hn : i < n) (k : WA G p l e R s m args below meth c Q n k0 u0 (pc + 1) (aS1 L i (.int x)) st M) : WA G p l e R s m args below meth c Q n k0 u0 pc L (.int x :: st) M := by
  intro H locs ls cells slots h1 h2 h3 h4 h5 h6
  exact lv_istore_n C.1 C.2.1 hd hi h1 hn rfl (fun ls2 h9 => k H locs ls2 cells slots (aS1_ok h9) h2 h3 h4 h5 h6)
theorem a_istore (C : aCtx G p s m args meth c cc n own) {i : Nat} {x : Int32} (hd : decode cc pc = .ok (.istore i, 2)) (hn : i < n) (k : WA G p l e R s m args below meth c Q n k0 u0 (pc + 2) (aS1 L i (.int x)) st M) : WA G p l e R s m args below meth c Q n k0 u0 pc L (.int x :: st) M := by
  intro H locs ls cells slots h1 h2 h3 h4 h5 h6
  exact lv_istore C.1 C.2.1 hd h1 hn rfl (fun ls2 h9 => k H locs ls2 cells slots (aS1_ok h9) h2 h3 h4 h5 h6)
theorem a_lload_n (C : aCtx G p s m args meth c cc n own) {z : Fin 4} {i : Nat} {x : Int64} (hd : decode cc pc = .ok (.lload_n z, 1)) (hi : (z : Nat) = i) (hl : L[i]? = some (some (.long x))) (k : WA G p l e R s m args below meth c Q n k0 u0 (pc + 1) L (.long x :: st) M) : WA G p l e R s m args below meth c Q n k0 u0 pc L st M := by
  intro H locs ls cells slots h1 h2 h3 h4 h5 h6
  exact lv_lload_n C.1 C.2.1 hd hi (h1.2.2 (i, _) (aAl_in hl)) (k H locs ls cells slots h1 h2 h3 h4 h5 h6)
theorem a_lload (C : aCtx G p s m args meth c cc n own) {i : Nat} {x : Int64} (hd : decode cc pc = .ok (.lload i, 2)) (hl : L[i]? = some (some (.long x))) (k : WA G p l e R s m args below meth c Q n k0 u0 (pc + 2) L (.long x :: st) M) : WA G p l e R s m args below meth c Q n k0 u0 pc L st M := by
  intro H locs ls cells slots h1 h2 h3 h4 h5 h6
  exact lv_lload C.1 C.2.1 hd (h1.2.2 (i, _) (aAl_in hl)) (k H locs ls cells slots h1 h2 h3 h4 h5 h6)
theorem a_lstore_n (C : aCtx G p s m args meth c cc n own) {z : Fin 4} {i : Nat} {x : Int64} (hd : decode cc pc = .ok (.lstore_n z, 1)) (hi : (z : Nat) = i) (hn : i + 1 < n) (k : WA G p l e R s m args below meth c Q n k0 u0 (pc + 1) (aS2 L i (.long x)) st M) : WA G p l e R s m args below meth c Q n k0 u0 pc L (.long x :: st) M := by
  intro H locs ls cells slots h1 h2 h3 h4 h5 h6
  exact lv_lstore_n C.1 C.2.1 hd hi h1 hn rfl (fun ls2 h9 => k H locs ls2 cells slots (aS2_ok h9) h2 h3 h4 h5 h6)
theorem a_lstore (C : aCtx G p s m args meth c cc n own) {i : Nat} {x : Int64} (hd : decode cc pc = .ok (.lstore i, 2)) (hn : i + 1 < n) (k : WA G p l e R s m args below meth c Q n k0 u0 (pc + 2) (aS2 L i (.long x)) st M) : WA G p l e R s m args below meth c Q n k0 u0 pc L (.long x :: st) M := by
  intro H locs ls cells slots h1 h2 h3 h4 h5 h6
  exact lv_lstore C.1 C.2.1 hd h1 hn rfl (fun ls2 h9 => k H locs ls2 cells slots (aS2_ok h9) h2 h3 h4 h5 h6)
theorem a_fload_n (C : aCtx G p s m args meth c cc n own) {z : Fin 4} {i : Nat} {x : UInt32} (hd : decode cc pc = .ok (.fload_n z, 1)) (hi : (z : Nat) = i) (hl : L[i]? = some (some (.float x))) (k : WA G p l e R s m args below meth c Q n k0 u0 (pc + 1) L (.float x :: st) M) : WA G p l e R s m args below meth c Q n k0 u0 pc L st M := by
  intro H locs ls cells slots h1 h2 h3 h4 h5 h6
  exact lv_fload_n C.1 C.2.1 hd hi (h1.2.2 (i, _) (aAl_in hl)) (k H locs ls cells slots h1 h2 h3 h4 h5 h6)
theorem a_fload (C : aCtx G p s m args meth c cc n own) {i : Nat} {x : UInt32} (hd : decode cc pc = .ok (.fload i, 2)) (hl : L[i]? = some (some (.float x))) (k : WA G p l e R s m args below meth c Q n k0 u0 (pc + 2) L (.float x :: st) M) : WA G p l e R s m args below meth c Q n k0 u0 pc L st M := by
  intro H locs ls cells slots h1 h2 h3 h4 h5 h6
  exact lv_fload C.1 C.2.1 hd (h1.2.2 (i, _) (aAl_in hl)) (k H locs ls cells slots h1 h2 h3 h4 h5 h6)
theorem a_fstore_n (C : aCtx G p s m args meth c cc n own) {z : Fin 4} {i : Nat} {x : UInt32} (hd : decode cc pc = .ok (.fstore_n z, 1)) (hi : (z : Nat) = i) (hn : i < n) (k : WA G p l e R s m args below meth c Q n k0 u0 (pc + 1) (aS1 L i (.float x)) st M) : WA G p l e R s m args below meth c Q n k0 u0 pc L (.float x :: st) M := by
  intro H locs ls cells slots h1 h2 h3 h4 h5 h6
  exact lv_fstore_n C.1 C.2.1 hd hi h1 hn rfl (fun ls2 h9 => k H locs ls2 cells slots (aS1_ok h9) h2 h3 h4 h5 h6)
theorem a_fstore (C : aCtx G p s m args meth c cc n own) {i : Nat} {x : UInt32} (hd : decode cc pc = .ok (.fstore i, 2)) (hn : i < n) (k : WA G p l e R s m args below meth c Q n k0 u0 (pc + 2) (aS1 L i (.float x)) st M) : WA G p l e R s m args below meth c Q n k0 u0 pc L (.float x :: st) M := by
  intro H locs ls cells slots h1 h2 h3 h4 h5 h6
  exact lv_fstore C.1 C.2.1 hd h1 hn rfl (fun ls2 h9 => k H locs ls2 cells slots (aS1_ok h9) h2 h3 h4 h5 h6)
theorem a_dload_n (C : aCtx G p s m args meth c cc n own) {z : Fin 4} {i : Nat} {x : UInt64} (hd : decode cc pc = .ok (.dload_n z, 1)) (hi : (z : Nat) = i) (hl : L[i]? = some (some (.double x))) (k : WA G p l e R s m args below meth c Q n k0 u0 (pc + 1) L (.double x :: st) M) : WA G p l e R s m args below meth c Q n k0 u0 pc L st M := by
  intro H locs ls cells slots h1 h2 h3 h4 h5 h6
  exact lv_dload_n C.1 C.2.1 hd hi (h1.2.2 (i, _) (aAl_in hl)) (k H locs ls cells slots h1 h2 h3 h4 h5 h6)
theorem a_dload (C : aCtx G p s m args meth c cc n own) {i : Nat} {x : UInt64} (hd : decode cc pc = .ok (.dload i, 2)) (hl : L[i]? = some (some (.double x))) (k : WA G p l e R s m args below meth c Q n k0 u0 (pc + 2) L (.double x :: st) M) : WA G p l e R s m args below meth c Q n k0 u0 pc L st M := by
  intro H locs ls cells slots h1 h2 h3 h4 h5 h6
  exact lv_dload C.1 C.2.1 hd (h1.2.2 (i, _) (aAl_in hl)) (k H locs ls cells slots h1 h2 h3 h4 h5 h6)
theorem a_dstore_n (C : aCtx G p s m args meth c cc n own) {z : Fin 4} {i : Nat} {x : UInt64} (hd : decode cc pc = .ok (.dstore_n z, 1)) (hi : (z : Nat) = i) (hn : i + 1 < n) (k : WA G p l e R s m args below meth c Q n k0 u0 (pc + 1) (aS2 L i (.double x)) st M) : WA G p l e R s m args below meth c Q n k0 u0 pc L (.double x :: st) M := by
  intro H locs ls cells slots h1 h2 h3 h4 h5 h6
  exact lv_dstore_n C.1 C.2.1 hd hi h1 hn rfl (fun ls2 h9 => k H locs ls2 cells slots (aS2_ok h9) h2 h3 h4 h5 h6)
theorem a_dstore (C : aCtx G p s m args meth c cc n own) {i : Nat} {x : UInt64} (hd : decode cc pc = .ok (.dstore i, 2)) (hn : i + 1 < n) (k : WA G p l e R s m args below meth c Q n k0 u0 (pc + 2) (aS2 L i (.double x)) st M) : WA G p l e R s m args below meth c Q n k0 u0 pc L (.double x :: st) M := by
  intro H locs ls cells slots h1 h2 h3 h4 h5 h6
  exact lv_dstore C.1 C.2.1 hd h1 hn rfl (fun ls2 h9 => k H locs ls2 cells slots (aS2_ok h9) h2 h3 h4 h5 h6)
theorem a_aload_n (C : aCtx G p s m args meth c cc n own) {z : Fin 4} {i : Nat} {x : Nat} (hd : decode cc pc = .ok (.aload_n z, 1)) (hi : (z : Nat) = i) (hl : L[i]? = some (some (.ref x))) (k : WA G p l e R s m args below meth c Q n k0 u0 (pc + 1) L (.ref x :: st) M) : WA G p l e R s m args below meth c Q n k0 u0 pc L st M := by
  intro H locs ls cells slots h1 h2 h3 h4 h5 h6
  exact lv_aload_n C.1 C.2.1 hd hi (h1.2.2 (i, _) (aAl_in hl)) (k H locs ls cells slots h1 h2 h3 h4 h5 h6)
theorem a_aload (C : aCtx G p s m args meth c cc n own) {i : Nat} {x : Nat} (hd : decode cc pc = .ok (.aload i, 2)) (hl : L[i]? = some (some (.ref x))) (k : WA G p l e R s m args below meth c Q n k0 u0 (pc + 2) L (.ref x :: st) M) : WA G p l e R s m args below meth c Q n k0 u0 pc L st M := by
  intro H locs ls cells slots h1 h2 h3 h4 h5 h6
  exact lv_aload C.1 C.2.1 hd (h1.2.2 (i, _) (aAl_in hl)) (k H locs ls cells slots h1 h2 h3 h4 h5 h6)
theorem a_astore_n (C : aCtx G p s m args meth c cc n own) {z : Fin 4} {i : Nat} {x : Nat} (hd : decode cc pc = .ok (.astore_n z, 1)) (hi : (z : Nat) = i) (hn : i < n) (k : WA G p l e R s m args below meth c Q n k0 u0 (pc + 1) (aS1 L i (.ref x)) st M) : WA G p l e R s m args below meth c Q n k0 u0 pc L (.ref x :: st) M := by
  intro H locs ls cells slots h1 h2 h3 h4 h5 h6
  exact lv_astore_n C.1 C.2.1 hd hi h1 hn rfl (fun ls2 h9 => k H locs ls2 cells slots (aS1_ok h9) h2 h3 h4 h5 h6)
theorem a_astore (C : aCtx G p s m args meth c cc n own) {i : Nat} {x : Nat} (hd : decode cc pc = .ok (.astore i, 2)) (hn : i < n) (k : WA G p l e R s m args below meth c Q n k0 u0 (pc + 2) (aS1 L i (.ref x)) st M) : WA G p l e R s m args below meth c Q n k0 u0 pc L (.ref x :: st) M := by
  intro H locs ls cells slots h1 h2 h3 h4 h5 h6
  exact lv_astore C.1 C.2.1 hd h1 hn rfl (fun ls2 h9 => k H locs ls2 cells slots (aS1_ok h9) h2 h3 h4 h5 h6)
theorem a_iinc (C : aCtx G p s m args meth c cc n own) {i : Nat} {z : Int} {x v : Int32} (hd : decode cc pc = .ok (.iinc i z, 3)) (hl : L[i]? = some (some (.int x))) (hv : x + Int32.ofInt z = v) (hn : i < n) (k : WA G p l e R s m args below meth c Q n k0 u0 (pc + 3) (aS1 L i (.int v)) st M) : WA G p l e R s m args below meth c Q n k0 u0 pc L st M := by
  intro H locs ls cells slots h1 h2 h3 h4 h5 h6
  obtain ⟨k9, h9⟩ := List.getElem?_of_mem (aAl_in (G := G) hl)
  exact lv_iinc C.1 C.2.1 hd h1 h9 hv hn rfl (fun ls2 h9 => k H locs ls2 cells slots (aS1_ok h9) h2 h3 h4 h5 h6)
theorem a_iadd (C : aCtx G p s m args meth c cc n own) {x y : Int32} (hd : decode cc pc = .ok (.iadd, 1))  (k : WA G p l e R s m args below meth c Q n k0 u0 (pc + 1) L (.int (x + y) :: st) M) : WA G p l e R s m args below meth c Q n k0 u0 pc L (.int y :: .int x :: st) M := by
  intro H locs ls cells slots h1 h2 h3 h4 h5 h6
  exact lv_iadd C.1 C.2.1 hd (k H locs ls cells slots h1 h2 h3 h4 h5 h6)
theorem a_isub (C : aCtx G p s m args meth c cc n own) {x y : Int32} (hd : decode cc pc = .ok (.isub, 1))  (k : WA G p l e R s m args below meth c Q n k0 u0 (pc + 1) L (.int (x - y) :: st) M) : WA G p l e R s m args below meth c Q n k0 u0 pc L (.int y :: .int x :: st) M := by
  intro H locs ls cells slots h1 h2 h3 h4 h5 h6
  exact lv_isub C.1 C.2.1 hd (k H locs ls cells slots h1 h2 h3 h4 h5 h6)
theorem a_imul (C : aCtx G p s m args meth c cc n own) {x y : Int32} (hd : decode cc pc = .ok (.imul, 1))  (k : WA G p l e R s m args below meth c Q n k0 u0 (pc + 1) L (.int (x * y) :: st) M) : WA G p l e R s m args below meth c Q n k0 u0 pc L (.int y :: .int x :: st) M := by
  intro H locs ls cells slots h1 h2 h3 h4 h5 h6
  exact lv_imul C.1 C.2.1 hd (k H locs ls cells slots h1 h2 h3 h4 h5 h6)
theorem a_iand (C : aCtx G p s m args meth c cc n own) {x y : Int32} (hd : decode cc pc = .ok (.iand, 1))  (k : WA G p l e R s m args below meth c Q n k0 u0 (pc + 1) L (.int (x &&& y) :: st) M) : WA G p l e R s m args below meth c Q n k0 u0 pc L (.int y :: .int x :: st) M := by
  intro H locs ls cells slots h1 h2 h3 h4 h5 h6
  exact lv_iand C.1 C.2.1 hd (k H locs ls cells slots h1 h2 h3 h4 h5 h6)
theorem a_ior (C : aCtx G p s m args meth c cc n own) {x y : Int32} (hd : decode cc pc = .ok (.ior, 1))  (k : WA G p l e R s m args below meth c Q n k0 u0 (pc + 1) L (.int (x ||| y) :: st) M) : WA G p l e R s m args below meth c Q n k0 u0 pc L (.int y :: .int x :: st) M := by
  intro H locs ls cells slots h1 h2 h3 h4 h5 h6
  exact lv_ior C.1 C.2.1 hd (k H locs ls cells slots h1 h2 h3 h4 h5 h6)
theorem a_ixor (C : aCtx G p s m args meth c cc n own) {x y : Int32} (hd : decode cc pc = .ok (.ixor, 1))  (k : WA G p l e R s m args below meth c Q n k0 u0 (pc + 1) L (.int (x ^^^ y) :: st) M) : WA G p l e R s m args below meth c Q n k0 u0 pc L (.int y :: .int x :: st) M := by
  intro H locs ls cells slots h1 h2 h3 h4 h5 h6
  exact lv_ixor C.1 C.2.1 hd (k H locs ls cells slots h1 h2 h3 h4 h5 h6)
theorem a_idiv (C : aCtx G p s m args meth c cc n own) {x y : Int32} (hd : decode cc pc = .ok (.idiv, 1)) (hne : ¬ y = 0) (k : WA G p l e R s m args below meth c Q n k0 u0 (pc + 1) L (.int (x / y) :: st) M) : WA G p l e R s m args below meth c Q n k0 u0 pc L (.int y :: .int x :: st) M := by
  intro H locs ls cells slots h1 h2 h3 h4 h5 h6
  exact lv_idiv C.1 C.2.1 hd hne (k H locs ls cells slots h1 h2 h3 h4 h5 h6)
theorem a_irem (C : aCtx G p s m args meth c cc n own) {x y : Int32} (hd : decode cc pc = .ok (.irem, 1)) (hne : ¬ y = 0) (k : WA G p l e R s m args below meth c Q n k0 u0 (pc + 1) L (.int (x - x / y * y) :: st) M) : WA G p l e R s m args below meth c Q n k0 u0 pc L (.int y :: .int x :: st) M := by
  intro H locs ls cells slots h1 h2 h3 h4 h5 h6
  exact lv_irem C.1 C.2.1 hd hne (k H locs ls cells slots h1 h2 h3 h4 h5 h6)
theorem a_ineg (C : aCtx G p s m args meth c cc n own) {x : Int32} (hd : decode cc pc = .ok (.ineg, 1))  (k : WA G p l e R s m args below meth c Q n k0 u0 (pc + 1) L (.int (-x) :: st) M) : WA G p l e R s m args below meth c Q n k0 u0 pc L (.int x :: st) M := by
  intro H locs ls cells slots h1 h2 h3 h4 h5 h6
  exact lv_ineg C.1 C.2.1 hd (k H locs ls cells slots h1 h2 h3 h4 h5 h6)
theorem a_ladd (C : aCtx G p s m args meth c cc n own) {x y : Int64} (hd : decode cc pc = .ok (.ladd, 1))  (k : WA G p l e R s m args below meth c Q n k0 u0 (pc + 1) L (.long (x + y) :: st) M) : WA G p l e R s m args below meth c Q n k0 u0 pc L (.long y :: .long x :: st) M := by
  intro H locs ls cells slots h1 h2 h3 h4 h5 h6
  exact lv_ladd C.1 C.2.1 hd (k H locs ls cells slots h1 h2 h3 h4 h5 h6)
theorem a_lsub (C : aCtx G p s m args meth c cc n own) {x y : Int64} (hd : decode cc pc = .ok (.lsub, 1))  (k : WA G p l e R s m args below meth c Q n k0 u0 (pc + 1) L (.long (x - y) :: st) M) : WA G p l e R s m args below meth c Q n k0 u0 pc L (.long y :: .long x :: st) M := by
  intro H locs ls cells slots h1 h2 h3 h4 h5 h6
  exact lv_lsub C.1 C.2.1 hd (k H locs ls cells slots h1 h2 h3 h4 h5 h6)
theorem a_lmul (C : aCtx G p s m args meth c cc n own) {x y : Int64} (hd : decode cc pc = .ok (.lmul, 1))  (k : WA G p l e R s m args below meth c Q n k0 u0 (pc + 1) L (.long (x * y) :: st) M) : WA G p l e R s m args below meth c Q n k0 u0 pc L (.long y :: .long x :: st) M := by
  intro H locs ls cells slots h1 h2 h3 h4 h5 h6
  exact lv_lmul C.1 C.2.1 hd (k H locs ls cells slots h1 h2 h3 h4 h5 h6)
theorem a_ishl (C : aCtx G p s m args meth c cc n own) {x y : Int32} (hd : decode cc pc = .ok (.ishl, 1))  (k : WA G p l e R s m args below meth c Q n k0 u0 (pc + 1) L (.int (x <<< (y &&& 31)) :: st) M) : WA G p l e R s m args below meth c Q n k0 u0 pc L (.int y :: .int x :: st) M := by
  intro H locs ls cells slots h1 h2 h3 h4 h5 h6
  exact lv_ishl C.1 C.2.1 hd (k H locs ls cells slots h1 h2 h3 h4 h5 h6)
theorem a_ishr (C : aCtx G p s m args meth c cc n own) {x y : Int32} (hd : decode cc pc = .ok (.ishr, 1))  (k : WA G p l e R s m args below meth c Q n k0 u0 (pc + 1) L (.int (x >>> (y &&& 31)) :: st) M) : WA G p l e R s m args below meth c Q n k0 u0 pc L (.int y :: .int x :: st) M := by
  intro H locs ls cells slots h1 h2 h3 h4 h5 h6
  exact lv_ishr C.1 C.2.1 hd (k H locs ls cells slots h1 h2 h3 h4 h5 h6)
theorem a_iushr (C : aCtx G p s m args meth c cc n own) {x y v : Int32} (hd : decode cc pc = .ok (.iushr, 1)) (hv : (x.toUInt32 >>> (y.toUInt32 &&& Int32.toUInt32 31)).toInt32 = v) (k : WA G p l e R s m args below meth c Q n k0 u0 (pc + 1) L (.int v :: st) M) : WA G p l e R s m args below meth c Q n k0 u0 pc L (.int y :: .int x :: st) M := by
  intro H locs ls cells slots h1 h2 h3 h4 h5 h6
  exact lv_iushr C.1 C.2.1 hd hv (k H locs ls cells slots h1 h2 h3 h4 h5 h6)
theorem a_lshl (C : aCtx G p s m args meth c cc n own) {x v : Int64} {y : Int32} (hd : decode cc pc = .ok (.lshl, 1)) (hv : x <<< (y.toInt64 &&& 63) = v) (k : WA G p l e R s m args below meth c Q n k0 u0 (pc + 1) L (.long v :: st) M) : WA G p l e R s m args below meth c Q n k0 u0 pc L (.int y :: .long x :: st) M := by
  intro H locs ls cells slots h1 h2 h3 h4 h5 h6
  exact lv_lshl C.1 C.2.1 hd hv (k H locs ls cells slots h1 h2 h3 h4 h5 h6)
theorem a_i2l (C : aCtx G p s m args meth c cc n own) {x : Int32} (hd : decode cc pc = .ok (.i2l, 1))  (k : WA G p l e R s m args below meth c Q n k0 u0 (pc + 1) L (.long x.toInt64 :: st) M) : WA G p l e R s m args below meth c Q n k0 u0 pc L (.int x :: st) M := by
  intro H locs ls cells slots h1 h2 h3 h4 h5 h6
  exact lv_i2l C.1 C.2.1 hd rfl (k H locs ls cells slots h1 h2 h3 h4 h5 h6)
theorem a_i2c (C : aCtx G p s m args meth c cc n own) {x : Int32} (hd : decode cc pc = .ok (.i2c, 1))  (k : WA G p l e R s m args below meth c Q n k0 u0 (pc + 1) L (.int (x.toUInt32 % 65536).toInt32 :: st) M) : WA G p l e R s m args below meth c Q n k0 u0 pc L (.int x :: st) M := by
  intro H locs ls cells slots h1 h2 h3 h4 h5 h6
  exact lv_i2c C.1 C.2.1 hd rfl (k H locs ls cells slots h1 h2 h3 h4 h5 h6)
theorem a_i2d (C : aCtx G p s m args meth c cc n own) {x : Int32} (hd : decode cc pc = .ok (.i2d, 1))  (k : WA G p l e R s m args below meth c Q n k0 u0 (pc + 1) L (.double (FP.i2d x) :: st) M) : WA G p l e R s m args below meth c Q n k0 u0 pc L (.int x :: st) M := by
  intro H locs ls cells slots h1 h2 h3 h4 h5 h6
  exact lv_i2d C.1 C.2.1 hd (k H locs ls cells slots h1 h2 h3 h4 h5 h6)
theorem a_i2f (C : aCtx G p s m args meth c cc n own) {x : Int32} (hd : decode cc pc = .ok (.i2f, 1))  (k : WA G p l e R s m args below meth c Q n k0 u0 (pc + 1) L (.float (FP.i2f x) :: st) M) : WA G p l e R s m args below meth c Q n k0 u0 pc L (.int x :: st) M := by
  intro H locs ls cells slots h1 h2 h3 h4 h5 h6
  exact lv_i2f C.1 C.2.1 hd (k H locs ls cells slots h1 h2 h3 h4 h5 h6)
theorem a_f2d (C : aCtx G p s m args meth c cc n own) {x : UInt32} (hd : decode cc pc = .ok (.f2d, 1)) (hne : vf_n64 (FP.f2d x)) (k : WA G p l e R s m args below meth c Q n k0 u0 (pc + 1) L (.double (FP.f2d x) :: st) M) : WA G p l e R s m args below meth c Q n k0 u0 pc L (.float x :: st) M := by
  intro H locs ls cells slots h1 h2 h3 h4 h5 h6
  exact lv_f2d C.1 C.2.1 hd hne (k H locs ls cells slots h1 h2 h3 h4 h5 h6)
theorem a_d2l (C : aCtx G p s m args meth c cc n own) {x : UInt64} (hd : decode cc pc = .ok (.d2l, 1))  (k : WA G p l e R s m args below meth c Q n k0 u0 (pc + 1) L (.long (FP.d2l x) :: st) M) : WA G p l e R s m args below meth c Q n k0 u0 pc L (.double x :: st) M := by
  intro H locs ls cells slots h1 h2 h3 h4 h5 h6
  exact lv_d2l C.1 C.2.1 hd (k H locs ls cells slots h1 h2 h3 h4 h5 h6)
theorem a_d2i (C : aCtx G p s m args meth c cc n own) {x : UInt64} (hd : decode cc pc = .ok (.d2i, 1))  (k : WA G p l e R s m args below meth c Q n k0 u0 (pc + 1) L (.int (FP.d2i x) :: st) M) : WA G p l e R s m args below meth c Q n k0 u0 pc L (.double x :: st) M := by
  intro H locs ls cells slots h1 h2 h3 h4 h5 h6
  exact lv_d2i C.1 C.2.1 hd (k H locs ls cells slots h1 h2 h3 h4 h5 h6)
theorem a_dmul (C : aCtx G p s m args meth c cc n own) {x y : UInt64} (hd : decode cc pc = .ok (.dmul, 1)) (hne : vf_n64 (FP.dmul x y)) (k : WA G p l e R s m args below meth c Q n k0 u0 (pc + 1) L (.double (FP.dmul x y) :: st) M) : WA G p l e R s m args below meth c Q n k0 u0 pc L (.double y :: .double x :: st) M := by
  intro H locs ls cells slots h1 h2 h3 h4 h5 h6
  exact lv_dmul C.1 C.2.1 hd hne (k H locs ls cells slots h1 h2 h3 h4 h5 h6)
theorem a_ddiv (C : aCtx G p s m args meth c cc n own) {x y : UInt64} (hd : decode cc pc = .ok (.ddiv, 1)) (hne : vf_n64 (FP.ddiv x y)) (k : WA G p l e R s m args below meth c Q n k0 u0 (pc + 1) L (.double (FP.ddiv x y) :: st) M) : WA G p l e R s m args below meth c Q n k0 u0 pc L (.double y :: .double x :: st) M := by
  intro H locs ls cells slots h1 h2 h3 h4 h5 h6
  exact lv_ddiv C.1 C.2.1 hd hne (k H locs ls cells slots h1 h2 h3 h4 h5 h6)
theorem a_dsub (C : aCtx G p s m args meth c cc n own) {x y : UInt64} (hd : decode cc pc = .ok (.dsub, 1)) (hne : vf_n64 (FP.dsub x y)) (k : WA G p l e R s m args below meth c Q n k0 u0 (pc + 1) L (.double (FP.dsub x y) :: st) M) : WA G p l e R s m args below meth c Q n k0 u0 pc L (.double y :: .double x :: st) M := by
  intro H locs ls cells slots h1 h2 h3 h4 h5 h6
  exact lv_dsub C.1 C.2.1 hd hne (k H locs ls cells slots h1 h2 h3 h4 h5 h6)
theorem a_fdiv (C : aCtx G p s m args meth c cc n own) {x y : UInt32} (hd : decode cc pc = .ok (.fdiv, 1)) (hne : vf_n32 (FP.fdiv x y)) (k : WA G p l e R s m args below meth c Q n k0 u0 (pc + 1) L (.float (FP.fdiv x y) :: st) M) : WA G p l e R s m args below meth c Q n k0 u0 pc L (.float y :: .float x :: st) M := by
  intro H locs ls cells slots h1 h2 h3 h4 h5 h6
  exact lv_fdiv C.1 C.2.1 hd hne (k H locs ls cells slots h1 h2 h3 h4 h5 h6)
theorem a_dup (C : aCtx G p s m args meth c cc n own) {v : Value} (hd : decode cc pc = .ok (.dup, 1)) (hv : v.category = 1) (k : WA G p l e R s m args below meth c Q n k0 u0 (pc + 1) L (v :: v :: st) M) : WA G p l e R s m args below meth c Q n k0 u0 pc L (v :: st) M := by
  intro H locs ls cells slots h1 h2 h3 h4 h5 h6
  exact lv_dup C.1 C.2.1 hd (by rw [aV_cat]; exact hv) (k H locs ls cells slots h1 h2 h3 h4 h5 h6)
theorem a_pop (C : aCtx G p s m args meth c cc n own) {v : Value} (hd : decode cc pc = .ok (.pop, 1)) (hv : v.category = 1) (k : WA G p l e R s m args below meth c Q n k0 u0 (pc + 1) L st M) : WA G p l e R s m args below meth c Q n k0 u0 pc L (v :: st) M := by
  intro H locs ls cells slots h1 h2 h3 h4 h5 h6
  exact lv_pop C.1 C.2.1 hd (by rw [aV_cat]; exact hv) (k H locs ls cells slots h1 h2 h3 h4 h5 h6)
theorem a_dup2 (C : aCtx G p s m args meth c cc n own) {v w : Value} (hd : decode cc pc = .ok (.dup2, 1)) (hv : v.category = 1) (hw : w.category = 1) (k : WA G p l e R s m args below meth c Q n k0 u0 (pc + 1) L (v :: w :: v :: w :: st) M) : WA G p l e R s m args below meth c Q n k0 u0 pc L (v :: w :: st) M := by
  intro H locs ls cells slots h1 h2 h3 h4 h5 h6
  exact lv_dup2_11 C.1 C.2.1 hd (by rw [aV_cat]; exact hv) (by rw [aV_cat]; exact hw) (k H locs ls cells slots h1 h2 h3 h4 h5 h6)
theorem a_lcmp (C : aCtx G p s m args meth c cc n own) {x y : Int64} (hd : decode cc pc = .ok (.lcmp, 1))  (k : WA G p l e R s m args below meth c Q n k0 u0 (pc + 1) L (.int (lg_cmp x y) :: st) M) : WA G p l e R s m args below meth c Q n k0 u0 pc L (.long y :: .long x :: st) M := by
  intro H locs ls cells slots h1 h2 h3 h4 h5 h6
  exact W.lcmp C.1 C.2.1 hd (k H locs ls cells slots h1 h2 h3 h4 h5 h6)
theorem a_dcmp (C : aCtx G p s m args meth c cc n own) {x y : UInt64} {op : CmpOp} (hd : decode cc pc = .ok (.dcmp op, 1))  (k : WA G p l e R s m args below meth c Q n k0 u0 (pc + 1) L (.int (Op.cmpValue (FP.dcmp x y) op) :: st) M) : WA G p l e R s m args below meth c Q n k0 u0 pc L (.double y :: .double x :: st) M := by
  intro H locs ls cells slots h1 h2 h3 h4 h5 h6
  exact lv_dcmp C.1 C.2.1 hd (k H locs ls cells slots h1 h2 h3 h4 h5 h6)
theorem a_fcmp (C : aCtx G p s m args meth c cc n own) {x y : UInt32} {op : CmpOp} (hd : decode cc pc = .ok (.fcmp op, 1))  (k : WA G p l e R s m args below meth c Q n k0 u0 (pc + 1) L (.int (Op.cmpValue (FP.fcmp x y) op) :: st) M) : WA G p l e R s m args below meth c Q n k0 u0 pc L (.float y :: .float x :: st) M := by
  intro H locs ls cells slots h1 h2 h3 h4 h5 h6
  exact lv_fcmp C.1 C.2.1 hd (k H locs ls cells slots h1 h2 h3 h4 h5 h6)
theorem a_dconst0 (C : aCtx G p s m args meth c cc n own)  (hd : decode cc pc = .ok (.dconst 0, 1))  (k : WA G p l e R s m args below meth c Q n k0 u0 (pc + 1) L (.double FP.dconst0 :: st) M) : WA G p l e R s m args below meth c Q n k0 u0 pc L st M := by
  intro H locs ls cells slots h1 h2 h3 h4 h5 h6
  exact lv_dconst0 C.1 C.2.1 hd (k H locs ls cells slots h1 h2 h3 h4 h5 h6)
theorem a_dconst1 (C : aCtx G p s m args meth c cc n own)  (hd : decode cc pc = .ok (.dconst 1, 1))  (k : WA G p l e R s m args below meth c Q n k0 u0 (pc + 1) L (.double FP.dconst1 :: st) M) : WA G p l e R s m args below meth c Q n k0 u0 pc L st M := by
  intro H locs ls cells slots h1 h2 h3 h4 h5 h6
  exact lv_dconst1 C.1 C.2.1 hd (k H locs ls cells slots h1 h2 h3 h4 h5 h6)
theorem a_fconst0 (C : aCtx G p s m args meth c cc n own)  (hd : decode cc pc = .ok (.fconst 0, 1))  (k : WA G p l e R s m args below meth c Q n k0 u0 (pc + 1) L (.float FP.fconst0 :: st) M) : WA G p l e R s m args below meth c Q n k0 u0 pc L st M := by
  intro H locs ls cells slots h1 h2 h3 h4 h5 h6
  exact lv_fconst0 C.1 C.2.1 hd (k H locs ls cells slots h1 h2 h3 h4 h5 h6)
theorem a_ldcl (C : aCtx G p s m args meth c cc n own) {index : Nat} {v : Int64} (hd : decode cc pc = .ok (.ldc2_w index, 3)) (hw : Cond.constantLong own index v ∈ GW) (k : WA G p l e R s m args below meth c Q n k0 u0 (pc + 3) L (.long v :: st) M) : WA G p l e R s m args below meth c Q n k0 u0 pc L st M := by
  intro H locs ls cells slots h1 h2 h3 h4 h5 h6
  exact lv_ldc2 C.1 C.2.1 C.2.2.2.1 (C.2.2.2.2.1 _ hw) hd (k H locs ls cells slots h1 h2 h3 h4 h5 h6)
theorem a_ldcd (C : aCtx G p s m args meth c cc n own) {index : Nat} {v : UInt64} (hd : decode cc pc = .ok (.ldc2_w index, 3)) (hw : Cond.constantDouble own index v ∈ GW) (k : WA G p l e R s m args below meth c Q n k0 u0 (pc + 3) L (.double v :: st) M) : WA G p l e R s m args below meth c Q n k0 u0 pc L st M := by
  intro H locs ls cells slots h1 h2 h3 h4 h5 h6
  exact lv_ldc2d C.1 C.2.1 C.2.2.2.1 (C.2.2.2.2.1 _ hw) hd (k H locs ls cells slots h1 h2 h3 h4 h5 h6)
theorem a_ldcw (C : aCtx G p s m args meth c cc n own) {index : Nat} {v : Int32} (hd : decode cc pc = .ok (.ldc_w index, 3)) (hw : Cond.constant own index v ∈ GW) (k : WA G p l e R s m args below meth c Q n k0 u0 (pc + 3) L (.int v :: st) M) : WA G p l e R s m args below meth c Q n k0 u0 pc L st M := by
  intro H locs ls cells slots h1 h2 h3 h4 h5 h6
  exact lv_ldcw C.1 C.2.1 C.2.2.2.1 (C.2.2.2.2.1 _ hw) hd (k H locs ls cells slots h1 h2 h3 h4 h5 h6)
theorem a_ldc (C : aCtx G p s m args meth c cc n own) {index : Nat} {v : Int32} (hd : decode cc pc = .ok (.ldc index, 2)) (hw : Cond.constant own index v ∈ GW) (k : WA G p l e R s m args below meth c Q n k0 u0 (pc + 2) L (.int v :: st) M) : WA G p l e R s m args below meth c Q n k0 u0 pc L st M := by
  intro H locs ls cells slots h1 h2 h3 h4 h5 h6
  exact lv_ldc C.1 C.2.1 C.2.2.2.1 (C.2.2.2.2.1 _ hw) hd (k H locs ls cells slots h1 h2 h3 h4 h5 h6)
theorem a_if_eq (C : aCtx G p s m args meth c cc n own) {x : Int32} {off : Int} {tgt : Nat} (hd : decode cc pc = .ok (.ifCond .eq off, 3)) (ht : (pc : Int) + off = (tgt : Int)) (kt : x = 0 → WA G p l e R s m args below meth c Q n k0 u0 tgt L st M) (kf : ¬ x = 0 → WA G p l e R s m args below meth c Q n k0 u0 (pc + 3) L st M) : WA G p l e R s m args below meth c Q n k0 u0 pc L (.int x :: st) M := by
  intro H locs ls cells slots h1 h2 h3 h4 h5 h6
  exact lv_if_eq C.1 C.2.1 hd ht (fun q => kt q H locs ls cells slots h1 h2 h3 h4 h5 h6) (fun q => kf q H locs ls cells slots h1 h2 h3 h4 h5 h6)
theorem a_icmp_eq (C : aCtx G p s m args meth c cc n own) {x y : Int32} {off : Int} {tgt : Nat} (hd : decode cc pc = .ok (.if_icmp .eq off, 3)) (ht : (pc : Int) + off = (tgt : Int)) (kt : x = y → WA G p l e R s m args below meth c Q n k0 u0 tgt L st M) (kf : ¬ x = y → WA G p l e R s m args below meth c Q n k0 u0 (pc + 3) L st M) : WA G p l e R s m args below meth c Q n k0 u0 pc L (.int y :: .int x :: st) M := by
  intro H locs ls cells slots h1 h2 h3 h4 h5 h6
  exact lv_icmp_eq C.1 C.2.1 hd ht (fun q => kt q H locs ls cells slots h1 h2 h3 h4 h5 h6) (fun q => kf q H locs ls cells slots h1 h2 h3 h4 h5 h6)
theorem a_if_ne (C : aCtx G p s m args meth c cc n own) {x : Int32} {off : Int} {tgt : Nat} (hd : decode cc pc = .ok (.ifCond .ne off, 3)) (ht : (pc : Int) + off = (tgt : Int)) (kt : ¬ x = 0 → WA G p l e R s m args below meth c Q n k0 u0 tgt L st M) (kf : x = 0 → WA G p l e R s m args below meth c Q n k0 u0 (pc + 3) L st M) : WA G p l e R s m args below meth c Q n k0 u0 pc L (.int x :: st) M := by
  intro H locs ls cells slots h1 h2 h3 h4 h5 h6
  exact lv_if_ne C.1 C.2.1 hd ht (fun q => kt q H locs ls cells slots h1 h2 h3 h4 h5 h6) (fun q => kf q H locs ls cells slots h1 h2 h3 h4 h5 h6)
theorem a_icmp_ne (C : aCtx G p s m args meth c cc n own) {x y : Int32} {off : Int} {tgt : Nat} (hd : decode cc pc = .ok (.if_icmp .ne off, 3)) (ht : (pc : Int) + off = (tgt : Int)) (kt : ¬ x = y → WA G p l e R s m args below meth c Q n k0 u0 tgt L st M) (kf : x = y → WA G p l e R s m args below meth c Q n k0 u0 (pc + 3) L st M) : WA G p l e R s m args below meth c Q n k0 u0 pc L (.int y :: .int x :: st) M := by
  intro H locs ls cells slots h1 h2 h3 h4 h5 h6
  exact lv_icmp_ne C.1 C.2.1 hd ht (fun q => kt q H locs ls cells slots h1 h2 h3 h4 h5 h6) (fun q => kf q H locs ls cells slots h1 h2 h3 h4 h5 h6)
theorem a_if_lt (C : aCtx G p s m args meth c cc n own) {x : Int32} {off : Int} {tgt : Nat} (hd : decode cc pc = .ok (.ifCond .lt off, 3)) (ht : (pc : Int) + off = (tgt : Int)) (kt : x < 0 → WA G p l e R s m args below meth c Q n k0 u0 tgt L st M) (kf : ¬ x < 0 → WA G p l e R s m args below meth c Q n k0 u0 (pc + 3) L st M) : WA G p l e R s m args below meth c Q n k0 u0 pc L (.int x :: st) M := by
  intro H locs ls cells slots h1 h2 h3 h4 h5 h6
  exact lv_if_lt C.1 C.2.1 hd ht (fun q => kt q H locs ls cells slots h1 h2 h3 h4 h5 h6) (fun q => kf q H locs ls cells slots h1 h2 h3 h4 h5 h6)
theorem a_icmp_lt (C : aCtx G p s m args meth c cc n own) {x y : Int32} {off : Int} {tgt : Nat} (hd : decode cc pc = .ok (.if_icmp .lt off, 3)) (ht : (pc : Int) + off = (tgt : Int)) (kt : x < y → WA G p l e R s m args below meth c Q n k0 u0 tgt L st M) (kf : ¬ x < y → WA G p l e R s m args below meth c Q n k0 u0 (pc + 3) L st M) : WA G p l e R s m args below meth c Q n k0 u0 pc L (.int y :: .int x :: st) M := by
  intro H locs ls cells slots h1 h2 h3 h4 h5 h6
  exact lv_icmp_lt C.1 C.2.1 hd ht (fun q => kt q H locs ls cells slots h1 h2 h3 h4 h5 h6) (fun q => kf q H locs ls cells slots h1 h2 h3 h4 h5 h6)
theorem a_if_ge (C : aCtx G p s m args meth c cc n own) {x : Int32} {off : Int} {tgt : Nat} (hd : decode cc pc = .ok (.ifCond .ge off, 3)) (ht : (pc : Int) + off = (tgt : Int)) (kt : 0 ≤ x → WA G p l e R s m args below meth c Q n k0 u0 tgt L st M) (kf : ¬ 0 ≤ x → WA G p l e R s m args below meth c Q n k0 u0 (pc + 3) L st M) : WA G p l e R s m args below meth c Q n k0 u0 pc L (.int x :: st) M := by
  intro H locs ls cells slots h1 h2 h3 h4 h5 h6
  exact lv_if_ge C.1 C.2.1 hd ht (fun q => kt q H locs ls cells slots h1 h2 h3 h4 h5 h6) (fun q => kf q H locs ls cells slots h1 h2 h3 h4 h5 h6)
theorem a_icmp_ge (C : aCtx G p s m args meth c cc n own) {x y : Int32} {off : Int} {tgt : Nat} (hd : decode cc pc = .ok (.if_icmp .ge off, 3)) (ht : (pc : Int) + off = (tgt : Int)) (kt : y ≤ x → WA G p l e R s m args below meth c Q n k0 u0 tgt L st M) (kf : ¬ y ≤ x → WA G p l e R s m args below meth c Q n k0 u0 (pc + 3) L st M) : WA G p l e R s m args below meth c Q n k0 u0 pc L (.int y :: .int x :: st) M := by
  intro H locs ls cells slots h1 h2 h3 h4 h5 h6
  exact lv_icmp_ge C.1 C.2.1 hd ht (fun q => kt q H locs ls cells slots h1 h2 h3 h4 h5 h6) (fun q => kf q H locs ls cells slots h1 h2 h3 h4 h5 h6)
theorem a_if_gt (C : aCtx G p s m args meth c cc n own) {x : Int32} {off : Int} {tgt : Nat} (hd : decode cc pc = .ok (.ifCond .gt off, 3)) (ht : (pc : Int) + off = (tgt : Int)) (kt : 0 < x → WA G p l e R s m args below meth c Q n k0 u0 tgt L st M) (kf : ¬ 0 < x → WA G p l e R s m args below meth c Q n k0 u0 (pc + 3) L st M) : WA G p l e R s m args below meth c Q n k0 u0 pc L (.int x :: st) M := by
  intro H locs ls cells slots h1 h2 h3 h4 h5 h6
  exact lv_if_gt C.1 C.2.1 hd ht (fun q => kt q H locs ls cells slots h1 h2 h3 h4 h5 h6) (fun q => kf q H locs ls cells slots h1 h2 h3 h4 h5 h6)
theorem a_icmp_gt (C : aCtx G p s m args meth c cc n own) {x y : Int32} {off : Int} {tgt : Nat} (hd : decode cc pc = .ok (.if_icmp .gt off, 3)) (ht : (pc : Int) + off = (tgt : Int)) (kt : y < x → WA G p l e R s m args below meth c Q n k0 u0 tgt L st M) (kf : ¬ y < x → WA G p l e R s m args below meth c Q n k0 u0 (pc + 3) L st M) : WA G p l e R s m args below meth c Q n k0 u0 pc L (.int y :: .int x :: st) M := by
  intro H locs ls cells slots h1 h2 h3 h4 h5 h6
  exact lv_icmp_gt C.1 C.2.1 hd ht (fun q => kt q H locs ls cells slots h1 h2 h3 h4 h5 h6) (fun q => kf q H locs ls cells slots h1 h2 h3 h4 h5 h6)
theorem a_if_le (C : aCtx G p s m args meth c cc n own) {x : Int32} {off : Int} {tgt : Nat} (hd : decode cc pc = .ok (.ifCond .le off, 3)) (ht : (pc : Int) + off = (tgt : Int)) (kt : x ≤ 0 → WA G p l e R s m args below meth c Q n k0 u0 tgt L st M) (kf : ¬ x ≤ 0 → WA G p l e R s m args below meth c Q n k0 u0 (pc + 3) L st M) : WA G p l e R s m args below meth c Q n k0 u0 pc L (.int x :: st) M := by
  intro H locs ls cells slots h1 h2 h3 h4 h5 h6
  exact lv_if_le C.1 C.2.1 hd ht (fun q => kt q H locs ls cells slots h1 h2 h3 h4 h5 h6) (fun q => kf q H locs ls cells slots h1 h2 h3 h4 h5 h6)
theorem a_icmp_le (C : aCtx G p s m args meth c cc n own) {x y : Int32} {off : Int} {tgt : Nat} (hd : decode cc pc = .ok (.if_icmp .le off, 3)) (ht : (pc : Int) + off = (tgt : Int)) (kt : x ≤ y → WA G p l e R s m args below meth c Q n k0 u0 tgt L st M) (kf : ¬ x ≤ y → WA G p l e R s m args below meth c Q n k0 u0 (pc + 3) L st M) : WA G p l e R s m args below meth c Q n k0 u0 pc L (.int y :: .int x :: st) M := by
  intro H locs ls cells slots h1 h2 h3 h4 h5 h6
  exact lv_icmp_le C.1 C.2.1 hd ht (fun q => kt q H locs ls cells slots h1 h2 h3 h4 h5 h6) (fun q => kf q H locs ls cells slots h1 h2 h3 h4 h5 h6)
theorem a_goto (C : aCtx G p s m args meth c cc n own) {off : Int} {tgt : Nat} (hd : decode cc pc = .ok (.goto off, 3)) (ht : (pc : Int) + off = (tgt : Int)) (k : WA G p l e R s m args below meth c Q n k0 u0 tgt L st M) : WA G p l e R s m args below meth c Q n k0 u0 pc L st M := by
  intro H locs ls cells slots h1 h2 h3 h4 h5 h6
  exact lv_goto C.1 C.2.1 hd ht (k H locs ls cells slots h1 h2 h3 h4 h5 h6)
theorem a_tableIn (C : aCtx G p s m args meth c cc n own) {dflt lo hi : Int} {offs : Array Int} {len : Nat} {x : Int32} {off : Int} {tgt : Nat} (hd : decode cc pc = .ok (.tableswitch dflt lo hi offs, len)) (g1 : ¬ x.toInt < lo) (g2 : ¬ hi < x.toInt) (ho : offs[(x.toInt - lo).toNat]? = some off) (ht : (pc : Int) + off = (tgt : Int)) (k : WA G p l e R s m args below meth c Q n k0 u0 tgt L st M) : WA G p l e R s m args below meth c Q n k0 u0 pc L (.int x :: st) M := by
  intro H locs ls cells slots h1 h2 h3 h4 h5 h6
  exact lv_tableIn C.1 C.2.1 hd g1 g2 ho ht (k H locs ls cells slots h1 h2 h3 h4 h5 h6)
theorem a_tableOut (C : aCtx G p s m args meth c cc n own) {dflt lo hi : Int} {offs : Array Int} {len : Nat} {x : Int32} {tgt : Nat} (hd : decode cc pc = .ok (.tableswitch dflt lo hi offs, len)) (g1 : x.toInt < lo ∨ hi < x.toInt) (ht : (pc : Int) + dflt = (tgt : Int)) (k : WA G p l e R s m args below meth c Q n k0 u0 tgt L st M) : WA G p l e R s m args below meth c Q n k0 u0 pc L (.int x :: st) M := by
  intro H locs ls cells slots h1 h2 h3 h4 h5 h6
  exact lv_tableOut C.1 C.2.1 hd g1 ht (k H locs ls cells slots h1 h2 h3 h4 h5 h6)
theorem a_lookup (C : aCtx G p s m args meth c cc n own) {dflt : Int} {ps : Array (Int × Int)} {len : Nat} {x : Int32} {off : Int} {tgt : Nat} (hd : decode cc pc = .ok (.lookupswitch dflt ps, len)) (hp : (ps.toList.zip (ps.toList.drop 1)).all (fun (a, next) => a.1 < next.1) = true) (ho : Op.lookupswitch.offset ps.toList dflt x.toInt = off) (ht : (pc : Int) + off = (tgt : Int)) (k : WA G p l e R s m args below meth c Q n k0 u0 tgt L st M) : WA G p l e R s m args below meth c Q n k0 u0 pc L (.int x :: st) M := by
  intro H locs ls cells slots h1 h2 h3 h4 h5 h6
  exact lv_lookup C.1 C.2.1 hd hp ho ht (k H locs ls cells slots h1 h2 h3 h4 h5 h6)
/-- a join: the same place, the same heap, one state behind both branches -/
theorem a_eq {L' : aL} {st' : List Value} {M' : aH} (hL : L = L') (hs : st = st') (hM : M = M') (k : WA G p l e R s m args below meth c Q n k0 u0 pc L' st' M') : WA G p l e R s m args below meth c Q n k0 u0 pc L st M := by
  subst hL; subst hs; subst hM; exact k
/-! ### fields -/
/-- the place 'index' of own's pool is the field k of the class ci -/
def aFl (own : String) (index ci k : Nat) : Prop := ∃ (D9 : String) (T : u_T) (N : Nat), vwCl[ci]? = some (D9, T, N) ∧ k < N ∧ Cond.fieldLink own index (T k).1 (T k).2.1 (T k).2.2.1 ∈ GW ∧ (T k).2.2.2 = false
/-- .. a final one -/
def aFf (own : String) (index ci k : Nat) : Prop := ∃ (D9 : String) (T : u_T) (N : Nat), vwCl[ci]? = some (D9, T, N) ∧ k < N ∧ Cond.fieldLink own index (T k).1 (T k).2.1 (T k).2.2.1 ∈ GW ∧ (T k).2.2.2 = true ∧ (T k).1 = D9
theorem a_getf0 (C : aCtx G p s m args meth c cc n own) {index a ci f : Nat} {fs : List Value} {v : Value} (hF : ∃ (D9 : String) (T : u_T) (N : Nat), vwCl[ci]? = some (D9, T, N) ∧ f < N ∧ Cond.fieldLink own index (T f).1 (T f).2.1 (T f).2.2.1 ∈ GW) (hd : decode cc pc = .ok (.getfield index, 3)) (ha : a < M.1) (ha2 : a < 1000) (hM : M.2.2.2 a = .inr (ci, fs)) (hv : fs[f]? = some v) (k : WA G p l e R s m args below meth c Q n k0 u0 (pc + 3) L (v :: st) M) : WA G p l e R s m args below meth c Q n k0 u0 pc L (.ref a :: st) M := by
  intro H locs ls cells slots h1 h2 h3 h4 h5 h6
  obtain ⟨D9, T, N, c1, c2, c3⟩ := hF
  have hin := (cl_ok c1).1
  have he : (aW G M)[a]? = some (aAd G a, .inr (ci, fs.map (aV G))) := by rw [aAd_lt ha2]; exact aW_at ha hM
  exact va_get (D := G.1) (T := T) (N := N) (ci := ci) (ref := (T f).1) C.1 C.2.1 C.2.2.2.2.1 hin C.2.2.2.1 C.2.2.2.2.2.1.1 h2 a he c1 f c2 (C.2.2.2.2.1 _ c3) (fun _ h9 => h9) (v := aV G v) (by rw [List.getElem?_map, hv]; rfl) hd (k H locs ls cells slots h1 h2 h3 h4 h5 h6)
theorem a_getf (C : aCtx G p s m args meth c cc n own) {index a ci f : Nat} {fs : List Value} {v : Value} (hF : aFl own index ci f) (hd : decode cc pc = .ok (.getfield index, 3)) (ha : a < M.1) (ha2 : a < 1000) (hM : M.2.2.2 a = .inr (ci, fs)) (hv : fs[f]? = some v) (k : WA G p l e R s m args below meth c Q n k0 u0 (pc + 3) L (v :: st) M) : WA G p l e R s m args below meth c Q n k0 u0 pc L (.ref a :: st) M :=
  a_getf0 C (by obtain ⟨D9, T, N, c1, c2, c3, -⟩ := hF; exact ⟨D9, T, N, c1, c2, c3⟩) hd ha ha2 hM hv k
theorem a_getfF (C : aCtx G p s m args meth c cc n own) {index a ci f : Nat} {fs : List Value} {v : Value} (hF : aFf own index ci f) (hd : decode cc pc = .ok (.getfield index, 3)) (ha : a < M.1) (ha2 : a < 1000) (hM : M.2.2.2 a = .inr (ci, fs)) (hv : fs[f]? = some v) (k : WA G p l e R s m args below meth c Q n k0 u0 (pc + 3) L (v :: st) M) : WA G p l e R s m args below meth c Q n k0 u0 pc L (.ref a :: st) M :=
  a_getf0 C (by obtain ⟨D9, T, N, c1, c2, c3, -⟩ := hF; exact ⟨D9, T, N, c1, c2, c3⟩) hd ha ha2 hM hv k
theorem aV_narrow {G : aG} {ty : FieldType} {v : Value} (h : narrow ty v = v) : narrow ty (aV G v) = aV G v := by
  cases v with
  | ref a => cases ty <;> rfl
  | _ => exact h
theorem aV_fits {G : aG} {ty : FieldType} {v : Value} (h : fits ty v = true) : fits ty (aV G v) = true := by
  cases v with
  | ref a => cases ty <;> first | exact h | (simp [fits] at h) | rfl
  | _ => exact h
/-- a field written: the rest of the row, the same for plain and final fields -/
theorem a_put9 {G : aG} {M : aH} {H H1 : Heap} {a ci f N : Nat} {C9 : String} {T : u_T} {cell : Cell} {fs : List Value} {v : Value} (h2 : va_P G.1 vwCl (aW G M) H) (ha : a < M.1) (ha2 : a < 1000) (hM : M.2.2.2 a = .inr (ci, fs)) (c1 : vwCl[ci]? = some (C9, T, N)) (hk : f < N) (hl : f < fs.length)
    (hap : ∀ x y, x < N → y < N → x ≠ y → (G.1.2 ci) x ≠ (G.1.2 ci) y) (q2 : cell.cls = G.1.1 ci) (q3 : cell.vm = .none) (q4 : ∀ k, k < N → cell.slots[G.1.2 ci k]? = some (vp_V (fs.map (aV G)) k)) (e1 : H1[aAd G a]? = some (cell.setSlot (G.1.2 ci f) (aV G v))) (e3 : ∀ q, q ≠ aAd G a → H1[q]? = H[q]?) :
    va_P G.1 vwCl (aW G (aPut M a (.inr (ci, fs.set f v)))) H1 := by
  have he : (aW G M)[a]? = some (aAd G a, .inr (ci, fs.map (aV G))) := by rw [aAd_lt ha2]; exact aW_at ha hM
  have hl' : f < (fs.map (aV G)).length := by rw [List.length_map]; exact hl
  have h := h2.set (aW_D G M) he (e := .inr (ci, (fs.map (aV G)).set f (aV G v))) ⟨_, c1, t_OB.to (V := updV (vp_V (fs.map (aV G))) f (aV G v)) ⟨_, e1, q2, q3, t_set q4 hap hk (aV G v)⟩ (fun j _ => vp_updV_set hl' (aV G v) j)⟩ e3
  have e9 : (aW G M).set a (aAd G a, .inr (ci, (fs.map (aV G)).set f (aV G v))) = aW G (aPut M a (.inr (ci, fs.set f v))) := by
    rw [aAd_lt ha2, ← aW_set]
    show _ = (aW G M).set a (aX G a, .inr (ci, (fs.set f v).map (aV G)))
    rw [List.map_set]
  rw [e9] at h
  exact h
theorem a_putf (C : aCtx G p s m args meth c cc n own) {index a ci f : Nat} {fs : List Value} {v : Value} (hF : aFl own index ci f) (hd : decode cc pc = .ok (.putfield index, 3)) (ha : a < M.1) (ha2 : a < 1000) (hM : M.2.2.2 a = .inr (ci, fs)) (hn : narrow (tyC ci f) v = v) (hfit : fits (tyC ci f) v = true) (hl : f < fs.length) (k : WA G p l e R s m args below meth c Q n k0 u0 (pc + 3) L st (aPut M a (.inr (ci, fs.set f v)))) : WA G p l e R s m args below meth c Q n k0 u0 pc L (v :: .ref a :: st) M := by
  intro H locs ls cells slots h1 h2 h3 h4 h5 h6
  obtain ⟨D9, T, N, c1, c2, c3, c4⟩ := hF
  obtain ⟨hin, hty, hnm⟩ := cl_ok c1
  have he : (aW G M)[a]? = some (aAd G a, .inr (ci, fs.map (aV G))) := by rw [aAd_lt ha2]; exact aW_at ha hM
  have hts := C.2.2.2.2.1
  have hK := C.2.2.2.2.2.1.1
  have hap := va_apart (own := own) hts hin (tyC ci) hty hnm hK c1
  obtain ⟨r, g1, cell, q1, q2, q3, q4⟩ := h2 a _ he
  have hr : r = (D9, T, N) := Option.some.inj (g1.symm.trans c1)
  subst hr
  obtain ⟨hS, hfc, kC, hkC, hkind⟩ := hK.1 ci _ c1
  obtain ⟨cf, kf, fi, fd, hi, hsl⟩ := hS f c2
  have hlay := hts _ (hin _ (u_in_lay c2))
  unfold u_lay at hlay
  rw [if_neg (by rw [c4]; decide)] at hlay
  have hst := (u_facts hfc hkC (u_lays hts hin c2) hi).1
  have g6 := u_store hfc hkC hkind hlay hi (hty f c2) (aV_narrow (G := G) hn) (aV_fits (G := G) hfit)
  refine W.putK C.1 C.2.1 (f := fd) ⟨C.2.2.2.1, hts _ c3, ⟨_, _, _, hi⟩, hst⟩ (by rw [q2]; exact g6) q1 q3 (by rw [hsl]; exact k2_hasslot (q4 f c2)) rfl rfl hd fun H1 e1 e2 e3 => ?_
  rw [hsl] at e1
  exact k H1 _ ls cells slots h1 (a_put9 h2 ha ha2 hM c1 c2 hl hap q2 q3 q4 e1 e3) (e2.trans h3) (h4.put e2 e3 (by show G.2.1 ≤ _; rw [aAd_lt ha2]; exact aX_le _ _)) h5 h6
theorem a_putF (C : aCtx G p s m args meth c cc n own) {index a ci f : Nat} {fs : List Value} {v : Value} (hF : aFf own index ci f) (hin2 : meth.name = "<init>") (hcls : ∀ (D9 : String) (T : u_T) (N : Nat), vwCl[ci]? = some (D9, T, N) → D9 = own) (hd : decode cc pc = .ok (.putfield index, 3)) (ha : a < M.1) (ha2 : a < 1000) (hM : M.2.2.2 a = .inr (ci, fs)) (hn : narrow (tyC ci f) v = v) (hfit : fits (tyC ci f) v = true) (hl : f < fs.length) (k : WA G p l e R s m args below meth c Q n k0 u0 (pc + 3) L st (aPut M a (.inr (ci, fs.set f v)))) : WA G p l e R s m args below meth c Q n k0 u0 pc L (v :: .ref a :: st) M := by
  intro H locs ls cells slots h1 h2 h3 h4 h5 h6
  obtain ⟨D9, T, N, c1, c2, c3, c4, c5⟩ := hF
  have c6 := hcls _ _ _ c1
  obtain ⟨hin, hty, hnm⟩ := cl_ok c1
  have he : (aW G M)[a]? = some (aAd G a, .inr (ci, fs.map (aV G))) := by rw [aAd_lt ha2]; exact aW_at ha hM
  have hts := C.2.2.2.2.1
  have hK := C.2.2.2.2.2.1.1
  have hap := va_apart (own := own) hts hin (tyC ci) hty hnm hK c1
  obtain ⟨r, g1, cell, q1, q2, q3, q4⟩ := h2 a _ he
  have hr : r = (D9, T, N) := Option.some.inj (g1.symm.trans c1)
  subst hr
  obtain ⟨hS, hfc, kC, hkC, hkind⟩ := hK.1 ci _ c1
  obtain ⟨cf, kf, fi, fd, hi, hsl⟩ := hS f c2
  have hlay := hts _ (hin _ (u_in_lay c2))
  unfold u_lay at hlay
  rw [if_pos c4] at hlay
  have hst := (u_facts hfc hkC (u_lays hts hin c2) hi).1
  have hcf : m.cls = cf := by
    obtain ⟨_, _, c', _, _, _, -, -, hf', -, -, -, hown2, -⟩ := Cond.laysFinal_spec hlay
    have e1 : c' = cf := by have := hi.symm.trans hf'; simp at this; exact this.1.symm
    rw [c5] at hown2
    have e2 : s.vm.findClass D9 = some m.cls := by rw [c6]; exact C.2.2.2.1
    rw [← e1]; exact Option.some.inj (e2.symm.trans hown2)
  have g6 := u_fits hfc hkC hkind (Or.inr hlay) hi (hty f c2) (aV_narrow (G := G) hn) (aV_fits (G := G) hfit)
  refine W.putFinK C.1 C.2.1 C.2.2.2.1 (hts _ c3) hi hst hcf hin2 (by rw [q2]; exact g6) q1 q3 (by rw [hsl]; exact k2_hasslot (q4 f c2)) rfl rfl hd fun H1 e1 e2 e3 => ?_
  rw [hsl] at e1
  exact k H1 _ ls cells slots h1 (a_put9 h2 ha ha2 hM c1 c2 hl hap q2 q3 q4 e1 e3) (e2.trans h3) (h4.put e2 e3 (by show G.2.1 ≤ _; rw [aAd_lt ha2]; exact aX_le _ _)) h5 h6
/-! ### arrays -/
theorem nI_in9 {j len : Nat} (hj : j < len) (hl : len < 2 ^ 31) : vp_in (nI j) len := vp_in_nI hj hl

theorem a_iald (C : aCtx G p s m args meth c cc n own) {a len j : Nat} {f : Nat → Int32} {i : Int32} (hd : decode cc pc = .ok (.iaload, 1)) (ha : a < M.1) (ha2 : a < 1000) (hM : M.2.2.2 a = .inl (8, (len, .inl f))) (hi : i = nI j) (hj : j < len) (hlen : len < 2 ^ 31) (k : WA G p l e R s m args below meth c Q n k0 u0 (pc + 1) L (.int (f j) :: st) M) : WA G p l e R s m args below meth c Q n k0 u0 pc L (.int i :: .ref a :: st) M := by
  intro H locs ls cells slots h1 h2 h3 h4 h5 h6
  have he : (aW G M)[a]? = some (aAd G a, .inl (G.2.2.1 8, (len, .inl f))) := by rw [aAd_lt ha2]; exact aW_at ha hM
  subst hi
  refine va_iald (D := G.1) C.1 C.2.1 C.2.2.2.2.2.1.1 h2 a 0 he rfl (vp_in_nI hj hlen) hd ?_
  rw [nI_clamp (by omega)]
  exact (k H locs ls cells slots h1 h2 h3 h4 h5 h6)
theorem a_iast (C : aCtx G p s m args meth c cc n own) {a len j : Nat} {f : Nat → Int32} {i : Int32} {x : Int32} (hd : decode cc pc = .ok (.iastore, 1)) (ha : a < M.1) (ha2 : a < 1000) (hM : M.2.2.2 a = .inl (8, (len, .inl f))) (hi : i = nI j) (hj : j < len) (hlen : len < 2 ^ 31)  (k : WA G p l e R s m args below meth c Q n k0 u0 (pc + 1) L st (aPut M a (.inl (8, (len, .inl (upd f j x)))))) : WA G p l e R s m args below meth c Q n k0 u0 pc L (.int x :: .int i :: .ref a :: st) M := by
  intro H locs ls cells slots h1 h2 h3 h4 h5 h6
  have he : (aW G M)[a]? = some (aAd G a, .inl (G.2.2.1 8, (len, .inl f))) := by rw [aAd_lt ha2]; exact aW_at ha hM
  subst hi
  refine W.iast C.1 C.2.1 (h2 a _ he) ((C.2.2.2.2.2.1.1.2 0 _ rfl).1 len (fun j => .int (f j))) (fun q => by cases q) (by show ¬ (nI j < 0 ∨ (arrV _ _ _).slots.size ≤ _); rw [arrV_size]; exact vp_in_nI hj hlen) rfl rfl hd fun H1 e z oq => ?_
  rw [nI_clamp (by omega)] at e ⊢
  refine k H1 _ ls cells slots h1 ?_ (z.trans h3) (h4.put z oq (by show G.2.1 ≤ _; rw [aAd_lt ha2]; exact aX_le _ _)) h5 h6
  have h := h2.set (aW_D G M) he (e := .inl (G.2.2.1 8, (len, .inl (upd f j x)))) (by
    show H1[aAd G a]? = some (vp_cell _ _)
    rw [e]
    rw [vp_cell_i, vp_cell_i, arrV_store]
    congr 2
    funext q
    by_cases hq : q = j
    · subst hq
      simp [updV, upd]
    · simp [updV, upd, hq]) oq
  rw [aAd_lt ha2] at h
  rw [← aW_set]
  exact h
theorem a_zald (C : aCtx G p s m args meth c cc n own) {a len j : Nat} {f : Nat → Int32} {i : Int32} (hd : decode cc pc = .ok (.baload, 1)) (ha : a < M.1) (ha2 : a < 1000) (hM : M.2.2.2 a = .inl (9, (len, .inl f))) (hi : i = nI j) (hj : j < len) (hlen : len < 2 ^ 31) (k : WA G p l e R s m args below meth c Q n k0 u0 (pc + 1) L (.int (f j) :: st) M) : WA G p l e R s m args below meth c Q n k0 u0 pc L (.int i :: .ref a :: st) M := by
  intro H locs ls cells slots h1 h2 h3 h4 h5 h6
  have he : (aW G M)[a]? = some (aAd G a, .inl (G.2.2.1 9, (len, .inl f))) := by rw [aAd_lt ha2]; exact aW_at ha hM
  subst hi
  refine va_zald (D := G.1) C.1 C.2.1 C.2.2.2.2.2.1.1 h2 a 1 he rfl (vp_in_nI hj hlen) hd ?_
  rw [nI_clamp (by omega)]
  exact (k H locs ls cells slots h1 h2 h3 h4 h5 h6)
theorem a_zast (C : aCtx G p s m args meth c cc n own) {a len j : Nat} {f : Nat → Int32} {i : Int32} {x : Int32} (hd : decode cc pc = .ok (.bastore, 1)) (ha : a < M.1) (ha2 : a < 1000) (hM : M.2.2.2 a = .inl (9, (len, .inl f))) (hi : i = nI j) (hj : j < len) (hlen : len < 2 ^ 31) (hn : narrow .boolean (.int x) = .int x) (k : WA G p l e R s m args below meth c Q n k0 u0 (pc + 1) L st (aPut M a (.inl (9, (len, .inl (upd f j x)))))) : WA G p l e R s m args below meth c Q n k0 u0 pc L (.int x :: .int i :: .ref a :: st) M := by
  intro H locs ls cells slots h1 h2 h3 h4 h5 h6
  have he : (aW G M)[a]? = some (aAd G a, .inl (G.2.2.1 9, (len, .inl f))) := by rw [aAd_lt ha2]; exact aW_at ha hM
  subst hi
  refine W.zast C.1 C.2.1 (h2 a _ he) ((C.2.2.2.2.2.1.1.2 1 _ rfl).1 len (fun j => .int (f j))) (fun q => by cases q) (by show ¬ (nI j < 0 ∨ (arrV _ _ _).slots.size ≤ _); rw [arrV_size]; exact vp_in_nI hj hlen) rfl rfl hd fun H1 e z oq => ?_
  rw [nI_clamp (by omega)] at e ⊢
  refine k H1 _ ls cells slots h1 ?_ (z.trans h3) (h4.put z oq (by show G.2.1 ≤ _; rw [aAd_lt ha2]; exact aX_le _ _)) h5 h6
  have h := h2.set (aW_D G M) he (e := .inl (G.2.2.1 9, (len, .inl (upd f j x)))) (by
    show H1[aAd G a]? = some (vp_cell _ _)
    rw [e]
    rw [vp_cell_i, vp_cell_i, arrV_store]
    congr 2
    funext q
    by_cases hq : q = j
    · subst hq
      simp [updV, upd, hn]
    · simp [updV, upd, hq]) oq
  rw [aAd_lt ha2] at h
  rw [← aW_set]
  exact h
theorem a_cald (C : aCtx G p s m args meth c cc n own) {a len j : Nat} {f : Nat → Int32} {i : Int32} (hd : decode cc pc = .ok (.caload, 1)) (ha : a < M.1) (ha2 : a < 1000) (hM : M.2.2.2 a = .inl (10, (len, .inl f))) (hi : i = nI j) (hj : j < len) (hlen : len < 2 ^ 31) (k : WA G p l e R s m args below meth c Q n k0 u0 (pc + 1) L (.int (f j) :: st) M) : WA G p l e R s m args below meth c Q n k0 u0 pc L (.int i :: .ref a :: st) M := by
  intro H locs ls cells slots h1 h2 h3 h4 h5 h6
  have he : (aW G M)[a]? = some (aAd G a, .inl (G.2.2.1 10, (len, .inl f))) := by rw [aAd_lt ha2]; exact aW_at ha hM
  subst hi
  refine va_cald (D := G.1) C.1 C.2.1 C.2.2.2.2.2.1.1 h2 a 2 he rfl (vp_in_nI hj hlen) hd ?_
  rw [nI_clamp (by omega)]
  exact (k H locs ls cells slots h1 h2 h3 h4 h5 h6)
theorem a_cast (C : aCtx G p s m args meth c cc n own) {a len j : Nat} {f : Nat → Int32} {i : Int32} {x : Int32} (hd : decode cc pc = .ok (.castore, 1)) (ha : a < M.1) (ha2 : a < 1000) (hM : M.2.2.2 a = .inl (10, (len, .inl f))) (hi : i = nI j) (hj : j < len) (hlen : len < 2 ^ 31) (hn : narrow .char (.int x) = .int x) (k : WA G p l e R s m args below meth c Q n k0 u0 (pc + 1) L st (aPut M a (.inl (10, (len, .inl (upd f j x)))))) : WA G p l e R s m args below meth c Q n k0 u0 pc L (.int x :: .int i :: .ref a :: st) M := by
  intro H locs ls cells slots h1 h2 h3 h4 h5 h6
  have he : (aW G M)[a]? = some (aAd G a, .inl (G.2.2.1 10, (len, .inl f))) := by rw [aAd_lt ha2]; exact aW_at ha hM
  subst hi
  refine W.cast C.1 C.2.1 (h2 a _ he) ((C.2.2.2.2.2.1.1.2 2 _ rfl).1 len (fun j => .int (f j))) (fun q => by cases q) (by show ¬ (nI j < 0 ∨ (arrV _ _ _).slots.size ≤ _); rw [arrV_size]; exact vp_in_nI hj hlen) rfl rfl hd fun H1 e z oq => ?_
  rw [nI_clamp (by omega)] at e ⊢
  refine k H1 _ ls cells slots h1 ?_ (z.trans h3) (h4.put z oq (by show G.2.1 ≤ _; rw [aAd_lt ha2]; exact aX_le _ _)) h5 h6
  have h := h2.set (aW_D G M) he (e := .inl (G.2.2.1 10, (len, .inl (upd f j x)))) (by
    show H1[aAd G a]? = some (vp_cell _ _)
    rw [e]
    rw [vp_cell_i, vp_cell_i, arrV_store]
    congr 2
    funext q
    by_cases hq : q = j
    · subst hq
      simp [updV, upd, hn]
    · simp [updV, upd, hq]) oq
  rw [aAd_lt ha2] at h
  rw [← aW_set]
  exact h
theorem a_aaldK (C : aCtx G p s m args meth c cc n own) {a len j b : Nat} {f : Nat → Option Nat} {i : Int32} (hd : decode cc pc = .ok (.aaload, 1)) (ha : a < M.1) (ha2 : a < 1000) (hM : M.2.2.2 a = .inl (12, (len, .inr (.inr (.inr (.inr f)))))) (hi : i = nI j) (hj : j < len) (hlen : len < 2 ^ 31) (hb : f j = some b) (k : WA G p l e R s m args below meth c Q n k0 u0 (pc + 1) L (.ref b :: st) M) : WA G p l e R s m args below meth c Q n k0 u0 pc L (.int i :: .ref a :: st) M := by
  intro H locs ls cells slots h1 h2 h3 h4 h5 h6
  have he : (aW G M)[a]? = some (aAd G a, .inl (G.2.2.1 12, (len, .inr (.inr (.inr (.inr (fun j => (f j).map (aAd G)))))))) := by rw [aAd_lt ha2]; exact aW_at ha hM
  subst hi
  refine va_aldq (D := G.1) (C := RX2) C.1 C.2.1 C.2.2.2.2.2.1.1 h2 a 4 he rfl (vp_in_nI hj hlen) hd ?_
  rw [nI_clamp (by omega)]
  have e9 : va_rf ((fun j => (f j).map (aAd G)) j) = .ref (aAd G b) := by show va_rf ((f j).map (aAd G)) = _; rw [hb]; rfl
  rw [e9]
  exact (k H locs ls cells slots h1 h2 h3 h4 h5 h6)
theorem a_aaldL (C : aCtx G p s m args meth c cc n own) {a len j b : Nat} {f : Nat → Option Nat} {i : Int32} (hd : decode cc pc = .ok (.aaload, 1)) (ha : a < M.1) (ha2 : a < 1000) (hM : M.2.2.2 a = .inl (13, (len, .inr (.inr (.inr (.inr f)))))) (hi : i = nI j) (hj : j < len) (hlen : len < 2 ^ 31) (hb : f j = some b) (k : WA G p l e R s m args below meth c Q n k0 u0 (pc + 1) L (.ref b :: st) M) : WA G p l e R s m args below meth c Q n k0 u0 pc L (.int i :: .ref a :: st) M := by
  intro H locs ls cells slots h1 h2 h3 h4 h5 h6
  have he : (aW G M)[a]? = some (aAd G a, .inl (G.2.2.1 13, (len, .inr (.inr (.inr (.inr (fun j => (f j).map (aAd G)))))))) := by rw [aAd_lt ha2]; exact aW_at ha hM
  subst hi
  refine va_aldq (D := G.1) (C := RX3) C.1 C.2.1 C.2.2.2.2.2.1.1 h2 a 5 he rfl (vp_in_nI hj hlen) hd ?_
  rw [nI_clamp (by omega)]
  have e9 : va_rf ((fun j => (f j).map (aAd G)) j) = .ref (aAd G b) := by show va_rf ((f j).map (aAd G)) = _; rw [hb]; rfl
  rw [e9]
  exact (k H locs ls cells slots h1 h2 h3 h4 h5 h6)
theorem a_aaldS (C : aCtx G p s m args meth c cc n own) {a len j b : Nat} {f : Nat → Option Nat} {i : Int32} (hd : decode cc pc = .ok (.aaload, 1)) (ha : a < M.1) (ha2 : a < 1000) (hM : M.2.2.2 a = .inl (14, (len, .inr (.inr (.inr (.inr f)))))) (hi : i = nI j) (hj : j < len) (hlen : len < 2 ^ 31) (hb : f j = some b) (k : WA G p l e R s m args below meth c Q n k0 u0 (pc + 1) L (.ref b :: st) M) : WA G p l e R s m args below meth c Q n k0 u0 pc L (.int i :: .ref a :: st) M := by
  intro H locs ls cells slots h1 h2 h3 h4 h5 h6
  have he : (aW G M)[a]? = some (aAd G a, .inl (G.2.2.1 14, (len, .inr (.inr (.inr (.inr (fun j => (f j).map (aAd G)))))))) := by rw [aAd_lt ha2]; exact aW_at ha hM
  subst hi
  refine va_aldq (D := G.1) (C := RX5) C.1 C.2.1 C.2.2.2.2.2.1.1 h2 a 6 he rfl (vp_in_nI hj hlen) hd ?_
  rw [nI_clamp (by omega)]
  have e9 : va_rf ((fun j => (f j).map (aAd G)) j) = .ref (aAd G b) := by show va_rf ((f j).map (aAd G)) = _; rw [hb]; rfl
  rw [e9]
  exact (k H locs ls cells slots h1 h2 h3 h4 h5 h6)
theorem a_alen (C : aCtx G p s m args meth c cc n own) {a kind : Nat} {x : vp_A} {ty : FieldType} {t0 : Nat} {v : Int32} (hd : decode cc pc = .ok (.arraylength, 1)) (ha : a < M.1) (ha2 : a < 1000) (hM : M.2.2.2 a = .inl (kind, x)) (ht : (aTys G)[t0]? = some (G.2.2.1 kind, ty)) (hv : Int32.ofNat x.1 = v) (k : WA G p l e R s m args below meth c Q n k0 u0 (pc + 1) L (.int v :: st) M) : WA G p l e R s m args below meth c Q n k0 u0 pc L (.ref a :: st) M := by
  intro H locs ls cells slots h1 h2 h3 h4 h5 h6
  have he : (aW G M)[a]? = some (aAd G a, .inl (G.2.2.1 kind, aA G x)) := by rw [aAd_lt ha2]; exact aW_at ha hM
  exact va_alen (D := G.1) C.1 C.2.1 C.2.2.2.2.2.1.1 h2 a t0 he ht hv hd (k H locs ls cells slots h1 h2 h3 h4 h5 h6)
/-! ### static arrays that nobody writes: the things 1000, 1001, 1002 -/
theorem a_gets0 (C : aCtx G p s m args meth c cc n own) {index : Nat} (hw : Cond.fieldLink own index "NotchedKeys" "NOTCH_WEIGHTS" "[I" ∈ GW) (hd : decode cc pc = .ok (.getstatic index, 3)) (k : WA G p l e R s m args below meth c Q n k0 u0 (pc + 3) L (.ref 1000 :: st) M) : WA G p l e R s m args below meth c Q n k0 u0 pc L st M := by
  intro H locs ls cells slots h1 h2 h3 h4 h5 h6
  exact va_gets C.1 C.2.1 C.2.2.2.2.2.2.1.1 h4 C.2.2.2.1 (C.2.2.2.2.1 _ hw) (fun _ h9 => h9) hd (k H locs ls cells slots h1 h2 h3 h4 h5 h6)
theorem a_gets0N (C : aCtx G p s m args meth c cc n RX1) (hd : decode cc pc = .ok (.getstatic 40, 3)) (k : WA G p l e R s m args below meth c Q n k0 u0 (pc + 3) L (.ref 1000 :: st) M) : WA G p l e R s m args below meth c Q n k0 u0 pc L st M := by
  intro H locs ls cells slots h1 h2 h3 h4 h5 h6
  exact va_getsN C.1 C.2.1 C.2.2.2.2.2.2.1.1 h4 C.2.2.2.1 (va_Nw.use rfl C.2.2.2.2.2.1.2.1.1) (fun _ h9 => h9) hd (k H locs ls cells slots h1 h2 h3 h4 h5 h6)
theorem a_gets1 (C : aCtx G p s m args meth c cc n own) {index : Nat} (hw : Cond.fieldLink own index "NotchedKeys" "LEAST_VALUES" "[I" ∈ GW) (hd : decode cc pc = .ok (.getstatic index, 3)) (k : WA G p l e R s m args below meth c Q n k0 u0 (pc + 3) L (.ref 1001 :: st) M) : WA G p l e R s m args below meth c Q n k0 u0 pc L st M := by
  intro H locs ls cells slots h1 h2 h3 h4 h5 h6
  exact va_gets C.1 C.2.1 C.2.2.2.2.2.2.1.2.2.1 h4 C.2.2.2.1 (C.2.2.2.2.1 _ hw) (fun _ h9 => h9) hd (k H locs ls cells slots h1 h2 h3 h4 h5 h6)
theorem a_gets2 (C : aCtx G p s m args meth c cc n own) {index : Nat} (hw : Cond.fieldLink own index "NotchedKeys" "GREATEST_VALUES" "[I" ∈ GW) (hd : decode cc pc = .ok (.getstatic index, 3)) (k : WA G p l e R s m args below meth c Q n k0 u0 (pc + 3) L (.ref 1002 :: st) M) : WA G p l e R s m args below meth c Q n k0 u0 pc L st M := by
  intro H locs ls cells slots h1 h2 h3 h4 h5 h6
  exact va_gets C.1 C.2.1 C.2.2.2.2.2.2.1.2.2.2.2.1 h4 C.2.2.2.1 (C.2.2.2.2.1 _ hw) (fun _ h9 => h9) hd (k H locs ls cells slots h1 h2 h3 h4 h5 h6)
theorem a_sald9 (C : aCtx G p s m args meth c cc n own) {t N j : Nat} {F : Nat → Value} {i : Int32} {x : Int32} {tt : Nat} (hT : va_T .int t N F (aOld G) s s.heap) (hd : decode cc pc = .ok (.iaload, 1)) (ht : aAd G tt = t) (hi : i = nI j) (hj : j < N) (hN : N < 2 ^ 31) (hv : F j = .int x) (k : WA G p l e R s m args below meth c Q n k0 u0 (pc + 1) L (.int x :: st) M) : WA G p l e R s m args below meth c Q n k0 u0 pc L (.int i :: .ref tt :: st) M := by
  intro H locs ls cells slots h1 h2 h3 h4 h5 h6
  subst hi
  obtain ⟨cell, g1, g2, g3, g4, -, g5, g6⟩ := hT
  have hc : H[aAd G tt]? = some cell := by rw [ht, h4.2.1 t (Array.getElem?_eq_some_iff.mp g1).1 g6]; exact g1
  refine W.iald (v := .int x) C.1 C.2.1 hc g2 g3 (fun q => ?_) (by rw [nI_clamp (by omega), g5 j hj, hv]) rfl rfl hd (k H locs ls cells slots h1 h2 h3 h4 h5 h6)
  rcases q with q | q
  · exact nI_pos (by omega) q
  · rw [nI_clamp (by omega)] at q
    omega
theorem a_sald0 (C : aCtx G p s m args meth c cc n own) {j : Nat} {i x : Int32} (hd : decode cc pc = .ok (.iaload, 1)) (hi : i = nI j) (hj : j < 4) (hv : nwv j = .int x) (k : WA G p l e R s m args below meth c Q n k0 u0 (pc + 1) L (.int x :: st) M) : WA G p l e R s m args below meth c Q n k0 u0 pc L (.int i :: .ref 1000 :: st) M := a_sald9 C C.2.2.2.2.2.2.1.2.1 hd rfl hi hj (by decide) hv k
theorem a_sald1 (C : aCtx G p s m args meth c cc n own) {j : Nat} {i x : Int32} (hd : decode cc pc = .ok (.iaload, 1)) (hi : i = nI j) (hj : j < 4) (hv : lvv j = .int x) (k : WA G p l e R s m args below meth c Q n k0 u0 (pc + 1) L (.int x :: st) M) : WA G p l e R s m args below meth c Q n k0 u0 pc L (.int i :: .ref 1001 :: st) M := a_sald9 C C.2.2.2.2.2.2.1.2.2.2.1 hd rfl hi hj (by decide) hv k
theorem a_sald2 (C : aCtx G p s m args meth c cc n own) {j : Nat} {i x : Int32} (hd : decode cc pc = .ok (.iaload, 1)) (hi : i = nI j) (hj : j < 4) (hv : gvv j = .int x) (k : WA G p l e R s m args below meth c Q n k0 u0 (pc + 1) L (.int x :: st) M) : WA G p l e R s m args below meth c Q n k0 u0 pc L (.int i :: .ref 1002 :: st) M := a_sald9 C C.2.2.2.2.2.2.1.2.2.2.2.2.1 hd rfl hi hj (by decide) hv k
end A5

section A60
/-! ### contracts of the law's own methods: they hold where the launch's flags are the pinned ones; things may have been thrown below them -/
def CMf (y : MethodName) (cc : ByteArray) (n : Nat) (ret : Option FieldType) (fr lo : Nat) (av : List Value) (M : aH) (mc ms : Nat) (post : Option Value → aH → Prop) : Prop :=
  ∀ (G : aG) (l : Launch), l.flags = flags0 → Met l y (Cond.code y cc n ret :: GW) { frames := fr, cells := mc, slots := ms, locals := lo } (aPc G av M) (aQc G M mc ms post) mc ms (aOld G)
theorem CMf.of {y : MethodName} {cc : ByteArray} {n : Nat} {ret : Option FieldType} {fr lo : Nat} {av : List Value} {M : aH} {mc ms : Nat} {post : Option Value → aH → Prop} (hW : aCode y cc n ret) (hn : aSz av ≤ n)
    (body : ∀ (G : aG) (p : Program) (l : Launch) (e : Env) (s : State) (m : MethodId) (args : Array Value) (below : List Frame) (meth : Method) (c : Code), aCtx G p s m args meth c cc n y.cls → l.flags = flags0 → meth.sig.returnType = ret →
      WA G p l e { frames := fr, cells := mc, slots := ms, locals := lo } s m args below meth c (MQ below (aQc G M mc ms post) args s mc ms (aOld G)) n (M.1 + M.2.1) M.2.2.1 0 (aEn av) [] M) : CMf y cc n ret fr lo av M mc ms post := by
  intro G l hfl
  refine MetFree.of_bodySF (code := cc) (maxLocals := n) (ret := ret) hW.2.2.2.2 ?_ ?_
  · intro args s m h hn
    obtain ⟨meth, c, h1, h2, h3, h4, h5, h6, -, -⟩ := Cond.code_spec hn (atoms_spec (ws := Cond.code y cc n ret :: GW) h _ List.mem_cons_self)
    exact ⟨meth, c, h1, h2, h3, h4, h5, h6⟩
  intro p e s m args below meth c s₁ B hml hv _
  have hh0 : s₁.heap = s.heap := by rw [B.state]; rfl
  obtain ⟨rfl, hP, hsz, hT, hS⟩ := hv
  have hts : ∀ w ∈ GW, w.before (av.map (aV G)).toArray s = true := fun w h => atoms_spec (ws := Cond.code y cc n ret :: GW) B.pre w (List.mem_cons_of_mem _ h)
  have hown : s.vm.findClass y.cls = some m.cls := findClass_of_methodNamed B.named
  have hl := aEn_entry G av (n := n) (by rw [aSz_ok]; exact hn)
  have K := body G p l e s m _ below meth c ⟨B.exec, B.bytes, hml, hown, hts, hT, hS, by rw [hsz]; omega, B.notSynchronized⟩ hfl B.returns s.heap [] _ 0 0 hl hP hsz va_S.rf (by omega) (by omega)
  rw [lg_entry_eq]
  obtain ⟨t, a1, o, b1, b2, b3⟩ := K s₁ hh0 (Stand.of_body B)
  exact ⟨t, o, a1, b1, b2, ⟨b3.1, b3.2⟩⟩
def CL (y : MethodName) (cc : ByteArray) (n : Nat) (ret : Option FieldType) (fr lo : Nat) (av : List Value) (w : Wd) (d u : Nat) (P : Option Value → Wd → Prop) : Prop :=
  ∀ (ex : Nat × Nat) (us : Nat), CMf y cc n ret fr lo av (fzM w ex us) d u (fun r M' => ∃ w', M' = fzM w' (ex.1, ex.2 + d) (us + u) ∧ P r w')
/-- .. of a method with handlers -/
def CLW (y : MethodName) (cc : ByteArray) (n : Nat) (hh : List (Nat × Nat × Nat × Nat)) (fr lo : Nat) (av : List Value) (w : Wd) (d u : Nat) (P : Option Value → Wd → Prop) : Prop :=
  ∀ (ex : Nat × Nat) (us : Nat), CW y cc n (some .int) hh fr lo av (fzM w ex us) d u (fun r M' => ∃ w', M' = fzM w' (ex.1, ex.2 + d) (us + u) ∧ P r w')
abbrev QL (G : aG) (below : List Frame) (args : Array Value) (s : State) (w : Wd) (ex : Nat × Nat) (us d u : Nat) (P : Option Value → Wd → Prop) : State → Prop := MQ below (aQc G (fzM w ex us) d u (fun r M' => ∃ w', M' = fzM w' (ex.1, ex.2 + d) (us + u) ∧ P r w')) args s d u (aOld G)
abbrev RL9 (fr lo d u : Nat) : Room := { frames := fr, cells := d, slots := u, locals := lo }
theorem CL.of {y : MethodName} {cc : ByteArray} {n : Nat} {ret : Option FieldType} {fr lo : Nat} {av : List Value} {w : Wd} {d u : Nat} {P : Option Value → Wd → Prop} (hW : aCode y cc n ret) (hn : aSz av ≤ n)
    (body : ∀ (ex : Nat × Nat) (us : Nat) (G : aG) (p : Program) (l : Launch) (e : Env) (s : State) (m : MethodId) (args : Array Value) (below : List Frame) (meth : Method) (c : Code), aCtx G p s m args meth c cc n y.cls → l.flags = flags0 → meth.sig.returnType = ret →
      WA G p l e (RL9 fr lo d u) s m args below meth c (QL G below args s w ex us d u P) n (207 + ex.1 + ex.2) us 0 (aEn av) [] (fzM w ex us)) : CL y cc n ret fr lo av w d u P := by
  intro ex us
  exact CMf.of hW hn (fun G p l e s m args below meth c C hfl hr => body ex us G p l e s m args below meth c C hfl hr)
variable {G : aG} {p : Program} {l : Launch} {e : Env} {R : Room} {s : State} {m : MethodId} {args : Array Value} {below : List Frame} {meth : Method} {c : Code} {Q : State → Prop} {n k0 u0 pc : Nat} {cc : ByteArray} {own : String} {L : aL} {st : List Value} {w w0 : Wd} {ex : Nat × Nat} {us : Nat} {P : Option Value → Wd → Prop}
theorem l_ex {ex2 : Nat × Nat} {us2 : Nat} (h1 : ex = ex2) (h2 : us = us2) (k : WA G p l e R s m args below meth c Q n k0 u0 pc L st (fzM w ex2 us2)) : WA G p l e R s m args below meth c Q n k0 u0 pc L st (fzM w ex us) := by
  subst h1
  subst h2
  exact k
theorem l_callS (C : aCtx G p s m args meth c cc n own) (hfl : l.flags = flags0) {index : Nat} {y : MethodName} {bytes : ByteArray} {maxL fr lo d u : Nat} {ret : Option FieldType} (As : List Value) {rest st0 : List Value}
    (hM : CL y bytes maxL ret fr lo As w d u P) (hw : aCs own index y bytes maxL ret As.length) (hd : decode cc pc = .ok (.invokestatic index, 3)) (hst : st0 = As.reverse ++ rest) (h8 : (rest.map fun v => v.category).sum ≤ 8)
    (hR : fr + 1 ≤ R.frames ∧ 8 + (maxL + 11) + lo ≤ R.locals) (hbud : 207 + ex.1 + ex.2 + d ≤ k0 + R.cells ∧ us + u ≤ u0 + R.slots)
    (k : ∀ (r : Option Value) (w' : Wd), P r w' → WA G p l e R s m args below meth c Q n k0 u0 (pc + 3) L (r.toList ++ rest) (fzM w' (ex.1, ex.2 + d) (us + u))) : WA G p l e R s m args below meth c Q n k0 u0 pc L st0 (fzM w ex us) := by
  intro H locs ls cells slots h1 h2 h3 h4 h5 h6
  subst hst
  rw [aRev]
  refine a_back (M := fzM w ex us) (mc := d) (ms := u) (rest := rest) (y := y) (bytes := bytes) (maxL := maxL) (ret := ret) h4 h1 h5 h6 (va_runS (As := As.map (aV G)) (rest := rest.map (aV G)) ⟨C.1, C.2.1, C.2.2.1, C.2.2.2.1, C.2.2.2.2.1⟩ (hM ex us G l hfl) ⟨aCallB C hw.1 hw.2.1 hw.2.2.2 hR, C.2.2.2.2.1 _ hw.2.2.1⟩ ⟨aPc_blind G _ _, aPre C h2 h3 h4 As⟩ rfl (by rw [List.length_map]) h1.1 rfl (lv_room (by rw [aCat]; exact h8)) hd ⟨by
    have z : cells + k0 = 207 + ex.1 + ex.2 := h5
    omega, by
    have z : slots + u0 = us := h6
    omega⟩) (fun r M' hp _ _ => by obtain ⟨w', rfl, hp⟩ := hp; exact k r w' hp)
theorem l_callSW (C : aCtx G p s m args meth c cc n own) (hfl : l.flags = flags0) {index : Nat} {y : MethodName} {bytes : ByteArray} {maxL fr lo d u : Nat} {hh : List (Nat × Nat × Nat × Nat)} (As : List Value) {rest st0 : List Value}
    (hM : CLW y bytes maxL hh fr lo As w d u P) (hw : aCsW own index y bytes maxL (some .int) hh As.length) (hd : decode cc pc = .ok (.invokestatic index, 3)) (hst : st0 = As.reverse ++ rest) (h8 : (rest.map fun v => v.category).sum ≤ 8)
    (hR : fr + 1 ≤ R.frames ∧ 8 + (maxL + 11) + lo ≤ R.locals) (hbud : 207 + ex.1 + ex.2 + d ≤ k0 + R.cells ∧ us + u ≤ u0 + R.slots)
    (k : ∀ (r : Option Value) (w' : Wd), P r w' → WA G p l e R s m args below meth c Q n k0 u0 (pc + 3) L (r.toList ++ rest) (fzM w' (ex.1, ex.2 + d) (us + u))) : WA G p l e R s m args below meth c Q n k0 u0 pc L st0 (fzM w ex us) :=
  a_callSW C hfl As (hM ex us) hw hd hst h8 hR hbud (fun r M' hp _ _ => by obtain ⟨w', rfl, hp⟩ := hp; exact k r w' hp)
/-- nothing thrown -/
theorem l0_callS (C : aCtx G p s m args meth c cc n own) (hfl : l.flags = flags0) {index : Nat} {y : MethodName} {bytes : ByteArray} {maxL fr lo : Nat} {ret : Option FieldType} (As : List Value) {rest st0 : List Value}
    (hM : CL y bytes maxL ret fr lo As w 0 0 P) (hw : aCs own index y bytes maxL ret As.length) (hd : decode cc pc = .ok (.invokestatic index, 3)) (hst : st0 = As.reverse ++ rest) (h8 : (rest.map fun v => v.category).sum ≤ 8)
    (hR : fr + 1 ≤ R.frames ∧ 8 + (maxL + 11) + lo ≤ R.locals) (hbud : 207 + ex.1 + ex.2 ≤ k0 + R.cells ∧ us ≤ u0 + R.slots)
    (k : ∀ (r : Option Value) (w' : Wd), P r w' → WA G p l e R s m args below meth c Q n k0 u0 (pc + 3) L (r.toList ++ rest) (fzM w' ex us)) : WA G p l e R s m args below meth c Q n k0 u0 pc L st0 (fzM w ex us) :=
  l_callS C hfl As hM hw hd hst h8 hR hbud (fun r w' hp => k r w' hp)
theorem l0_callSW (C : aCtx G p s m args meth c cc n own) (hfl : l.flags = flags0) {index : Nat} {y : MethodName} {bytes : ByteArray} {maxL fr lo : Nat} {hh : List (Nat × Nat × Nat × Nat)} (As : List Value) {rest st0 : List Value}
    (hM : CLW y bytes maxL hh fr lo As w 0 0 P) (hw : aCsW own index y bytes maxL (some .int) hh As.length) (hd : decode cc pc = .ok (.invokestatic index, 3)) (hst : st0 = As.reverse ++ rest) (h8 : (rest.map fun v => v.category).sum ≤ 8)
    (hR : fr + 1 ≤ R.frames ∧ 8 + (maxL + 11) + lo ≤ R.locals) (hbud : 207 + ex.1 + ex.2 ≤ k0 + R.cells ∧ us ≤ u0 + R.slots)
    (k : ∀ (r : Option Value) (w' : Wd), P r w' → WA G p l e R s m args below meth c Q n k0 u0 (pc + 3) L (r.toList ++ rest) (fzM w' ex us)) : WA G p l e R s m args below meth c Q n k0 u0 pc L st0 (fzM w ex us) :=
  l_callSW C hfl As hM hw hd hst h8 hR hbud (fun r w' hp => k r w' hp)
/-- a call that only answers, whatever was thrown before -/
theorem g_callS (C : aCtx G p s m args meth c cc n own) {index : Nat} {y : MethodName} {bytes : ByteArray} {maxL fr lo : Nat} {ret : Option FieldType} {r : Value} {As : List Value} {rest st0 : List Value}
    (hM : CP y bytes maxL ret fr lo As w r) (hw : aCs own index y bytes maxL ret As.length) (hst : st0 = As.reverse ++ rest) (hd : decode cc pc = .ok (.invokestatic index, 3)) (h8 : (rest.map fun v => v.category).sum ≤ 8)
    (hR : fr + 1 ≤ R.frames ∧ 8 + (maxL + 11) + lo ≤ R.locals) (hbud : 207 + ex.1 + ex.2 ≤ k0 + R.cells ∧ us ≤ u0 + R.slots)
    (k : WA G p l e R s m args below meth c Q n k0 u0 (pc + 3) L (r :: rest) (fzM w ex us)) : WA G p l e R s m args below meth c Q n k0 u0 pc L st0 (fzM w ex us) :=
  a_callS C As (hM ex us) hw hd hst h8 hR hbud (fun r' M' hp _ _ => by obtain ⟨w', rfl, rfl, rfl⟩ := hp; exact k)
theorem g_callF (C : aCtx G p s m args meth c cc n own) {index : Nat} {y : MethodName} {bytes : ByteArray} {maxL fr lo : Nat} {ret : Option FieldType} {As : List Value} {rest st0 : List Value}
    (hM : CF y bytes maxL ret fr lo As w P) (hw : aCs own index y bytes maxL ret As.length) (hst : st0 = As.reverse ++ rest) (hd : decode cc pc = .ok (.invokestatic index, 3)) (h8 : (rest.map fun v => v.category).sum ≤ 8)
    (hR : fr + 1 ≤ R.frames ∧ 8 + (maxL + 11) + lo ≤ R.locals) (hbud : 207 + ex.1 + ex.2 ≤ k0 + R.cells ∧ us ≤ u0 + R.slots)
    (k : ∀ (r : Option Value) (w' : Wd), P r w' → WA G p l e R s m args below meth c Q n k0 u0 (pc + 3) L (r.toList ++ rest) (fzM w' ex us)) : WA G p l e R s m args below meth c Q n k0 u0 pc L st0 (fzM w ex us) :=
  a_callS C As (hM ex us) hw hd hst h8 hR hbud (fun r' M' hp _ _ => by obtain ⟨w', rfl, hp⟩ := hp; exact k r' w' hp)
theorem l_iret (C : aCtx G p s m args meth c cc n own) {ty : FieldType} {x : Int32} {d u : Nat} (hr : meth.sig.returnType = some ty) (hn : narrow ty (.int x) = .int x) (hd : decode cc pc = .ok (.ireturn, 1)) (hp : P (some (.int x)) w) :
    WA G p l e R s m args below meth c (QL G below args s w0 ex us d u P) n (207 + ex.1 + ex.2) us pc L [.int x] (fzM w (ex.1, ex.2 + d) (us + u)) :=
  a_iret (M0 := fzM w0 ex us) C hr hn hd (by show 207 + ex.1 + (ex.2 + d) = 207 + ex.1 + ex.2 + d; omega) rfl ⟨w, rfl, hp⟩
theorem l_lret (C : aCtx G p s m args meth c cc n own) {x : Int64} {d u : Nat} (hr : meth.sig.returnType = some .long) (hd : decode cc pc = .ok (.lreturn, 1)) (hp : P (some (.long x)) w) :
    WA G p l e R s m args below meth c (QL G below args s w0 ex us d u P) n (207 + ex.1 + ex.2) us pc L [.long x] (fzM w (ex.1, ex.2 + d) (us + u)) :=
  a_lret (M0 := fzM w0 ex us) C hr hd (by show 207 + ex.1 + (ex.2 + d) = 207 + ex.1 + ex.2 + d; omega) rfl ⟨w, rfl, hp⟩
theorem l0_iret (C : aCtx G p s m args meth c cc n own) {ty : FieldType} {x : Int32} (hr : meth.sig.returnType = some ty) (hn : narrow ty (.int x) = .int x) (hd : decode cc pc = .ok (.ireturn, 1)) (hp : P (some (.int x)) w) :
    WA G p l e R s m args below meth c (QL G below args s w0 ex us 0 0 P) n (207 + ex.1 + ex.2) us pc L [.int x] (fzM w ex us) := l_iret C hr hn hd hp
end A60

section A52
/-! ### methods with handlers: they return, whatever is thrown below them -/
def aCodeW (y : MethodName) (cc : ByteArray) (n : Nat) (ret : Option FieldType) (hh : List (Nat × Nat × Nat × Nat)) : Prop := Cond.codeWith y cc n ret hh ∈ GW ∧ Cond.initialized y.cls ∈ GW ∧ y.cls ≠ "java/lang/invoke/MethodHandle" ∧ y.cls ≠ "java/lang/invoke/VarHandle" ∧ plainName y.cls = true
def CW (y : MethodName) (cc : ByteArray) (n : Nat) (ret : Option FieldType) (hh : List (Nat × Nat × Nat × Nat)) (fr lo : Nat) (av : List Value) (M : aH) (mc ms : Nat) (post : Option Value → aH → Prop) : Prop :=
  ∀ (G : aG) (l : Launch), l.flags = flags0 → Met l y (Cond.codeWith y cc n ret hh :: GW) { frames := fr, cells := mc, slots := ms, locals := lo } (aPc G av M) (aQc G M mc ms post) mc ms (aOld G)
theorem CW.of {y : MethodName} {cc : ByteArray} {n : Nat} {ret : Option FieldType} {hh : List (Nat × Nat × Nat × Nat)} {fr lo : Nat} {av : List Value} {M : aH} {mc ms : Nat} {post : Option Value → aH → Prop} (hW : aCodeW y cc n ret hh) (hn : aSz av ≤ n)
    (body : ∀ (G : aG) (p : Program) (l : Launch) (e : Env) (s : State) (m : MethodId) (args : Array Value) (below : List Frame) (meth : Method) (c : Code), aCtx G p s m args meth c cc n y.cls → l.flags = flags0 → c.exceptionTable.toList = tableOf hh → meth.sig.returnType = ret →
      WA G p l e { frames := fr, cells := mc, slots := ms, locals := lo } s m args below meth c (MQ below (aQc G M mc ms post) args s mc ms (aOld G)) n (M.1 + M.2.1) M.2.2.1 0 (aEn av) [] M) : CW y cc n ret hh fr lo av M mc ms post := by
  intro G l hfl
  refine va_MetW (cc := cc) (maxL := n) (ret := ret) (hh := hh) hW.2.2.2.2 rfl ?_
  intro p e s m args below meth c s₁ B hml hv
  obtain ⟨rfl, hP, hsz, hT, hS⟩ := hv
  have hts : ∀ w ∈ GW, w.before (av.map (aV G)).toArray s = true := fun w h => atoms_spec (ws := Cond.codeWith y cc n ret hh :: GW) B.pre w (List.mem_cons_of_mem _ h)
  have hown : s.vm.findClass y.cls = some m.cls := findClass_of_methodNamed B.named
  have htb := vx_table (x := y) B (atoms_spec (ws := Cond.codeWith y cc n ret hh :: GW) B.pre _ List.mem_cons_self)
  have hl := aEn_entry G av (n := n) (by rw [aSz_ok]; exact hn)
  rw [lg_entry_eq]
  exact body G p l e s m _ below meth c ⟨B.exec, B.bytes, hml, hown, hts, hT, hS, by rw [hsz]; omega, B.notSynchronized⟩ hfl htb B.returns s.heap [] _ 0 0 hl hP hsz va_S.rf (by omega) (by omega)
def aCsW (own : String) (index : Nat) (y : MethodName) (bytes : ByteArray) (maxL : Nat) (ret : Option FieldType) (hh : List (Nat × Nat × Nat × Nat)) (na : Nat) : Prop := aCodeW y bytes maxL ret hh ∧ Cond.methodLink own index y ∈ GW ∧ Cond.static y ∈ GW ∧ (parseMethodDescriptor y.desc).map (fun d => d.parameters.length) = some na
variable {G : aG} {p : Program} {l : Launch} {e : Env} {R : Room} {s : State} {m : MethodId} {args : Array Value} {below : List Frame} {meth : Method} {c : Code} {Q : State → Prop} {n k0 u0 pc : Nat} {cc : ByteArray} {own : String} {L : aL} {st : List Value} {M : aH} {post : Option Value → aH → Prop}
theorem a_callSW (C : aCtx G p s m args meth c cc n own) (hfl : l.flags = flags0) {index : Nat} {y : MethodName} {bytes : ByteArray} {maxL fr lo mc ms : Nat} {ret : Option FieldType} {hh : List (Nat × Nat × Nat × Nat)} (As : List Value) {rest st0 : List Value}
    (hM : CW y bytes maxL ret hh fr lo As M mc ms post) (hw : aCsW own index y bytes maxL ret hh As.length) (hd : decode cc pc = .ok (.invokestatic index, 3)) (hst : st0 = As.reverse ++ rest) (h8 : (rest.map fun v => v.category).sum ≤ 8)
    (hR : fr + 1 ≤ R.frames ∧ 8 + (maxL + 11) + lo ≤ R.locals) (hbud : M.1 + M.2.1 + mc ≤ k0 + R.cells ∧ M.2.2.1 + ms ≤ u0 + R.slots)
    (k : ∀ (r : Option Value) (M' : aH), post r M' → M'.1 + M'.2.1 = M.1 + M.2.1 + mc → M'.2.2.1 = M.2.2.1 + ms → WA G p l e R s m args below meth c Q n k0 u0 (pc + 3) L (r.toList ++ rest) M') : WA G p l e R s m args below meth c Q n k0 u0 pc L st0 M := by
  intro H locs ls cells slots h1 h2 h3 h4 h5 h6
  subst hst
  rw [aRev]
  have hg : GoodIn GW (Cond.codeWith y bytes maxL ret hh :: GW) := fun w hw' => (List.mem_cons.mp hw').elim (fun e => by rw [e]; exact gw_good _ hw.1.1) (fun h' => gw_good w h')
  have cw : vx_CSW R s args own index y bytes maxL ret hh (Cond.codeWith y bytes maxL ret hh :: GW) { frames := fr, cells := mc, slots := ms, locals := lo } mc ms As.length :=
    ⟨⟨rfl, rfl, hR.1, hR.2, pay_in C.2.2.2.2.1 hg, List.mem_cons_self⟩, C.2.2.2.2.1 _ hw.1.1, C.2.2.2.2.1 _ hw.1.2.1, ⟨hw.1.2.2.1, hw.1.2.2.2.1⟩, (fun sig h => by have h2 := hw.2.2.2; rw [h] at h2; exact (Option.some.inj h2).symm), C.2.2.2.2.1 _ hw.2.1, C.2.2.2.2.1 _ hw.2.2.1⟩
  refine a_back (mc := mc) (ms := ms) (rest := rest) (y := y) (bytes := bytes) (maxL := maxL) (ret := ret) h4 h1 h5 h6 (vx_runSW (As := As.map (aV G)) (rest := rest.map (aV G)) ⟨C.1, C.2.1, C.2.2.1, C.2.2.2.1, C.2.2.2.2.1⟩ (hM G l hfl) cw ⟨aPc_blind G _ M, aPre C h2 h3 h4 As⟩ rfl (by rw [List.length_map]) h1.1 rfl (lv_room (by rw [aCat]; exact h8)) hd ⟨by omega, by omega⟩) k
end A52

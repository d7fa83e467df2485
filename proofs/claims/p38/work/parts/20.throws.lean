section A20
/-! ### throws: as the kit's rows vx_throwS and vx_throwSW (whose proofs these follow), with the heap's size behind them -/
section
variable {p : Program} {l : Launch} {e : Env} {R : Room} {s : State} {m : MethodId} {args : Array Value} {below : List Frame} {meth : Method} {c : Code} {H : Heap} {locs : List Loc} {cells slots : Nat} {free : Addr → Prop} {ls : Array Slot} {rest : List Value}
variable {Qc : Array Value → State → Outcome → State → Prop} {XC : String → State → State → Prop}
theorem vz_throwS {cc : ByteArray} {pc : Nat} (hexec : p.tables.exec = Jvm.exec) (hb : c.code = cc) (hl : l.stackTraces = false) {own cls text : String} {names : List String} {ik is ic mc ms sa : Nat} {A : Nat → Prop}
    (hown : s.vm.findClass own = some m.cls) (hcls : Bundle.fit cls = true) (hnames : ∀ n ∈ names, Bundle.fit n = true)
    (hk : (Cond.classLink own ik cls).before args s = true) (hini : (Cond.initialized cls).before args s = true) (hstr : vk_R own is text sa s) (hat : ∀ w ∈ vx_atS own ic cls names, w.before args s = true)
    (hgood : ∀ w ∈ Cond.classLink own ik cls :: Cond.initialized cls :: vx_atS own ic cls names, vx_ot w = true)
    (hU : vx_Zq Bundle.tN "UNASSIGNED_STACK" Bundle.steD A s s.heap) (hN : vx_Zq Bundle.tN "SUPPRESSED_SENTINEL" Bundle.listD A s s.heap) (hS : va_S A s.heap H locs) (hsize : ls.size = c.maxLocals)
    (d0 : decode cc pc = .ok (.new ik, 3)) (d3 : decode cc (pc + 3) = .ok (.dup, 1)) (d4 : decode cc (pc + 4) = .ok (.ldc is, 2)) (d6 : decode cc (pc + 6) = .ok (.invokespecial ic, 3)) (d9 : decode cc (pc + 9) = .ok (.athrow, 1))
    (hout : ∀ x ∈ c.exceptionTable.toList, covers x (pc + 9) = false)
    (hRframes : names.length + 3 < R.frames) (hRlocals : (rest.map fun v => v.category).sum + (13 * (names.length + 1) + 43) ≤ R.locals) (hRcells : cells + 1 ≤ R.cells) (hRslots : slots + 6 ≤ R.slots) (hlocks : meth.locks = false)
    (hx : ∀ t : State, s.vm.Alike t.vm → t.heap.size = H.size + 1 → (∀ q : Nat, q < H.size → t.heap[q]? = H[q]?) → XC cls s t)
    (hf : ∀ z ∈ locs, free z.base) (hc : cells + 1 ≤ mc) (hs : slots + 6 ≤ ms) :
    W p l e R s m args below meth c H locs cells slots (vx_MQ below Qc XC args s mc ms free) (F0 m pc ls rest) := by
  intro T hT X
  have htr : e.platform.stackTraces = false := (show e.platform.stackTraces = l.stackTraces by rw [X.admits.platform]).trans hl
  have Y := vx_rebase X (R' := { frames := R.frames, locals := R.locals, cells := 1, slots := 6 }) (Nat.le_refl _) (Nat.le_refl _) hRcells hRslots
  obtain ⟨s', hA⟩ : ∃ z, z = (T.setVm s.vm).setFrames (.invoking m args :: below) := ⟨_, rfl⟩
  rw [← hA] at Y
  have hvm : s'.vm = s.vm := by rw [hA]; rfl
  have hhp : s'.heap = H := by rw [hA]; exact hT
  have hW0 : s.WarmedH s'.vm := by rw [hvm]; exact State.WarmedH.refl s
  have hat' : ∀ w ∈ vx_atS own ic cls names, w.before args s' = true := fun w hw => vx_ot_at hW0 hvm.symm (hgood w (List.mem_cons_of_mem _ (List.mem_cons_of_mem _ hw))) (hat w hw)
  have hk' : (Cond.classLink own ik cls).before args s' = true := vx_ot_at hW0 hvm.symm (hgood _ List.mem_cons_self) hk
  have hini' : (Cond.initialized cls).before args s' = true := vx_ot_at hW0 hvm.symm (hgood _ (List.mem_cons_of_mem _ List.mem_cons_self)) hini
  have hU' : vx_Zq Bundle.tN "UNASSIGNED_STACK" Bundle.steD A s' s'.heap := by rw [hhp]; exact vx_Zq.moved hW0.alike (hU.kept hS.2.1)
  have hN' : vx_Zq Bundle.tN "SUPPRESSED_SENTINEL" Bundle.listD A s' s'.heap := by rw [hhp]; exact vx_Zq.moved hW0.alike (hN.kept hS.2.1)
  have h : ∀ w ∈ Bundle.ownAtoms own ic cls names, w.before args s' = true := vx_own hat' (vx_isRefq hU'.1) (vx_isRefq hN'.1) hU'.2.word hN'.2.word
  have hown' : s'.vm.findClass own = some m.cls := by rw [hvm]; exact hown
  have hins : (Cond.instantiable cls 6).before args s' = true := h _ (by simp [Bundle.ownAtoms])
  obtain ⟨vm₁, cX, kX, hfX, hkX, -, -, X₁, st1⟩ := Y.newCold hexec (own := own) (C := cls) (index := ik) (n := 6) hown' hk' hins hini'
    (g := F0 m pc ls rest) rfl (by rw [hb]; exact d0) (Nat.le_refl _) (Nat.le_refl _)
  generalize hT1 : (T.setVm vm₁).pushCell { cls := cX, slots := kX.instanceTypes.map defaultValue, vm := .none } = T1 at X₁ st1
  have hcat : (Value.ref T.heap.size).category = 1 := rfl
  have hcellA : T1.heap[T.heap.size]? = some (freshCell cX kX) := by rw [← hT1]; exact State.heap_pushCell_size _ _
  have d3' : decode c.code (pc + 3) = .ok (.dup, 1) := by rw [hb]; exact d3
  have d4' : decode c.code (pc + 4) = .ok (.ldc is, 2) := by rw [hb]; exact d4
  have hstr' : vk_R own is text sa s' := vk_R.warm hW0 hstr
  obtain ⟨U, hsteps, hrun, hend, hW, hsame, ce, hce, hO⟩ := X₁.ctorThrowS hexec htr (own := own) (cls := cls) (names := names) (ic := ic) hown' hcls hnames h (fun x hx => nomatch hx) hfX hkX hcellA (by rw [hhp, hT]; exact Nat.le_refl _) (msg := .ref sa) rfl
    (g := { method := m, pc := pc + 6, locals := ls, stack := .ref sa :: .ref T.heap.size :: .ref T.heap.size :: rest, locked := none }) rfl hsize rfl rfl (rest := rest) rfl
    (by rw [hb]; exact d6) (by rw [hb]; exact d9) hout hRframes (by simp only [List.map_cons, List.sum_cons, hcat]; omega) hlocks
  have f3 := hsame.2.2.1
  obtain ⟨f1, f2⟩ := vx_frame hsame
  rw [hhp] at f1 f2
  have f4 : U.heap.size = H.size + 1 := by
    have f5 : U.heap.size ≤ s'.heap.size + (0 + 1) := f3
    have f6 := (Array.getElem?_eq_some_iff.mp hce).1
    rw [hhp] at f5
    rw [hT] at f6
    omega
  have hWs : s.WarmedH U.vm := State.WarmedH.trans hW0 hW
  have hcl : s.vm.findClass cls = some ce.cls := by
    have h9 := hO.cls
    rw [hvm] at h9
    exact h9
  have hall : s.sameButNew ({ U with vm := s.vm } : State) locs mc ms := by
    subst hA
    obtain ⟨e1, e2⟩ := hsame
    rw [State.setFrames_setFrames] at e1
    have h2 : (T.setVm s.vm).sameButNew ({ U with vm := s.vm } : State) [] (0 + 1) (0 + 6) := ⟨e1, e2⟩
    have h3 := X.same.trans h2
    rw [List.append_nil] at h3
    exact h3.mono hc hs
  refine ⟨U, ?_, .threw T.heap.size, hrun, hend, Or.inr ⟨T.heap.size, rfl, cls, ce, locs, hx U hWs.alike f4 (fun q hq => f2 q hq (fun z hz => nomatch hz)), hce, hO.vm, hcl, hWs, hall, hf⟩⟩
  refine st1 _ ?_
  show Steps p.tables e below (T1.setTop { method := m, pc := pc + 3, locals := ls, stack := .ref T.heap.size :: rest, locked := none }) _
  jvm_step X₁.here [X₁.here.top, hexec, d3', Value.category]
  exact X₁.ldcString hexec (own := own) (text := text) (index := is) (a := sa) hown' hstr'.1 hstr'.2
    (g := { method := m, pc := pc + 4, locals := ls, stack := .ref T.heap.size :: .ref T.heap.size :: rest, locked := none }) rfl d4' _ hsteps
/-- 'throw new E("text")', the text by a wide index -/
theorem vz_throwSW {cc : ByteArray} {pc : Nat} (hexec : p.tables.exec = Jvm.exec) (hb : c.code = cc) (hl : l.stackTraces = false) {own cls text : String} {names : List String} {ik is ic mc ms sa : Nat} {A : Nat → Prop}
    (hown : s.vm.findClass own = some m.cls) (hcls : Bundle.fit cls = true) (hnames : ∀ n ∈ names, Bundle.fit n = true)
    (hk : (Cond.classLink own ik cls).before args s = true) (hini : (Cond.initialized cls).before args s = true) (hstr : vk_R own is text sa s) (hat : ∀ w ∈ vx_atS own ic cls names, w.before args s = true)
    (hgood : ∀ w ∈ Cond.classLink own ik cls :: Cond.initialized cls :: vx_atS own ic cls names, vx_ot w = true)
    (hU : vx_Zq Bundle.tN "UNASSIGNED_STACK" Bundle.steD A s s.heap) (hN : vx_Zq Bundle.tN "SUPPRESSED_SENTINEL" Bundle.listD A s s.heap) (hS : va_S A s.heap H locs) (hsize : ls.size = c.maxLocals)
    (d0 : decode cc pc = .ok (.new ik, 3)) (d3 : decode cc (pc + 3) = .ok (.dup, 1)) (d4 : decode cc (pc + 4) = .ok (.ldc_w is, 3)) (d7 : decode cc (pc + 7) = .ok (.invokespecial ic, 3)) (d10 : decode cc (pc + 10) = .ok (.athrow, 1))
    (hout : ∀ x ∈ c.exceptionTable.toList, covers x (pc + 10) = false)
    (hRframes : names.length + 3 < R.frames) (hRlocals : (rest.map fun v => v.category).sum + (13 * (names.length + 1) + 43) ≤ R.locals) (hRcells : cells + 1 ≤ R.cells) (hRslots : slots + 6 ≤ R.slots) (hlocks : meth.locks = false)
    (hx : ∀ t : State, s.vm.Alike t.vm → t.heap.size = H.size + 1 → (∀ q : Nat, q < H.size → t.heap[q]? = H[q]?) → XC cls s t)
    (hf : ∀ z ∈ locs, free z.base) (hc : cells + 1 ≤ mc) (hs : slots + 6 ≤ ms) :
    W p l e R s m args below meth c H locs cells slots (vx_MQ below Qc XC args s mc ms free) (F0 m pc ls rest) := by
  intro T hT X
  have htr : e.platform.stackTraces = false := (show e.platform.stackTraces = l.stackTraces by rw [X.admits.platform]).trans hl
  have Y := vx_rebase X (R' := { frames := R.frames, locals := R.locals, cells := 1, slots := 6 }) (Nat.le_refl _) (Nat.le_refl _) hRcells hRslots
  obtain ⟨s', hA⟩ : ∃ z, z = (T.setVm s.vm).setFrames (.invoking m args :: below) := ⟨_, rfl⟩
  rw [← hA] at Y
  have hvm : s'.vm = s.vm := by rw [hA]; rfl
  have hhp : s'.heap = H := by rw [hA]; exact hT
  have hW0 : s.WarmedH s'.vm := by rw [hvm]; exact State.WarmedH.refl s
  have hat' : ∀ w ∈ vx_atS own ic cls names, w.before args s' = true := fun w hw => vx_ot_at hW0 hvm.symm (hgood w (List.mem_cons_of_mem _ (List.mem_cons_of_mem _ hw))) (hat w hw)
  have hk' : (Cond.classLink own ik cls).before args s' = true := vx_ot_at hW0 hvm.symm (hgood _ List.mem_cons_self) hk
  have hini' : (Cond.initialized cls).before args s' = true := vx_ot_at hW0 hvm.symm (hgood _ (List.mem_cons_of_mem _ List.mem_cons_self)) hini
  have hU' : vx_Zq Bundle.tN "UNASSIGNED_STACK" Bundle.steD A s' s'.heap := by rw [hhp]; exact vx_Zq.moved hW0.alike (hU.kept hS.2.1)
  have hN' : vx_Zq Bundle.tN "SUPPRESSED_SENTINEL" Bundle.listD A s' s'.heap := by rw [hhp]; exact vx_Zq.moved hW0.alike (hN.kept hS.2.1)
  have h : ∀ w ∈ Bundle.ownAtoms own ic cls names, w.before args s' = true := vx_own hat' (vx_isRefq hU'.1) (vx_isRefq hN'.1) hU'.2.word hN'.2.word
  have hown' : s'.vm.findClass own = some m.cls := by rw [hvm]; exact hown
  have hins : (Cond.instantiable cls 6).before args s' = true := h _ (by simp [Bundle.ownAtoms])
  obtain ⟨vm₁, cX, kX, hfX, hkX, -, -, X₁, st1⟩ := Y.newCold hexec (own := own) (C := cls) (index := ik) (n := 6) hown' hk' hins hini'
    (g := F0 m pc ls rest) rfl (by rw [hb]; exact d0) (Nat.le_refl _) (Nat.le_refl _)
  generalize hT1 : (T.setVm vm₁).pushCell { cls := cX, slots := kX.instanceTypes.map defaultValue, vm := .none } = T1 at X₁ st1
  have hcat : (Value.ref T.heap.size).category = 1 := rfl
  have hcellA : T1.heap[T.heap.size]? = some (freshCell cX kX) := by rw [← hT1]; exact State.heap_pushCell_size _ _
  have d3' : decode c.code (pc + 3) = .ok (.dup, 1) := by rw [hb]; exact d3
  have d4' : decode c.code (pc + 4) = .ok (.ldc_w is, 3) := by rw [hb]; exact d4
  have hstr' : vk_R own is text sa s' := vk_R.warm hW0 hstr
  obtain ⟨U, hsteps, hrun, hend, hW, hsame, ce, hce, hO⟩ := X₁.ctorThrowS hexec htr (own := own) (cls := cls) (names := names) (ic := ic) hown' hcls hnames h (fun x hx => nomatch hx) hfX hkX hcellA (by rw [hhp, hT]; exact Nat.le_refl _) (msg := .ref sa) rfl
    (g := { method := m, pc := pc + 7, locals := ls, stack := .ref sa :: .ref T.heap.size :: .ref T.heap.size :: rest, locked := none }) rfl hsize rfl rfl (rest := rest) rfl
    (by rw [hb]; exact d7) (by rw [hb]; exact d10) hout hRframes (by simp only [List.map_cons, List.sum_cons, hcat]; omega) hlocks
  have f3 := hsame.2.2.1
  obtain ⟨f1, f2⟩ := vx_frame hsame
  rw [hhp] at f1 f2
  have f4 : U.heap.size = H.size + 1 := by
    have f5 : U.heap.size ≤ s'.heap.size + (0 + 1) := f3
    have f6 := (Array.getElem?_eq_some_iff.mp hce).1
    rw [hhp] at f5
    rw [hT] at f6
    omega
  have hWs : s.WarmedH U.vm := State.WarmedH.trans hW0 hW
  have hcl : s.vm.findClass cls = some ce.cls := by
    have h9 := hO.cls
    rw [hvm] at h9
    exact h9
  have hall : s.sameButNew ({ U with vm := s.vm } : State) locs mc ms := by
    subst hA
    obtain ⟨e1, e2⟩ := hsame
    rw [State.setFrames_setFrames] at e1
    have h2 : (T.setVm s.vm).sameButNew ({ U with vm := s.vm } : State) [] (0 + 1) (0 + 6) := ⟨e1, e2⟩
    have h3 := X.same.trans h2
    rw [List.append_nil] at h3
    exact h3.mono hc hs
  refine ⟨U, ?_, .threw T.heap.size, hrun, hend, Or.inr ⟨T.heap.size, rfl, cls, ce, locs, hx U hWs.alike f4 (fun q hq => f2 q hq (fun z hz => nomatch hz)), hce, hO.vm, hcl, hWs, hall, hf⟩⟩
  refine st1 _ ?_
  show Steps p.tables e below (T1.setTop { method := m, pc := pc + 3, locals := ls, stack := .ref T.heap.size :: rest, locked := none }) _
  jvm_step X₁.here [X₁.here.top, hexec, d3', Value.category]
  exact X₁.ldcStringW hexec (own := own) (text := text) (index := is) (a := sa) hown' hstr'.1 hstr'.2
    (g := { method := m, pc := pc + 4, locals := ls, stack := .ref T.heap.size :: .ref T.heap.size :: rest, locked := none }) rfl d4' _ hsteps
end
variable {G : aG} {p : Program} {l : Launch} {e : Env} {R : Room} {s : State} {m : MethodId} {args : Array Value} {below : List Frame} {meth : Method} {c : Code} {Q : State → Prop} {n k0 u0 pc : Nat} {cc : ByteArray} {own : String} {L : aL} {st : List Value} {M : aH}
theorem l_tr {l : Launch} (h : l.flags = flags0) : l.stackTraces = false := by
  unfold Launch.stackTraces
  rw [h]
  decide +kernel
def xNames : List String := ["java/lang/RuntimeException", "java/lang/Exception"]
def xBad : List Cond := aDecls.map (fun x => Cond.declares x) ++ aExc.map (fun E => Cond.castable E E)
theorem xBad_ok {G : aG} {U : State} {args : Array Value} (h : aTb G aStr U) : ∀ w ∈ xBad, w.before args U = true := by
  intro w hw
  rcases List.mem_append.mp hw with h1 | h1
  · obtain ⟨x, hx, rfl⟩ := List.mem_map.mp h1
    exact va_Nw.use rfl (h.2.2.1 x hx)
  · obtain ⟨x, hx, rfl⟩ := List.mem_map.mp h1
    exact va_Nw.use rfl (h.2.2.2.1 x hx)
theorem xHat {own : String} {ic : Nat} {E : String} (C : aCtx G p s m args meth c cc n own)
    (h1 : ((vx_atS own ic E xNames).filter goodWord).all (fun w => decide (w ∈ lw_tbl)) = true) (h2 : ((vx_atS own ic E xNames).filter (fun w => !goodWord w)).all (fun w => decide (w ∈ xBad)) = true) : ∀ w ∈ vx_atS own ic E xNames, w.before args s = true :=
  vx_hat (B := xBad) (fun w hw => C.2.2.2.2.1 w (gw_in (of_decide_eq_true (List.all_eq_true.mp h1 w hw)) (List.mem_filter.mp hw).2)) (fun w hw => of_decide_eq_true (List.all_eq_true.mp h2 w hw)) (xBad_ok C.2.2.2.2.2.1)
theorem xPay {M0 : aH} {px : String → aH → Prop} {H : Heap} {locs : List Loc} {E : String} (h2 : va_P G.1 vwCl (aW G M) H) (h3 : H.size = G.2.1 + (M.1 + M.2.1)) (h4 : va_S (aOld G) s.heap H locs) (hc : M.1 + M.2.1 = M0.1 + M0.2.1) (hs : M.2.2.1 = M0.2.2.1) (hp : px E (M.1, M.2.1 + 1, M.2.2.1 + 6, M.2.2.2)) :
    ∀ t : State, s.vm.Alike t.vm → t.heap.size = H.size + 1 → (∀ q : Nat, q < H.size → t.heap[q]? = H[q]?) → aXc G M0 1 6 px E s t := by
  intro t _ hz hk
  refine ⟨⟨(M.1, M.2.1 + 1, M.2.2.1 + 6, M.2.2.2), hp, ?_, ?_, ?_, ?_⟩, ?_, ?_⟩
  · show M.1 + (M.2.1 + 1) = M0.1 + M0.2.1 + 1
    omega
  · show M.2.2.1 + 6 = M0.2.2.1 + 6
    omega
  · have e1 : aW G (M.1, M.2.1 + 1, M.2.2.1 + 6, M.2.2.2) = aW G M := rfl
    rw [e1]
    exact h2.kept fun k q hq => hk q.1 (vx_lt h2 hq)
  · show t.heap.size = G.2.1 + (M.1 + (M.2.1 + 1))
    omega
  · exact Nat.le_trans h4.1 (by omega)
  · intro q q1 q2
    rw [hk q (Nat.lt_of_lt_of_le q1 h4.1)]
    exact h4.2.1 q q1 q2
/-- throws of this exception, by its place among NotchedKeys' links -/
def xOk (ik ic : Nat) (E : String) : Prop := Cond.classLink RX6 ik E ∈ GW ∧ Cond.initialized E ∈ GW ∧ Bundle.fit E = true ∧ ((vx_atS RX6 ic E xNames).filter goodWord).all (fun w => decide (w ∈ lw_tbl)) = true ∧ ((vx_atS RX6 ic E xNames).filter (fun w => !goodWord w)).all (fun w => decide (w ∈ xBad)) = true ∧ (Cond.classLink RX6 ik E :: Cond.initialized E :: vx_atS RX6 ic E xNames).all vx_ot = true
theorem a_throwS {M0 : aH} {px : String → aH → Prop} (C : aCtx G p s m args meth c cc n RX6) (hl : l.flags = flags0) (ht : ∀ x ∈ c.exceptionTable.toList, False) {cls text : String} {ik is ic : Nat} (hX : xOk ik ic cls) (hstr : (is, text) ∈ aStr)
    (d0 : decode cc pc = .ok (.new ik, 3)) (d3 : decode cc (pc + 3) = .ok (.dup, 1)) (d4 : decode cc (pc + 4) = .ok (.ldc is, 2)) (d6 : decode cc (pc + 6) = .ok (.invokespecial ic, 3)) (d9 : decode cc (pc + 9) = .ok (.athrow, 1))
    (hR : 5 < R.frames ∧ 82 ≤ R.locals ∧ 1 ≤ R.cells ∧ 6 ≤ R.slots) (hk0 : k0 = M.1 + M.2.1) (hu0 : u0 = M.2.2.1) (hc : M.1 + M.2.1 = M0.1 + M0.2.1) (hs : M.2.2.1 = M0.2.2.1) (hp : px cls (M.1, M.2.1 + 1, M.2.2.1 + 6, M.2.2.2)) :
    WA G p l e R s m args below meth c (vx_MQ below (fun _ _ _ _ => False) (aXc G M0 1 6 px) args s 1 6 (aOld G)) n k0 u0 pc L [] M := by
  intro H locs ls cells slots h1 h2 h3 h4 h5 h6
  obtain ⟨sa, hsa⟩ := C.2.2.2.2.2.1.2.2.2.2.1 (is, text) hstr
  exact vz_throwS (names := xNames) (text := text) (sa := sa) (A := aOld G) C.1 C.2.1 (l_tr hl) C.2.2.2.1 hX.2.2.1 (by decide +kernel) (C.2.2.2.2.1 _ hX.1) (C.2.2.2.2.1 _ hX.2.1) hsa (xHat C hX.2.2.2.1 hX.2.2.2.2.1) (fun w hw => List.all_eq_true.mp hX.2.2.2.2.2 w hw)
    C.2.2.2.2.2.2.1.2.2.2.2.2.2.1 C.2.2.2.2.2.2.1.2.2.2.2.2.2.2 h4 (h1.1.trans C.2.2.1.symm) d0 d3 d4 d6 d9 (fun x hx => (ht x hx).elim) hR.1 (by show 0 + _ ≤ _; exact hR.2.1) (by omega) (by omega) C.2.2.2.2.2.2.2.2 (xPay h2 h3 h4 hc hs hp) h4.2.2 (by omega) (by omega)
theorem a_throwSW {M0 : aH} {px : String → aH → Prop} (C : aCtx G p s m args meth c cc n RX6) (hl : l.flags = flags0) (ht : ∀ x ∈ c.exceptionTable.toList, False) {cls text : String} {ik is ic : Nat} (hX : xOk ik ic cls) (hstr : (is, text) ∈ aStr)
    (d0 : decode cc pc = .ok (.new ik, 3)) (d3 : decode cc (pc + 3) = .ok (.dup, 1)) (d4 : decode cc (pc + 4) = .ok (.ldc_w is, 3)) (d7 : decode cc (pc + 7) = .ok (.invokespecial ic, 3)) (d10 : decode cc (pc + 10) = .ok (.athrow, 1))
    (hR : 5 < R.frames ∧ 82 ≤ R.locals ∧ 1 ≤ R.cells ∧ 6 ≤ R.slots) (hk0 : k0 = M.1 + M.2.1) (hu0 : u0 = M.2.2.1) (hc : M.1 + M.2.1 = M0.1 + M0.2.1) (hs : M.2.2.1 = M0.2.2.1) (hp : px cls (M.1, M.2.1 + 1, M.2.2.1 + 6, M.2.2.2)) :
    WA G p l e R s m args below meth c (vx_MQ below (fun _ _ _ _ => False) (aXc G M0 1 6 px) args s 1 6 (aOld G)) n k0 u0 pc L [] M := by
  intro H locs ls cells slots h1 h2 h3 h4 h5 h6
  obtain ⟨sa, hsa⟩ := C.2.2.2.2.2.1.2.2.2.2.1 (is, text) hstr
  exact vz_throwSW (names := xNames) (text := text) (sa := sa) (A := aOld G) C.1 C.2.1 (l_tr hl) C.2.2.2.1 hX.2.2.1 (by decide +kernel) (C.2.2.2.2.1 _ hX.1) (C.2.2.2.2.1 _ hX.2.1) hsa (xHat C hX.2.2.2.1 hX.2.2.2.2.1) (fun w hw => List.all_eq_true.mp hX.2.2.2.2.2 w hw)
    C.2.2.2.2.2.2.1.2.2.2.2.2.2.1 C.2.2.2.2.2.2.1.2.2.2.2.2.2.2 h4 (h1.1.trans C.2.2.1.symm) d0 d3 d4 d7 d10 (fun x hx => (ht x hx).elim) hR.1 (by show 0 + _ ≤ _; exact hR.2.1) (by omega) (by omega) C.2.2.2.2.2.2.2.2 (xPay h2 h3 h4 hc hs hp) h4.2.2 (by omega) (by omega)
theorem xIAE_l : Cond.classLink RX6 57 "java/lang/IllegalArgumentException" ∈ GW := gw_in (List.mem_of_getElem? (i := 471) (by decide +kernel)) rfl
theorem xIAE_i : Cond.initialized "java/lang/IllegalArgumentException" ∈ GW := gw_in (List.mem_of_getElem? (i := 49) (by decide +kernel)) rfl
set_option maxRecDepth 20000 in
theorem xIAE : xOk 57 61 "java/lang/IllegalArgumentException" := ⟨xIAE_l, xIAE_i, by decide +kernel, by decide +kernel, by decide +kernel, by decide +kernel⟩
theorem xISE_l : Cond.classLink RX6 68 "java/lang/IllegalStateException" ∈ GW := gw_in (List.mem_of_getElem? (i := 328) (by decide +kernel)) rfl
theorem xISE_i : Cond.initialized "java/lang/IllegalStateException" ∈ GW := gw_in (List.mem_of_getElem? (i := 51) (by decide +kernel)) rfl
set_option maxRecDepth 20000 in
theorem xISE : xOk 68 72 "java/lang/IllegalStateException" := ⟨xISE_l, xISE_i, by decide +kernel, by decide +kernel, by decide +kernel, by decide +kernel⟩
theorem xIOB_l : Cond.classLink RX6 89 "java/lang/IndexOutOfBoundsException" ∈ GW := gw_in (List.mem_of_getElem? (i := 499) (by decide +kernel)) rfl
theorem xIOB_i : Cond.initialized "java/lang/IndexOutOfBoundsException" ∈ GW := gw_in (List.mem_of_getElem? (i := 50) (by decide +kernel)) rfl
set_option maxRecDepth 20000 in
theorem xIOB : xOk 89 93 "java/lang/IndexOutOfBoundsException" := ⟨xIOB_l, xIOB_i, by decide +kernel, by decide +kernel, by decide +kernel, by decide +kernel⟩
theorem j_copy1 : Cond.methodLink RX5 49 arraycopyName ∈ GW := gw_in (List.mem_of_getElem? (i := 408) (by decide +kernel)) rfl
theorem j_copy2 : Cond.static arraycopyName ∈ GW := gw_in (List.mem_of_getElem? (i := 409) (by decide +kernel)) rfl
theorem j_copy3 : Cond.native arraycopyName ∈ GW := gw_in (List.mem_of_getElem? (i := 410) (by decide +kernel)) rfl
theorem j_copy4 : Cond.initialized "java/lang/System" ∈ GW := gw_in (List.mem_of_getElem? (i := 52) (by decide +kernel)) rfl
/-- System.arraycopy over ints, in a method that has made nothing -/
theorem a_copyi (C : aCtx G p s m args meth c cc n own) {index a0 a1 n0 n1 sp dp nn : Nat} {f g : Nat → Int32} (hlk : Cond.methodLink own index arraycopyName ∈ GW) (hd : decode cc pc = .ok (.invokestatic index, 3)) (ha0 : a0 < M.1) (ha02 : a0 < 1000) (hM0 : M.2.2.2 a0 = .inl (8, (n0, .inl f))) (ha1 : a1 < M.1) (ha12 : a1 < 1000) (hM1 : M.2.2.2 a1 = .inl (8, (n1, .inl g)))
    (hb : n0 < 2 ^ 31 ∧ n1 < 2 ^ 31) (h4 : sp + nn ≤ n0) (h5 : dp + nn ≤ n1) (hR : 1 ≤ R.frames ∧ 40 ≤ R.locals) (hk0 : k0 = M.1 + M.2.1)
    (k : WA G p l e R s m args below meth c Q n k0 u0 (pc + 3) L [] (aPut M a1 (.inl (8, (n1, .inl (va_cpy f g sp dp nn)))))) : WA G p l e R s m args below meth c Q n k0 u0 pc L [.int (nI nn), .int (nI dp), .ref a1, .int (nI sp), .ref a0] M := by
  intro H locs ls cells slots h1 h2 h3 h4' h5' h6
  have he0 : (aW G M)[a0]? = some (aAd G a0, .inl (G.2.2.1 8, (n0, .inl f))) := by rw [aAd_lt ha02]; exact aW_at ha0 hM0
  have he1 : (aW G M)[a1]? = some (aAd G a1, .inl (G.2.2.1 8, (n1, .inl g))) := by rw [aAd_lt ha12]; exact aW_at ha1 hM1
  have hcells : cells = 0 := by omega
  have c1 : (nI sp).toNatClampNeg = sp := nI_clamp (by omega)
  have c2 : (nI dp).toNatClampNeg = dp := nI_clamp (by omega)
  have c3 : (nI nn).toNatClampNeg = nn := nI_clamp (by omega)
  have hn0 : ∀ z : Nat, z < 2 ^ 31 → ¬ nI z < 0 := fun z hz => nI_pos hz
  intro T hT X
  have hsz : H.size = s.heap.size := by
    have q1 := X.same.2.2.1
    have q2 : T.heap.size ≤ s.heap.size + cells := q1
    have q3 := h4'.1
    rw [hT] at q2
    omega
  refine va_copyi (rest := []) (sp := nI sp) (dp := nI dp) (n := nI nn) C.1 C.2.1 (C.2.2.1.trans h1.1.symm) C.2.2.2.1 (C.2.2.2.2.1 _ hlk) (C.2.2.2.2.1 _ j_copy3) (C.2.2.2.2.1 _ j_copy2) (C.2.2.2.2.1 _ j_copy4) C.2.2.2.2.2.1.1 h2 (aW_D G M) h4' a0 a1 0 0 he0 he1 rfl rfl rfl (hn0 _ (by omega)) (hn0 _ (by omega)) (hn0 _ (by omega)) (by rw [c1, c3]; exact h4) (by rw [c2, c3]; exact h5) (fun i _ => rfl) hR.1 (Nat.le_trans (by decide +kernel) hR.2) hd (fun H1 locs1 p1 _ p3 => ?_) T hT X
  rw [c1, c2, c3, aAd_lt ha12] at p1
  have p1' : va_P G.1 vwCl (aW G (aPut M a1 (.inl (8, (n1, .inl (va_cpy f g sp dp nn)))))) H1 := by
    rw [← aW_set]
    exact p1
  intro T' hT' X'
  have hsz' : H1.size = s.heap.size := by
    have q2 : T'.heap.size ≤ s.heap.size + cells := X'.same.2.2.1
    have q3 := p3.1
    rw [hT'] at q2
    omega
  exact k H1 locs1 ls cells slots h1 p1' (by show H1.size = G.2.1 + (M.1 + M.2.1); omega) p3 h5' h6 T' hT' X'
end A20

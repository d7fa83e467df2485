section A6
/-! ### contracts over abstract heaps -/
def aPc (G : aG) (av : List Value) (M : aH) : Array Value → State → Prop := fun v U => v = (av.map (aV G)).toArray ∧ va_P G.1 vwCl (aW G M) U.heap ∧ U.heap.size = G.2.1 + (M.1 + M.2.1) ∧ aTb G aStr U ∧ aSt G U U.heap
theorem aPc_blind (G : aG) (av : List Value) (M : aH) : FrameBlind (aPc G av M) := by
  intro a U g mk q
  obtain ⟨h1, h2, h3, h4, h5⟩ := q
  exact ⟨h1, h2, h3, aTb.warm (s := U) (U := U.calling g mk a) (State.WarmedH.refl U) h4, aSt.moved (u := U) (U := U.calling g mk a) (Vm.Alike.refl U.vm) h5⟩
/-- the end: an answer and a heap of which 'post' holds; so many cells and slots were made; what lay there before is as it was -/
def aEnd (G : aG) (M : aH) (mc ms : Nat) (P : aH → Prop) (t : State) : Prop := ∃ M' : aH, P M' ∧ M'.1 + M'.2.1 = M.1 + M.2.1 + mc ∧ M'.2.2.1 = M.2.2.1 + ms ∧ va_P G.1 vwCl (aW G M') t.heap ∧ t.heap.size = G.2.1 + (M'.1 + M'.2.1)
def aQc (G : aG) (M : aH) (mc ms : Nat) (post : Option Value → aH → Prop) : Array Value → State → Outcome → State → Prop := fun _ st o t => (∃ r : Option Value, o = .returned (r.map (aV G)) ∧ aEnd G M mc ms (post r) t) ∧ va_F (aOld G) st t
/-- .. of a throw: the class's name, and the heap -/
def aXc (G : aG) (M : aH) (mc ms : Nat) (px : String → aH → Prop) : String → State → State → Prop := fun E st t => aEnd G M mc ms (px E) t ∧ va_F (aOld G) st t
/-- a method that returns -/
def CM (y : MethodName) (cc : ByteArray) (n : Nat) (ret : Option FieldType) (fr lo : Nat) (av : List Value) (M : aH) (mc ms : Nat) (post : Option Value → aH → Prop) : Prop :=
  ∀ (G : aG) (l : Launch), Met l y (Cond.code y cc n ret :: GW) { frames := fr, cells := mc, slots := ms, locals := lo } (aPc G av M) (aQc G M mc ms post) mc ms (aOld G)
/-- a method that throws -/
def CX (y : MethodName) (cc : ByteArray) (n : Nat) (ret : Option FieldType) (fr lo : Nat) (av : List Value) (M : aH) (mc ms : Nat) (px : String → aH → Prop) : Prop :=
  ∀ (G : aG) (l : Launch), l.flags = flags0 → vx_Met l y (Cond.code y cc n ret :: GW) { frames := fr, cells := mc, slots := ms, locals := lo } (aPc G av M) (fun _ _ _ _ => False) (aXc G M mc ms px) mc ms (aOld G)
/-- the words of a method's code -/
def aCode (y : MethodName) (cc : ByteArray) (n : Nat) (ret : Option FieldType) : Prop := Cond.code y cc n ret ∈ GW ∧ Cond.initialized y.cls ∈ GW ∧ y.cls ≠ "java/lang/invoke/MethodHandle" ∧ y.cls ≠ "java/lang/invoke/VarHandle" ∧ plainFor y = true
/-- local variables at the entry -/
def aEn (av : List Value) : aL := match av with
  | [] => []
  | v :: vs => if v.category = 2 then some v :: none :: aEn vs else some v :: aEn vs
theorem aEn_ok (G : aG) (av : List Value) : ∀ (off i : Nat) (v : Value), (aEn av)[i]? = some (some v) → (off + i, aV G v) ∈ lv_args off (av.map (aV G)) := by
  induction av with
  | nil => intro off i v h; simp [aEn] at h
  | cons w vs ih =>
    intro off i v h
    show _ ∈ (off, aV G w) :: lv_args (if (aV G w).category = 2 then off + 2 else off + 1) (vs.map (aV G))
    rw [aV_cat]
    unfold aEn at h
    by_cases hc : w.category = 2
    · rw [if_pos hc] at h ⊢
      match i, h with
      | 0, h => cases h; exact List.mem_cons_self
      | 1, h => cases h
      | k + 2, h =>
        have := ih (off + 2) k v (by simpa using h)
        rw [show off + (k + 2) = off + 2 + k by omega]
        exact List.mem_cons_of_mem _ this
    · rw [if_neg hc] at h ⊢
      match i, h with
      | 0, h => cases h; exact List.mem_cons_self
      | k + 1, h =>
        have := ih (off + 1) k v (by simpa using h)
        rw [show off + (k + 1) = off + 1 + k by omega]
        exact List.mem_cons_of_mem _ this
theorem aEn_entry (G : aG) (av : List Value) {n : Nat} (h : (lg_sl (av.map (aV G))).length ≤ n) : lv_has ((lg_sl (av.map (aV G)) ++ List.replicate (n - (lg_sl (av.map (aV G))).length) Slot.unset).toArray) n (aAl G (aEn av)) := by
  refine lv_mono (lv_entry (av.map (aV G)) h) fun q hq => ?_
  obtain ⟨w, hw, hv⟩ := aAl_of hq
  obtain ⟨i, z⟩ := q
  dsimp only at hw hv
  subst hv
  have := aEn_ok G av 0 i w hw
  rwa [Nat.zero_add] at this
/-- how many slots the arguments take -/
def aSz (av : List Value) : Nat := match av with
  | [] => 0
  | v :: vs => (if v.category = 2 then 2 else 1) + aSz vs
theorem aSz_ok (G : aG) (av : List Value) : (lg_sl (av.map (aV G))).length = aSz av := by
  induction av with
  | nil => rfl
  | cons v vs ih =>
    show (lg_sl (aV G v :: vs.map (aV G))).length = _
    show _ = (if v.category = 2 then 2 else 1) + aSz vs
    unfold lg_sl at ih ⊢
    rw [List.flatMap_cons, List.length_append, ih, aV_cat]
    by_cases hc : v.category = 2
    · rw [if_pos hc, if_pos hc]; rfl
    · rw [if_neg hc, if_neg hc]; rfl
theorem CM.of {y : MethodName} {cc : ByteArray} {n : Nat} {ret : Option FieldType} {fr lo : Nat} {av : List Value} {M : aH} {mc ms : Nat} {post : Option Value → aH → Prop} (hW : aCode y cc n ret) (hn : aSz av ≤ n)
    (body : ∀ (G : aG) (p : Program) (l : Launch) (e : Env) (s : State) (m : MethodId) (args : Array Value) (below : List Frame) (meth : Method) (c : Code), aCtx G p s m args meth c cc n y.cls → meth.sig.returnType = ret → meth.name = y.name →
      WA G p l e { frames := fr, cells := mc, slots := ms, locals := lo } s m args below meth c (MQ below (aQc G M mc ms post) args s mc ms (aOld G)) n (M.1 + M.2.1) M.2.2.1 0 (aEn av) [] M) : CM y cc n ret fr lo av M mc ms post := by
  intro G l
  refine MetFree.of_bodySF (code := cc) (maxLocals := n) (ret := ret) hW.2.2.2.2 ?_ ?_
  · intro args s m h hn
    obtain ⟨meth, c, h1, h2, h3, h4, h5, h6, -, -⟩ := Cond.code_spec hn (atoms_spec (ws := Cond.code y cc n ret :: GW) h _ List.mem_cons_self)
    exact ⟨meth, c, h1, h2, h3, h4, h5, h6⟩
  intro p e s m args below meth c s₁ B hml hv _
  have hh0 : s₁.heap = s.heap := by rw [B.state]; rfl
  obtain ⟨rfl, hP, hsz, hT, hS⟩ := hv
  have hts : ∀ w ∈ GW, w.before (av.map (aV G)).toArray s = true := fun w h => atoms_spec (ws := Cond.code y cc n ret :: GW) B.pre w (List.mem_cons_of_mem _ h)
  have hown : s.vm.findClass y.cls = some m.cls := findClass_of_methodNamed B.named
  have hin : meth.name = y.name := (name_of_methodNamed B.named B.method).1
  have hl := aEn_entry G av (n := n) (by rw [aSz_ok]; exact hn)
  have K := body G p l e s m _ below meth c ⟨B.exec, B.bytes, hml, hown, hts, hT, hS, by rw [hsz]; omega, B.notSynchronized⟩ B.returns hin s.heap [] _ 0 0 hl hP hsz va_S.rf (by omega) (by omega)
  rw [lg_entry_eq]
  obtain ⟨t, a1, o, b1, b2, b3⟩ := K s₁ hh0 (Stand.of_body B)
  exact ⟨t, o, a1, b1, b2, ⟨b3.1, b3.2⟩⟩
theorem CX.of {y : MethodName} {cc : ByteArray} {n : Nat} {ret : Option FieldType} {fr lo : Nat} {av : List Value} {M : aH} {mc ms : Nat} {px : String → aH → Prop} (hW : aCode y cc n ret) (hpn : plainName y.cls = true) (hn : aSz av ≤ n)
    (body : ∀ (G : aG) (p : Program) (l : Launch) (e : Env) (s : State) (m : MethodId) (args : Array Value) (below : List Frame) (meth : Method) (c : Code), aCtx G p s m args meth c cc n y.cls → l.flags = flags0 → (∀ x ∈ c.exceptionTable.toList, False) →
      WA G p l e { frames := fr, cells := mc, slots := ms, locals := lo } s m args below meth c (vx_MQ below (fun _ _ _ _ => False) (aXc G M mc ms px) args s mc ms (aOld G)) n (M.1 + M.2.1) M.2.2.1 0 (aEn av) [] M) : CX y cc n ret fr lo av M mc ms px := by
  intro G l hflags
  refine vx_ofW (cc := cc) (maxL := n) (ret := ret) hpn rfl ?_
  intro p e s m args below meth c s₁ B hml hnt hv
  obtain ⟨rfl, hP, hsz, hT, hS⟩ := hv
  have hts : ∀ w ∈ GW, w.before (av.map (aV G)).toArray s = true := fun w h => atoms_spec (ws := Cond.code y cc n ret :: GW) B.pre w (List.mem_cons_of_mem _ h)
  have hown : s.vm.findClass y.cls = some m.cls := findClass_of_methodNamed B.named
  have hl := aEn_entry G av (n := n) (by rw [aSz_ok]; exact hn)
  rw [lg_entry_eq]
  exact body G p l e s m _ below meth c ⟨B.exec, B.bytes, hml, hown, hts, hT, hS, by rw [hsz]; omega, B.notSynchronized⟩ hflags hnt s.heap [] _ 0 0 hl hP hsz va_S.rf (by omega) (by omega)
variable {G : aG} {p : Program} {l : Launch} {e : Env} {R : Room} {s : State} {m : MethodId} {args : Array Value} {below : List Frame} {meth : Method} {c : Code} {Q : State → Prop} {n k0 u0 pc : Nat} {cc : ByteArray} {own : String} {L : aL} {st : List Value} {M M0 : aH} {mc ms : Nat} {post : Option Value → aH → Prop}
/-! ### returns -/
theorem a_iret (C : aCtx G p s m args meth c cc n own) {ty : FieldType} {x : Int32} (hr : meth.sig.returnType = some ty) (hn : narrow ty (.int x) = .int x) (hd : decode cc pc = .ok (.ireturn, 1)) (hc : M.1 + M.2.1 = M0.1 + M0.2.1 + mc) (hs : M.2.2.1 = M0.2.2.1 + ms) (hp : post (some (.int x)) M) :
    WA G p l e R s m args below meth c (MQ below (aQc G M0 mc ms post) args s mc ms (aOld G)) n (M0.1 + M0.2.1) M0.2.2.1 pc L [.int x] M := by
  intro H locs ls cells slots h1 h2 h3 h4 h5 h6
  obtain rfl : cells = mc := by omega
  obtain rfl : slots = ms := by omega
  exact W.zret C.1 C.2.1 hr hn (fun t ht hW => ⟨⟨some (.int x), rfl, M, hp, hc, hs, by rw [ht]; exact h2, by rw [ht]; exact h3⟩, h4.F ht⟩) h4.2.2 hd C.2.2.2.2.2.2.2.2
theorem a_lret (C : aCtx G p s m args meth c cc n own) {x : Int64} (hr : meth.sig.returnType = some .long) (hd : decode cc pc = .ok (.lreturn, 1)) (hc : M.1 + M.2.1 = M0.1 + M0.2.1 + mc) (hs : M.2.2.1 = M0.2.2.1 + ms) (hp : post (some (.long x)) M) :
    WA G p l e R s m args below meth c (MQ below (aQc G M0 mc ms post) args s mc ms (aOld G)) n (M0.1 + M0.2.1) M0.2.2.1 pc L [.long x] M := by
  intro H locs ls cells slots h1 h2 h3 h4 h5 h6
  obtain rfl : cells = mc := by omega
  obtain rfl : slots = ms := by omega
  exact W.lret C.1 C.2.1 hr (fun t ht hW => ⟨⟨some (.long x), rfl, M, hp, hc, hs, by rw [ht]; exact h2, by rw [ht]; exact h3⟩, h4.F ht⟩) h4.2.2 hd C.2.2.2.2.2.2.2.2
theorem a_dret (C : aCtx G p s m args meth c cc n own) {x : UInt64} (hr : meth.sig.returnType = some .double) (hd : decode cc pc = .ok (.dreturn, 1)) (hc : M.1 + M.2.1 = M0.1 + M0.2.1 + mc) (hs : M.2.2.1 = M0.2.2.1 + ms) (hp : post (some (.double x)) M) :
    WA G p l e R s m args below meth c (MQ below (aQc G M0 mc ms post) args s mc ms (aOld G)) n (M0.1 + M0.2.1) M0.2.2.1 pc L [.double x] M := by
  intro H locs ls cells slots h1 h2 h3 h4 h5 h6
  obtain rfl : cells = mc := by omega
  obtain rfl : slots = ms := by omega
  exact W.dret C.1 C.2.1 hr (fun t ht hW => ⟨⟨some (.double x), rfl, M, hp, hc, hs, by rw [ht]; exact h2, by rw [ht]; exact h3⟩, h4.F ht⟩) h4.2.2 hd C.2.2.2.2.2.2.2.2
theorem a_fret (C : aCtx G p s m args meth c cc n own) {x : UInt32} (hr : meth.sig.returnType = some .float) (hd : decode cc pc = .ok (.freturn, 1)) (hc : M.1 + M.2.1 = M0.1 + M0.2.1 + mc) (hs : M.2.2.1 = M0.2.2.1 + ms) (hp : post (some (.float x)) M) :
    WA G p l e R s m args below meth c (MQ below (aQc G M0 mc ms post) args s mc ms (aOld G)) n (M0.1 + M0.2.1) M0.2.2.1 pc L [.float x] M := by
  intro H locs ls cells slots h1 h2 h3 h4 h5 h6
  obtain rfl : cells = mc := by omega
  obtain rfl : slots = ms := by omega
  exact W.fret C.1 C.2.1 hr (fun t ht hW => ⟨⟨some (.float x), rfl, M, hp, hc, hs, by rw [ht]; exact h2, by rw [ht]; exact h3⟩, h4.F ht⟩) h4.2.2 hd C.2.2.2.2.2.2.2.2
theorem a_vret (C : aCtx G p s m args meth c cc n own) (hr : meth.sig.returnType = none) (hd : decode cc pc = .ok (.return_, 1)) (hc : M.1 + M.2.1 = M0.1 + M0.2.1 + mc) (hs : M.2.2.1 = M0.2.2.1 + ms) (hp : post none M) :
    WA G p l e R s m args below meth c (MQ below (aQc G M0 mc ms post) args s mc ms (aOld G)) n (M0.1 + M0.2.1) M0.2.2.1 pc L [] M := by
  intro H locs ls cells slots h1 h2 h3 h4 h5 h6
  obtain rfl : cells = mc := by omega
  obtain rfl : slots = ms := by omega
  exact W.vret C.1 C.2.1 hr (fun t ht hW => ⟨⟨none, rfl, M, hp, hc, hs, by rw [ht]; exact h2, by rw [ht]; exact h3⟩, h4.F ht⟩) h4.2.2 hd C.2.2.2.2.2.2.2.2
/-! ### calls -/
theorem a_back {y : MethodName} {bytes : ByteArray} {maxL mc ms : Nat} {ret : Option FieldType} {H : Heap} {locs : List Loc} {ls : Array Slot} {cells slots : Nat} {a : Array Value} {st0 rest : List Value} (h4 : va_S (aOld G) s.heap H locs) (h1 : lv_has ls n (aAl G L)) (h5 : cells + k0 = M.1 + M.2.1) (h6 : slots + u0 = M.2.2.1)
    (hr : va_Run p l e R s m args below meth c H locs cells slots mc ms (F0 m pc ls st0) (rest.map (aV G)) (aQc G M mc ms post a) (aOld G))
    (k : ∀ (r : Option Value) (M' : aH), post r M' → M'.1 + M'.2.1 = M.1 + M.2.1 + mc → M'.2.2.1 = M.2.2.1 + ms → WA G p l e R s m args below meth c Q n k0 u0 (pc + 3) L (r.toList ++ rest) M') : W p l e R s m args below meth c H locs cells slots Q (F0 m pc ls st0) := by
  intro T hT X
  obtain ⟨v, st₀, t, T', L', e0, X', hL, e1, e2, ⟨⟨r, hv, M', hp, g1, g2, g3, g4⟩, hz, hk⟩, stp⟩ := hr T hT X
  cases hv
  rw [e0] at hz hk
  have hS' : va_S (aOld G) s.heap T'.heap (locs ++ L') := ⟨Nat.le_trans h4.1 (by rw [e1]; exact hz), fun q q1 q2 => by rw [e1, hk q (Nat.lt_of_lt_of_le q1 h4.1) q2]; exact h4.2.1 q q1 q2, fun q hq => by
      rcases List.mem_append.mp hq with h | h
      · exact h4.2.2 q h
      · exact hL q h⟩
  obtain ⟨t2, a1, b1⟩ := k r M' hp g1 g2 T'.heap (locs ++ L') ls (cells + mc) (slots + ms) h1 (by rw [e1]; exact g3) (by rw [e1]; exact g4) hS' (by omega) (by omega) T' rfl X'
  refine ⟨t2, stp t2 ?_, b1⟩
  have e9 : (Option.map (aV G) r).toList ++ rest.map (aV G) = (r.toList ++ rest).map (aV G) := by cases r <;> rfl
  show Steps p.tables e below (T'.setTop (F0 m (pc + 3) ls ((Option.map (aV G) r).toList ++ rest.map (aV G)))) t2
  rw [e9]
  exact a1
theorem aPre {H : Heap} {locs : List Loc} (C : aCtx G p s m args meth c cc n own) (h2 : va_P G.1 vwCl (aW G M) H) (h3 : H.size = G.2.1 + (M.1 + M.2.1)) (h4 : va_S (aOld G) s.heap H locs) (av : List Value) : ∀ U : State, U.heap = H → s.WarmedH U.vm → aPc G av M (av.map (aV G)).toArray U := by
  intro U hU hW
  refine ⟨rfl, by rw [hU]; exact h2, by rw [hU]; exact h3, aTb.warm hW C.2.2.2.2.2.1, ?_⟩
  rw [hU]
  exact aSt.moved hW.alike (C.2.2.2.2.2.2.1.kept fun a q1 q2 => h4.2.1 a q1 q2)
/-- the words of a call of y at the place 'index' of own's pool -/
def aCv (own : String) (index : Nat) (y : MethodName) (bytes : ByteArray) (maxL : Nat) (ret : Option FieldType) (na : Nat) : Prop := aCode y bytes maxL ret ∧ Cond.methodLink own index y ∈ GW ∧ Cond.instanceMethod y ∈ GW ∧ Cond.selects y.cls y y ∈ GW ∧ (parseMethodDescriptor y.desc).map (fun d => d.parameters.length) = some na
def aCs (own : String) (index : Nat) (y : MethodName) (bytes : ByteArray) (maxL : Nat) (ret : Option FieldType) (na : Nat) : Prop := aCode y bytes maxL ret ∧ Cond.methodLink own index y ∈ GW ∧ Cond.static y ∈ GW ∧ (parseMethodDescriptor y.desc).map (fun d => d.parameters.length) = some na
def aCi (own : String) (index : Nat) (y : MethodName) (bytes : ByteArray) (maxL : Nat) (na : Nat) : Prop := aCode y bytes maxL none ∧ Cond.methodLink own index y ∈ GW ∧ Cond.instanceMethod y ∈ GW ∧ y.name = "<init>" ∧ (parseMethodDescriptor y.desc).map (fun d => d.parameters.length) = some na
theorem aCode_good {y : MethodName} {bytes : ByteArray} {maxL : Nat} {ret : Option FieldType} (h : aCode y bytes maxL ret) : GoodIn GW (Cond.code y bytes maxL ret :: GW) := fun w hw => (List.mem_cons.mp hw).elim (fun e => by rw [e]; exact gw_good _ h.1) (fun h' => gw_good w h')
theorem aCallB (C : aCtx G p s m args meth c cc n own) {index : Nat} {y : MethodName} {bytes : ByteArray} {maxL na fr lo mc ms : Nat} {ret : Option FieldType} (hw : aCode y bytes maxL ret) (hl : Cond.methodLink own index y ∈ GW) (hna : (parseMethodDescriptor y.desc).map (fun d => d.parameters.length) = some na) (hR : fr + 1 ≤ R.frames ∧ 8 + (maxL + 11) + lo ≤ R.locals) :
    CallB R s args own index y bytes maxL ret (Cond.code y bytes maxL ret :: GW) { frames := fr, cells := mc, slots := ms, locals := lo } mc ms na :=
  callB_of na C.2.2.2.2.1 (aCode_good hw) rfl rfl rfl (C.2.2.2.2.1 _ hw.2.1) (C.2.2.2.2.1 _ hl) ⟨hw.2.2.1, hw.2.2.2.1, hna⟩ hR
theorem aCat (G : aG) (rest : List Value) : ((rest.map (aV G)).map fun v => v.category).sum = (rest.map fun v => v.category).sum := by
  rw [List.map_map]
  congr 1
  apply List.map_congr_left
  intro v _
  exact aV_cat G v
theorem aRecv {b ci N : Nat} {C9 : String} {T : u_T} {fs : List Value} {H : Heap} (C : aCtx G p s m args meth c cc n own) (h2 : va_P G.1 vwCl (aW G M) H) (hb : b < M.1) (hb2 : b < 1000) (hbM : M.2.2.2 b = .inr (ci, fs)) (hc : vwCl[ci]? = some (C9, T, N)) : ∃ cellB : Cell, H[aAd G b]? = some cellB ∧ cellB.vm.isStatics = false ∧ s.vm.findClass C9 = some cellB.cls := by
  have he : (aW G M)[b]? = some (aAd G b, .inr (ci, fs.map (aV G))) := by rw [aAd_lt hb2]; exact aW_at hb hbM
  obtain ⟨r, g1, cell, q1, q2, q3, -⟩ := h2 b _ he
  obtain ⟨-, hfc, -⟩ := C.2.2.2.2.2.1.1.1 ci _ hc
  exact ⟨cell, q1, by rw [q3]; rfl, by rw [q2]; exact hfc⟩
theorem aRev (G : aG) (As : List Value) (x : List Value) : (As.reverse ++ x).map (aV G) = (As.map (aV G)).reverse ++ x.map (aV G) := by simp
theorem a_callV (C : aCtx G p s m args meth c cc n own) {index : Nat} {y : MethodName} {bytes : ByteArray} {maxL fr lo mc ms : Nat} {ret : Option FieldType} (As : List Value) {b : Nat} {rest st0 : List Value} (ci : Nat) {N : Nat} {T : u_T} {fs : List Value}
    (hM : CM y bytes maxL ret fr lo (.ref b :: As) M mc ms post) (hw : aCv own index y bytes maxL ret As.length) (hb : b < M.1) (hb2 : b < 1000) (hbM : M.2.2.2 b = .inr (ci, fs)) (hc : vwCl[ci]? = some (y.cls, T, N)) (hd : decode cc pc = .ok (.invokevirtual index, 3)) (hst : st0 = As.reverse ++ .ref b :: rest) (h8 : (rest.map fun v => v.category).sum ≤ 8)
    (hR : fr + 1 ≤ R.frames ∧ 8 + (maxL + 11) + lo ≤ R.locals) (hbud : M.1 + M.2.1 + mc ≤ k0 + R.cells ∧ M.2.2.1 + ms ≤ u0 + R.slots)
    (k : ∀ (r : Option Value) (M' : aH), post r M' → M'.1 + M'.2.1 = M.1 + M.2.1 + mc → M'.2.2.1 = M.2.2.1 + ms → WA G p l e R s m args below meth c Q n k0 u0 (pc + 3) L (r.toList ++ rest) M') : WA G p l e R s m args below meth c Q n k0 u0 pc L st0 M := by
  intro H locs ls cells slots h1 h2 h3 h4 h5 h6
  subst hst
  rw [aRev]
  refine a_back (mc := mc) (ms := ms) (rest := rest) (y := y) (bytes := bytes) (maxL := maxL) (ret := ret) h4 h1 h5 h6 (va_runV (As := As.map (aV G)) (rest := rest.map (aV G)) (b := aAd G b) ⟨C.1, C.2.1, C.2.2.1, C.2.2.2.1, C.2.2.2.2.1⟩ (hM G l) ⟨aCallB C hw.1 hw.2.1 hw.2.2.2.2 hR, C.2.2.2.2.1 _ hw.2.2.1, C.2.2.2.2.1 _ hw.2.2.2.1⟩ ⟨aPc_blind G _ M, aRecv C h2 hb hb2 hbM hc, aPre C h2 h3 h4 (.ref b :: As)⟩ rfl (by rw [List.length_map]) h1.1 rfl (lv_room (by rw [aCat]; exact h8)) hd ⟨by omega, by omega⟩) k
theorem a_callS (C : aCtx G p s m args meth c cc n own) {index : Nat} {y : MethodName} {bytes : ByteArray} {maxL fr lo mc ms : Nat} {ret : Option FieldType} (As : List Value) {rest st0 : List Value}
    (hM : CM y bytes maxL ret fr lo As M mc ms post) (hw : aCs own index y bytes maxL ret As.length) (hd : decode cc pc = .ok (.invokestatic index, 3)) (hst : st0 = As.reverse ++ rest) (h8 : (rest.map fun v => v.category).sum ≤ 8)
    (hR : fr + 1 ≤ R.frames ∧ 8 + (maxL + 11) + lo ≤ R.locals) (hbud : M.1 + M.2.1 + mc ≤ k0 + R.cells ∧ M.2.2.1 + ms ≤ u0 + R.slots)
    (k : ∀ (r : Option Value) (M' : aH), post r M' → M'.1 + M'.2.1 = M.1 + M.2.1 + mc → M'.2.2.1 = M.2.2.1 + ms → WA G p l e R s m args below meth c Q n k0 u0 (pc + 3) L (r.toList ++ rest) M') : WA G p l e R s m args below meth c Q n k0 u0 pc L st0 M := by
  intro H locs ls cells slots h1 h2 h3 h4 h5 h6
  subst hst
  rw [aRev]
  refine a_back (mc := mc) (ms := ms) (rest := rest) (y := y) (bytes := bytes) (maxL := maxL) (ret := ret) h4 h1 h5 h6 (va_runS (As := As.map (aV G)) (rest := rest.map (aV G)) ⟨C.1, C.2.1, C.2.2.1, C.2.2.2.1, C.2.2.2.2.1⟩ (hM G l) ⟨aCallB C hw.1 hw.2.1 hw.2.2.2 hR, C.2.2.2.2.1 _ hw.2.2.1⟩ ⟨aPc_blind G _ M, aPre C h2 h3 h4 As⟩ rfl (by rw [List.length_map]) h1.1 rfl (lv_room (by rw [aCat]; exact h8)) hd ⟨by omega, by omega⟩) k
theorem a_callI (C : aCtx G p s m args meth c cc n own) {index : Nat} {y : MethodName} {bytes : ByteArray} {maxL fr lo mc ms : Nat} (As : List Value) {b : Nat} {rest st0 : List Value}
    (hM : CM y bytes maxL none fr lo (.ref b :: As) M mc ms post) (hw : aCi own index y bytes maxL As.length) (hd : decode cc pc = .ok (.invokespecial index, 3)) (hst : st0 = As.reverse ++ .ref b :: rest) (h8 : (rest.map fun v => v.category).sum ≤ 8)
    (hR : fr + 1 ≤ R.frames ∧ 8 + (maxL + 11) + lo ≤ R.locals) (hbud : M.1 + M.2.1 + mc ≤ k0 + R.cells ∧ M.2.2.1 + ms ≤ u0 + R.slots)
    (k : ∀ (r : Option Value) (M' : aH), post r M' → M'.1 + M'.2.1 = M.1 + M.2.1 + mc → M'.2.2.1 = M.2.2.1 + ms → WA G p l e R s m args below meth c Q n k0 u0 (pc + 3) L (r.toList ++ rest) M') : WA G p l e R s m args below meth c Q n k0 u0 pc L st0 M := by
  intro H locs ls cells slots h1 h2 h3 h4 h5 h6
  subst hst
  rw [aRev]
  refine a_back (mc := mc) (ms := ms) (rest := rest) (y := y) (bytes := bytes) (maxL := maxL) (ret := none) h4 h1 h5 h6 (va_runI (As := As.map (aV G)) (rest := rest.map (aV G)) (b := aAd G b) ⟨C.1, C.2.1, C.2.2.1, C.2.2.2.1, C.2.2.2.2.1⟩ (hM G l) ⟨aCallB C hw.1 hw.2.1 hw.2.2.2.2 hR, hw.2.2.2.1, C.2.2.2.2.1 _ hw.2.2.1⟩ ⟨aPc_blind G _ M, aPre C h2 h3 h4 (.ref b :: As)⟩ rfl (by rw [List.length_map]) h1.1 rfl (lv_room (by rw [aCat]; exact h8)) hd ⟨by omega, by omega⟩) k
end A6

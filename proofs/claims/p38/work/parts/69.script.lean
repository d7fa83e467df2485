section A69
/-! ### the script's ints -/
def lwM (v : Int32) : Nat := (v.toBitVec &&& 2147483647#32).toNat
def lwN (v : Int32) (N : Nat) : Nat := lwM v % N
theorem lw_and (v : Int32) : v &&& 2147483647 = nI (lwM v) := by
  apply Int32.toBitVec_inj.mp
  show v.toBitVec &&& 2147483647#32 = BitVec.ofNat 32 (v.toBitVec &&& 2147483647#32).toNat
  simp
theorem lwM_lt (v : Int32) : lwM v < 2 ^ 31 := by
  unfold lwM
  rw [BitVec.toNat_and]
  exact Nat.lt_of_le_of_lt Nat.and_le_right (by decide)
theorem lwN_lt (v : Int32) {N : Nat} (h : 0 < N) : lwN v N < N := Nat.mod_lt _ h
set_option maxRecDepth 20000 in
set_option maxHeartbeats 4000000 in
theorem K_L_low (v : Int32) {N : Nat} (h0 : 0 < N) (hN : N < 2 ^ 31) : CS yL_low cL_low 2 (some .int) 0 0 [.int v, .int (nI N)] (.int (nI (lwN v N))) := by
  refine CS.of ok_L_low (Nat.le_of_ble_eq_true rfl) (fun M9 G9 p9 l9 e9 s9 m9 ar9 be9 me9 co9 C hr => ?_)
  refine a_iload_n C dL_low_0 rfl rfl ?_
  refine a_ldc C dL_low_1 wL_9 ?_
  refine a_iand C dL_low_3 ?_
  refine a_eq rfl (gl1 (lw_and v)) rfl ?_
  refine a_iload_n C dL_low_4 rfl rfl ?_
  refine n_irem C dL_low_5 (lwM_lt v) (by first | decide | omega) (by first | decide | omega) ?_
  refine a_iret C hr ?_ dL_low_6 rfl rfl ⟨?_, rfl⟩
  · rfl
  · rfl

/-! ### a method of the law that reads the script, which is thing 1003 -/
def aScr (G : aG) (s : State) (N : Nat) (xs : Nat → Int32) : Prop := va_X (G.2.2.2 3) N xs s s.heap ∧ G.2.2.2 3 < s.heap.size ∧ G.2.2.2 3 < G.2.1
def aPs (G : aG) (av : List Value) (M : aH) (N : Nat) (xs : Nat → Int32) : Array Value → State → Prop := fun v U => aPc G av M v U ∧ aScr G U N xs
theorem aPs_blind (G : aG) (av : List Value) (M : aH) (N : Nat) (xs : Nat → Int32) : FrameBlind (aPs G av M N xs) := by
  intro a U g mk q
  obtain ⟨h1, h2, h3, h4⟩ := q
  exact ⟨aPc_blind G av M a U g mk h1, va_X.moved (u := U) (U := U.calling g mk a) (Vm.Alike.refl U.vm) h2, h3, h4⟩
def CMs (y : MethodName) (cc : ByteArray) (n : Nat) (ret : Option FieldType) (fr lo : Nat) (av : List Value) (M : aH) (N : Nat) (xs : Nat → Int32) (post : Option Value → aH → Prop) : Prop :=
  ∀ (G : aG) (l : Launch), Met l y (Cond.code y cc n ret :: GW) { frames := fr, cells := 0, slots := 0, locals := lo } (aPs G av M N xs) (aQc G M 0 0 post) 0 0 (aOld G)
theorem CMs.of {y : MethodName} {cc : ByteArray} {n : Nat} {ret : Option FieldType} {fr lo : Nat} {av : List Value} {M : aH} {N : Nat} {xs : Nat → Int32} {post : Option Value → aH → Prop} (hW : aCode y cc n ret) (hn : aSz av ≤ n)
    (body : ∀ (G : aG) (p : Program) (l : Launch) (e : Env) (s : State) (m : MethodId) (args : Array Value) (below : List Frame) (meth : Method) (c : Code), aCtx G p s m args meth c cc n y.cls → aScr G s N xs → meth.sig.returnType = ret →
      WA G p l e { frames := fr, cells := 0, slots := 0, locals := lo } s m args below meth c (MQ below (aQc G M 0 0 post) args s 0 0 (aOld G)) n (M.1 + M.2.1) M.2.2.1 0 (aEn av) [] M) : CMs y cc n ret fr lo av M N xs post := by
  intro G l
  refine MetFree.of_bodySF (code := cc) (maxLocals := n) (ret := ret) hW.2.2.2.2 ?_ ?_
  · intro args s m h hn
    obtain ⟨meth, c, h1, h2, h3, h4, h5, h6, -, -⟩ := Cond.code_spec hn (atoms_spec (ws := Cond.code y cc n ret :: GW) h _ List.mem_cons_self)
    exact ⟨meth, c, h1, h2, h3, h4, h5, h6⟩
  intro p e s m args below meth c s₁ B hml hv _
  have hh0 : s₁.heap = s.heap := by rw [B.state]; rfl
  obtain ⟨⟨rfl, hP, hsz, hT, hS⟩, hX⟩ := hv
  have hts : ∀ w ∈ GW, w.before (av.map (aV G)).toArray s = true := fun w h => atoms_spec (ws := Cond.code y cc n ret :: GW) B.pre w (List.mem_cons_of_mem _ h)
  have hown : s.vm.findClass y.cls = some m.cls := findClass_of_methodNamed B.named
  have hl := aEn_entry G av (n := n) (by rw [aSz_ok]; exact hn)
  have K := body G p l e s m _ below meth c ⟨B.exec, B.bytes, hml, hown, hts, hT, hS, by rw [hsz]; omega, B.notSynchronized⟩ hX B.returns s.heap [] _ 0 0 hl hP hsz va_S.rf (by omega) (by omega)
  rw [lg_entry_eq]
  obtain ⟨t, a1, o, b1, b2, b3⟩ := K s₁ hh0 (Stand.of_body B)
  exact ⟨t, o, a1, b1, b2, ⟨b3.1, b3.2⟩⟩
variable {G : aG} {p : Program} {l : Launch} {e : Env} {R : Room} {s : State} {m : MethodId} {args : Array Value} {below : List Frame} {meth : Method} {c : Code} {Q : State → Prop} {n k0 u0 pc : Nat} {cc : ByteArray} {own : String} {L : aL} {st : List Value} {M : aH} {N : Nat} {xs : Nat → Int32} {post : Option Value → aH → Prop}
theorem a_scl (C : aCtx G p s m args meth c cc n own) {j : Nat} {i : Int32} (hX : aScr G s N xs) (hd : decode cc pc = .ok (.iaload, 1)) (hi : i = nI j) (hj : j < N) (hN : N < 2 ^ 31) (k : WA G p l e R s m args below meth c Q n k0 u0 (pc + 1) L (.int (xs j) :: st) M) : WA G p l e R s m args below meth c Q n k0 u0 pc L (.int i :: .ref 1003 :: st) M := by
  intro H locs ls cells slots h1 h2 h3 h4 h5 h6
  subst hi
  have kk := k H locs ls cells slots h1 h2 h3 h4 h5 h6
  refine va_sld (b := G.2.2.2 3) (rest := st.map (aV G)) C.1 C.2.1 hX.1 hX.2.1 (Nat.not_le.mpr hX.2.2) h4 (vp_in_nI hj hN) hd ?_
  rw [nI_clamp (by omega)]
  exact kk
theorem a_sln (C : aCtx G p s m args meth c cc n own) (hX : aScr G s N xs) (hd : decode cc pc = .ok (.arraylength, 1)) (k : WA G p l e R s m args below meth c Q n k0 u0 (pc + 1) L (.int (nI N) :: st) M) : WA G p l e R s m args below meth c Q n k0 u0 pc L (.ref 1003 :: st) M := by
  intro H locs ls cells slots h1 h2 h3 h4 h5 h6
  exact va_slen (b := G.2.2.2 3) (rest := st.map (aV G)) C.1 C.2.1 hX.1 hX.2.1 (Nat.not_le.mpr hX.2.2) h4 hd (k H locs ls cells slots h1 h2 h3 h4 h5 h6)
theorem a_callSs (C : aCtx G p s m args meth c cc n own) (hX : aScr G s N xs) {index : Nat} {y : MethodName} {bytes : ByteArray} {maxL fr lo : Nat} {ret : Option FieldType} (As : List Value) {rest st0 : List Value}
    (hM : CMs y bytes maxL ret fr lo As M N xs post) (hw : aCs own index y bytes maxL ret As.length) (hd : decode cc pc = .ok (.invokestatic index, 3)) (hst : st0 = As.reverse ++ rest) (h8 : (rest.map fun v => v.category).sum ≤ 8)
    (hR : fr + 1 ≤ R.frames ∧ 8 + (maxL + 11) + lo ≤ R.locals) (hbud : M.1 + M.2.1 ≤ k0 + R.cells ∧ M.2.2.1 ≤ u0 + R.slots)
    (k : ∀ (r : Option Value) (M' : aH), post r M' → WA G p l e R s m args below meth c Q n k0 u0 (pc + 3) L (r.toList ++ rest) M') : WA G p l e R s m args below meth c Q n k0 u0 pc L st0 M := by
  intro H locs ls cells slots h1 h2 h3 h4 h5 h6
  subst hst
  rw [aRev]
  refine a_back (M := M) (mc := 0) (ms := 0) (rest := rest) (y := y) (bytes := bytes) (maxL := maxL) (ret := ret) h4 h1 h5 h6 (va_runS (As := As.map (aV G)) (rest := rest.map (aV G)) ⟨C.1, C.2.1, C.2.2.1, C.2.2.2.1, C.2.2.2.2.1⟩ (hM G l) ⟨aCallB C hw.1 hw.2.1 hw.2.2.2 hR, C.2.2.2.2.1 _ hw.2.2.1⟩ ⟨aPs_blind G _ _ _ _, fun U hU hW => ⟨aPre C h2 h3 h4 As U hU hW, va_X.moved hW.alike (va_X.kept hX.1 (by rw [hU]; exact h4.2.1 _ hX.2.1 (Nat.not_le.mpr hX.2.2))), by rw [hU]; exact Nat.lt_of_lt_of_le hX.2.1 h4.1, hX.2.2⟩⟩ rfl (by rw [List.length_map]) h1.1 rfl (lv_room (by rw [aCat]; exact h8)) hd ⟨by omega, by omega⟩) (fun r M' hp _ _ => k r M' hp)
/-- the k-th int of the script, or one made of k -/
def celI (xs : Nat → Int32) (N k : Nat) : Int32 := if k < N then xs k else 43201 * nI (k + 3) + 2737623
theorem K_L_cell {k : Nat} (hk : k < 2 ^ 20) (hN : N < 2 ^ 31) : CMs yL_cell cL_cell 2 (some .int) 0 0 [.ref 1003, .int (nI k)] M N xs (fun r M' => r = some (.int (celI xs N k)) ∧ M' = M) := by
  refine CMs.of ok_L_cell (Nat.le_of_ble_eq_true rfl) (fun G p l e s m args below meth c C hX hr => ?_)
  refine a_iload_n C dL_cell_0 rfl rfl ?_
  refine a_aload_n C dL_cell_1 rfl rfl ?_
  refine a_sln C hX dL_cell_2 ?_
  refine n_icmp_ge (tgt := 12) C dL_cell_3 (by decide) (by omega) hN (fun h_3 => ?_) (fun h_3 => ?_)
  · refine a_ldc C dL_cell_12 wL_7 ?_
    refine a_iload_n C dL_cell_14 rfl rfl ?_
    refine a_iconst (v := nI 3) C dL_cell_15 (by decide) ?_
    refine n_iadd C dL_cell_16 ?_
    refine a_imul C dL_cell_17 ?_
    refine a_ldc C dL_cell_18 wL_8 ?_
    refine a_iadd C dL_cell_20 ?_
    exact a_iret C hr rfl dL_cell_21 rfl rfl ⟨by unfold celI; rw [if_neg (by omega)], rfl⟩
  · refine a_aload_n C dL_cell_6 rfl rfl ?_
    refine a_iload_n C dL_cell_7 rfl rfl ?_
    refine a_scl C hX dL_cell_8 rfl h_3 hN ?_
    refine a_goto (tgt := 21) C dL_cell_9 (by decide) ?_
    exact a_iret C hr rfl dL_cell_21 rfl rfl ⟨by unfold celI; rw [if_pos h_3], rfl⟩
end A69

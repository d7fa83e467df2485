section A53
/-! ### the same, with a short store -/
variable {G : aG} {p : Program} {l : Launch} {e : Env} {R : Room} {s : State} {m : MethodId} {args : Array Value} {below : List Frame} {meth : Method} {c : Code} {Q : State → Prop} {n k0 u0 pc : Nat} {cc : ByteArray} {own : String} {L : aL} {st : List Value} {M : aH}
theorem a_xcatN (C : aCtx G p s m args meth c cc n own) (hfl : l.flags = flags0) {px : String → aH → Prop} {index : Nat} {y : MethodName} {bytes : ByteArray} {maxL fr lo mc ms : Nat} {ret : Option FieldType} (As : List Value) {b : Nat} {rest st0 : List Value} (ci : Nat) {N : Nat} {T : u_T} {fs : List Value}
    (hM : CX y bytes maxL ret fr lo (.ref b :: As) M mc ms px) (hw : aCv own index y bytes maxL ret As.length) (hb : b < M.1) (hb2 : b < 1000) (hbM : M.2.2.2 b = .inr (ci, fs)) (hc : vwCl[ci]? = some (y.cls, T, N)) (hd : decode cc pc = .ok (.invokevirtual index, 3)) (hst : st0 = As.reverse ++ .ref b :: rest) (h8 : (rest.map fun v => v.category).sum ≤ 8)
    (hR : fr + 1 ≤ R.frames ∧ 8 + (maxL + 11) + lo ≤ R.locals) (hbud : M.1 + M.2.1 + mc ≤ k0 + R.cells ∧ M.2.2.1 + ms ≤ u0 + R.slots)
    {E : String} (hE : E ∈ aExc) (hpx : ∀ E' M', px E' M' → E' = E) (pre : List ExceptionTableEntry) (x : ExceptionTableEntry) (suf : List ExceptionTableEntry) (hsplit : c.exceptionTable.toList = pre ++ x :: suf)
    (hpass : ∀ z ∈ pre, covers z pc = false ∨ (z.catchType ≠ 0 ∧ ∃ nm ∈ aExc, E ≠ nm ∧ Cond.classLink own z.catchType nm ∈ GW)) (hx : covers x pc = true) (h0 : x.catchType ≠ 0) (hlink : Cond.classLink own x.catchType E ∈ GW)
    {j : Fin 4} (hda : decode cc x.handlerPc = .ok (.astore_n j, 1)) (hj : j.val < n)
    (k : ∀ M' : aH, px E M' → M'.1 + M'.2.1 = M.1 + M.2.1 + mc → M'.2.2.1 = M.2.2.1 + ms → WA G p l e R s m args below meth c Q n k0 u0 (x.handlerPc + 1) [] [] M') : WA G p l e R s m args below meth c Q n k0 u0 pc L st0 M := by
  intro H locs ls cells slots h1 h2 h3 h4 h5 h6
  subst hst
  rw [aRev]
  have hr := vx_runV (meth := meth) (R := R) (below := below) (e := e) (cells := cells) (slots := slots) (locs := locs) (g := F0 m pc ls (((As.map (aV G))).reverse ++ .ref (aAd G b) :: rest.map (aV G))) (As := As.map (aV G)) (rest := rest.map (aV G)) (b := aAd G b) ⟨C.1, C.2.1, C.2.2.1, C.2.2.2.1, C.2.2.2.2.1⟩ (hM G l hfl) ⟨aCallB C hw.1 hw.2.1 hw.2.2.2.2 hR, C.2.2.2.2.1 _ hw.2.2.1, C.2.2.2.2.1 _ hw.2.2.2.1⟩ ⟨aPc_blind G _ M, aRecv C h2 hb hb2 hbM hc, aPre C h2 h3 h4 (.ref b :: As)⟩ rfl (by rw [List.length_map]) h1.1 rfl (lv_room (by rw [aCat]; exact h8)) hd ⟨by omega, by omega⟩
  intro T9 hT X
  rcases hr T9 hT X with ⟨v, st₀, t, T', L9, g0, X', hL, e1, e2, hF, -⟩ | ⟨q, st₀, t, T', L9, E9, ce, g0, X', hL, e1, e2, ⟨⟨M', hp, g1, g2, g3, g4⟩, hF⟩, hce, hcv, hcl, stp⟩
  · exact hF.elim
  · have hE9 := hpx E9 M' hp
    subst hE9
    obtain ⟨k1, k2, k3⟩ := vx_keep g0 e1 h4 (fun _ _ z => z) (fun _ z => z) hL hF
    have kk : W p l e R s m args below meth c T'.heap (locs ++ L9) (cells + mc) (slots + ms) Q (F0 m x.handlerPc ls [.ref q]) :=
      lv_astore_n C.1 C.2.1 hda rfl h1 hj rfl (fun ls2 h9 => k M' hp g1 g2 T'.heap (locs ++ L9) ls2 (cells + mc) (slots + ms) (lv_mono h9 (fun z hz => absurd hz (by intro h; cases h))) (by rw [e1]; exact g3) (by rw [e1]; exact g4) k3 (by omega) (by omega))
    obtain ⟨t2, a1, b1⟩ := vx_catch (ls := ls) (rest := rest.map (aV G)) (pc := pc) C.2.2.2.1 pre x suf hsplit (fun z hz => by
      rcases hpass z hz with h | ⟨hz0, nm, hnm, hne, hl1⟩
      · exact Or.inl h
      · exact Or.inr ⟨hz0, nm, C.2.2.2.2.1 _ hl1, C.2.2.2.2.2.1.2.2.2.2.2 _ hE nm hnm hne⟩) hx h0 (C.2.2.2.2.1 _ hlink) (va_Nw.use rfl (C.2.2.2.2.2.1.2.2.2.1 _ hE)) (by rw [e1]; exact hce) hcv hcl kk T' rfl X'
    exact ⟨t2, stp.trans a1, b1⟩
end A53

section A74
/-! ### the law's own rows: the script, the law's end, and what holds at its entry -/
variable {G : aG} {p : Program} {l : Launch} {e : Env} {R : Room} {s : State} {m : MethodId} {args : Array Value} {below : List Frame} {meth : Method} {c : Code} {Q : State → Prop} {n k0 u0 pc : Nat} {cc : ByteArray} {own : String} {L : aL} {st : List Value} {M : aH}
theorem law_end {b : Nat} (C : aCtx G p s m #[Value.ref b] meth c cL_law 15 RL) (hr : meth.sig.returnType = ret) (hs : G.2.1 = s.heap.size) (hc : M.1 + M.2.1 ≤ 600172) (hu : M.2.2.1 ≤ 7300668) (hd : decode cL_law pc = .ok (.ireturn, 1)) : WA G p l e room_1 s m #[Value.ref b] below meth c (lw_Z below #[Value.ref b] s) 15 0 0 pc L [.int 1] M := by
  intro H locs ls cells slots h1 h2 h3 h4 h5 h6
  refine va_forget (fun q hq => by rw [← hs]; exact h4.2.2 q hq) ?_
  refine W.widen (k := 600172) (n := 7300668) (by omega) (by omega) ?_
  exact W.base (lw_ret (Drawn.sameBut.refl s.drawn lw_cs) C.1 C.2.1 hr C.2.2.2.2.2.2.2.2 hd)
/-! ### words out of words -/
theorem decl_of {x : MethodName} {cc : ByteArray} {n : Nat} {ret : Option FieldType} (h1 : (Cond.code x cc n ret).before args s = true) (h2 : (Cond.instanceMethod x).before args s = true) : (Cond.declares x).before args s = true := by
  simp only [Cond.before, Cond.holds, Cond.value, beq_iff_eq] at h1 h2 ⊢
  cases hm : (s.methodNamed? x).bind s.vm.method? with
  | none => rw [hm] at h1; simp at h1
  | some me =>
    rw [hm] at h1 h2
    simp at h1 h2 ⊢
    exact ⟨h2.1, h1.2⟩
theorem sr_of {o tx : String} {k : Nat} (h : (Cond.stringRef o k tx).before args s = true) : ∃ a, vk_R o k tx a s := by
  cases hc : s.vm.findClass o with
  | none => simp [Cond.before, Cond.holds, Cond.value, hc] at h
  | some cl =>
    obtain ⟨k1, cf, i, a, -, -, -, -, -, h9⟩ := Cond.stringRef_spec hc h
    exact ⟨a, vk_R.of h h9⟩
theorem ac_of {ty : FieldType} (h : (Cond.arrayClass ty).before args s = true) : ∃ cA, ArrOfT s cA ty ∧ s.vm.findClass ("[" ++ ty.toString) = some cA := by
  obtain ⟨cA, k, comp, h1, h2, h3⟩ := Cond.arrayClass_spec h
  exact ⟨cA, fun n z => ⟨fun k h => (by cases h), k, h2, comp, h3⟩, h1⟩
theorem ao_of {C9 : String} (h : (Cond.arrayOver (.object C9)).before args s = true) : ∃ cA, ArrOfT s cA (.object C9) ∧ va_RA s cA (.object C9) := by
  obtain ⟨comp, cA, kA, h1, h2, h3, h4, h5⟩ := Cond.arrayOver_spec h
  exact ⟨cA, fun N z => ⟨fun k h => (by cases h), kA, h3, comp, h4⟩, kA, comp, h3, h4, h1, h5⟩
section
theorem law_w {b : Nat} (hT : ∀ w ∈ lw_tbl, w.before #[Value.ref b] s = true) {w : Cond} (i : Nat) (h : lw_tbl[i]? = some w) : w.before #[Value.ref b] s = true := hT w (List.mem_of_getElem? h)
theorem law_cls {b : Nat} (hT : ∀ w ∈ lw_tbl, w.before #[Value.ref b] s = true) : ∃ (dC : Nat → ClassId) (dI : Nat → Nat → Nat), ∀ (k : Nat) (q : vw_C), vwCl[k]? = some q → u_Kn s q.1 q.2.1 q.2.2 (dC k) (dI k) := by
  have hW : ∀ w ∈ GW, w.before #[Value.ref b] s = true := fun w h => hT w (List.mem_filter.mp h).1
  obtain ⟨c0, i0, hk0⟩ := u_known (C := RX0) (T := TX0) (N := 13) (n := 13) hW gwX0 (hW _ inst_0)
  obtain ⟨c1, i1, hk1⟩ := u_known (C := RX1) (T := TX1) (N := 4) (n := 4) hW gwX1 (hW _ inst_1)
  obtain ⟨c2, i2, hk2⟩ := u_known (C := RX2) (T := TX2) (N := 6) (n := 6) hW gwX2 (hW _ inst_2)
  obtain ⟨c3, i3, hk3⟩ := u_known (C := RX3) (T := TX3) (N := 4) (n := 4) hW gwX3 (hW _ inst_3)
  obtain ⟨c4, i4, hk4⟩ := u_known (C := RX4) (T := TX4) (N := 7) (n := 7) hW gwX4 (hW _ inst_4)
  obtain ⟨c5, i5, hk5⟩ := u_known (C := RX5) (T := TX5) (N := 12) (n := 12) hW gwX5 (hW _ inst_5)
  obtain ⟨c6, i6, hk6⟩ := u_known (C := RX6) (T := TX6) (N := 9) (n := 9) hW gwX6 (hW _ inst_6)
  refine ⟨fun k => match k with | 0 => c0 | 1 => c1 | 2 => c2 | 3 => c3 | 4 => c4 | 5 => c5 | _ => c6, fun k => match k with | 0 => i0 | 1 => i1 | 2 => i2 | 3 => i3 | 4 => i4 | 5 => i5 | _ => i6, fun k q hq => ?_⟩
  match k, hq with
  | 0, hq => cases hq; exact hk0
  | 1, hq => cases hq; exact hk1
  | 2, hq => cases hq; exact hk2
  | 3, hq => cases hq; exact hk3
  | 4, hq => cases hq; exact hk4
  | 5, hq => cases hq; exact hk5
  | 6, hq => cases hq; exact hk6
  | k + 7, hq => simp [vwCl] at hq
theorem law_AO {b : Nat} (hT : ∀ w ∈ lw_tbl, w.before #[Value.ref b] s = true) : aAO s := ⟨va_AO.of (law_w hT 93 (by decide +kernel)), va_AO.of (law_w hT 95 (by decide +kernel)), va_AO.of (law_w hT 196 (by decide +kernel))⟩
theorem law_arr {b : Nat} (hT : ∀ w ∈ lw_tbl, w.before #[Value.ref b] s = true) : ∃ kA : Nat → ClassId, ∀ (G : aG), G.2.2.1 = kA → ∀ (k : Nat) (q : ClassId × FieldType), (aTys G)[k]? = some q → ArrOfT s q.1 q.2 ∧ va_RA s q.1 q.2 := by
  obtain ⟨a8, ha8, hb8⟩ := ac_of (law_w hT 126 (w := .arrayClass .int) (by decide +kernel))
  obtain ⟨a9, ha9, hb9⟩ := ac_of (law_w hT 283 (w := .arrayClass .boolean) (by decide +kernel))
  obtain ⟨a10, ha10, hb10⟩ := ac_of (law_w hT 85 (w := .arrayClass .char) (by decide +kernel))
  obtain ⟨a12, ha12, hb12⟩ := ao_of (law_w hT 93 (w := .arrayOver (.object RX2)) (by decide +kernel))
  obtain ⟨a13, ha13, hb13⟩ := ao_of (law_w hT 95 (w := .arrayOver (.object RX3)) (by decide +kernel))
  obtain ⟨a14, ha14, hb14⟩ := ao_of (law_w hT 196 (w := .arrayOver (.object RX5)) (by decide +kernel))
  refine ⟨fun k => match k with | 8 => a8 | 9 => a9 | 10 => a10 | 12 => a12 | 13 => a13 | _ => a14, fun G hG k q hq => ?_⟩
  unfold aTys at hq
  rw [hG] at hq
  match k, hq with
  | 0, hq => cases hq; exact ⟨ha8, hb8⟩
  | 1, hq => cases hq; exact ⟨ha9, hb9⟩
  | 2, hq => cases hq; exact ⟨ha10, hb10⟩
  | 3, hq => cases hq; exact ⟨ha8, hb8⟩
  | 4, hq => cases hq; exact ⟨ha12, hb12⟩
  | 5, hq => cases hq; exact ⟨ha13, hb13⟩
  | 6, hq => cases hq; exact ⟨ha14, hb14⟩
  | k + 7, hq => simp at hq
theorem law_str {b : Nat} (hT : ∀ w ∈ lw_tbl, w.before #[Value.ref b] s = true) : ∀ q ∈ aStr, ∃ a, vk_R RX6 q.1 q.2 a s := by
  unfold aStr
  exact List.forall_mem_cons.mpr ⟨sr_of (law_w hT 369 (by decide +kernel)), List.forall_mem_cons.mpr ⟨sr_of (law_w hT 480 (by decide +kernel)), List.forall_mem_cons.mpr ⟨sr_of (law_w hT 508 (by decide +kernel)), List.forall_mem_cons.mpr ⟨sr_of (law_w hT 535 (by decide +kernel)), List.forall_mem_cons.mpr ⟨sr_of (law_w hT 545 (by decide +kernel)), List.forall_mem_cons.mpr ⟨sr_of (law_w hT 546 (by decide +kernel)), List.forall_mem_cons.mpr ⟨sr_of (law_w hT 565 (by decide +kernel)), List.forall_mem_cons.mpr ⟨sr_of (law_w hT 574 (by decide +kernel)), List.forall_mem_cons.mpr ⟨sr_of (law_w hT 588 (by decide +kernel)), List.forall_mem_cons.mpr ⟨sr_of (law_w hT 593 (by decide +kernel)), List.forall_mem_cons.mpr ⟨sr_of (law_w hT 616 (by decide +kernel)), List.forall_mem_cons.mpr ⟨sr_of (law_w hT 623 (by decide +kernel)), List.forall_mem_cons.mpr ⟨sr_of (law_w hT 643 (by decide +kernel)), List.forall_mem_cons.mpr ⟨sr_of (law_w hT 651 (by decide +kernel)), List.forall_mem_cons.mpr ⟨sr_of (law_w hT 665 (by decide +kernel)), List.forall_mem_cons.mpr ⟨sr_of (law_w hT 673 (by decide +kernel)), List.forall_mem_cons.mpr ⟨sr_of (law_w hT 681 (by decide +kernel)), List.forall_mem_cons.mpr ⟨sr_of (law_w hT 700 (by decide +kernel)), List.forall_mem_cons.mpr ⟨sr_of (law_w hT 701 (by decide +kernel)), List.forall_mem_cons.mpr ⟨sr_of (law_w hT 720 (by decide +kernel)), List.forall_mem_cons.mpr ⟨sr_of (law_w hT 725 (by decide +kernel)), List.forall_mem_cons.mpr ⟨sr_of (law_w hT 810 (by decide +kernel)), List.forall_mem_cons.mpr ⟨sr_of (law_w hT 835 (by decide +kernel)), List.forall_mem_cons.mpr ⟨sr_of (law_w hT 884 (by decide +kernel)), fun _ h => absurd h List.not_mem_nil⟩⟩⟩⟩⟩⟩⟩⟩⟩⟩⟩⟩⟩⟩⟩⟩⟩⟩⟩⟩⟩⟩⟩⟩
theorem law_decl {b : Nat} (hT : ∀ w ∈ lw_tbl, w.before #[Value.ref b] s = true) : ∀ x ∈ aDecls, va_Nw (.declares x) s := by
  unfold aDecls
  exact List.forall_mem_cons.mpr ⟨va_Nw.of rfl (decl_of (law_w hT 483 (w := .code ⟨"java/lang/IllegalArgumentException", "<init>", "(Ljava/lang/String;)V"⟩ prog_11_method_2_code 2 none) (by decide +kernel)) (law_w hT 482 (by decide +kernel))), List.forall_mem_cons.mpr ⟨va_Nw.of rfl (decl_of (law_w hT 372 (w := .code ⟨"java/lang/IllegalStateException", "<init>", "(Ljava/lang/String;)V"⟩ prog_12_method_2_code 2 none) (by decide +kernel)) (law_w hT 371 (by decide +kernel))), List.forall_mem_cons.mpr ⟨va_Nw.of rfl (decl_of (law_w hT 511 (w := .code ⟨"java/lang/IndexOutOfBoundsException", "<init>", "(Ljava/lang/String;)V"⟩ prog_13_method_2_code 2 none) (by decide +kernel)) (law_w hT 510 (by decide +kernel))), List.forall_mem_cons.mpr ⟨va_Nw.of rfl (law_w hT 332 (by decide +kernel)), List.forall_mem_cons.mpr ⟨va_Nw.of rfl (law_w hT 334 (by decide +kernel)), List.forall_mem_cons.mpr ⟨va_Nw.of rfl (law_w hT 336 (by decide +kernel)), fun _ h => absurd h List.not_mem_nil⟩⟩⟩⟩⟩⟩
theorem law_cast {b : Nat} (hT : ∀ w ∈ lw_tbl, w.before #[Value.ref b] s = true) : ∀ E ∈ aExc, va_Nw (.castable E E) s := by
  unfold aExc
  exact List.forall_mem_cons.mpr ⟨va_Nw.of rfl (law_w hT 473 (by decide +kernel)), List.forall_mem_cons.mpr ⟨va_Nw.of rfl (law_w hT 330 (by decide +kernel)), List.forall_mem_cons.mpr ⟨va_Nw.of rfl (law_w hT 501 (by decide +kernel)), fun _ h => absurd h List.not_mem_nil⟩⟩⟩
theorem law_nest {b : Nat} (hT : ∀ w ∈ lw_tbl, w.before #[Value.ref b] s = true) : va_Nw (.fieldLinkNest RX1 40 "NotchedKeys" "NOTCH_WEIGHTS" "[I" "NotchedKeys") s ∧ va_Nw (.methodLinkNest RX6 9 yX4_init RX6) s ∧ va_Nw (.methodLinkNest RX5 37 yX2_init RX6) s ∧ va_Nw (.methodLinkNest RX5 38 yX3_init RX6) s := ⟨va_Nw.of rfl (law_w hT 206 (by decide +kernel)), va_Nw.of rfl (law_w hT 65 (by decide +kernel)), va_Nw.of rfl (law_w hT 97 (by decide +kernel)), va_Nw.of rfl (law_w hT 128 (by decide +kernel))⟩
end
section
theorem law_nc {b : Nat} (hg : (Jvm.Cond.and given_1 narrow_1).before #[Value.ref b] s = true) : ∀ E ∈ aExc, ∀ F ∈ aExc, E ≠ F → va_Nc E F s := by
  have hn := flat_of_before _ hg
  unfold aExc
  exact List.forall_mem_cons.mpr ⟨List.forall_mem_cons.mpr ⟨(fun h => absurd rfl h), List.forall_mem_cons.mpr ⟨(fun _ => va_Nc.of (hn _ (by decide +kernel))), List.forall_mem_cons.mpr ⟨(fun _ => va_Nc.of (hn _ (by decide +kernel))), fun _ h => absurd h List.not_mem_nil⟩⟩⟩, List.forall_mem_cons.mpr ⟨List.forall_mem_cons.mpr ⟨(fun _ => va_Nc.of (hn _ (by decide +kernel))), List.forall_mem_cons.mpr ⟨(fun h => absurd rfl h), List.forall_mem_cons.mpr ⟨(fun _ => va_Nc.of (hn _ (by decide +kernel))), fun _ h => absurd h List.not_mem_nil⟩⟩⟩, List.forall_mem_cons.mpr ⟨List.forall_mem_cons.mpr ⟨(fun _ => va_Nc.of (hn _ (by decide +kernel))), List.forall_mem_cons.mpr ⟨(fun _ => va_Nc.of (hn _ (by decide +kernel))), List.forall_mem_cons.mpr ⟨(fun h => absurd rfl h), fun _ h => absurd h List.not_mem_nil⟩⟩⟩, fun _ h => absurd h List.not_mem_nil⟩⟩⟩
theorem law_nwv {b : Nat} (hg : (Jvm.Cond.and given_1 narrow_1).before #[Value.ref b] s = true) : ∃ t, (Term.static "NotchedKeys" "NOTCH_WEIGHTS" "[I").eval #[Value.ref b] s none [] s = some (.ref t) ∧ va_T .int t 4 nwv (fun q => s.heap.size ≤ q) s s.heap := by
  have hn := flat_of_before _ hg
  refine va_Tof (tm := .static "NotchedKeys" "NOTCH_WEIGHTS" "[I") (by decide) (hn _ (by decide +kernel)) (va_eqt (hn _ (by decide +kernel))) (fun j hj => ?_) (fun a ha => Nat.not_le.mpr ha)
  match j, hj with
  | 0, _ => exact va_eqt (z := 27) (hn _ (by decide +kernel))
  | 1, _ => exact va_eqt (z := 9) (hn _ (by decide +kernel))
  | 2, _ => exact va_eqt (z := 3) (hn _ (by decide +kernel))
  | 3, _ => exact va_eqt (z := 1) (hn _ (by decide +kernel))
  | j + 4, hj => exact absurd hj (by omega)
theorem law_lvv {b : Nat} (hg : (Jvm.Cond.and given_1 narrow_1).before #[Value.ref b] s = true) : ∃ t, (Term.static "NotchedKeys" "LEAST_VALUES" "[I").eval #[Value.ref b] s none [] s = some (.ref t) ∧ va_T .int t 4 lvv (fun q => s.heap.size ≤ q) s s.heap := by
  have hn := flat_of_before _ hg
  refine va_Tof (tm := .static "NotchedKeys" "LEAST_VALUES" "[I") (by decide) (hn _ (by decide +kernel)) (va_eqt (hn _ (by decide +kernel))) (fun j hj => ?_) (fun a ha => Nat.not_le.mpr ha)
  match j, hj with
  | 0, _ => exact va_eqt (z := 1) (hn _ (by decide +kernel))
  | 1, _ => exact va_eqt (z := 1) (hn _ (by decide +kernel))
  | 2, _ => exact va_eqt (z := 0) (hn _ (by decide +kernel))
  | 3, _ => exact va_eqt (z := 0) (hn _ (by decide +kernel))
  | j + 4, hj => exact absurd hj (by omega)
theorem law_gvv {b : Nat} (hg : (Jvm.Cond.and given_1 narrow_1).before #[Value.ref b] s = true) : ∃ t, (Term.static "NotchedKeys" "GREATEST_VALUES" "[I").eval #[Value.ref b] s none [] s = some (.ref t) ∧ va_T .int t 4 gvv (fun q => s.heap.size ≤ q) s s.heap := by
  have hn := flat_of_before _ hg
  refine va_Tof (tm := .static "NotchedKeys" "GREATEST_VALUES" "[I") (by decide) (hn _ (by decide +kernel)) (va_eqt (hn _ (by decide +kernel))) (fun j hj => ?_) (fun a ha => Nat.not_le.mpr ha)
  match j, hj with
  | 0, _ => exact va_eqt (z := 2) (hn _ (by decide +kernel))
  | 1, _ => exact va_eqt (z := 9) (hn _ (by decide +kernel))
  | 2, _ => exact va_eqt (z := 9) (hn _ (by decide +kernel))
  | 3, _ => exact va_eqt (z := 1) (hn _ (by decide +kernel))
  | j + 4, hj => exact absurd hj (by omega)
theorem law_u {b : Nat} (hT : ∀ w ∈ lw_tbl, w.before #[Value.ref b] s = true) (hg : (Jvm.Cond.and given_1 narrow_1).before #[Value.ref b] s = true) : vx_Zq Bundle.tN "UNASSIGNED_STACK" Bundle.steD (fun q => s.heap.size ≤ q) s s.heap := vx_Zqof (law_w hT 355 (by decide +kernel)) (law_w hT 46 (by decide +kernel)) (flat_of_before _ hg _ (by decide +kernel)) (fun a ha => Nat.not_le.mpr ha)
theorem law_q {b : Nat} (hT : ∀ w ∈ lw_tbl, w.before #[Value.ref b] s = true) (hg : (Jvm.Cond.and given_1 narrow_1).before #[Value.ref b] s = true) : vx_Zq Bundle.tN "SUPPRESSED_SENTINEL" Bundle.listD (fun q => s.heap.size ≤ q) s s.heap := vx_Zqof (law_w hT 357 (by decide +kernel)) (law_w hT 46 (by decide +kernel)) (flat_of_before _ hg _ (by decide +kernel)) (fun a ha => Nat.not_le.mpr ha)
end
theorem law_ctx {b N : Nat} {xs : Nat → Int32} (C0 : lw_At p s m meth c b N xs) : ∃ G : aG, aCtx G p s m #[Value.ref b] meth c cL_law 15 RL ∧ aAO s ∧ G.2.1 = s.heap.size ∧ G.2.2.2 3 = b ∧ aScr G s N xs ∧ meth.sig.returnType = ret := by
  obtain ⟨hx, hb, hr, hml, hown, hT, hX, hbl, hlocks, hg⟩ := C0
  obtain ⟨dC, dI, hcl⟩ := law_cls hT
  obtain ⟨kA, harr⟩ := law_arr hT
  obtain ⟨t0, e0, T0⟩ := law_nwv hg
  obtain ⟨t1, e1, T1⟩ := law_lvv hg
  obtain ⟨t2, e2, T2⟩ := law_gvv hg
  refine ⟨((dC, dI), s.heap.size, kA, fun j => match j with | 0 => t0 | 1 => t1 | 2 => t2 | _ => b), ⟨hx, hb, hml, hown, fun w h => hT w (List.mem_filter.mp h).1, ⟨⟨hcl, harr _ rfl⟩, law_nest hT, law_decl hT, law_cast hT, law_str hT, law_nc hg⟩, ⟨va_Zref (law_w hT 207 (by decide +kernel)) (law_w hT 38 (by decide +kernel)) e0 (fun a ha => Nat.not_le.mpr ha), T0, va_Zref (law_w hT 722 (by decide +kernel)) (law_w hT 38 (by decide +kernel)) e1 (fun a ha => Nat.not_le.mpr ha), T1, va_Zref (law_w hT 724 (by decide +kernel)) (law_w hT 38 (by decide +kernel)) e2 (fun a ha => Nat.not_le.mpr ha), T2, law_u hT hg, law_q hT hg⟩, Nat.le_refl _, hlocks⟩, law_AO hT, rfl, rfl, ⟨hX, hbl, hbl⟩, hr⟩
end A74

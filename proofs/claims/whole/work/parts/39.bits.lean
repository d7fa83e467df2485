section A39
/-! ### the bits of numbers with a point -/
section
variable {G : aG} {p : Program} {l : Launch} {e : Env} {R : Room} {s : State} {m : MethodId} {args : Array Value} {below : List Frame} {meth : Method} {c : Code} {Q : State → Prop} {n k0 u0 pc : Nat} {cc : ByteArray} {own : String} {L : aL} {st : List Value} {M : aH}
theorem a_d2raw (C : aCtx G p s m args meth c cc n own) {index : Nat} {b : UInt64} (hlk : Cond.methodLink own index ⟨"java/lang/Double", "doubleToRawLongBits", "(D)J"⟩ ∈ GW) (hn : Cond.native ⟨"java/lang/Double", "doubleToRawLongBits", "(D)J"⟩ ∈ GW) (hs : Cond.static ⟨"java/lang/Double", "doubleToRawLongBits", "(D)J"⟩ ∈ GW) (hi : Cond.initialized "java/lang/Double" ∈ GW) (hd : decode cc pc = .ok (.invokestatic index, 3)) (hf : 1 ≤ R.frames) (hl : (st.map fun v => v.category).sum + 15 ≤ R.locals)
    (k : WA G p l e R s m args below meth c Q n k0 u0 (pc + 3) L (.long b.toInt64 :: st) M) : WA G p l e R s m args below meth c Q n k0 u0 pc L (.double b :: st) M := by
  intro H locs ls cells slots h1 h2 h3 h4 h5 h6
  exact vn_d2l C.1 C.2.1 (C.2.2.1.trans h1.1.symm) C.2.2.2.1 (C.2.2.2.2.1 _ hlk) (C.2.2.2.2.1 _ hn) (C.2.2.2.2.1 _ hs) (C.2.2.2.2.1 _ hi) (b := b) hf (by rw [aCat]; exact hl) hd (k H locs ls cells slots h1 h2 h3 h4 h5 h6)
theorem a_f2raw (C : aCtx G p s m args meth c cc n own) {index : Nat} {b : UInt32} (hlk : Cond.methodLink own index ⟨"java/lang/Float", "floatToRawIntBits", "(F)I"⟩ ∈ GW) (hn : Cond.native ⟨"java/lang/Float", "floatToRawIntBits", "(F)I"⟩ ∈ GW) (hs : Cond.static ⟨"java/lang/Float", "floatToRawIntBits", "(F)I"⟩ ∈ GW) (hi : Cond.initialized "java/lang/Float" ∈ GW) (hd : decode cc pc = .ok (.invokestatic index, 3)) (hf : 1 ≤ R.frames) (hl : (st.map fun v => v.category).sum + 15 ≤ R.locals)
    (k : WA G p l e R s m args below meth c Q n k0 u0 (pc + 3) L (.int b.toInt32 :: st) M) : WA G p l e R s m args below meth c Q n k0 u0 pc L (.float b :: st) M := by
  intro H locs ls cells slots h1 h2 h3 h4 h5 h6
  exact vn_f2i C.1 C.2.1 (C.2.2.1.trans h1.1.symm) C.2.2.2.1 (C.2.2.2.2.1 _ hlk) (C.2.2.2.2.1 _ hn) (C.2.2.2.2.1 _ hs) (C.2.2.2.2.1 _ hi) (b := b) hf (by rw [aCat]; exact hl) hd (k H locs ls cells slots h1 h2 h3 h4 h5 h6)
end
theorem j_d1 : Cond.methodLink RJxe99ae 134 ⟨"java/lang/Double", "doubleToRawLongBits", "(D)J"⟩ ∈ GW := gw_in (List.mem_of_getElem? (i := 1614) (by decide +kernel)) rfl
theorem j_d2 : Cond.native ⟨"java/lang/Double", "doubleToRawLongBits", "(D)J"⟩ ∈ GW := gw_in (List.mem_of_getElem? (i := 1616) (by decide +kernel)) rfl
theorem j_d3 : Cond.static ⟨"java/lang/Double", "doubleToRawLongBits", "(D)J"⟩ ∈ GW := gw_in (List.mem_of_getElem? (i := 1615) (by decide +kernel)) rfl
theorem j_d4 : Cond.initialized "java/lang/Double" ∈ GW := gw_in (List.mem_of_getElem? (i := 136) (by decide +kernel)) rfl
theorem j_f1 : Cond.methodLink RJxf58ca 74 ⟨"java/lang/Float", "floatToRawIntBits", "(F)I"⟩ ∈ GW := gw_in (List.mem_of_getElem? (i := 1624) (by decide +kernel)) rfl
theorem j_f2 : Cond.native ⟨"java/lang/Float", "floatToRawIntBits", "(F)I"⟩ ∈ GW := gw_in (List.mem_of_getElem? (i := 1626) (by decide +kernel)) rfl
theorem j_f3 : Cond.static ⟨"java/lang/Float", "floatToRawIntBits", "(F)I"⟩ ∈ GW := gw_in (List.mem_of_getElem? (i := 1625) (by decide +kernel)) rfl
theorem j_f4 : Cond.initialized "java/lang/Float" ∈ GW := gw_in (List.mem_of_getElem? (i := 137) (by decide +kernel)) rfl
def k2D : UInt64 := 4611686018427387904
def k52 : UInt64 := 4841369599423283200
def k23 : UInt64 := 4710765210229538816
def cmg (x y : UInt64) : Int32 := Op.cmpValue (FP.dcmp x y) .g
def cml (x y : UInt64) : Int32 := Op.cmpValue (FP.dcmp x y) .l
def shL (e : Int64) : Int64 := e <<< ((nI 52).toInt64 &&& 63)
def dvE (x : UInt64) (e : Int64) : Int64 := shL e + FP.d2l (FP.dmul (FP.dsub x FP.dconst1) k52)
def dvL : Nat → UInt64 → Int64 → Int64
  | 0, x, e => dvE x e
  | f + 1, x, e => if cmg x FP.dconst1 < 0 then dvL f (FP.dmul x k2D) (e - 1) else dvE x e
def dkE (x : UInt64) : Bool := n64 (FP.dsub x FP.dconst1) && n64 (FP.dmul (FP.dsub x FP.dconst1) k52)
def dkL : Nat → UInt64 → Bool
  | 0, _ => false
  | f + 1, x => if cmg x FP.dconst1 < 0 then n64 (FP.dmul x k2D) && dkL f (FP.dmul x k2D) else dkE x
def dOK (x : UInt64) : Bool := cml x x == 0 && (if 0 < cmg x FP.dconst0 then dkL 10 x && dvL 10 x 1023 == x.toInt64 else x.toInt64 == 0)
def shI (e : Int32) : Int32 := e <<< (nI 23 &&& 31)
def fvE (y : UInt64) (e : Int32) : Int32 := shI e + FP.d2i (FP.dmul (FP.dsub y FP.dconst1) k23)
def fkE (y : UInt64) : Bool := n64 (FP.dsub y FP.dconst1) && n64 (FP.dmul (FP.dsub y FP.dconst1) k23)
def fv2 : Nat → UInt64 → Int32 → Int32
  | 0, y, e => fvE y e
  | f + 1, y, e => if cmg y FP.dconst1 < 0 then fv2 f (FP.dmul y k2D) (e + Int32.ofInt (-1)) else fvE y e
def fk2 : Nat → UInt64 → Bool
  | 0, _ => false
  | f + 1, y => if cmg y FP.dconst1 < 0 then n64 (FP.dmul y k2D) && fk2 f (FP.dmul y k2D) else fkE y
def fv1 : Nat → UInt64 → Int32 → Int32
  | 0, y, e => fv2 10 y e
  | f + 1, y, e => if cml y k2D < 0 then fv2 10 y e else fv1 f (FP.ddiv y k2D) (e + Int32.ofInt 1)
def fk1 : Nat → UInt64 → Bool
  | 0, _ => false
  | f + 1, y => if cml y k2D < 0 then fk2 10 y else n64 (FP.ddiv y k2D) && fk1 f (FP.ddiv y k2D)
def cmF (x y : UInt32) (o : CmpOp) : Int32 := Op.cmpValue (FP.fcmp x y) o
def fOK (x : UInt32) : Bool := cmF x x .l == 0 && (if 0 < cmF x FP.fconst0 .g then n64 (FP.f2d x) && fk1 10 (FP.f2d x) && fv1 10 (FP.f2d x) (nI 127) == x.toInt32 else x.toInt32 == 0)
set_option maxRecDepth 100000 in
theorem dOK_41 : (List.range 82).all (fun a => dOK (FP.ddiv (FP.i2d (nI a)) (FP.i2d (nI 41)))) = true := by decide +kernel
set_option maxRecDepth 100000 in
theorem dOK_81 : (List.range 82).all (fun a => dOK (FP.ddiv (FP.i2d (nI a)) (FP.i2d (nI 81)))) = true := by decide +kernel
set_option maxRecDepth 100000 in
theorem fOK_all : (List.range 97).all (fun a => (List.range 12).all fun b => fOK (FP.fdiv (FP.i2f (nI a)) (FP.i2f (nI (b + 1))))) = true := by decide +kernel
theorem fOK_0 : fOK FP.fconst0 = true := by decide +kernel
theorem snd_1 : cntN (fun c => decide (spN c ≤ 1)) 81 = 41 := by decide +kernel
theorem snd_2 : cntN (fun c => decide (spN c ≤ 2)) 81 = 81 := by decide +kernel
def shrA (A : St) : UInt64 := FP.ddiv (FP.i2d (nI (cdsA A true))) (FP.i2d (nI (cdsA A false)))
theorem shr_ok {A : St} (hA : AOK A) : dOK (shrA A) = true := by
  have zq_3 : cdsA A true ≤ 81 := cntN_le _ 81
  have h0 := hA.s0
  have e : cdsA A false = 41 ∨ cdsA A false = 81 := by
    by_cases h : sN A 0 = 1
    · exact Or.inl ((cntN_cg 81 (fun i _ => by show decide (spN i ≤ sN A 0) = decide (spN i ≤ 1); rw [h])).trans snd_1)
    · have h2 : sN A 0 = 2 := by omega
      exact Or.inr ((cntN_cg 81 (fun i _ => by show decide (spN i ≤ sN A 0) = decide (spN i ≤ 2); rw [h2])).trans snd_2)
  unfold shrA
  rcases e with e | e
  · rw [e]; exact List.all_eq_true.mp dOK_41 _ (List.mem_range.mpr (by omega))
  · rw [e]; exact List.all_eq_true.mp dOK_81 _ (List.mem_range.mpr (by omega))
theorem mn_ok {A : St} (hA : AOK A) : fOK (mnA A) = true := by
  have zq_0 := hA.n12
  have zq_1 : lvsA A ≤ 8 * kN A := sumN_le (fun k => lvN_le _) _
  unfold mnA
  split
  · exact fOK_0
  · next h =>
    have z := List.all_eq_true.mp (List.all_eq_true.mp fOK_all (lvsA A) (List.mem_range.mpr (by omega))) (kN A - 1) (List.mem_range.mpr (by omega))
    rwa [show kN A - 1 + 1 = kN A by omega] at z
theorem dOK_n {x : UInt64} (h : dOK x = true) : cml x x = 0 := beq_iff_eq.mp (Bool.and_eq_true_iff.mp h).1
theorem dOK_p {x : UInt64} (h : dOK x = true) (h2 : 0 < cmg x FP.dconst0) : dkL 10 x = true ∧ dvL 10 x 1023 = x.toInt64 := by
  have z := (Bool.and_eq_true_iff.mp h).2
  rw [if_pos h2, Bool.and_eq_true, beq_iff_eq] at z
  exact z
theorem dOK_z {x : UInt64} (h : dOK x = true) (h2 : ¬ 0 < cmg x FP.dconst0) : x.toInt64 = 0 := by
  have z := (Bool.and_eq_true_iff.mp h).2
  rw [if_neg h2, beq_iff_eq] at z
  exact z
theorem dk_y {f : Nat} {x : UInt64} (h : dkL (f + 1) x = true) (h2 : cmg x FP.dconst1 < 0) : n64 (FP.dmul x k2D) = true ∧ dkL f (FP.dmul x k2D) = true := by
  rw [show dkL (f + 1) x = if cmg x FP.dconst1 < 0 then n64 (FP.dmul x k2D) && dkL f (FP.dmul x k2D) else dkE x from rfl, if_pos h2, Bool.and_eq_true] at h
  exact h
theorem dk_n {f : Nat} {x : UInt64} (h : dkL (f + 1) x = true) (h2 : ¬ cmg x FP.dconst1 < 0) : n64 (FP.dsub x FP.dconst1) = true ∧ n64 (FP.dmul (FP.dsub x FP.dconst1) k52) = true := by
  rw [show dkL (f + 1) x = if cmg x FP.dconst1 < 0 then n64 (FP.dmul x k2D) && dkL f (FP.dmul x k2D) else dkE x from rfl, if_neg h2] at h
  exact Bool.and_eq_true_iff.mp h
theorem dv_y {f : Nat} {x : UInt64} {e : Int64} (h2 : cmg x FP.dconst1 < 0) : dvL (f + 1) x e = dvL f (FP.dmul x k2D) (e - 1) := by
  rw [show dvL (f + 1) x e = if cmg x FP.dconst1 < 0 then dvL f (FP.dmul x k2D) (e - 1) else dvE x e from rfl, if_pos h2]
theorem dv_n {f : Nat} {x : UInt64} {e : Int64} (h2 : ¬ cmg x FP.dconst1 < 0) : dvL (f + 1) x e = dvE x e := by
  rw [show dvL (f + 1) x e = if cmg x FP.dconst1 < 0 then dvL f (FP.dmul x k2D) (e - 1) else dvE x e from rfl, if_neg h2]
theorem fOK_n {x : UInt32} (h : fOK x = true) : cmF x x .l = 0 := beq_iff_eq.mp (Bool.and_eq_true_iff.mp h).1
theorem fOK_p {x : UInt32} (h : fOK x = true) (h2 : 0 < cmF x FP.fconst0 .g) : n64 (FP.f2d x) = true ∧ fk1 10 (FP.f2d x) = true ∧ fv1 10 (FP.f2d x) (nI 127) = x.toInt32 := by
  have z := (Bool.and_eq_true_iff.mp h).2
  rw [if_pos h2, Bool.and_eq_true, Bool.and_eq_true, beq_iff_eq] at z
  exact ⟨z.1.1, z.1.2, z.2⟩
theorem fOK_z {x : UInt32} (h : fOK x = true) (h2 : ¬ 0 < cmF x FP.fconst0 .g) : x.toInt32 = 0 := by
  have z := (Bool.and_eq_true_iff.mp h).2
  rw [if_neg h2, beq_iff_eq] at z
  exact z
theorem fk1_y {f : Nat} {y : UInt64} (h : fk1 (f + 1) y = true) (h2 : cml y k2D < 0) : fk2 10 y = true := by
  rw [show fk1 (f + 1) y = if cml y k2D < 0 then fk2 10 y else n64 (FP.ddiv y k2D) && fk1 f (FP.ddiv y k2D) from rfl, if_pos h2] at h
  exact h
theorem fk1_n {f : Nat} {y : UInt64} (h : fk1 (f + 1) y = true) (h2 : ¬ cml y k2D < 0) : n64 (FP.ddiv y k2D) = true ∧ fk1 f (FP.ddiv y k2D) = true := by
  rw [show fk1 (f + 1) y = if cml y k2D < 0 then fk2 10 y else n64 (FP.ddiv y k2D) && fk1 f (FP.ddiv y k2D) from rfl, if_neg h2, Bool.and_eq_true] at h
  exact h
theorem fv1_y {f : Nat} {y : UInt64} {e : Int32} (h2 : cml y k2D < 0) : fv1 (f + 1) y e = fv2 10 y e := by
  rw [show fv1 (f + 1) y e = if cml y k2D < 0 then fv2 10 y e else fv1 f (FP.ddiv y k2D) (e + Int32.ofInt 1) from rfl, if_pos h2]
theorem fv1_n {f : Nat} {y : UInt64} {e : Int32} (h2 : ¬ cml y k2D < 0) : fv1 (f + 1) y e = fv1 f (FP.ddiv y k2D) (e + Int32.ofInt 1) := by
  rw [show fv1 (f + 1) y e = if cml y k2D < 0 then fv2 10 y e else fv1 f (FP.ddiv y k2D) (e + Int32.ofInt 1) from rfl, if_neg h2]
theorem fk2_y {f : Nat} {y : UInt64} (h : fk2 (f + 1) y = true) (h2 : cmg y FP.dconst1 < 0) : n64 (FP.dmul y k2D) = true ∧ fk2 f (FP.dmul y k2D) = true := by
  rw [show fk2 (f + 1) y = if cmg y FP.dconst1 < 0 then n64 (FP.dmul y k2D) && fk2 f (FP.dmul y k2D) else fkE y from rfl, if_pos h2, Bool.and_eq_true] at h
  exact h
theorem fk2_n {f : Nat} {y : UInt64} (h : fk2 (f + 1) y = true) (h2 : ¬ cmg y FP.dconst1 < 0) : n64 (FP.dsub y FP.dconst1) = true ∧ n64 (FP.dmul (FP.dsub y FP.dconst1) k23) = true := by
  rw [show fk2 (f + 1) y = if cmg y FP.dconst1 < 0 then n64 (FP.dmul y k2D) && fk2 f (FP.dmul y k2D) else fkE y from rfl, if_neg h2] at h
  exact Bool.and_eq_true_iff.mp h
theorem fv2_y {f : Nat} {y : UInt64} {e : Int32} (h2 : cmg y FP.dconst1 < 0) : fv2 (f + 1) y e = fv2 f (FP.dmul y k2D) (e + Int32.ofInt (-1)) := by
  rw [show fv2 (f + 1) y e = if cmg y FP.dconst1 < 0 then fv2 f (FP.dmul y k2D) (e + Int32.ofInt (-1)) else fvE y e from rfl, if_pos h2]
theorem fv2_n {f : Nat} {y : UInt64} {e : Int32} (h2 : ¬ cmg y FP.dconst1 < 0) : fv2 (f + 1) y e = fvE y e := by
  rw [show fv2 (f + 1) y e = if cmg y FP.dconst1 < 0 then fv2 f (FP.dmul y k2D) (e + Int32.ofInt (-1)) else fvE y e from rfl, if_neg h2]
theorem le_lt {v : Int32} (h : 0 ≤ v) : ¬ v < 0 := Int32.not_lt.mpr h
theorem nle_lt {v : Int32} (h : ¬ 0 ≤ v) : v < 0 := Int32.not_le.mp h
theorem gl_l {x y : Int64} (h : x = y) : some (Value.long x) = some (Value.long y) := by rw [h]
set_option maxRecDepth 20000 in
set_option maxHeartbeats 4000000 in
theorem K_X6_doubleBits {x : UInt64} (hx : dOK x = true) : CS yX6_doubleBits cX6_doubleBits 7 (some .long) 0 0 [.double x] (.long x.toInt64) := by
  refine CS.of ok_X6_doubleBits (Nat.le_of_ble_eq_true rfl) (fun M9 G9 p9 l9 e9 s9 m9 ar9 be9 me9 co9 C hr => ?_)
  have ZL18 : ∀ (zd18 : Nat) (k f : Nat) (y : UInt64) (e : Int64), 10 + 1 ≤ k + zd18 → k + f = 10 → dkL f y = true → dvL f y e = x.toInt64 → WA G9 p9 l9 e9 (RM 0 0) s9 m9 ar9 be9 me9 co9 (QS G9 be9 ar9 s9 M9 (.long x.toInt64)) 7 (M9.1 + M9.2.1) M9.2.2.1 18 [none, none, some (.double y), none, some (.long e), none, some (.int (nI k))] [] M9 := by
    intro zd18
    induction zd18 with
    | zero => intro k f y e zm18 zh_k zh_c zh_v; exfalso; omega
    | succ zd18 zih18 =>
      intro k f y e zm18 zh_k zh_c zh_v
      obtain ⟨f, rfl⟩ : ∃ g, f = g + 1 := by
        cases f with
        | zero => cases zh_c
        | succ g => exact ⟨g, rfl⟩
      refine a_iload C dX6_doubleBits_18 rfl ?_
      refine a_sipush (v := nI 1000) C dX6_doubleBits_20 (by decide) ?_
      refine n_icmp_ge (tgt := 50) C dX6_doubleBits_23 (by decide) (by first | decide | omega) (by first | decide | omega) (fun h_23 => ?_) (fun h_23 => ?_)
      · exfalso; omega
      · refine a_dload_n C dX6_doubleBits_26 rfl rfl ?_
        refine a_dconst1 C dX6_doubleBits_27 ?_
        refine a_dcmp C dX6_doubleBits_28 ?_
        refine a_if_ge (tgt := 50) C dX6_doubleBits_29 (by decide) (fun h_29 => ?_) (fun h_29 => ?_)
        · have zq_lt : ¬ cmg y FP.dconst1 < 0 := le_lt h_29
          have zq_1 := dk_n zh_c zq_lt
          refine a_lload C dX6_doubleBits_50 rfl ?_
          refine a_bipush (v := nI 52) C dX6_doubleBits_52 (by decide) ?_
          refine a_lshl C dX6_doubleBits_54 rfl ?_
          refine a_dload_n C dX6_doubleBits_55 rfl rfl ?_
          refine a_dconst1 C dX6_doubleBits_56 ?_
          refine a_dsub C dX6_doubleBits_57 (n64_of zq_1.1) ?_
          refine a_ldcd C dX6_doubleBits_58 wX6_511 ?_
          refine a_dmul C dX6_doubleBits_61 (n64_of zq_1.2) ?_
          refine a_d2l C dX6_doubleBits_62 ?_
          refine a_ladd C dX6_doubleBits_63 ?_
          refine a_lret C hr dX6_doubleBits_64 rfl rfl ⟨?_, rfl⟩
          · exact gl_l (by rw [← zh_v, dv_n zq_lt]; rfl)
        · have zq_lt : cmg y FP.dconst1 < 0 := nle_lt h_29
          have zq_1 := dk_y zh_c zq_lt
          refine a_dload_n C dX6_doubleBits_32 rfl rfl ?_
          refine a_ldcd C dX6_doubleBits_33 wX6_509 ?_
          refine a_dmul C dX6_doubleBits_36 (n64_of zq_1.1) ?_
          refine a_dstore_n C dX6_doubleBits_37 rfl (by decide) ?_
          refine a_lload C dX6_doubleBits_38 rfl ?_
          refine a_lconst (v := 1) C dX6_doubleBits_40 (by decide) ?_
          refine a_lsub C dX6_doubleBits_41 ?_
          refine a_lstore C dX6_doubleBits_42 (by decide) ?_
          refine n_iinc C dX6_doubleBits_44 rfl (by decide) ?_
          refine a_goto (tgt := 18) C dX6_doubleBits_47 (by decide) ?_
          refine a_join (aLe_n (aLe_n (aLe_s ?_ (aLe_n (aLe_s ?_ (aLe_n (aLe_s ?_ aLe_nil))))))) rfl rfl (zih18 (k + 1) f (FP.dmul y k2D) (e - 1) (by omega) (by omega) zq_1.2 (by rw [← dv_y zq_lt]; exact zh_v))
          · rfl
          · first | with_reducible rfl | exact gl (by first | with_reducible rfl | (refine iF ?_; simp [h_23]; done) | (refine iT ?_; simp [h_23]; done) | (refine iB ?_; simp [h_23]; done) | (simp [h_23]; done) | (simp [h_23]; omega) | omega)
          · first | with_reducible rfl | exact gl (by first | with_reducible rfl | (refine iF ?_; simp [h_23]; done) | (refine iT ?_; simp [h_23]; done) | (refine iB ?_; simp [h_23]; done) | (simp [h_23]; done) | (simp [h_23]; omega) | omega)
  refine a_pad 5 ?_
  refine a_eq (L' := [some (.double x), none, none, none, none, none, none]) rfl rfl rfl ?_
  refine a_dload_n C dX6_doubleBits_0 rfl rfl ?_
  refine a_dconst0 C dX6_doubleBits_1 ?_
  refine a_dcmp C dX6_doubleBits_2 ?_
  refine a_if_gt (tgt := 8) C dX6_doubleBits_3 (by decide) (fun h_3 => ?_) (fun h_3 => ?_)
  · refine a_dload_n C dX6_doubleBits_8 rfl rfl ?_
    refine a_dstore_n C dX6_doubleBits_9 rfl (by decide) ?_
    refine a_ldcl C dX6_doubleBits_10 wX6_507 ?_
    refine a_lstore C dX6_doubleBits_13 (by decide) ?_
    refine a_iconst (v := nI 0) C dX6_doubleBits_15 (by decide) ?_
    refine a_istore C dX6_doubleBits_16 (by decide) ?_
    refine a_join (aLe_n (aLe_n (aLe_s ?_ (aLe_n (aLe_s ?_ (aLe_n (aLe_s ?_ aLe_nil))))))) rfl rfl (ZL18 (10 + 1) 0 10 x 1023 (by omega) (by omega) (dOK_p hx h_3).1 (dOK_p hx h_3).2)
    · first | with_reducible rfl | exact gl (by first | with_reducible rfl | (refine iF ?_; simp []; done) | (refine iT ?_; simp []; done) | (refine iB ?_; simp []; done) | (simp []; done) | (simp []; omega) | omega | rfl)
    · first | with_reducible rfl | exact gl (by first | with_reducible rfl | (refine iF ?_; simp []; done) | (refine iT ?_; simp []; done) | (refine iB ?_; simp []; done) | (simp []; done) | (simp []; omega) | omega | rfl)
    · first | with_reducible rfl | exact gl (by first | with_reducible rfl | (refine iF ?_; simp []; done) | (refine iT ?_; simp []; done) | (refine iB ?_; simp []; done) | (simp []; done) | (simp []; omega) | omega | rfl)
  · refine a_lconst (v := 0) C dX6_doubleBits_6 (by decide) ?_
    refine a_lret C hr dX6_doubleBits_7 rfl rfl ⟨?_, rfl⟩
    · exact gl_l (dOK_z hx h_3).symm

set_option maxRecDepth 20000 in
set_option maxHeartbeats 4000000 in
theorem K_X6_floatBits {x : UInt32} (hx : fOK x = true) : CS yX6_floatBits cX6_floatBits 5 (some .int) 0 0 [.float x] (.int x.toInt32) := by
  refine CS.of ok_X6_floatBits (Nat.le_of_ble_eq_true rfl) (fun M9 G9 p9 l9 e9 s9 m9 ar9 be9 me9 co9 C hr => ?_)
  have ZL50 : ∀ (zd50 : Nat) (k f : Nat) (y : UInt64) (e : Int32), 10 + 1 ≤ k + zd50 → k + f = 10 → fk2 f y = true → fv2 f y e = x.toInt32 → WA G9 p9 l9 e9 (RM 0 0) s9 m9 ar9 be9 me9 co9 (QS G9 be9 ar9 s9 M9 (.int x.toInt32)) 5 (M9.1 + M9.2.1) M9.2.2.1 50 [none, some (.double y), none, some (.int e), some (.int (nI k))] [] M9 := by
    intro zd50
    induction zd50 with
    | zero => intro k f y e zm50 zh_k zh_c zh_v; exfalso; omega
    | succ zd50 zih50 =>
      intro k f y e zm50 zh_k zh_c zh_v
      obtain ⟨f, rfl⟩ : ∃ g, f = g + 1 := by
        cases f with
        | zero => cases zh_c
        | succ g => exact ⟨g, rfl⟩
      refine a_iload C dX6_floatBits_50 rfl ?_
      refine a_bipush (v := nI 100) C dX6_floatBits_52 (by decide) ?_
      refine n_icmp_ge (tgt := 78) C dX6_floatBits_54 (by decide) (by first | decide | omega) (by first | decide | omega) (fun h_54 => ?_) (fun h_54 => ?_)
      · exfalso; omega
      · refine a_dload_n C dX6_floatBits_57 rfl rfl ?_
        refine a_dconst1 C dX6_floatBits_58 ?_
        refine a_dcmp C dX6_floatBits_59 ?_
        refine a_if_ge (tgt := 78) C dX6_floatBits_60 (by decide) (fun h_60 => ?_) (fun h_60 => ?_)
        · have zq_lt : ¬ cmg y FP.dconst1 < 0 := le_lt h_60
          have zq_1 := fk2_n zh_c zq_lt
          refine a_iload_n C dX6_floatBits_78 rfl rfl ?_
          refine a_bipush (v := nI 23) C dX6_floatBits_79 (by decide) ?_
          refine a_ishl C dX6_floatBits_81 ?_
          refine a_dload_n C dX6_floatBits_82 rfl rfl ?_
          refine a_dconst1 C dX6_floatBits_83 ?_
          refine a_dsub C dX6_floatBits_84 (n64_of zq_1.1) ?_
          refine a_ldcd C dX6_floatBits_85 wX6_513 ?_
          refine a_dmul C dX6_floatBits_88 (n64_of zq_1.2) ?_
          refine a_d2i C dX6_floatBits_89 ?_
          refine a_iadd C dX6_floatBits_90 ?_
          refine a_iret C hr ?_ dX6_floatBits_91 rfl rfl ⟨?_, rfl⟩
          · rfl
          · exact gl (by rw [← zh_v, fv2_n zq_lt]; rfl)
        · have zq_lt : cmg y FP.dconst1 < 0 := nle_lt h_60
          have zq_1 := fk2_y zh_c zq_lt
          refine a_dload_n C dX6_floatBits_63 rfl rfl ?_
          refine a_ldcd C dX6_floatBits_64 wX6_509 ?_
          refine a_dmul C dX6_floatBits_67 (n64_of zq_1.1) ?_
          refine a_dstore_n C dX6_floatBits_68 rfl (by decide) ?_
          refine a_iinc (v := (e + Int32.ofInt (-1))) C dX6_floatBits_69 rfl rfl (by decide) ?_
          refine n_iinc C dX6_floatBits_72 rfl (by decide) ?_
          refine a_goto (tgt := 50) C dX6_floatBits_75 (by decide) ?_
          refine a_join (aLe_n (aLe_s ?_ (aLe_n (aLe_s ?_ (aLe_s ?_ aLe_nil))))) rfl rfl (zih50 (k + 1) f (FP.dmul y k2D) (e + Int32.ofInt (-1)) (by omega) (by omega) zq_1.2 (by rw [← fv2_y zq_lt]; exact zh_v))
          · rfl
          · first | with_reducible rfl | exact gl (by first | with_reducible rfl | (refine iF ?_; simp [h_54]; done) | (refine iT ?_; simp [h_54]; done) | (refine iB ?_; simp [h_54]; done) | (simp [h_54]; done) | (simp [h_54]; omega) | omega)
          · first | with_reducible rfl | exact gl (by first | with_reducible rfl | (refine iF ?_; simp [h_54]; done) | (refine iT ?_; simp [h_54]; done) | (refine iB ?_; simp [h_54]; done) | (simp [h_54]; done) | (simp [h_54]; omega) | omega)
  have ZL17 : ∀ (zd17 : Nat) (k f : Nat) (y : UInt64) (e : Int32), 10 + 1 ≤ k + zd17 → k + f = 10 → fk1 f y = true → fv1 f y e = x.toInt32 → WA G9 p9 l9 e9 (RM 0 0) s9 m9 ar9 be9 me9 co9 (QS G9 be9 ar9 s9 M9 (.int x.toInt32)) 5 (M9.1 + M9.2.1) M9.2.2.1 17 [none, some (.double y), none, some (.int e), some (.int (nI k))] [] M9 := by
    intro zd17
    induction zd17 with
    | zero => intro k f y e zm17 zh_k zh_c zh_v; exfalso; omega
    | succ zd17 zih17 =>
      intro k f y e zm17 zh_k zh_c zh_v
      obtain ⟨f, rfl⟩ : ∃ g, f = g + 1 := by
        cases f with
        | zero => cases zh_c
        | succ g => exact ⟨g, rfl⟩
      refine a_iload C dX6_floatBits_17 rfl ?_
      refine a_bipush (v := nI 100) C dX6_floatBits_19 (by decide) ?_
      refine n_icmp_ge (tgt := 47) C dX6_floatBits_21 (by decide) (by first | decide | omega) (by first | decide | omega) (fun h_21 => ?_) (fun h_21 => ?_)
      · exfalso; omega
      · refine a_dload_n C dX6_floatBits_24 rfl rfl ?_
        refine a_ldcd C dX6_floatBits_25 wX6_509 ?_
        refine a_dcmp C dX6_floatBits_28 ?_
        refine a_if_lt (tgt := 47) C dX6_floatBits_29 (by decide) (fun h_29 => ?_) (fun h_29 => ?_)
        · have zq_lt : cml y k2D < 0 := h_29
          have zq_1 := fk1_y zh_c zq_lt
          refine a_iconst (v := nI 0) C dX6_floatBits_47 (by decide) ?_
          refine a_istore C dX6_floatBits_48 (by decide) ?_
          refine a_join (aLe_n (aLe_s ?_ (aLe_n (aLe_s ?_ (aLe_s ?_ aLe_nil))))) rfl rfl (ZL50 (10 + 1) 0 10 y e (by omega) (by omega) zq_1 (by rw [← fv1_y zq_lt]; exact zh_v))
          · first | with_reducible rfl | exact gl (by first | with_reducible rfl | (refine iF ?_; simp [h_21]; done) | (refine iT ?_; simp [h_21]; done) | (refine iB ?_; simp [h_21]; done) | (simp [h_21]; done) | (simp [h_21]; omega) | omega | rfl)
          · first | with_reducible rfl | exact gl (by first | with_reducible rfl | (refine iF ?_; simp [h_21]; done) | (refine iT ?_; simp [h_21]; done) | (refine iB ?_; simp [h_21]; done) | (simp [h_21]; done) | (simp [h_21]; omega) | omega | rfl)
          · first | with_reducible rfl | exact gl (by first | with_reducible rfl | (refine iF ?_; simp [h_21]; done) | (refine iT ?_; simp [h_21]; done) | (refine iB ?_; simp [h_21]; done) | (simp [h_21]; done) | (simp [h_21]; omega) | omega | rfl)
        · have zq_lt : ¬ cml y k2D < 0 := h_29
          have zq_1 := fk1_n zh_c zq_lt
          refine a_dload_n C dX6_floatBits_32 rfl rfl ?_
          refine a_ldcd C dX6_floatBits_33 wX6_509 ?_
          refine a_ddiv C dX6_floatBits_36 (n64_of zq_1.1) ?_
          refine a_dstore_n C dX6_floatBits_37 rfl (by decide) ?_
          refine a_iinc (v := (e + Int32.ofInt 1)) C dX6_floatBits_38 rfl rfl (by decide) ?_
          refine n_iinc C dX6_floatBits_41 rfl (by decide) ?_
          refine a_goto (tgt := 17) C dX6_floatBits_44 (by decide) ?_
          refine a_join (aLe_n (aLe_s ?_ (aLe_n (aLe_s ?_ (aLe_s ?_ aLe_nil))))) rfl rfl (zih17 (k + 1) f (FP.ddiv y k2D) (e + Int32.ofInt 1) (by omega) (by omega) zq_1.2 (by rw [← fv1_n zq_lt]; exact zh_v))
          · rfl
          · first | with_reducible rfl | exact gl (by first | with_reducible rfl | (refine iF ?_; simp [h_21]; done) | (refine iT ?_; simp [h_21]; done) | (refine iB ?_; simp [h_21]; done) | (simp [h_21]; done) | (simp [h_21]; omega) | omega)
          · first | with_reducible rfl | exact gl (by first | with_reducible rfl | (refine iF ?_; simp [h_21]; done) | (refine iT ?_; simp [h_21]; done) | (refine iB ?_; simp [h_21]; done) | (simp [h_21]; done) | (simp [h_21]; omega) | omega)
  refine a_pad 4 ?_
  refine a_eq (L' := [some (.float x), none, none, none, none]) rfl rfl rfl ?_
  refine a_fload_n C dX6_floatBits_0 rfl rfl ?_
  refine a_fconst0 C dX6_floatBits_1 ?_
  refine a_fcmp C dX6_floatBits_2 ?_
  refine a_if_gt (tgt := 8) C dX6_floatBits_3 (by decide) (fun h_3 => ?_) (fun h_3 => ?_)
  · refine a_fload_n C dX6_floatBits_8 rfl rfl ?_
    refine a_f2d C dX6_floatBits_9 (n64_of (fOK_p hx h_3).1) ?_
    refine a_dstore_n C dX6_floatBits_10 rfl (by decide) ?_
    refine a_bipush (v := nI 127) C dX6_floatBits_11 (by decide) ?_
    refine a_istore_n C dX6_floatBits_13 rfl (by decide) ?_
    refine a_iconst (v := nI 0) C dX6_floatBits_14 (by decide) ?_
    refine a_istore C dX6_floatBits_15 (by decide) ?_
    refine a_join (aLe_n (aLe_s ?_ (aLe_n (aLe_s ?_ (aLe_s ?_ aLe_nil))))) rfl rfl (ZL17 (10 + 1) 0 10 (FP.f2d x) (nI 127) (by omega) (by omega) (fOK_p hx h_3).2.1 (fOK_p hx h_3).2.2)
    · first | with_reducible rfl | exact gl (by first | with_reducible rfl | (refine iF ?_; simp []; done) | (refine iT ?_; simp []; done) | (refine iB ?_; simp []; done) | (simp []; done) | (simp []; omega) | omega | rfl)
    · first | with_reducible rfl | exact gl (by first | with_reducible rfl | (refine iF ?_; simp []; done) | (refine iT ?_; simp []; done) | (refine iB ?_; simp []; done) | (simp []; done) | (simp []; omega) | omega | rfl)
    · first | with_reducible rfl | exact gl (by first | with_reducible rfl | (refine iF ?_; simp []; done) | (refine iT ?_; simp []; done) | (refine iB ?_; simp []; done) | (simp []; done) | (simp []; omega) | omega | rfl)
  · refine a_iconst (v := nI 0) C dX6_floatBits_6 (by decide) ?_
    refine a_iret C hr ?_ dX6_floatBits_7 rfl rfl ⟨?_, rfl⟩
    · rfl
    · exact gl (show nI 0 = _ from (fOK_z hx h_3).symm)

set_option maxRecDepth 20000 in
set_option maxHeartbeats 4000000 in
theorem K_Jxe99ae_isNaN_b9ae7 {x : UInt64} (hx : cml x x = 0) : CS yJxe99ae_isNaN_b9ae7 cJxe99ae_isNaN_b9ae7 2 (some .boolean) 0 0 [.double x] (.int (bI false)) := by
  refine CS.of ok_Jxe99ae_isNaN_b9ae7 (Nat.le_of_ble_eq_true rfl) (fun M9 G9 p9 l9 e9 s9 m9 ar9 be9 me9 co9 C hr => ?_)
  refine a_dload_n C dJxe99ae_isNaN_b9ae7_0 rfl rfl ?_
  refine a_dload_n C dJxe99ae_isNaN_b9ae7_1 rfl rfl ?_
  refine a_dcmp C dJxe99ae_isNaN_b9ae7_2 ?_
  refine a_if_eq (tgt := 10) C dJxe99ae_isNaN_b9ae7_3 (by decide) (fun h_3 => ?_) (fun h_3 => ?_)
  · refine a_iconst (v := bI false) C dJxe99ae_isNaN_b9ae7_10 (by decide) ?_
    refine a_iret C hr ?_ dJxe99ae_isNaN_b9ae7_11 rfl rfl ⟨?_, rfl⟩
    · first | exact bI_narrow _ | rfl
    · rfl
  · exact absurd hx h_3

set_option maxRecDepth 20000 in
set_option maxHeartbeats 4000000 in
theorem K_Jxf58ca_isNaN_12338 {x : UInt32} (hx : cmF x x .l = 0) : CS yJxf58ca_isNaN_12338 cJxf58ca_isNaN_12338 1 (some .boolean) 0 0 [.float x] (.int (bI false)) := by
  refine CS.of ok_Jxf58ca_isNaN_12338 (Nat.le_of_ble_eq_true rfl) (fun M9 G9 p9 l9 e9 s9 m9 ar9 be9 me9 co9 C hr => ?_)
  refine a_fload_n C dJxf58ca_isNaN_12338_0 rfl rfl ?_
  refine a_fload_n C dJxf58ca_isNaN_12338_1 rfl rfl ?_
  refine a_fcmp C dJxf58ca_isNaN_12338_2 ?_
  refine a_if_eq (tgt := 10) C dJxf58ca_isNaN_12338_3 (by decide) (fun h_3 => ?_) (fun h_3 => ?_)
  · refine a_iconst (v := bI false) C dJxf58ca_isNaN_12338_10 (by decide) ?_
    refine a_iret C hr ?_ dJxf58ca_isNaN_12338_11 rfl rfl ⟨?_, rfl⟩
    · first | exact bI_narrow _ | rfl
    · rfl
  · exact absurd hx h_3

set_option maxRecDepth 20000 in
set_option maxHeartbeats 4000000 in
theorem K_Jxe99ae_doubleToLongBits_ccdee {x : UInt64} (hx : cml x x = 0) : CS yJxe99ae_doubleToLongBits_ccdee cJxe99ae_doubleToLongBits_ccdee 2 (some .long) 1 23 [.double x] (.long x.toInt64) := by
  refine CS.of ok_Jxe99ae_doubleToLongBits_ccdee (Nat.le_of_ble_eq_true rfl) (fun M9 G9 p9 l9 e9 s9 m9 ar9 be9 me9 co9 C hr => ?_)
  refine a_dload_n C dJxe99ae_doubleToLongBits_ccdee_0 rfl rfl ?_
  refine s_callS C (K_Jxe99ae_isNaN_b9ae7 hx) sJxe99ae_122 rfl dJxe99ae_doubleToLongBits_ccdee_1 (Nat.le_of_ble_eq_true rfl) ⟨by decide, by decide⟩ ⟨Nat.le_refl _, Nat.le_refl _⟩ ?_
  first | refine b_if_ne (tgt := 12) C dJxe99ae_doubleToLongBits_ccdee_4 (by decide) (fun h_4 => ?_) (fun h_4 => ?_) | refine n_if_ne (tgt := 12) C dJxe99ae_doubleToLongBits_ccdee_4 (by decide) (by first | decide | omega) (fun h_4 => ?_) (fun h_4 => ?_) | refine a_if_ne (tgt := 12) C dJxe99ae_doubleToLongBits_ccdee_4 (by decide) (fun h_4 => ?_) (fun h_4 => ?_)
  · cases h_4
  · refine a_dload_n C dJxe99ae_doubleToLongBits_ccdee_7 rfl rfl ?_
    refine a_d2raw C j_d1 j_d2 j_d3 j_d4 dJxe99ae_doubleToLongBits_ccdee_8 (by decide) (by decide) ?_
    refine a_lret C hr dJxe99ae_doubleToLongBits_ccdee_11 rfl rfl ⟨?_, rfl⟩
    · first | with_reducible rfl | exact gl (by first | with_reducible rfl | (refine iF ?_; simp [h_4]; done) | (refine iT ?_; simp [h_4]; done) | (refine iB ?_; simp [h_4]; done) | (simp [h_4]; done) | (simp [h_4]; omega) | omega)

set_option maxRecDepth 20000 in
set_option maxHeartbeats 4000000 in
theorem K_Jxf58ca_floatToIntBits_5c35a {x : UInt32} (hx : cmF x x .l = 0) : CS yJxf58ca_floatToIntBits_5c35a cJxf58ca_floatToIntBits_5c35a 1 (some .int) 1 23 [.float x] (.int x.toInt32) := by
  refine CS.of ok_Jxf58ca_floatToIntBits_5c35a (Nat.le_of_ble_eq_true rfl) (fun M9 G9 p9 l9 e9 s9 m9 ar9 be9 me9 co9 C hr => ?_)
  refine a_fload_n C dJxf58ca_floatToIntBits_5c35a_0 rfl rfl ?_
  refine s_callS C (K_Jxf58ca_isNaN_12338 hx) sJxf58ca_59 rfl dJxf58ca_floatToIntBits_5c35a_1 (Nat.le_of_ble_eq_true rfl) ⟨by decide, by decide⟩ ⟨Nat.le_refl _, Nat.le_refl _⟩ ?_
  first | refine b_if_ne (tgt := 12) C dJxf58ca_floatToIntBits_5c35a_4 (by decide) (fun h_4 => ?_) (fun h_4 => ?_) | refine n_if_ne (tgt := 12) C dJxf58ca_floatToIntBits_5c35a_4 (by decide) (by first | decide | omega) (fun h_4 => ?_) (fun h_4 => ?_) | refine a_if_ne (tgt := 12) C dJxf58ca_floatToIntBits_5c35a_4 (by decide) (fun h_4 => ?_) (fun h_4 => ?_)
  · cases h_4
  · refine a_fload_n C dJxf58ca_floatToIntBits_5c35a_7 rfl rfl ?_
    refine a_f2raw C j_f1 j_f2 j_f3 j_f4 dJxf58ca_floatToIntBits_5c35a_8 (by decide) (by decide) ?_
    refine a_iret C hr ?_ dJxf58ca_floatToIntBits_5c35a_11 rfl rfl ⟨?_, rfl⟩
    · rfl
    · first | with_reducible rfl | exact gl (by first | with_reducible rfl | (refine iF ?_; simp [h_4]; done) | (refine iT ?_; simp [h_4]; done) | (refine iB ?_; simp [h_4]; done) | (simp [h_4]; done) | (simp [h_4]; omega) | omega)

end A39

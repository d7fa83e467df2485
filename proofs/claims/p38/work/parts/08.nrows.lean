section A8
/-! ### rows over numbers nI n and truths bI b -/
def bI (b : Bool) : Int32 := match b with
  | true => nI 1
  | false => nI 0
theorem bI_0 {b : Bool} : bI b = 0 ↔ b = false := by cases b <;> decide
theorem bI_fal {b : Bool} (h : b = false) : some (Value.int (nI 0)) = some (Value.int (bI b)) := by rw [h]; rfl
theorem bI_tru {b : Bool} (h : b = true) : some (Value.int (nI 1)) = some (Value.int (bI b)) := by rw [h]; rfl
theorem bI_narrow (b : Bool) : narrow .boolean (.int (bI b)) = .int (bI b) := by cases b <;> rfl
theorem bI_ite (b : Bool) : bI b = if b = true then nI 1 else nI 0 := by cases b <;> rfl
theorem bI_dec {P : Prop} [Decidable P] : bI (decide P) = if P then nI 1 else nI 0 := by by_cases h : P <;> simp [h, bI]
theorem nI_or (a b : Nat) : nI a ||| nI b = nI (a ||| b) := by
  apply Int32.toBitVec_inj.mp
  show BitVec.ofNat 32 a ||| BitVec.ofNat 32 b = BitVec.ofNat 32 (a ||| b)
  apply BitVec.eq_of_getLsbD_eq
  intro i hi
  simp [BitVec.getLsbD_or, BitVec.getLsbD_ofNat, Nat.testBit_or, hi]
theorem nI_and (a b : Nat) : nI a &&& nI b = nI (a &&& b) := by
  apply Int32.toBitVec_inj.mp
  show BitVec.ofNat 32 a &&& BitVec.ofNat 32 b = BitVec.ofNat 32 (a &&& b)
  apply BitVec.eq_of_getLsbD_eq
  intro i hi
  simp [BitVec.getLsbD_and, BitVec.getLsbD_ofNat, Nat.testBit_and, hi]
theorem nI_s31 : ∀ k, k < 32 → ((nI k &&& 31).toBitVec.smod 32).toNat = k := by decide +kernel
variable {G : aG} {p : Program} {l : Launch} {e : Env} {R : Room} {s : State} {m : MethodId} {args : Array Value} {below : List Frame} {meth : Method} {c : Code} {Q : State → Prop} {n k0 u0 pc : Nat} {cc : ByteArray} {own : String} {L : aL} {st : List Value} {M : aH}
theorem n_iadd (C : aCtx G p s m args meth c cc n own) {a b : Nat} (hd : decode cc pc = .ok (.iadd, 1))  (k : WA G p l e R s m args below meth c Q n k0 u0 (pc + 1) L (.int (nI (a + b)) :: st) M) : WA G p l e R s m args below meth c Q n k0 u0 pc L (.int (nI b) :: .int (nI a) :: st) M := a_iadd C hd (by rw [nI_add]; exact k)
theorem n_isub (C : aCtx G p s m args meth c cc n own) {a b : Nat} (hd : decode cc pc = .ok (.isub, 1)) (h : b ≤ a) (k : WA G p l e R s m args below meth c Q n k0 u0 (pc + 1) L (.int (nI (a - b)) :: st) M) : WA G p l e R s m args below meth c Q n k0 u0 pc L (.int (nI b) :: .int (nI a) :: st) M := a_isub C hd (by rw [pk_sub h]; exact k)
theorem n_imul (C : aCtx G p s m args meth c cc n own) {a b : Nat} (hd : decode cc pc = .ok (.imul, 1))  (k : WA G p l e R s m args below meth c Q n k0 u0 (pc + 1) L (.int (nI (a * b)) :: st) M) : WA G p l e R s m args below meth c Q n k0 u0 pc L (.int (nI b) :: .int (nI a) :: st) M := a_imul C hd (by rw [pk_mul]; exact k)
theorem n_idiv (C : aCtx G p s m args meth c cc n own) {a b : Nat} (hd : decode cc pc = .ok (.idiv, 1)) (ha : a < 2 ^ 31) (h0 : 0 < b) (hb : b < 2 ^ 31) (k : WA G p l e R s m args below meth c Q n k0 u0 (pc + 1) L (.int (nI (a / b)) :: st) M) : WA G p l e R s m args below meth c Q n k0 u0 pc L (.int (nI b) :: .int (nI a) :: st) M := a_idiv C hd (nI_ne0 h0 hb) (by rw [pk_div ha h0 hb]; exact k)
theorem n_irem (C : aCtx G p s m args meth c cc n own) {a b : Nat} (hd : decode cc pc = .ok (.irem, 1)) (ha : a < 2 ^ 31) (h0 : 0 < b) (hb : b < 2 ^ 31) (k : WA G p l e R s m args below meth c Q n k0 u0 (pc + 1) L (.int (nI (a % b)) :: st) M) : WA G p l e R s m args below meth c Q n k0 u0 pc L (.int (nI b) :: .int (nI a) :: st) M := a_irem C hd (nI_ne0 h0 hb) (by rw [pk_rem ha h0 hb]; exact k)
theorem n_ior (C : aCtx G p s m args meth c cc n own) {a b : Nat} (hd : decode cc pc = .ok (.ior, 1))  (k : WA G p l e R s m args below meth c Q n k0 u0 (pc + 1) L (.int (nI (a ||| b)) :: st) M) : WA G p l e R s m args below meth c Q n k0 u0 pc L (.int (nI b) :: .int (nI a) :: st) M := a_ior C hd (by rw [nI_or]; exact k)
theorem n_iand (C : aCtx G p s m args meth c cc n own) {a b : Nat} (hd : decode cc pc = .ok (.iand, 1))  (k : WA G p l e R s m args below meth c Q n k0 u0 (pc + 1) L (.int (nI (a &&& b)) :: st) M) : WA G p l e R s m args below meth c Q n k0 u0 pc L (.int (nI b) :: .int (nI a) :: st) M := a_iand C hd (by rw [nI_and]; exact k)
theorem n_ishl (C : aCtx G p s m args meth c cc n own) {a b : Nat} (hd : decode cc pc = .ok (.ishl, 1)) (hb : b < 32) (h : a * 2 ^ b < 2 ^ 32) (k : WA G p l e R s m args below meth c Q n k0 u0 (pc + 1) L (.int (nI (a * 2 ^ b)) :: st) M) : WA G p l e R s m args below meth c Q n k0 u0 pc L (.int (nI b) :: .int (nI a) :: st) M := a_ishl C hd (by rw [pk_shlN _ b (nI_s31 b hb) h]; exact k)
theorem n_ishr (C : aCtx G p s m args meth c cc n own) {a b : Nat} (hd : decode cc pc = .ok (.ishr, 1)) (hb : b < 32) (h : a < 2 ^ 31) (k : WA G p l e R s m args below meth c Q n k0 u0 (pc + 1) L (.int (nI (a / 2 ^ b)) :: st) M) : WA G p l e R s m args below meth c Q n k0 u0 pc L (.int (nI b) :: .int (nI a) :: st) M := a_ishr C hd (by rw [pk_shrN h _ b (nI_s31 b hb)]; exact k)
theorem n_iinc (C : aCtx G p s m args meth c cc n own) {i a : Nat} (hd : decode cc pc = .ok (.iinc i 1, 3)) (hl : L[i]? = some (some (.int (nI a)))) (hn : i < n) (k : WA G p l e R s m args below meth c Q n k0 u0 (pc + 3) (aS1 L i (.int (nI (a + 1)))) st M) : WA G p l e R s m args below meth c Q n k0 u0 pc L st M := a_iinc C hd hl (by rw [nI_succ]; rfl) hn k
theorem n_icmp_eq (C : aCtx G p s m args meth c cc n own) {a b : Nat} {off : Int} {tgt : Nat} (hd : decode cc pc = .ok (.if_icmp .eq off, 3)) (ht : (pc : Int) + off = (tgt : Int)) (ha : a < 2 ^ 31) (hb : b < 2 ^ 31) (kt : a = b → WA G p l e R s m args below meth c Q n k0 u0 tgt L st M) (kf : a ≠ b → WA G p l e R s m args below meth c Q n k0 u0 (pc + 3) L st M) : WA G p l e R s m args below meth c Q n k0 u0 pc L (.int (nI b) :: .int (nI a) :: st) M := a_icmp_eq C hd ht (fun q => kt ((nI_eq ha hb).mp q)) (fun q => kf (fun z => q ((nI_eq ha hb).mpr z)))
theorem n_icmp_ne (C : aCtx G p s m args meth c cc n own) {a b : Nat} {off : Int} {tgt : Nat} (hd : decode cc pc = .ok (.if_icmp .ne off, 3)) (ht : (pc : Int) + off = (tgt : Int)) (ha : a < 2 ^ 31) (hb : b < 2 ^ 31) (kt : a ≠ b → WA G p l e R s m args below meth c Q n k0 u0 tgt L st M) (kf : a = b → WA G p l e R s m args below meth c Q n k0 u0 (pc + 3) L st M) : WA G p l e R s m args below meth c Q n k0 u0 pc L (.int (nI b) :: .int (nI a) :: st) M := a_icmp_ne C hd ht (fun q => kt (fun z => q ((nI_eq ha hb).mpr z))) (fun q => kf ((nI_eq ha hb).mp q))
theorem n_icmp_lt (C : aCtx G p s m args meth c cc n own) {a b : Nat} {off : Int} {tgt : Nat} (hd : decode cc pc = .ok (.if_icmp .lt off, 3)) (ht : (pc : Int) + off = (tgt : Int)) (ha : a < 2 ^ 31) (hb : b < 2 ^ 31) (kt : a < b → WA G p l e R s m args below meth c Q n k0 u0 tgt L st M) (kf : b ≤ a → WA G p l e R s m args below meth c Q n k0 u0 (pc + 3) L st M) : WA G p l e R s m args below meth c Q n k0 u0 pc L (.int (nI b) :: .int (nI a) :: st) M := a_icmp_lt C hd ht (fun q => kt ((nI_ltI ha hb).mp q)) (fun q => kf (Nat.not_lt.mp fun z => q ((nI_ltI ha hb).mpr z)))
theorem n_icmp_ge (C : aCtx G p s m args meth c cc n own) {a b : Nat} {off : Int} {tgt : Nat} (hd : decode cc pc = .ok (.if_icmp .ge off, 3)) (ht : (pc : Int) + off = (tgt : Int)) (ha : a < 2 ^ 31) (hb : b < 2 ^ 31) (kt : b ≤ a → WA G p l e R s m args below meth c Q n k0 u0 tgt L st M) (kf : a < b → WA G p l e R s m args below meth c Q n k0 u0 (pc + 3) L st M) : WA G p l e R s m args below meth c Q n k0 u0 pc L (.int (nI b) :: .int (nI a) :: st) M := a_icmp_ge C hd ht (fun q => kt ((nI_leI hb ha).mp q)) (fun q => kf (Nat.not_le.mp fun z => q ((nI_leI hb ha).mpr z)))
theorem n_icmp_gt (C : aCtx G p s m args meth c cc n own) {a b : Nat} {off : Int} {tgt : Nat} (hd : decode cc pc = .ok (.if_icmp .gt off, 3)) (ht : (pc : Int) + off = (tgt : Int)) (ha : a < 2 ^ 31) (hb : b < 2 ^ 31) (kt : b < a → WA G p l e R s m args below meth c Q n k0 u0 tgt L st M) (kf : a ≤ b → WA G p l e R s m args below meth c Q n k0 u0 (pc + 3) L st M) : WA G p l e R s m args below meth c Q n k0 u0 pc L (.int (nI b) :: .int (nI a) :: st) M := a_icmp_gt C hd ht (fun q => kt ((nI_ltI hb ha).mp q)) (fun q => kf (Nat.not_lt.mp fun z => q ((nI_ltI hb ha).mpr z)))
theorem n_icmp_le (C : aCtx G p s m args meth c cc n own) {a b : Nat} {off : Int} {tgt : Nat} (hd : decode cc pc = .ok (.if_icmp .le off, 3)) (ht : (pc : Int) + off = (tgt : Int)) (ha : a < 2 ^ 31) (hb : b < 2 ^ 31) (kt : a ≤ b → WA G p l e R s m args below meth c Q n k0 u0 tgt L st M) (kf : b < a → WA G p l e R s m args below meth c Q n k0 u0 (pc + 3) L st M) : WA G p l e R s m args below meth c Q n k0 u0 pc L (.int (nI b) :: .int (nI a) :: st) M := a_icmp_le C hd ht (fun q => kt ((nI_leI ha hb).mp q)) (fun q => kf (Nat.not_le.mp fun z => q ((nI_leI ha hb).mpr z)))
theorem n_if_eq (C : aCtx G p s m args meth c cc n own) {a : Nat} {off : Int} {tgt : Nat} (hd : decode cc pc = .ok (.ifCond .eq off, 3)) (ht : (pc : Int) + off = (tgt : Int)) (ha : a < 2 ^ 31) (kt : a = 0 → WA G p l e R s m args below meth c Q n k0 u0 tgt L st M) (kf : a ≠ 0 → WA G p l e R s m args below meth c Q n k0 u0 (pc + 3) L st M) : WA G p l e R s m args below meth c Q n k0 u0 pc L (.int (nI a) :: st) M :=
  a_if_eq C hd ht (fun q => kt (Nat.eq_zero_of_not_pos fun z => nI_ne0 z ha q)) (fun q => kf (fun z => q (by rw [z]; exact nI_0)))
theorem n_if_ne (C : aCtx G p s m args meth c cc n own) {a : Nat} {off : Int} {tgt : Nat} (hd : decode cc pc = .ok (.ifCond .ne off, 3)) (ht : (pc : Int) + off = (tgt : Int)) (ha : a < 2 ^ 31) (kt : a ≠ 0 → WA G p l e R s m args below meth c Q n k0 u0 tgt L st M) (kf : a = 0 → WA G p l e R s m args below meth c Q n k0 u0 (pc + 3) L st M) : WA G p l e R s m args below meth c Q n k0 u0 pc L (.int (nI a) :: st) M :=
  a_if_ne C hd ht (fun q => kt (fun z => q (by rw [z]; exact nI_0))) (fun q => kf (Nat.eq_zero_of_not_pos fun z => nI_ne0 z ha q))
theorem n_if_lt (C : aCtx G p s m args meth c cc n own) {a : Nat} {off : Int} (hd : decode cc pc = .ok (.ifCond .lt off, 3)) {tgt : Nat} (ht : (pc : Int) + off = (tgt : Int)) (ha : a < 2 ^ 31) (kf : WA G p l e R s m args below meth c Q n k0 u0 (pc + 3) L st M) : WA G p l e R s m args below meth c Q n k0 u0 pc L (.int (nI a) :: st) M :=
  a_if_lt C hd ht (fun q => absurd q (nI_pos ha)) (fun _ => kf)
theorem n_if_ge (C : aCtx G p s m args meth c cc n own) {a : Nat} {off : Int} (hd : decode cc pc = .ok (.ifCond .ge off, 3)) {tgt : Nat} (ht : (pc : Int) + off = (tgt : Int)) (ha : a < 2 ^ 31) (kt : WA G p l e R s m args below meth c Q n k0 u0 tgt L st M) : WA G p l e R s m args below meth c Q n k0 u0 pc L (.int (nI a) :: st) M :=
  a_if_ge C hd ht (fun _ => kt) (fun q => absurd (nI_pos' ha) q)
theorem n_if_gt (C : aCtx G p s m args meth c cc n own) {a : Nat} {off : Int} {tgt : Nat} (hd : decode cc pc = .ok (.ifCond .gt off, 3)) (ht : (pc : Int) + off = (tgt : Int)) (ha : a < 2 ^ 31) (kt : 0 < a → WA G p l e R s m args below meth c Q n k0 u0 tgt L st M) (kf : a = 0 → WA G p l e R s m args below meth c Q n k0 u0 (pc + 3) L st M) : WA G p l e R s m args below meth c Q n k0 u0 pc L (.int (nI a) :: st) M :=
  a_if_gt C hd ht (fun q => kt (Nat.pos_of_ne_zero fun z => by rw [z, nI_0] at q; exact absurd q (by decide))) (fun q => kf (Nat.eq_zero_of_not_pos fun z => q (by rw [← nI_0]; exact nI_lt z ha)))
theorem n_if_le (C : aCtx G p s m args meth c cc n own) {a : Nat} {off : Int} {tgt : Nat} (hd : decode cc pc = .ok (.ifCond .le off, 3)) (ht : (pc : Int) + off = (tgt : Int)) (ha : a < 2 ^ 31) (kt : a = 0 → WA G p l e R s m args below meth c Q n k0 u0 tgt L st M) (kf : 0 < a → WA G p l e R s m args below meth c Q n k0 u0 (pc + 3) L st M) : WA G p l e R s m args below meth c Q n k0 u0 pc L (.int (nI a) :: st) M :=
  a_if_le C hd ht (fun q => kt (Nat.eq_zero_of_not_pos fun z => nI_nle z ha q)) (fun q => kf (Nat.pos_of_ne_zero fun z => q (by rw [z, nI_0]; exact Int32.le_refl _)))
theorem b_if_eq (C : aCtx G p s m args meth c cc n own) {b : Bool} {off : Int} {tgt : Nat} (hd : decode cc pc = .ok (.ifCond .eq off, 3)) (ht : (pc : Int) + off = (tgt : Int)) (kt : b = false → WA G p l e R s m args below meth c Q n k0 u0 tgt L st M) (kf : b = true → WA G p l e R s m args below meth c Q n k0 u0 (pc + 3) L st M) : WA G p l e R s m args below meth c Q n k0 u0 pc L (.int (bI b) :: st) M :=
  a_if_eq C hd ht (fun q => kt (bI_0.mp q)) (fun q => kf (by cases b with | true => rfl | false => exact absurd rfl q))
theorem b_if_ne (C : aCtx G p s m args meth c cc n own) {b : Bool} {off : Int} {tgt : Nat} (hd : decode cc pc = .ok (.ifCond .ne off, 3)) (ht : (pc : Int) + off = (tgt : Int)) (kt : b = true → WA G p l e R s m args below meth c Q n k0 u0 tgt L st M) (kf : b = false → WA G p l e R s m args below meth c Q n k0 u0 (pc + 3) L st M) : WA G p l e R s m args below meth c Q n k0 u0 pc L (.int (bI b) :: st) M :=
  a_if_ne C hd ht (fun q => kt (by cases b with | true => rfl | false => exact absurd rfl q)) (fun q => kf (bI_0.mp q))
/-- a contract that only answers -/
def CP (y : MethodName) (cc : ByteArray) (n : Nat) (ret : Option FieldType) (fr lo : Nat) (av : List Value) (w : Wd) (r : Value) : Prop := CF y cc n ret fr lo av w (fun r' w' => r' = some r ∧ w' = w)
/-- .. whatever the heap -/
def CS (y : MethodName) (cc : ByteArray) (n : Nat) (ret : Option FieldType) (fr lo : Nat) (av : List Value) (r : Value) : Prop := ∀ M : aH, CM y cc n ret fr lo av M 0 0 (fun r' M' => r' = some r ∧ M' = M)
theorem CS.cp {y : MethodName} {cc : ByteArray} {n : Nat} {ret : Option FieldType} {fr lo : Nat} {av : List Value} {r : Value} {w : Wd} (h : CS y cc n ret fr lo av r) : CP y cc n ret fr lo av w r := by
  intro ex us G l p e ha hc hk s m args below hf happ hP hK
  obtain ⟨k, o, h1, h2, h3, ⟨⟨r', ho, M', ⟨q1, q2⟩, h4⟩, h5⟩, h6⟩ := h (fzM w ex us) G l p e ha hc hk s m args below hf happ hP hK
  exact ⟨k, o, h1, h2, h3, ⟨⟨r', ho, M', ⟨w, q2, q1, rfl⟩, h4⟩, h5⟩, h6⟩
theorem p_callV (C : aCtx G p s m args meth c cc n own) {w : Wd} {ex : Nat × Nat} {us : Nat} {index : Nat} {y : MethodName} {bytes : ByteArray} {maxL fr lo cells slots rfr rlo : Nat} {ret : Option FieldType} {r : Value} {As : List Value} {b : Nat} {rest st0 : List Value} {ci : Nat} {N : Nat} {T : u_T} {fs : List Value}
    (hM : CP y bytes maxL ret fr lo (.ref b :: As) w r) (hw : aCv own index y bytes maxL ret As.length) (hst : st0 = As.reverse ++ .ref b :: rest) (hb : b < 207) (hbM : fz w b = .inr (ci, fs)) (hc : vwCl[ci]? = some (y.cls, T, N)) (hd : decode cc pc = .ok (.invokevirtual index, 3)) (h8 : (rest.map fun v => v.category).sum ≤ 8)
    (hR : fr + 1 ≤ rfr ∧ 8 + (maxL + 11) + lo ≤ rlo)
    (k : WA G p l e { frames := rfr, cells := cells, slots := slots, locals := rlo } s m args below meth c Q n (207 + ex.1 + ex.2) us (pc + 3) L (r :: rest) (fzM w ex us)) : WA G p l e { frames := rfr, cells := cells, slots := slots, locals := rlo } s m args below meth c Q n (207 + ex.1 + ex.2) us pc L st0 (fzM w ex us) :=
  f_callV C As ci hM hw hb hbM hc hd hst h8 hR (fun r' w' hp => by obtain ⟨rfl, rfl⟩ := hp; exact k)
theorem p_callS (C : aCtx G p s m args meth c cc n own) {w : Wd} {ex : Nat × Nat} {us : Nat} {index : Nat} {y : MethodName} {bytes : ByteArray} {maxL fr lo cells slots rfr rlo : Nat} {ret : Option FieldType} {r : Value} {As : List Value} {rest st0 : List Value}
    (hM : CP y bytes maxL ret fr lo As w r) (hw : aCs own index y bytes maxL ret As.length) (hst : st0 = As.reverse ++ rest) (hd : decode cc pc = .ok (.invokestatic index, 3)) (h8 : (rest.map fun v => v.category).sum ≤ 8)
    (hR : fr + 1 ≤ rfr ∧ 8 + (maxL + 11) + lo ≤ rlo)
    (k : WA G p l e { frames := rfr, cells := cells, slots := slots, locals := rlo } s m args below meth c Q n (207 + ex.1 + ex.2) us (pc + 3) L (r :: rest) (fzM w ex us)) : WA G p l e { frames := rfr, cells := cells, slots := slots, locals := rlo } s m args below meth c Q n (207 + ex.1 + ex.2) us pc L st0 (fzM w ex us) :=
  f_callS C As hM hw hd hst h8 hR (fun r' w' hp => by obtain ⟨rfl, rfl⟩ := hp; exact k)
/-- a call of a method that minds no heap, from wherever -/
theorem s_callS (C : aCtx G p s m args meth c cc n own) {index : Nat} {y : MethodName} {bytes : ByteArray} {maxL fr lo : Nat} {ret : Option FieldType} {r : Value} {As : List Value} {rest st0 : List Value}
    (hM : CS y bytes maxL ret fr lo As r) (hw : aCs own index y bytes maxL ret As.length) (hst : st0 = As.reverse ++ rest) (hd : decode cc pc = .ok (.invokestatic index, 3)) (h8 : (rest.map fun v => v.category).sum ≤ 8)
    (hR : fr + 1 ≤ R.frames ∧ 8 + (maxL + 11) + lo ≤ R.locals) (hbud : M.1 + M.2.1 ≤ k0 + R.cells ∧ M.2.2.1 ≤ u0 + R.slots)
    (k : WA G p l e R s m args below meth c Q n k0 u0 (pc + 3) L (r :: rest) M) : WA G p l e R s m args below meth c Q n k0 u0 pc L st0 M :=
  a_callS C As (hM M) hw hd hst h8 hR ⟨by omega, by omega⟩ (fun r' M' hp _ _ => by obtain ⟨rfl, rfl⟩ := hp; exact k)
theorem CS.of {y : MethodName} {ret : Option FieldType} {fr lo : Nat} {av : List Value} {r : Value} (hW : aCode y cc n ret) (hn : aSz av ≤ n)
    (body : ∀ (M : aH) (G : aG) (p : Program) (l : Launch) (e : Env) (s : State) (m : MethodId) (args : Array Value) (below : List Frame) (meth : Method) (c : Code), aCtx G p s m args meth c cc n y.cls → meth.sig.returnType = ret →
      WA G p l e { frames := fr, cells := 0, slots := 0, locals := lo } s m args below meth c (MQ below (aQc G M 0 0 (fun r' M' => r' = some r ∧ M' = M)) args s 0 0 (aOld G)) n (M.1 + M.2.1) M.2.2.1 0 (aEn av) [] M) : CS y cc n ret fr lo av r := fun M => CM.of hW hn (fun G p l e s m args below meth c C hr _ => body M G p l e s m args below meth c C hr)
abbrev RM (fr lo : Nat) : Room := { frames := fr, cells := 0, slots := 0, locals := lo }
abbrev QF (G : aG) (below : List Frame) (args : Array Value) (s : State) (w : Wd) (ex : Nat × Nat) (us : Nat) (P : Option Value → Wd → Prop) : State → Prop := MQ below (aQc G (fzM w ex us) 0 0 (fun r M' => ∃ w', M' = fzM w' ex us ∧ P r w')) args s 0 0 (aOld G)
abbrev QP (G : aG) (below : List Frame) (args : Array Value) (s : State) (w : Wd) (ex : Nat × Nat) (us : Nat) (r : Value) : State → Prop := QF G below args s w ex us (fun r' w' => r' = some r ∧ w' = w)
abbrev QS (G : aG) (below : List Frame) (args : Array Value) (s : State) (M : aH) (r : Value) : State → Prop := MQ below (aQc G M 0 0 (fun r' M' => r' = some r ∧ M' = M)) args s 0 0 (aOld G)
/-- an int in the range 0 .. N - 1 -/
def inR (x : Int32) (N : Nat) : Bool := decide (0 ≤ x.toInt ∧ x.toInt < N)
theorem inR_of {x : Int32} {N : Nat} (h : inR x N = true) (hN : N < 2 ^ 31) : ∃ k, k < N ∧ x = nI k := by
  have h1 : 0 ≤ x.toInt ∧ x.toInt < N := by simpa [inR] using h
  exact vp_in_of (vp_in_iff.mpr h1) hN
theorem inR_nI {k N : Nat} (hk : k < 2 ^ 31) : inR (nI k) N = decide (k < N) := by
  unfold inR
  rw [nI_toInt hk]
  by_cases h : k < N
  · simp [h]
  · simp [h]
end A8

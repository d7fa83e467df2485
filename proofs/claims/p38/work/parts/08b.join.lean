section A8b
/-! ### joins: what is known of the locals at a loop's head follows from what is known where it is entered -/
def aLe : aL → aL → Prop
  | [], _ => True
  | none :: L', _ :: L => aLe L' L
  | some v :: L', x :: L => x = some v ∧ aLe L' L
  | _ :: _, [] => False
theorem aLe_nil {L : aL} : aLe [] L := by cases L <;> exact True.intro
theorem aLe_n {L' L : aL} {x : Option Value} (h : aLe L' L) : aLe (none :: L') (x :: L) := h
theorem aLe_s {L' L : aL} {x : Option Value} {v : Value} (hx : x = some v) (h : aLe L' L) : aLe (some v :: L') (x :: L) := ⟨hx, h⟩
theorem aLe_get : ∀ (L' L : aL), aLe L' L → ∀ (i : Nat) (v : Value), L'[i]? = some (some v) → L[i]? = some (some v)
  | [], _, _, i, v, h => by simp at h
  | none :: L', x :: L, hL, i, v, h => by
    cases i with
    | zero => simp at h
    | succ j => simpa using aLe_get L' L hL j v (by simpa using h)
  | some u :: L', x :: L, hL, i, v, h => by
    cases i with
    | zero =>
      have h1 : u = v := by simpa using h
      have h2 : x = some u := hL.1
      rw [h2, h1]
      rfl
    | succ j => simpa using aLe_get L' L hL.2 j v (by simpa using h)
  | none :: L', [], hL, i, v, h => hL.elim
  | some u :: L', [], hL, i, v, h => hL.elim
variable {G : aG} {p : Program} {l : Launch} {e : Env} {R : Room} {s : State} {m : MethodId} {args : Array Value} {below : List Frame} {meth : Method} {c : Code} {Q : State → Prop} {n k0 u0 pc : Nat} {L : aL} {st : List Value} {M : aH}
theorem a_join {L' : aL} {st' : List Value} {M' : aH} (h : aLe L' L) (hst : st = st') (hM : M = M') (k : WA G p l e R s m args below meth c Q n k0 u0 pc L' st' M') : WA G p l e R s m args below meth c Q n k0 u0 pc L st M := by
  subst hst
  subst hM
  exact a_sub (aLe_get L' L h) k
theorem a_pad (q : Nat) (k : WA G p l e R s m args below meth c Q n k0 u0 pc (L ++ List.replicate q none) st M) : WA G p l e R s m args below meth c Q n k0 u0 pc L st M := by
  refine a_sub (fun i v h => ?_) k
  by_cases zq_1 : i < L.length
  · rwa [List.getElem?_append_left zq_1] at h
  · rw [List.getElem?_append_right (by omega), List.getElem?_replicate] at h
    split at h <;> simp at h
theorem gl {x y : Int32} (h : x = y) : some (Value.int x) = some (Value.int y) := by rw [h]
theorem gl1 {x y : Int32} {st : List Value} (h : x = y) : Value.int x :: st = Value.int y :: st := by rw [h]
/-- an expression with branches, of which the value is known -/
theorem a_via (j : Nat) (v : Int32) (k : WA G p l e R s m args below meth c Q n k0 u0 j L (.int v :: st) M) (h : WA G p l e R s m args below meth c Q n k0 u0 j L (.int v :: st) M → WA G p l e R s m args below meth c Q n k0 u0 pc L st M) : WA G p l e R s m args below meth c Q n k0 u0 pc L st M := h k
variable {cc : ByteArray} {own : String}
theorem n_iald (C : aCtx G p s m args meth c cc n own) {a len j : Nat} {f : Nat → Int32} {i x : Int32} (hd : decode cc pc = .ok (.iaload, 1)) (ha : a < M.1) (ha2 : a < 1000) (hM : M.2.2.2 a = .inl (8, (len, .inl f))) (hi : i = nI j) (hj : j < len) (hlen : len < 2 ^ 31) (hx : f j = x) (k : WA G p l e R s m args below meth c Q n k0 u0 (pc + 1) L (.int x :: st) M) : WA G p l e R s m args below meth c Q n k0 u0 pc L (.int i :: .ref a :: st) M :=
  a_iald C hd ha ha2 hM hi hj hlen (by rw [hx]; exact k)
theorem n_zald (C : aCtx G p s m args meth c cc n own) {a len j : Nat} {f : Nat → Int32} {i x : Int32} (hd : decode cc pc = .ok (.baload, 1)) (ha : a < M.1) (ha2 : a < 1000) (hM : M.2.2.2 a = .inl (9, (len, .inl f))) (hi : i = nI j) (hj : j < len) (hlen : len < 2 ^ 31) (hx : f j = x) (k : WA G p l e R s m args below meth c Q n k0 u0 (pc + 1) L (.int x :: st) M) : WA G p l e R s m args below meth c Q n k0 u0 pc L (.int i :: .ref a :: st) M :=
  a_zald C hd ha ha2 hM hi hj hlen (by rw [hx]; exact k)
theorem n_cald (C : aCtx G p s m args meth c cc n own) {a len j : Nat} {f : Nat → Int32} {i x : Int32} (hd : decode cc pc = .ok (.caload, 1)) (ha : a < M.1) (ha2 : a < 1000) (hM : M.2.2.2 a = .inl (10, (len, .inl f))) (hi : i = nI j) (hj : j < len) (hlen : len < 2 ^ 31) (hx : f j = x) (k : WA G p l e R s m args below meth c Q n k0 u0 (pc + 1) L (.int x :: st) M) : WA G p l e R s m args below meth c Q n k0 u0 pc L (.int i :: .ref a :: st) M :=
  a_cald C hd ha ha2 hM hi hj hlen (by rw [hx]; exact k)
theorem nwv_eq : ∀ {k : Nat}, nwv k = .int (nI (wtN k))
  | 0 => rfl
  | 1 => rfl
  | 2 => rfl
  | _ + 3 => rfl
theorem bI_1 {b : Bool} : bI b = nI 1 ↔ b = true := by cases b <;> decide
theorem iF {b : Bool} (h : b = false) : nI 0 = bI b := by rw [h]; rfl
theorem iT {b : Bool} (h : b = true) : nI 1 = bI b := by rw [h]; rfl
theorem iB {b c : Bool} (h : b = c) : bI b = bI c := by rw [h]
theorem bI_add (a : Nat) (b : Bool) : nI a + bI b = nI (a + if b then 1 else 0) := by cases b <;> exact nI_add a _
theorem b_icmp1_ne (C : aCtx G p s m args meth c cc n own) {b : Bool} {off : Int} {tgt : Nat} (hd : decode cc pc = .ok (.if_icmp .ne off, 3)) (ht : (pc : Int) + off = (tgt : Int)) (kt : b = false → WA G p l e R s m args below meth c Q n k0 u0 tgt L st M) (kf : b = true → WA G p l e R s m args below meth c Q n k0 u0 (pc + 3) L st M) : WA G p l e R s m args below meth c Q n k0 u0 pc L (.int (nI 1) :: .int (bI b) :: st) M :=
  a_icmp_ne C hd ht (fun q => kt (by cases b with | true => exact absurd rfl q | false => rfl)) (fun q => kf (bI_1.mp q))
variable {w w0 : Wd} {ex : Nat × Nat} {us : Nat} {P : Option Value → Wd → Prop}
theorem f_dret (C : aCtx G p s m args meth c cc n own) {x : UInt64} (hr : meth.sig.returnType = some .double) (hd : decode cc pc = .ok (.dreturn, 1)) (hp : P (some (.double x)) w) :
    WA G p l e R s m args below meth c (MQ below (aQc G (fzM w0 ex us) 0 0 (fun r M' => ∃ w', M' = fzM w' ex us ∧ P r w')) args s 0 0 (aOld G)) n (207 + ex.1 + ex.2) us pc L [.double x] (fzM w ex us) :=
  a_dret (M0 := fzM w0 ex us) C hr hd rfl rfl ⟨w, rfl, hp⟩
theorem f_fret (C : aCtx G p s m args meth c cc n own) {x : UInt32} (hr : meth.sig.returnType = some .float) (hd : decode cc pc = .ok (.freturn, 1)) (hp : P (some (.float x)) w) :
    WA G p l e R s m args below meth c (MQ below (aQc G (fzM w0 ex us) 0 0 (fun r M' => ∃ w', M' = fzM w' ex us ∧ P r w')) args s 0 0 (aOld G)) n (207 + ex.1 + ex.2) us pc L [.float x] (fzM w ex us) :=
  a_fret (M0 := fzM w0 ex us) C hr hd rfl rfl ⟨w, rfl, hp⟩
end A8b

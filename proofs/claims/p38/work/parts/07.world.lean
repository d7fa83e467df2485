section A7
/-! ### the world once all is made: 207 things, in the order in which they come. What never changes stands in the contents themselves; all else is in a table of ints (and two longs) -/
abbrev Wd : Type := (Nat → Nat → Int32) × (Nat → Int64)
/-- the codes: depths, marks, levels, steps, and the code behind wear -/
def wtN (k : Nat) : Nat := match k with | 0 => 27 | 1 => 9 | 2 => 3 | _ => 1
def dep (c k : Nat) : Nat := c / wtN k % 3
def mkN (c : Nat) : Nat := (2 ^ dep c 0 - 1) + (2 ^ dep c 1 - 1) * 4 + (2 ^ dep c 2 - 1) * 16 + (2 ^ dep c 3 - 1) * 64
def lvN (c : Nat) : Nat := dep c 0 + dep c 1 + dep c 2 + dep c 3
def dfN (a b : Nat) : Nat := (a - b) + (b - a)
def spN (c : Nat) : Nat := max (max (dfN (dep c 1) (dep c 0)) (dfN (dep c 2) (dep c 1))) (dfN (dep c 3) (dep c 2))
def shN (c : Nat) : Nat := if dep c 0 ≤ dep c 1 ∧ dep c 0 ≤ dep c 2 ∧ dep c 0 ≤ dep c 3 then 0 else if dep c 1 ≤ dep c 2 ∧ dep c 1 ≤ dep c 3 then 1 else if dep c 2 ≤ dep c 3 then 2 else 3
def woN (c : Nat) : Nat := if dep c (shN c) < 2 then c + wtN (shN c) else c
/-- c lies under d -/
def und (c d : Nat) : Bool := c != d && (dep c 0 ≤ dep d 0 && dep c 1 ≤ dep d 1 && dep c 2 ≤ dep d 2 && dep c 3 ≤ dep d 3)
def upL (c : Nat) : List Nat := (List.range 81).filter (und c)
def ovL (c : Nat) : List Nat := (List.range c).flatMap upL
def ovS (c : Nat) : Nat := (ovL c).length
def ovC (e : Nat) : Nat := (ovL 81).getD e 0
/-- a state's things, from its base on -/
def fzS (b r : Nat) (row : Nat → Int32) : aC :=
  if r = 0 then .inr (5, [.ref (b + 1), .int (row 1), .ref (b + 2), .ref (b + 3), .ref (b + 4), .int (row 5), .int (row 6), .int (row 7), .int (row 8), .int (row 9), .int (row 10), .int (row 11)])
  else if r = 1 then .inl (12, (12, .inr (.inr (.inr (.inr (fun j => some (b + 5 + j)))))))
  else if r = 2 then .inl (13, (6, .inr (.inr (.inr (.inr (fun j => some (b + 17 + j)))))))
  else if r = 3 then .inl (8, (4, .inl row))
  else if r = 4 then .inl (8, (4, .inl row))
  else if r < 17 then .inr (2, [.int (row 0), .int (row 1), .int (row 2), .int (row 3), .int (row 4), .int (row 5)])
  else .inr (3, [.int (row 0), .int (row 1), .int (row 2), .int (row 3)])
def fzB (a : Nat) (row : Nat → Int32) : aC := .inl (9, (81, .inl row))
def fzI (len : Nat) (row : Nat → Int32) : aC := .inl (8, (len, .inl row))
def fzc (a : Nat) (row : Nat → Int32) (lg : Int64) : aC :=
  if a = 0 then .inr (6, [.ref 50, .ref 55, .ref 1, .ref 3, .ref 26, .int (row 5), .ref 49, .int (row 7), .int (row 8)])
  else if a = 1 then .inr (4, [.ref 2, .int (row 1), .int (row 2), .int (row 3), .int (row 4), .int (row 5), .int (row 6)])
  else if a = 2 then .inl (10, (60, .inl row))
  else if a < 26 then fzS 3 (a - 3) row
  else if a < 49 then fzS 26 (a - 26) row
  else if a = 49 then .inl (14, (6, .inr (.inr (.inr (.inr (fun j => some (66 + 23 * j)))))))
  else if a = 50 then .inr (1, [.ref 51, .ref 52, .ref 53, .ref 54])
  else if a = 51 then fzI 81 (fun j => nI (mkN j))
  else if a = 52 then fzI 81 (fun j => nI (lvN j))
  else if a = 53 then fzI 81 (fun j => nI (spN j))
  else if a = 54 then fzI 81 (fun j => nI (woN j))
  else if a = 55 then .inr (0, [.ref 50, .ref 56, .int (row 2), .ref 57, .int (row 4), .ref 58, .ref 59, .ref 60, .ref 61, .ref 62, .ref 63, .ref 64, .ref 65])
  else if a = 56 then fzB a row
  else if a = 63 then fzB a row
  else if a = 64 then fzB a row
  else if a < 66 then fzI 81 row
  else if a < 204 then fzS (66 + 23 * ((a - 66) / 23)) ((a - 66) % 23) row
  else if a = 204 then fzI 14 row
  else if a = 205 then fzI 64 row
  else if a = 206 then fzI 24 row
  else if a < 218 then fzI 20 row
  else .inl (11, (1, .inr (.inl (fun _ => lg))))
def fz (w : Wd) (a : Nat) : aC := fzc a (w.1 a) (w.2 a)
def fzM (w : Wd) (ex : Nat × Nat) (us : Nat) : aH := (207 + ex.1, ex.2, us, fz w)
/-- a thing of the world: ex.1 things more than 207, ex.2 thrown away -/
theorem tw {w : Wd} {ex : Nat × Nat} {us a : Nat} (h : a < 207) : a < (fzM w ex us).1 := Nat.lt_of_lt_of_le h (Nat.le_add_right _ _)
def wSet (w : Wd) (a k : Nat) (x : Int32) : Wd := (fun b => if b = a then upd (w.1 a) k x else w.1 b, w.2)
def wLong (w : Wd) (a : Nat) (x : Int64) : Wd := (w.1, fun b => if b = a then x else w.2 b)
theorem wSet_at {w : Wd} {a k : Nat} {x : Int32} : (wSet w a k x).1 a k = x := by simp [wSet, upd]
theorem wSet_get (w : Wd) (a k b j : Nat) (x : Int32) : (wSet w a k x).1 b j = if b = a ∧ j = k then x else w.1 b j := by
  unfold wSet
  by_cases h : b = a
  · subst h
    by_cases h2 : j = k <;> simp [upd, h2]
  · simp [h]
theorem wSet_ne {w : Wd} {a k b j : Nat} {x : Int32} (h : ¬ (b = a ∧ j = k)) : (wSet w a k x).1 b j = w.1 b j := by
  rw [wSet_get, if_neg h]
theorem wSet_long (w : Wd) (a k b : Nat) (x : Int32) : (wSet w a k x).2 b = w.2 b := rfl
theorem wLong_int (w : Wd) (a b j : Nat) (x : Int64) : (wLong w a x).1 b j = w.1 b j := rfl
theorem wLong_get (w : Wd) (a b : Nat) (x : Int64) : (wLong w a x).2 b = if b = a then x else w.2 b := rfl
theorem fz_put {w : Wd} {ex : Nat × Nat} {us a k : Nat} {x : Int32} {y : aC} (h : fzc a (upd (w.1 a) k x) (w.2 a) = y) : aPut (fzM w ex us) a y = fzM (wSet w a k x) ex us := by
  unfold aPut fzM
  congr 1
  congr 1
  congr 1
  funext j
  show (if j = a then y else fz w j) = fz (wSet w a k x) j
  unfold fz wSet
  by_cases e : j = a
  · subst e
    simp only [if_true]
    exact h.symm
  · simp only [e, if_false]
theorem fz_putL {w : Wd} {ex : Nat × Nat} {us a : Nat} {x : Int64} {y : aC} (h : fzc a (w.1 a) x = y) : aPut (fzM w ex us) a y = fzM (wLong w a x) ex us := by
  unfold aPut fzM
  congr 1
  congr 1
  congr 1
  funext j
  show (if j = a then y else fz w j) = fz (wLong w a x) j
  unfold fz wLong
  by_cases e : j = a
  · subst e
    simp only [if_true]
    exact h.symm
  · simp only [e, if_false]
/-- where the states lie: 0 the one that is now, 1 the snapshot, 2 and on the saved ones -/
def stB (j : Nat) : Nat := match j with
  | 0 => 3
  | 1 => 26
  | i + 2 => 66 + 23 * i
theorem fzc_st {j r : Nat} (hj : j < 8) (hr : r < 23) (row : Nat → Int32) (lg : Int64) : fzc (stB j + r) row lg = fzS (stB j) r row := by
  match j, hj with
  | 0, _ =>
    show fzc (3 + r) row lg = fzS 3 r row
    unfold fzc
    rw [if_neg (by omega), if_neg (by omega), if_neg (by omega), if_pos (by omega), Nat.add_sub_cancel_left]
  | 1, _ =>
    show fzc (26 + r) row lg = fzS 26 r row
    unfold fzc
    rw [if_neg (by omega), if_neg (by omega), if_neg (by omega), if_neg (by omega), if_pos (by omega), Nat.add_sub_cancel_left]
  | i + 2, hj =>
    show fzc (66 + 23 * i + r) row lg = fzS (66 + 23 * i) r row
    have e1 : (66 + 23 * i + r - 66) / 23 = i := by omega
    have e2 : (66 + 23 * i + r - 66) % 23 = r := by omega
    unfold fzc
    iterate 16 rw [if_neg (by omega)]
    rw [if_pos (by omega), e1, e2]
theorem stB_le {j : Nat} (hj : j < 8) : 3 ≤ stB j ∧ stB j + 23 ≤ 204 := by
  match j, hj with
  | 0, _ => exact ⟨Nat.le_refl _, by decide⟩
  | 1, _ => exact ⟨by decide, by decide⟩
  | i + 2, h => show 3 ≤ 66 + 23 * i ∧ 66 + 23 * i + 23 ≤ 204; omega
theorem fzc_key {j k : Nat} (hj : j < 8) (hk : k < 12) (row : Nat → Int32) (lg : Int64) : fzc (stB j + 5 + k) row lg = .inr (2, [.int (row 0), .int (row 1), .int (row 2), .int (row 3), .int (row 4), .int (row 5)]) := by
  rw [show stB j + 5 + k = stB j + (5 + k) by omega, fzc_st hj (by omega)]
  unfold fzS
  rw [if_neg (by omega), if_neg (by omega), if_neg (by omega), if_neg (by omega), if_neg (by omega), if_pos (by omega)]
theorem fzc_lock {j k : Nat} (hj : j < 8) (hk : k < 6) (row : Nat → Int32) (lg : Int64) : fzc (stB j + 17 + k) row lg = .inr (3, [.int (row 0), .int (row 1), .int (row 2), .int (row 3)]) := by
  rw [show stB j + 17 + k = stB j + (17 + k) by omega, fzc_st hj (by omega)]
  unfold fzS
  rw [if_neg (by omega), if_neg (by omega), if_neg (by omega), if_neg (by omega), if_neg (by omega), if_neg (by omega)]
theorem fz_key {w : Wd} {j k : Nat} (hj : j < 8) (hk : k < 12) : fz w (stB j + 5 + k) = .inr (2, [.int (w.1 (stB j + 5 + k) 0), .int (w.1 (stB j + 5 + k) 1), .int (w.1 (stB j + 5 + k) 2), .int (w.1 (stB j + 5 + k) 3), .int (w.1 (stB j + 5 + k) 4), .int (w.1 (stB j + 5 + k) 5)]) := fzc_key hj hk _ _
theorem fz_lock {w : Wd} {j k : Nat} (hj : j < 8) (hk : k < 6) : fz w (stB j + 17 + k) = .inr (3, [.int (w.1 (stB j + 17 + k) 0), .int (w.1 (stB j + 17 + k) 1), .int (w.1 (stB j + 17 + k) 2), .int (w.1 (stB j + 17 + k) 3)]) := fzc_lock hj hk _ _
/-- the same of the state that is now -/
theorem fz_k0 {w : Wd} {k : Nat} (hk : k < 12) : fz w (8 + k) = .inr (2, [.int (w.1 (8 + k) 0), .int (w.1 (8 + k) 1), .int (w.1 (8 + k) 2), .int (w.1 (8 + k) 3), .int (w.1 (8 + k) 4), .int (w.1 (8 + k) 5)]) := fz_key (j := 0) (by decide) hk
theorem fz_l0 {w : Wd} {k : Nat} (hk : k < 6) : fz w (20 + k) = .inr (3, [.int (w.1 (20 + k) 0), .int (w.1 (20 + k) 1), .int (w.1 (20 + k) 2), .int (w.1 (20 + k) 3)]) := fz_lock (j := 0) (by decide) hk
/-! ### contracts over this world -/
/-- it returns; of the answer and the world behind it P holds; nothing was made -/
def CF (y : MethodName) (cc : ByteArray) (n : Nat) (ret : Option FieldType) (fr lo : Nat) (av : List Value) (w : Wd) (P : Option Value → Wd → Prop) : Prop :=
  ∀ (ex : Nat × Nat) (us : Nat), CM y cc n ret fr lo av (fzM w ex us) 0 0 (fun r M' => ∃ w', M' = fzM w' ex us ∧ P r w')
variable {G : aG} {p : Program} {l : Launch} {e : Env} {R : Room} {s : State} {m : MethodId} {args : Array Value} {below : List Frame} {meth : Method} {c : Code} {Q : State → Prop} {n k0 u0 pc : Nat} {cc : ByteArray} {own : String} {L : aL} {st : List Value} {w w0 : Wd} {ex : Nat × Nat} {us : Nat} {P : Option Value → Wd → Prop}
theorem f_putf (C : aCtx G p s m args meth c cc n own) {index a ci f : Nat} {fs : List Value} {x : Int32} (hF : aFl own index ci f) (hd : decode cc pc = .ok (.putfield index, 3)) (ha : a < 207) (hM : fz w a = .inr (ci, fs)) (hn : narrow (tyC ci f) (.int x) = .int x) (hfit : fits (tyC ci f) (.int x) = true) (hl : f < fs.length) (hs : fzc a (upd (w.1 a) f x) (w.2 a) = .inr (ci, fs.set f (.int x)))
    (k : WA G p l e R s m args below meth c Q n k0 u0 (pc + 3) L st (fzM (wSet w a f x) ex us)) : WA G p l e R s m args below meth c Q n k0 u0 pc L (.int x :: .ref a :: st) (fzM w ex us) :=
  a_putf C hF hd (tw ha) (by omega) hM hn hfit hl (by rw [fz_put hs]; exact k)
theorem f_iast (C : aCtx G p s m args meth c cc n own) {a len j : Nat} {i x : Int32} (hd : decode cc pc = .ok (.iastore, 1)) (ha : a < 207) (hM : fz w a = .inl (8, (len, .inl (w.1 a)))) (hi : i = nI j) (hj : j < len) (hlen : len < 2 ^ 31) (hs : fzc a (upd (w.1 a) j x) (w.2 a) = .inl (8, (len, .inl (upd (w.1 a) j x))))
    (k : WA G p l e R s m args below meth c Q n k0 u0 (pc + 1) L st (fzM (wSet w a j x) ex us)) : WA G p l e R s m args below meth c Q n k0 u0 pc L (.int x :: .int i :: .ref a :: st) (fzM w ex us) :=
  a_iast C hd (tw ha) (by omega) hM hi hj hlen (by rw [fz_put hs]; exact k)
theorem f_zast (C : aCtx G p s m args meth c cc n own) {a len j : Nat} {i x : Int32} (hd : decode cc pc = .ok (.bastore, 1)) (ha : a < 207) (hM : fz w a = .inl (9, (len, .inl (w.1 a)))) (hi : i = nI j) (hj : j < len) (hlen : len < 2 ^ 31) (hn : narrow .boolean (.int x) = .int x) (hs : fzc a (upd (w.1 a) j x) (w.2 a) = .inl (9, (len, .inl (upd (w.1 a) j x))))
    (k : WA G p l e R s m args below meth c Q n k0 u0 (pc + 1) L st (fzM (wSet w a j x) ex us)) : WA G p l e R s m args below meth c Q n k0 u0 pc L (.int x :: .int i :: .ref a :: st) (fzM w ex us) :=
  a_zast C hd (tw ha) (by omega) hM hi hj hlen hn (by rw [fz_put hs]; exact k)
theorem f_cast (C : aCtx G p s m args meth c cc n own) {a len j : Nat} {i x : Int32} (hd : decode cc pc = .ok (.castore, 1)) (ha : a < 207) (hM : fz w a = .inl (10, (len, .inl (w.1 a)))) (hi : i = nI j) (hj : j < len) (hlen : len < 2 ^ 31) (hn : narrow .char (.int x) = .int x) (hs : fzc a (upd (w.1 a) j x) (w.2 a) = .inl (10, (len, .inl (upd (w.1 a) j x))))
    (k : WA G p l e R s m args below meth c Q n k0 u0 (pc + 1) L st (fzM (wSet w a j x) ex us)) : WA G p l e R s m args below meth c Q n k0 u0 pc L (.int x :: .int i :: .ref a :: st) (fzM w ex us) :=
  a_cast C hd (tw ha) (by omega) hM hi hj hlen hn (by rw [fz_put hs]; exact k)
/-- the body of a contract -/
theorem CF.of {y : MethodName} {ret : Option FieldType} {fr lo : Nat} {av : List Value} (hW : aCode y cc n ret) (hn : aSz av ≤ n)
    (body : ∀ (ex : Nat × Nat) (us : Nat) (G : aG) (p : Program) (l : Launch) (e : Env) (s : State) (m : MethodId) (args : Array Value) (below : List Frame) (meth : Method) (c : Code), aCtx G p s m args meth c cc n y.cls → meth.sig.returnType = ret →
      WA G p l e { frames := fr, cells := 0, slots := 0, locals := lo } s m args below meth c (MQ below (aQc G (fzM w ex us) 0 0 (fun r M' => ∃ w', M' = fzM w' ex us ∧ P r w')) args s 0 0 (aOld G)) n (207 + ex.1 + ex.2) us 0 (aEn av) [] (fzM w ex us)) : CF y cc n ret fr lo av w P := by
  intro ex us
  exact CM.of hW hn (fun G p l e s m args below meth c C hr _ => body ex us G p l e s m args below meth c C hr)
theorem f_iret (C : aCtx G p s m args meth c cc n own) {ty : FieldType} {x : Int32} (hr : meth.sig.returnType = some ty) (hn : narrow ty (.int x) = .int x) (hd : decode cc pc = .ok (.ireturn, 1)) (hp : P (some (.int x)) w) :
    WA G p l e R s m args below meth c (MQ below (aQc G (fzM w0 ex us) 0 0 (fun r M' => ∃ w', M' = fzM w' ex us ∧ P r w')) args s 0 0 (aOld G)) n (207 + ex.1 + ex.2) us pc L [.int x] (fzM w ex us) :=
  a_iret (M0 := fzM w0 ex us) C hr hn hd rfl rfl ⟨w, rfl, hp⟩
theorem f_vret (C : aCtx G p s m args meth c cc n own) (hr : meth.sig.returnType = none) (hd : decode cc pc = .ok (.return_, 1)) (hp : P none w) :
    WA G p l e R s m args below meth c (MQ below (aQc G (fzM w0 ex us) 0 0 (fun r M' => ∃ w', M' = fzM w' ex us ∧ P r w')) args s 0 0 (aOld G)) n (207 + ex.1 + ex.2) us pc L [] (fzM w ex us) :=
  a_vret (M0 := fzM w0 ex us) C hr hd rfl rfl ⟨w, rfl, hp⟩
theorem f_lret (C : aCtx G p s m args meth c cc n own) {x : Int64} (hr : meth.sig.returnType = some .long) (hd : decode cc pc = .ok (.lreturn, 1)) (hp : P (some (.long x)) w) :
    WA G p l e R s m args below meth c (MQ below (aQc G (fzM w0 ex us) 0 0 (fun r M' => ∃ w', M' = fzM w' ex us ∧ P r w')) args s 0 0 (aOld G)) n (207 + ex.1 + ex.2) us pc L [.long x] (fzM w ex us) :=
  a_lret (M0 := fzM w0 ex us) C hr hd rfl rfl ⟨w, rfl, hp⟩
theorem f_callV (C : aCtx G p s m args meth c cc n own) {P : Option Value → Wd → Prop} {index : Nat} {y : MethodName} {bytes : ByteArray} {maxL fr lo cells slots rfr rlo : Nat} {ret : Option FieldType} (As : List Value) {b : Nat} {rest st0 : List Value} (ci : Nat) {N : Nat} {T : u_T} {fs : List Value}
    (hM : CF y bytes maxL ret fr lo (.ref b :: As) w P) (hw : aCv own index y bytes maxL ret As.length) (hb : b < 207) (hbM : fz w b = .inr (ci, fs)) (hc : vwCl[ci]? = some (y.cls, T, N)) (hd : decode cc pc = .ok (.invokevirtual index, 3)) (hst : st0 = As.reverse ++ .ref b :: rest) (h8 : (rest.map fun v => v.category).sum ≤ 8)
    (hR : fr + 1 ≤ rfr ∧ 8 + (maxL + 11) + lo ≤ rlo)
    (k : ∀ (r : Option Value) (w' : Wd), P r w' → WA G p l e { frames := rfr, cells := cells, slots := slots, locals := rlo } s m args below meth c Q n (207 + ex.1 + ex.2) us (pc + 3) L (r.toList ++ rest) (fzM w' ex us)) : WA G p l e { frames := rfr, cells := cells, slots := slots, locals := rlo } s m args below meth c Q n (207 + ex.1 + ex.2) us pc L st0 (fzM w ex us) :=
  a_callV C As ci (hM ex us) hw (tw hb) (by omega) hbM hc hd hst h8 hR ⟨by show 207 + ex.1 + ex.2 + 0 ≤ _; omega, by show us + 0 ≤ _; omega⟩ (fun r M' hp _ _ => by obtain ⟨w', rfl, hp⟩ := hp; exact k r w' hp)
theorem f_callS (C : aCtx G p s m args meth c cc n own) {P : Option Value → Wd → Prop} {index : Nat} {y : MethodName} {bytes : ByteArray} {maxL fr lo cells slots rfr rlo : Nat} {ret : Option FieldType} (As : List Value) {rest st0 : List Value}
    (hM : CF y bytes maxL ret fr lo As w P) (hw : aCs own index y bytes maxL ret As.length) (hd : decode cc pc = .ok (.invokestatic index, 3)) (hst : st0 = As.reverse ++ rest) (h8 : (rest.map fun v => v.category).sum ≤ 8)
    (hR : fr + 1 ≤ rfr ∧ 8 + (maxL + 11) + lo ≤ rlo)
    (k : ∀ (r : Option Value) (w' : Wd), P r w' → WA G p l e { frames := rfr, cells := cells, slots := slots, locals := rlo } s m args below meth c Q n (207 + ex.1 + ex.2) us (pc + 3) L (r.toList ++ rest) (fzM w' ex us)) : WA G p l e { frames := rfr, cells := cells, slots := slots, locals := rlo } s m args below meth c Q n (207 + ex.1 + ex.2) us pc L st0 (fzM w ex us) :=
  a_callS C As (hM ex us) hw hd hst h8 hR ⟨by show 207 + ex.1 + ex.2 + 0 ≤ _; omega, by show us + 0 ≤ _; omega⟩ (fun r M' hp _ _ => by obtain ⟨w', rfl, hp⟩ := hp; exact k r w' hp)
end A7

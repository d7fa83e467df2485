section A22
def ush (x k : Int32) : Int32 := (x.toUInt32 >>> (k.toUInt32 &&& Int32.toUInt32 31)).toInt32
def bc1 (x : Int32) : Int32 := x - (ush x (nI 1) &&& 1431655765)
def bc2 (y : Int32) : Int32 := (y &&& 858993459) + (ush y (nI 2) &&& 858993459)
def bc3 (y : Int32) : Int32 := (y + ush y (nI 4)) &&& 252645135
def bc4 (y : Int32) : Int32 := y + ush y (nI 8)
def bc5 (y : Int32) : Int32 := y + ush y (nI 16)
def bcE (x : Int32) : Int32 := bc5 (bc4 (bc3 (bc2 (bc1 x)))) &&& nI 63
set_option maxRecDepth 100000 in
theorem bc_all : (List.range 4096).all (fun x => decide (bcE (nI x) = nI (onesN x))) = true := by decide +kernel
theorem bc_eq {x : Nat} (h : x < 4096) : bcE (nI x) = nI (onesN x) := of_decide_eq_true (List.all_eq_true.mp bc_all x (List.mem_range.mpr h))
set_option maxRecDepth 20000 in
set_option maxHeartbeats 4000000 in
theorem K_bitCount {x : Nat} (hx : x < 4096) : CS yJ6_bitCount_0f7a4 cJ6_bitCount_0f7a4 1 (some .int) 0 0 [.int (nI x)] (.int (nI (onesN x))) := by
  refine CS.of ok_J6_bitCount_0f7a4 (Nat.le_of_ble_eq_true rfl) (fun M9 G9 p9 l9 e9 s9 m9 ar9 be9 me9 co9 C hr => ?_)
  refine a_iload_n C dJ6_bitCount_0f7a4_0 rfl rfl ?_
  refine a_iload_n C dJ6_bitCount_0f7a4_1 rfl rfl ?_
  refine a_iconst (v := nI 1) C dJ6_bitCount_0f7a4_2 (by decide) ?_
  refine a_iushr C dJ6_bitCount_0f7a4_3 rfl ?_
  refine a_ldcw C dJ6_bitCount_0f7a4_4 wJ6_265 ?_
  refine a_iand C dJ6_bitCount_0f7a4_7 ?_
  refine a_isub C dJ6_bitCount_0f7a4_8 ?_
  refine a_istore_n C dJ6_bitCount_0f7a4_9 rfl (by decide) ?_
  refine a_iload_n C dJ6_bitCount_0f7a4_10 rfl rfl ?_
  refine a_ldcw C dJ6_bitCount_0f7a4_11 wJ6_266 ?_
  refine a_iand C dJ6_bitCount_0f7a4_14 ?_
  refine a_iload_n C dJ6_bitCount_0f7a4_15 rfl rfl ?_
  refine a_iconst (v := nI 2) C dJ6_bitCount_0f7a4_16 (by decide) ?_
  refine a_iushr C dJ6_bitCount_0f7a4_17 rfl ?_
  refine a_ldcw C dJ6_bitCount_0f7a4_18 wJ6_266 ?_
  refine a_iand C dJ6_bitCount_0f7a4_21 ?_
  refine a_iadd C dJ6_bitCount_0f7a4_22 ?_
  refine a_istore_n C dJ6_bitCount_0f7a4_23 rfl (by decide) ?_
  refine a_iload_n C dJ6_bitCount_0f7a4_24 rfl rfl ?_
  refine a_iload_n C dJ6_bitCount_0f7a4_25 rfl rfl ?_
  refine a_iconst (v := nI 4) C dJ6_bitCount_0f7a4_26 (by decide) ?_
  refine a_iushr C dJ6_bitCount_0f7a4_27 rfl ?_
  refine a_iadd C dJ6_bitCount_0f7a4_28 ?_
  refine a_ldcw C dJ6_bitCount_0f7a4_29 wJ6_267 ?_
  refine a_iand C dJ6_bitCount_0f7a4_32 ?_
  refine a_istore_n C dJ6_bitCount_0f7a4_33 rfl (by decide) ?_
  refine a_iload_n C dJ6_bitCount_0f7a4_34 rfl rfl ?_
  refine a_iload_n C dJ6_bitCount_0f7a4_35 rfl rfl ?_
  refine a_bipush (v := nI 8) C dJ6_bitCount_0f7a4_36 (by decide) ?_
  refine a_iushr C dJ6_bitCount_0f7a4_38 rfl ?_
  refine a_iadd C dJ6_bitCount_0f7a4_39 ?_
  refine a_istore_n C dJ6_bitCount_0f7a4_40 rfl (by decide) ?_
  refine a_iload_n C dJ6_bitCount_0f7a4_41 rfl rfl ?_
  refine a_iload_n C dJ6_bitCount_0f7a4_42 rfl rfl ?_
  refine a_bipush (v := nI 16) C dJ6_bitCount_0f7a4_43 (by decide) ?_
  refine a_iushr C dJ6_bitCount_0f7a4_45 rfl ?_
  refine a_iadd C dJ6_bitCount_0f7a4_46 ?_
  refine a_istore_n C dJ6_bitCount_0f7a4_47 rfl (by decide) ?_
  refine a_iload_n C dJ6_bitCount_0f7a4_48 rfl rfl ?_
  refine a_bipush (v := nI 63) C dJ6_bitCount_0f7a4_49 (by decide) ?_
  refine a_iand C dJ6_bitCount_0f7a4_51 ?_
  refine a_iret C hr ?_ dJ6_bitCount_0f7a4_52 rfl rfl ⟨?_, rfl⟩
  · rfl
  · exact gl (bc_eq hx)

/-! ### what lies where, for any of the eight states -/
theorem fzc_state {j : Nat} (hj : j < 8) (row : Nat → Int32) (lg : Int64) : fzc (stB j) row lg = .inr (5, [.ref (stB j + 1), .int (row 1), .ref (stB j + 2), .ref (stB j + 3), .ref (stB j + 4), .int (row 5), .int (row 6), .int (row 7), .int (row 8), .int (row 9), .int (row 10), .int (row 11)]) := fzc_st (r := 0) hj (by decide) row lg
theorem fzc_keys {j : Nat} (hj : j < 8) (row : Nat → Int32) (lg : Int64) : fzc (stB j + 1) row lg = .inl (12, (12, .inr (.inr (.inr (.inr (fun k => some (stB j + 5 + k))))))) := fzc_st (r := 1) hj (by decide) row lg
theorem fzc_locks {j : Nat} (hj : j < 8) (row : Nat → Int32) (lg : Int64) : fzc (stB j + 2) row lg = .inl (13, (6, .inr (.inr (.inr (.inr (fun k => some (stB j + 17 + k))))))) := fzc_st (r := 2) hj (by decide) row lg
theorem fzc_per {j : Nat} (hj : j < 8) (row : Nat → Int32) (lg : Int64) : fzc (stB j + 3) row lg = .inl (8, (4, .inl row)) := fzc_st (r := 3) hj (by decide) row lg
theorem fzc_set {j : Nat} (hj : j < 8) (row : Nat → Int32) (lg : Int64) : fzc (stB j + 4) row lg = .inl (8, (4, .inl row)) := fzc_st (r := 4) hj (by decide) row lg
theorem stB_dj {j i : Nat} (hj : j < 8) (hi : i < 8) (h : ¬ j = i) : stB j + 23 ≤ stB i ∨ stB i + 23 ≤ stB j := by
  have h1 : (List.range 8).all (fun j => (List.range 8).all fun i => decide (j = i) || decide (stB j + 23 ≤ stB i) || decide (stB i + 23 ≤ stB j)) = true := by decide +kernel
  have h2 := List.all_eq_true.mp (List.all_eq_true.mp h1 j (List.mem_range.mpr hj)) i (List.mem_range.mpr hi)
  simpa [h] using h2
theorem fz_putR {w : Wd} {ex : Nat × Nat} {us a : Nat} {f : Nat → Int32} {y : aC} (h : fzc a f (w.2 a) = y) : aPut (fzM w ex us) a y = fzM (wRow w a f) ex us := by
  unfold aPut fzM
  congr 1
  congr 1
  congr 1
  funext j
  show (if j = a then y else fz w j) = fz (wRow w a f) j
  unfold fz wRow
  by_cases e : j = a
  · subst e
    simp only [if_true]
    exact h.symm
  · simp only [e, if_false]
theorem f_copyi {G : aG} {p : Program} {l : Launch} {e : Env} {R : Room} {s : State} {m : MethodId} {args : Array Value} {below : List Frame} {meth : Method} {c : Code} {Q : State → Prop} {n u0 pc : Nat} {cc : ByteArray} {own : String} {L : aL} {w : Wd} {ex : Nat × Nat} {us : Nat} (C : aCtx G p s m args meth c cc n own) {index a0 a1 : Nat} (hlk : Cond.methodLink own index arraycopyName ∈ GW) (hd : decode cc pc = .ok (.invokestatic index, 3)) (ha0 : a0 < 207) (ha1 : a1 < 207) (h0 : fz w a0 = .inl (8, (4, .inl (w.1 a0)))) (h1 : ∀ row, fzc a1 row (w.2 a1) = .inl (8, (4, .inl row)))
    (hR : 1 ≤ R.frames ∧ 40 ≤ R.locals) (k : WA G p l e R s m args below meth c Q n (207 + ex.1 + ex.2) u0 (pc + 3) L [] (fzM (wRow w a1 (va_cpy (w.1 a0) (w.1 a1) 0 0 4)) ex us)) : WA G p l e R s m args below meth c Q n (207 + ex.1 + ex.2) u0 pc L [.int (nI 4), .int (nI 0), .ref a1, .int (nI 0), .ref a0] (fzM w ex us) :=
  a_copyi (sp := 0) (dp := 0) (nn := 4) (n0 := 4) (n1 := 4) C hlk hd (tw ha0) (by omega) h0 (tw ha1) (by omega) (h1 _) (by decide) (by decide) (by decide) hR rfl (by rw [fz_putR (h1 _)]; exact k)
theorem bI_fits (b : Bool) : fits .boolean (.int (bI b)) = true := by cases b <;> rfl
def k6 (r : Nat → Int32) (x0 x1 x2 x3 x4 x5 : Int32) : Nat → Int32 := upd (upd (upd (upd (upd (upd r 0 x0) 1 x1) 2 x2) 3 x3) 4 x4) 5 x5
def l4 (r : Nat → Int32) (x0 x1 x2 x3 : Int32) : Nat → Int32 := upd (upd (upd (upd r 0 x0) 1 x1) 2 x2) 3 x3
set_option maxRecDepth 20000 in
set_option maxHeartbeats 4000000 in
theorem K_X2_startWith {w : Wd} {j k c q : Nat} (hj : j < 8) (hk : k < 12) : CF yX2_startWith cX2_startWith 3 none 0 0 [.ref (stB j + 5 + k), .int (nI c), .int (nI q)] w (fun r w' => r = none ∧ w' = wRow w (stB j + 5 + k) (k6 (w.1 (stB j + 5 + k)) (nI c) (nI c) (nI 0) (nI q) (nI 0) (nI 0))) := by
  have zq_j := stB_le hj
  refine CF.of ok_X2_startWith (Nat.le_of_ble_eq_true rfl) (fun ex us G9 p9 l9 e9 s9 m9 ar9 be9 me9 co9 C hr => ?_)
  refine a_wd (wRow_self (a := stB j + 5 + k) rfl) ?_
  refine a_aload_n C dX2_startWith_0 rfl rfl ?_
  refine a_iload_n C dX2_startWith_1 rfl rfl ?_
  refine f_putf C fX2_7 dX2_startWith_2 (by first | decide | omega) (fz_key hj hk) rfl rfl (Nat.le_of_ble_eq_true rfl) (fzc_key hj hk _ _) ?_
  refine a_wd wSet_row ?_
  refine a_aload_n C dX2_startWith_5 rfl rfl ?_
  refine a_iload_n C dX2_startWith_6 rfl rfl ?_
  refine f_putf C fX2_13 dX2_startWith_7 (by first | decide | omega) (fz_key hj hk) rfl rfl (Nat.le_of_ble_eq_true rfl) (fzc_key hj hk _ _) ?_
  refine a_wd wSet_row ?_
  refine a_aload_n C dX2_startWith_10 rfl rfl ?_
  refine a_iconst (v := nI 0) C dX2_startWith_11 (by decide) ?_
  refine f_putf C fX2_16 dX2_startWith_12 (by first | decide | omega) (fz_key hj hk) rfl rfl (Nat.le_of_ble_eq_true rfl) (fzc_key hj hk _ _) ?_
  refine a_wd wSet_row ?_
  refine a_aload_n C dX2_startWith_15 rfl rfl ?_
  refine a_iload_n C dX2_startWith_16 rfl rfl ?_
  refine f_putf C fX2_19 dX2_startWith_17 (by first | decide | omega) (fz_key hj hk) rfl rfl (Nat.le_of_ble_eq_true rfl) (fzc_key hj hk _ _) ?_
  refine a_wd wSet_row ?_
  refine a_aload_n C dX2_startWith_20 rfl rfl ?_
  refine a_iconst (v := nI 0) C dX2_startWith_21 (by decide) ?_
  refine f_putf C fX2_22 dX2_startWith_22 (by first | decide | omega) (fz_key hj hk) rfl rfl (Nat.le_of_ble_eq_true rfl) (fzc_key hj hk _ _) ?_
  refine a_wd wSet_row ?_
  refine a_aload_n C dX2_startWith_25 rfl rfl ?_
  refine a_iconst (v := nI 0) C dX2_startWith_26 (by decide) ?_
  refine f_putf C fX2_25 dX2_startWith_27 (by first | decide | omega) (fz_key hj hk) rfl rfl (Nat.le_of_ble_eq_true rfl) (fzc_key hj hk _ _) ?_
  refine a_wd wSet_row ?_
  refine f_vret C hr dX2_startWith_30 ?_
  exact ⟨rfl, rfl⟩

set_option maxRecDepth 20000 in
set_option maxHeartbeats 4000000 in
theorem K_X2_copyFrom {w : Wd} {j i k k' : Nat} (hj : j < 8) (hi : i < 8) (hk : k < 12) (hk' : k' < 12) (hne : ¬ stB i + 5 + k' = stB j + 5 + k) (hl : ∃ z, w.1 (stB i + 5 + k') 5 = bI z) : CF yX2_copyFrom cX2_copyFrom 2 none 0 0 [.ref (stB j + 5 + k), .ref (stB i + 5 + k')] w (fun r w' => r = none ∧ w' = wRow w (stB j + 5 + k) (k6 (w.1 (stB j + 5 + k)) (w.1 (stB i + 5 + k') 0) (w.1 (stB i + 5 + k') 1) (w.1 (stB i + 5 + k') 2) (w.1 (stB i + 5 + k') 3) (w.1 (stB i + 5 + k') 4) (w.1 (stB i + 5 + k') 5))) := by
  have zq_j := stB_le hj
  have zq_i := stB_le hi
  refine CF.of ok_X2_copyFrom (Nat.le_of_ble_eq_true rfl) (fun ex us G9 p9 l9 e9 s9 m9 ar9 be9 me9 co9 C hr => ?_)
  refine a_wd (wRow_self (a := stB j + 5 + k) rfl) ?_
  refine a_aload_n C dX2_copyFrom_0 rfl rfl ?_
  refine a_aload_n C dX2_copyFrom_1 rfl rfl ?_
  refine a_getf C fX2_7 dX2_copyFrom_2 (tw (by first | decide | omega)) (by first | decide | omega) (fz_key hi hk') (gl (congrFun (wRow_ne hne) 0)) ?_
  refine f_putf C fX2_7 dX2_copyFrom_5 (by first | decide | omega) (fz_key hj hk) rfl rfl (Nat.le_of_ble_eq_true rfl) (fzc_key hj hk _ _) ?_
  refine a_wd wSet_row ?_
  refine a_aload_n C dX2_copyFrom_8 rfl rfl ?_
  refine a_aload_n C dX2_copyFrom_9 rfl rfl ?_
  refine a_getf C fX2_13 dX2_copyFrom_10 (tw (by first | decide | omega)) (by first | decide | omega) (fz_key hi hk') (gl (congrFun (wRow_ne hne) 1)) ?_
  refine f_putf C fX2_13 dX2_copyFrom_13 (by first | decide | omega) (fz_key hj hk) rfl rfl (Nat.le_of_ble_eq_true rfl) (fzc_key hj hk _ _) ?_
  refine a_wd wSet_row ?_
  refine a_aload_n C dX2_copyFrom_16 rfl rfl ?_
  refine a_aload_n C dX2_copyFrom_17 rfl rfl ?_
  refine a_getf C fX2_16 dX2_copyFrom_18 (tw (by first | decide | omega)) (by first | decide | omega) (fz_key hi hk') (gl (congrFun (wRow_ne hne) 2)) ?_
  refine f_putf C fX2_16 dX2_copyFrom_21 (by first | decide | omega) (fz_key hj hk) rfl rfl (Nat.le_of_ble_eq_true rfl) (fzc_key hj hk _ _) ?_
  refine a_wd wSet_row ?_
  refine a_aload_n C dX2_copyFrom_24 rfl rfl ?_
  refine a_aload_n C dX2_copyFrom_25 rfl rfl ?_
  refine a_getf C fX2_19 dX2_copyFrom_26 (tw (by first | decide | omega)) (by first | decide | omega) (fz_key hi hk') (gl (congrFun (wRow_ne hne) 3)) ?_
  refine f_putf C fX2_19 dX2_copyFrom_29 (by first | decide | omega) (fz_key hj hk) rfl rfl (Nat.le_of_ble_eq_true rfl) (fzc_key hj hk _ _) ?_
  refine a_wd wSet_row ?_
  refine a_aload_n C dX2_copyFrom_32 rfl rfl ?_
  refine a_aload_n C dX2_copyFrom_33 rfl rfl ?_
  refine a_getf C fX2_22 dX2_copyFrom_34 (tw (by first | decide | omega)) (by first | decide | omega) (fz_key hi hk') (gl (congrFun (wRow_ne hne) 4)) ?_
  refine f_putf C fX2_22 dX2_copyFrom_37 (by first | decide | omega) (fz_key hj hk) rfl rfl (Nat.le_of_ble_eq_true rfl) (fzc_key hj hk _ _) ?_
  refine a_wd wSet_row ?_
  refine a_aload_n C dX2_copyFrom_40 rfl rfl ?_
  refine a_aload_n C dX2_copyFrom_41 rfl rfl ?_
  refine a_getf C fX2_25 dX2_copyFrom_42 (tw (by first | decide | omega)) (by first | decide | omega) (fz_key hi hk') (gl (congrFun (wRow_ne hne) 5)) ?_
  refine f_putf C fX2_25 dX2_copyFrom_45 (by first | decide | omega) (fz_key hj hk) (by obtain ⟨z, hz⟩ := hl; rw [hz]; exact bI_narrow z) (by obtain ⟨z, hz⟩ := hl; rw [hz]; exact bI_fits z) (Nat.le_of_ble_eq_true rfl) (fzc_key hj hk _ _) ?_
  refine a_wd wSet_row ?_
  refine f_vret C hr dX2_copyFrom_48 ?_
  exact ⟨rfl, rfl⟩

set_option maxRecDepth 20000 in
set_option maxHeartbeats 4000000 in
theorem K_X3_copyFrom {w : Wd} {j i k k' : Nat} (hj : j < 8) (hi : i < 8) (hk : k < 6) (hk' : k' < 6) (hne : ¬ stB i + 17 + k' = stB j + 17 + k) : CF yX3_copyFrom cX3_copyFrom 2 none 0 0 [.ref (stB j + 17 + k), .ref (stB i + 17 + k')] w (fun r w' => r = none ∧ w' = wRow w (stB j + 17 + k) (l4 (w.1 (stB j + 17 + k)) (w.1 (stB i + 17 + k') 0) (w.1 (stB i + 17 + k') 1) (w.1 (stB i + 17 + k') 2) (w.1 (stB i + 17 + k') 3))) := by
  have zq_j := stB_le hj
  have zq_i := stB_le hi
  refine CF.of ok_X3_copyFrom (Nat.le_of_ble_eq_true rfl) (fun ex us G9 p9 l9 e9 s9 m9 ar9 be9 me9 co9 C hr => ?_)
  refine a_wd (wRow_self (a := stB j + 17 + k) rfl) ?_
  refine a_aload_n C dX3_copyFrom_0 rfl rfl ?_
  refine a_aload_n C dX3_copyFrom_1 rfl rfl ?_
  refine a_getf C fX3_9 dX3_copyFrom_2 (tw (by first | decide | omega)) (by first | decide | omega) (fz_lock hi hk') (gl (congrFun (wRow_ne hne) 0)) ?_
  refine f_putf C fX3_9 dX3_copyFrom_5 (by first | decide | omega) (fz_lock hj hk) rfl rfl (Nat.le_of_ble_eq_true rfl) (fzc_lock hj hk _ _) ?_
  refine a_wd wSet_row ?_
  refine a_aload_n C dX3_copyFrom_8 rfl rfl ?_
  refine a_aload_n C dX3_copyFrom_9 rfl rfl ?_
  refine a_getf C fX3_15 dX3_copyFrom_10 (tw (by first | decide | omega)) (by first | decide | omega) (fz_lock hi hk') (gl (congrFun (wRow_ne hne) 1)) ?_
  refine f_putf C fX3_15 dX3_copyFrom_13 (by first | decide | omega) (fz_lock hj hk) rfl rfl (Nat.le_of_ble_eq_true rfl) (fzc_lock hj hk _ _) ?_
  refine a_wd wSet_row ?_
  refine a_aload_n C dX3_copyFrom_16 rfl rfl ?_
  refine a_aload_n C dX3_copyFrom_17 rfl rfl ?_
  refine a_getf C fX3_18 dX3_copyFrom_18 (tw (by first | decide | omega)) (by first | decide | omega) (fz_lock hi hk') (gl (congrFun (wRow_ne hne) 2)) ?_
  refine f_putf C fX3_18 dX3_copyFrom_21 (by first | decide | omega) (fz_lock hj hk) rfl rfl (Nat.le_of_ble_eq_true rfl) (fzc_lock hj hk _ _) ?_
  refine a_wd wSet_row ?_
  refine a_aload_n C dX3_copyFrom_24 rfl rfl ?_
  refine a_aload_n C dX3_copyFrom_25 rfl rfl ?_
  refine a_getf C fX3_21 dX3_copyFrom_26 (tw (by first | decide | omega)) (by first | decide | omega) (fz_lock hi hk') (gl (congrFun (wRow_ne hne) 3)) ?_
  refine f_putf C fX3_21 dX3_copyFrom_29 (by first | decide | omega) (fz_lock hj hk) rfl rfl (Nat.le_of_ble_eq_true rfl) (fzc_lock hj hk _ _) ?_
  refine a_wd wSet_row ?_
  refine f_vret C hr dX3_copyFrom_32 ?_
  exact ⟨rfl, rfl⟩

set_option maxRecDepth 20000 in
set_option maxHeartbeats 4000000 in
theorem K_X3_clear {w : Wd} {j k : Nat} (hj : j < 8) (hk : k < 6) : CF yX3_clear cX3_clear 1 none 0 0 [.ref (stB j + 17 + k)] w (fun r w' => r = none ∧ w' = wSet (wSet (wSet (wSet w (stB j + 17 + k) 0 (-1)) (stB j + 17 + k) 1 (-1)) (stB j + 17 + k) 2 (nI 0)) (stB j + 17 + k) 3 (nI 0)) := by
  have zq_j := stB_le hj
  refine CF.of ok_X3_clear (Nat.le_of_ble_eq_true rfl) (fun ex us G9 p9 l9 e9 s9 m9 ar9 be9 me9 co9 C hr => ?_)
  refine a_aload_n C dX3_clear_0 rfl rfl ?_
  refine a_iconst (v := (-1)) C dX3_clear_1 (by decide) ?_
  refine f_putf C fX3_9 dX3_clear_2 (by first | decide | omega) (fz_lock hj hk) rfl rfl (Nat.le_of_ble_eq_true rfl) (fzc_lock hj hk _ _) ?_
  refine a_aload_n C dX3_clear_5 rfl rfl ?_
  refine a_iconst (v := (-1)) C dX3_clear_6 (by decide) ?_
  refine f_putf C fX3_15 dX3_clear_7 (by first | decide | omega) (fz_lock hj hk) rfl rfl (Nat.le_of_ble_eq_true rfl) (fzc_lock hj hk _ _) ?_
  refine a_aload_n C dX3_clear_10 rfl rfl ?_
  refine a_iconst (v := nI 0) C dX3_clear_11 (by decide) ?_
  refine f_putf C fX3_18 dX3_clear_12 (by first | decide | omega) (fz_lock hj hk) rfl rfl (Nat.le_of_ble_eq_true rfl) (fzc_lock hj hk _ _) ?_
  refine a_aload_n C dX3_clear_15 rfl rfl ?_
  refine a_iconst (v := nI 0) C dX3_clear_16 (by decide) ?_
  refine f_putf C fX3_21 dX3_clear_17 (by first | decide | omega) (fz_lock hj hk) rfl rfl (Nat.le_of_ble_eq_true rfl) (fzc_lock hj hk _ _) ?_
  refine f_vret C hr dX3_clear_20 ?_
  exact ⟨rfl, rfl⟩

end A22

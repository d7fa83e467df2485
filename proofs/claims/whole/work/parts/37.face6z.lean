section A37
set_option maxRecDepth 20000 in
set_option maxHeartbeats 4000000 in
theorem K_X6_append {w : Wd} {t : Nat → Nat} {ln : Nat} (hT : Tx w t ln) {k : Nat} (hk : 33 ≤ k ∧ k ≤ 126) (hl : ln < 60) : CF yX6_append cX6_append 2 (some .int) 6 90 [.ref 0, .int (nI k)] w (fun r w' => r = some (.int (nI (ln + 1))) ∧ w' = wSet (wSet w 2 ln (nI k)) 1 1 (nI (ln + 1))) := by
  have zq_l := hT.2.1
  refine CF.of ok_X6_append (Nat.le_of_ble_eq_true rfl) (fun ex us G9 p9 l9 e9 s9 m9 ar9 be9 me9 co9 C hr => ?_)
  refine a_iload_n C dX6_append_0 rfl rfl ?_
  refine a_bipush (v := nI 33) C dX6_append_1 (by decide) ?_
  refine n_icmp_lt (tgt := 12) C dX6_append_3 (by decide) (by first | decide | omega) (by first | decide | omega) (fun h_3 => ?_) (fun h_3 => ?_)
  · exfalso; omega
  · refine a_iload_n C dX6_append_6 rfl rfl ?_
    refine a_bipush (v := nI 126) C dX6_append_7 (by decide) ?_
    refine n_icmp_le (tgt := 22) C dX6_append_9 (by decide) (by first | decide | omega) (by first | decide | omega) (fun h_9 => ?_) (fun h_9 => ?_)
    · refine a_aload_n C dX6_append_22 rfl rfl ?_
      refine a_getfF C fX6_10 dX6_append_23 (show _ < 219 from (by first | decide | omega)) (by first | decide | omega) rfl rfl ?_
      refine a_getf C fX6_199 dX6_append_26 (show _ < 219 from (by first | decide | omega)) (by first | decide | omega) rfl (gl hT.1) ?_
      refine a_bipush (v := nI 60) C dX6_append_29 (by decide) ?_
      refine n_icmp_lt (tgt := 44) C dX6_append_31 (by decide) (by first | decide | omega) (by first | decide | omega) (fun h_31 => ?_) (fun h_31 => ?_)
      · refine a_aload_n C dX6_append_44 rfl rfl ?_
        refine a_getfF C fX6_10 dX6_append_45 (show _ < 219 from (by first | decide | omega)) (by first | decide | omega) rfl rfl ?_
        refine a_getfF C fX6_204 dX6_append_48 (show _ < 219 from (by first | decide | omega)) (by first | decide | omega) rfl rfl ?_
        refine a_aload_n C dX6_append_51 rfl rfl ?_
        refine a_getfF C fX6_10 dX6_append_52 (show _ < 219 from (by first | decide | omega)) (by first | decide | omega) rfl rfl ?_
        refine a_getf C fX6_199 dX6_append_55 (show _ < 219 from (by first | decide | omega)) (by first | decide | omega) rfl (gl hT.1) ?_
        refine a_iload_n C dX6_append_58 rfl rfl ?_
        refine a_i2c C dX6_append_59 ?_
        rw [nI_c16 (by omega)]
        refine f_cast C dX6_append_60 (by first | decide | omega) rfl rfl (by first | decide | omega) (by decide) (by rw [show narrow .char (.int (nI k)) = .int (((nI k).toUInt32 % 65536).toInt32) from rfl, nI_c16 (by omega)]) rfl ?_
        refine a_aload_n C dX6_append_61 rfl rfl ?_
        refine a_getfF C fX6_10 dX6_append_62 (show _ < 219 from (by first | decide | omega)) (by first | decide | omega) rfl rfl ?_
        refine a_dup C dX6_append_65 rfl ?_
        refine a_getf C fX6_199 dX6_append_66 (show _ < 219 from (by first | decide | omega)) (by first | decide | omega) rfl (gl (show _ = nI ln from by rw [wSet_th (by decide)]; exact hT.1)) ?_
        refine a_iconst (v := nI 1) C dX6_append_69 (by decide) ?_
        first | refine n_iadd C dX6_append_70 ?_ | refine a_iadd C dX6_append_70 ?_
        refine f_putf C fX6_199 dX6_append_71 (by first | decide | omega) rfl rfl rfl (Nat.le_of_ble_eq_true rfl) rfl ?_
        refine a_aload_n C dX6_append_74 rfl rfl ?_
        refine a_getfF C fX6_10 dX6_append_75 (show _ < 219 from (by first | decide | omega)) (by first | decide | omega) rfl rfl ?_
        refine a_getf C fX6_199 dX6_append_78 (show _ < 219 from (by first | decide | omega)) (by first | decide | omega) rfl (gl wSet_at) ?_
        refine f_iret C hr ?_ dX6_append_81 ?_
        · rfl
        · exact ⟨rfl, rfl⟩
      · exfalso; omega
    · exfalso; omega

set_option maxRecDepth 20000 in
set_option maxHeartbeats 4000000 in
theorem K_X6_clearBuffer {w : Wd} {t : Nat → Nat} {ln : Nat} (hT : Tx w t ln)  : CF yX6_clearBuffer cX6_clearBuffer 2 (some .int) 0 0 [.ref 0] w (fun r w' => r = some (.int (nI ln)) ∧ w' = wSet w 1 1 (nI 0)) := by
  have zq_l := hT.2.1
  refine CF.of ok_X6_clearBuffer (Nat.le_of_ble_eq_true rfl) (fun ex us G9 p9 l9 e9 s9 m9 ar9 be9 me9 co9 C hr => ?_)
  refine a_pad 1 ?_
  refine a_eq (L' := [some (.ref 0), none]) rfl rfl rfl ?_
  refine a_aload_n C dX6_clearBuffer_0 rfl rfl ?_
  refine a_getfF C fX6_10 dX6_clearBuffer_1 (show _ < 219 from (by first | decide | omega)) (by first | decide | omega) rfl rfl ?_
  refine a_getf C fX6_199 dX6_clearBuffer_4 (show _ < 219 from (by first | decide | omega)) (by first | decide | omega) rfl (gl hT.1) ?_
  refine a_istore_n C dX6_clearBuffer_7 rfl (by decide) ?_
  refine a_aload_n C dX6_clearBuffer_8 rfl rfl ?_
  refine a_getfF C fX6_10 dX6_clearBuffer_9 (show _ < 219 from (by first | decide | omega)) (by first | decide | omega) rfl rfl ?_
  refine a_iconst (v := nI 0) C dX6_clearBuffer_12 (by decide) ?_
  refine f_putf C fX6_199 dX6_clearBuffer_13 (by first | decide | omega) rfl rfl rfl (Nat.le_of_ble_eq_true rfl) rfl ?_
  refine a_iload_n C dX6_clearBuffer_16 rfl rfl ?_
  refine f_iret C hr ?_ dX6_clearBuffer_17 ?_
  · rfl
  · exact ⟨rfl, rfl⟩

set_option maxRecDepth 20000 in
set_option maxHeartbeats 4000000 in
theorem K_X6_firstError {w : Wd} {t : Nat → Nat} {ln : Nat} (hT : Tx w t ln)  : CF yX6_firstError cX6_firstError 1 (some .int) 5 106 [.ref 0] w (fun r w' => r = some (.int (nI (rdA t ln 60 0).2)) ∧ OT w w') := by
  have zq_l := hT.2.1
  refine CF.of ok_X6_firstError (Nat.le_of_ble_eq_true rfl) (fun ex us G9 p9 l9 e9 s9 m9 ar9 be9 me9 co9 C hr => ?_)
  refine a_aload_n C dX6_firstError_0 rfl rfl ?_
  refine a_getfF C fX6_10 dX6_firstError_1 (show _ < 219 from (by first | decide | omega)) (by first | decide | omega) rfl rfl ?_
  refine f_callV C _ _ (K_X4_readAll hT) vX6_208 (by first | decide | omega) rfl rfl dX6_firstError_4 rfl (Nat.le_of_ble_eq_true rfl) ⟨by decide, by decide⟩ (fun zr4 zw4 zp4 => ?_)
  obtain ⟨rfl, zp_4, zo_4⟩ := zp4
  refine a_pop C dX6_firstError_7 rfl ?_
  refine a_aload_n C dX6_firstError_8 rfl rfl ?_
  refine a_getfF C fX6_10 dX6_firstError_9 (show _ < 219 from (by first | decide | omega)) (by first | decide | omega) rfl rfl ?_
  refine a_getf C fX6_212 dX6_firstError_12 (show _ < 219 from (by first | decide | omega)) (by first | decide | omega) rfl (gl zp_4) ?_
  refine f_iret C hr ?_ dX6_firstError_15 ?_
  · rfl
  · exact ⟨rfl, zo_4⟩

theorem Tx.eq {w v : Wd} {t : Nat → Nat} {ln : Nat} (h : Tx w t ln) (h1 : v.1 1 1 = w.1 1 1) (h2 : v.1 2 = w.1 2) : Tx v t ln := ⟨h1.trans h.1, h.2.1, fun j hj => ⟨by rw [h2]; exact (h.2.2 j hj).1, (h.2.2 j hj).2⟩⟩
theorem SvC.same {w w' : Wd} {S : Nat → St} {sv lt : Nat} (h : SvC w S sv lt) (h0 : ∀ j, 7 ≤ j → w'.1 0 j = w.1 0 j) (hw : ∀ a, 66 ≤ a → a < 204 → w'.1 a = w.1 a) : SvC w' S sv lt := h.fr ⟨h0 8 (by decide), h0 7 (by decide)⟩ hw
/-- the world behind obey() -/
def FrY (w w' : Wd) : Prop := (∀ a, ¬ a = 0 → ¬ a = 1 → (a < 3 ∨ (26 ≤ a ∧ a < 66) ∨ 204 ≤ a) → w'.1 a = w.1 a) ∧ (∀ j, ¬ j = 7 → ¬ j = 8 → w'.1 0 j = w.1 0 j) ∧ w'.2 = w.2
/-- a state of which the stop is none -/
def a0A (A : St) : St := upd (upd A 6 (-1)) 7 (-1)
theorem a0_ok {A : St} (hA : AOK A) : AOK (a0A A) := by
  unfold a0A
  exact AOK.upd (AOK.upd hA (okB_i (by omega) _) (by omega)) (okB_i (by omega) _) (by omega)
def oby (t : Nat → Nat) (ln : Nat) (A : St) : Nat × St := runO t ln 60 0 0 (a0A A)
def CXO (y : MethodName) (cc : ByteArray) (n : Nat) (ret : Option FieldType) (fr lo : Nat) (av : List Value) (w : Wd) (E : String) : Prop := ∀ ex us, CX y cc n ret fr lo av (fzM w ex us) 1 6 (fun E' M' => E' = E ∧ ∃ w', OT w w' ∧ M' = fzM w' (ex + 1) (us + 6))
abbrev QXO (G : aG) (below : List Frame) (args : Array Value) (s : State) (w : Wd) (ex us : Nat) (E : String) : State → Prop := vx_MQ below (fun _ _ _ _ => False) (aXc G (fzM w ex us) 1 6 (fun E' M' => E' = E ∧ ∃ w', OT w w' ∧ M' = fzM w' (ex + 1) (us + 6))) args s 1 6 (aOld G)
theorem CXO.of {w : Wd} {y : MethodName} {cc : ByteArray} {n : Nat} {ret : Option FieldType} {fr lo : Nat} {av : List Value} {E : String} (hW : aCode y cc n ret) (hpn : plainName y.cls = true) (hn : aSz av ≤ n)
    (body : ∀ (ex us : Nat) (G : aG) (p : Program) (l : Launch) (e : Env) (s : State) (m : MethodId) (args : Array Value) (below : List Frame) (meth : Method) (c : Code), aCtx G p s m args meth c cc n y.cls → l.flags = flags0 → (∀ x ∈ c.exceptionTable.toList, False) →
      WA G p l e (RX9 fr lo) s m args below meth c (QXO G below args s w ex us E) n (219 + ex) us 0 (aEn av) [] (fzM w ex us)) : CXO y cc n ret fr lo av w E := by
  intro ex us
  exact CX.of hW hpn hn (fun G p l e s m args below meth c C hl ht => body ex us G p l e s m args below meth c C hl ht)
theorem f_throwO {G : aG} {p : Program} {l : Launch} {e : Env} {s : State} {m : MethodId} {args : Array Value} {below : List Frame} {meth : Method} {c : Code} {n pc : Nat} {cc : ByteArray} {L : aL} {w w' : Wd} {ex us fr lo : Nat} {cls text : String} {ik is ic : Nat} (C : aCtx G p s m args meth c cc n RX6) (hl : l.flags = flags0) (ht : ∀ x ∈ c.exceptionTable.toList, False) (hX : xOk ik ic cls) (hstr : (is, text) ∈ aStr)
    (d0 : decode cc pc = .ok (.new ik, 3)) (d3 : decode cc (pc + 3) = .ok (.dup, 1)) (d4 : decode cc (pc + 4) = .ok (.ldc is, 2)) (d6 : decode cc (pc + 6) = .ok (.invokespecial ic, 3)) (d9 : decode cc (pc + 9) = .ok (.athrow, 1)) (hR : 5 < fr ∧ 82 ≤ lo) (hw : OT w w') :
    WA G p l e (RX9 fr lo) s m args below meth c (QXO G below args s w ex us cls) n (219 + ex) us pc L [] (fzM w' ex us) :=
  a_throwS (M0 := fzM w ex us) C hl ht hX hstr d0 d3 d4 d6 d9 ⟨hR.1, hR.2, Nat.le_refl _, Nat.le_refl _⟩ rfl rfl rfl rfl ⟨rfl, w', hw, rfl⟩
set_option maxRecDepth 20000 in
set_option maxHeartbeats 4000000 in
theorem K_X6_obey_0 {w : Wd} {t : Nat → Nat} {ln : Nat} (hT : Tx w t ln) (hr0 : (rdA t ln 60 0).1 = false) : CXO yX6_obey cX6_obey 2 (some .int) 6 139 [.ref 0] w "java/lang/IllegalArgumentException" := by
  have zq_l := hT.2.1
  refine CXO.of ok_X6_obey (by decide +kernel) (Nat.le_of_ble_eq_true rfl) (fun ex us G9 p9 l9 e9 s9 m9 ar9 be9 me9 co9 C hl9 ht9 => ?_)
  refine a_pad 1 ?_
  refine a_eq (L' := [some (.ref 0), none]) rfl rfl rfl ?_
  refine a_aload_n C dX6_obey_0 rfl rfl ?_
  refine a_getfF C fX6_10 dX6_obey_1 (show _ < 219 from (by first | decide | omega)) (by first | decide | omega) rfl rfl ?_
  refine f_callV C _ _ (K_X4_readAll hT) vX6_208 (by first | decide | omega) rfl rfl dX6_obey_4 rfl (Nat.le_of_ble_eq_true rfl) ⟨by decide, by decide⟩ (fun zr4 zw4 zp4 => ?_)
  obtain ⟨rfl, zp_4, zo_4⟩ := zp4
  first | refine b_if_ne (tgt := 20) C dX6_obey_7 (by decide) (fun h_7 => ?_) (fun h_7 => ?_) | refine n_if_ne (tgt := 20) C dX6_obey_7 (by decide) (by first | decide | omega) (fun h_7 => ?_) (fun h_7 => ?_) | refine a_if_ne (tgt := 20) C dX6_obey_7 (by decide) (fun h_7 => ?_) (fun h_7 => ?_)
  · exact absurd (h_7.symm.trans hr0) (by decide)
  · exact f_throwO (text := "the buffer is not complete orders as a text") C hl9 ht9 xIAE (by decide) dX6_obey_10 dX6_obey_13 dX6_obey_14 dX6_obey_16 dX6_obey_19 ⟨by decide, by decide⟩ zo_4

set_option maxRecDepth 20000 in
set_option maxHeartbeats 4000000 in
theorem K_X6_obey {w : Wd} {A : St} {S : Nat → St} {sv lt : Nat} (hD : DR w 3 A) (hA : AOK A) (hS : SvC w S sv lt) {t : Nat → Nat} {ln : Nat} (hT : Tx w t ln) (hr0 : (rdA t ln 60 0).1 = true) : CF yX6_obey cX6_obey 2 (some .int) 6 139 [.ref 0] w (fun r w' => r = some (.int (nI (oby t ln A).1)) ∧ DR w' 3 (oby t ln A).2 ∧ SvC w' (psh A S) (svN sv) (nxL lt) ∧ w'.1 1 1 = nI 0 ∧ FrY w w') := by
  have zq_l := hT.2.1
  have zq_n := hA.n12
  refine CF.of ok_X6_obey (Nat.le_of_ble_eq_true rfl) (fun ex us G9 p9 l9 e9 s9 m9 ar9 be9 me9 co9 C hr => ?_)
  refine a_pad 1 ?_
  refine a_eq (L' := [some (.ref 0), none]) rfl rfl rfl ?_
  refine a_aload_n C dX6_obey_0 rfl rfl ?_
  refine a_getfF C fX6_10 dX6_obey_1 (show _ < 219 from (by first | decide | omega)) (by first | decide | omega) rfl rfl ?_
  refine f_callV C _ _ (K_X4_readAll hT) vX6_208 (by first | decide | omega) rfl rfl dX6_obey_4 rfl (Nat.le_of_ble_eq_true rfl) ⟨by decide, by decide⟩ (fun zr4 zw4 zp4 => ?_)
  obtain ⟨rfl, zp_4, zo_4⟩ := zp4
  first | refine b_if_ne (tgt := 20) C dX6_obey_7 (by decide) (fun h_7 => ?_) (fun h_7 => ?_) | refine n_if_ne (tgt := 20) C dX6_obey_7 (by decide) (by first | decide | omega) (fun h_7 => ?_) (fun h_7 => ?_) | refine a_if_ne (tgt := 20) C dX6_obey_7 (by decide) (fun h_7 => ?_) (fun h_7 => ?_)
  · refine a_aload_n C dX6_obey_20 rfl rfl ?_
    refine f_callV C _ _ (K_X6_save (zo_4.dr hD hA) hA (hS.same (fun j _ => by rw [zo_4.1 0 (by decide)]) (fun a h1 _ => zo_4.1 a (by omega)))) vX6_73 (by first | decide | omega) rfl rfl dX6_obey_21 rfl (Nat.le_of_ble_eq_true rfl) ⟨by decide, by decide⟩ (fun zr21 zw21 zp21 => ?_)
    obtain ⟨rfl, zs_S, zs_F⟩ := zp21
    have zs_D : DR zw21 3 A := (zo_4.dr hD hA).same hA (fun a h1 h2 => zs_F.1 a (by omega) (by omega))
    have hN := zs_D.dn
    refine a_aload_n C dX6_obey_24 rfl rfl ?_
    refine a_getfF C fX6_19 dX6_obey_25 (show _ < 219 from (by first | decide | omega)) (by first | decide | omega) rfl rfl ?_
    refine a_iconst (v := (-1)) C dX6_obey_28 (by decide) ?_
    refine f_putf C fX6_217 dX6_obey_29 (by first | decide | omega) rfl rfl rfl (Nat.le_of_ble_eq_true rfl) rfl ?_
    refine a_dnC 6 hN zq_n (by decide) (fun hN => ?_)
    refine a_aload_n C dX6_obey_32 rfl rfl ?_
    refine a_getfF C fX6_19 dX6_obey_33 (show _ < 219 from (by first | decide | omega)) (by first | decide | omega) rfl rfl ?_
    refine a_iconst (v := (-1)) C dX6_obey_36 (by decide) ?_
    refine f_putf C fX6_220 dX6_obey_37 (by first | decide | omega) rfl rfl rfl (Nat.le_of_ble_eq_true rfl) rfl ?_
    refine a_dnC 7 hN zq_n (by decide) (fun hN => ?_)
    have zu_D : DR (wSet (wSet zw21 3 10 (-1)) 3 11 (-1)) 3 (a0A A) := hN.dr ((kN_upd (by omega)).trans (kN_upd (by omega)))
    have zu_T : Tx (wSet (wSet zw21 3 10 (-1)) 3 11 (-1)) t ln := (hT.ot zo_4).eq (by rw [wSet_th (by decide), wSet_th (by decide), zs_F.1 1 (by decide) (by decide)]) (by rw [wSet_th (by decide), wSet_th (by decide), zs_F.1 2 (by decide) (by decide)])
    refine a_aload_n C dX6_obey_40 rfl rfl ?_
    refine f_callV C _ _ (K_X6_doOrders zu_D (a0_ok hA) zu_T hr0) vX6_223 (by first | decide | omega) rfl rfl dX6_obey_41 rfl (Nat.le_of_ble_eq_true rfl) ⟨by decide, by decide⟩ (fun zr41 zw41 zp41 => ?_)
    obtain ⟨rfl, zv_D, zv_F⟩ := zp41
    have zq_ok : AOK (oby t ln A).2 := run_ok 60 0 0 (a0A A) (a0_ok hA) (Nat.zero_le _) hr0
    refine a_istore_n C dX6_obey_44 rfl (by decide) ?_
    refine a_aload_n C dX6_obey_45 rfl rfl ?_
    refine a_getfF C fX6_10 dX6_obey_46 (show _ < 219 from (by first | decide | omega)) (by first | decide | omega) rfl rfl ?_
    refine a_iconst (v := nI 0) C dX6_obey_49 (by decide) ?_
    refine f_putf C fX6_199 dX6_obey_50 (by first | decide | omega) rfl rfl rfl (Nat.le_of_ble_eq_true rfl) rfl ?_
    refine a_iload_n C dX6_obey_53 rfl rfl ?_
    refine f_iret C hr ?_ dX6_obey_54 ?_
    · rfl
    · exact ⟨rfl, zv_D.same zq_ok (fun a h1 h2 => wSet_th (by omega)), zs_S.same (fun j hj => by rw [wSet_th (by decide), zv_F.1 0 (by decide) (by decide), wSet_th (by decide), wSet_th (by decide)]) (fun a h1 h2 => by rw [wSet_th (by omega), zv_F.1 a (by omega) (by omega), wSet_th (by omega), wSet_th (by omega)]), wSet_at, fun a a0 a1 ha => by rw [wSet_th (by omega), zv_F.1 a a1 (by omega), wSet_th (by omega), wSet_th (by omega), zs_F.1 a a0 (by omega), zo_4.1 a a1], fun j j7 j8 => by rw [wSet_th (by decide), zv_F.1 0 (by decide) (by decide), wSet_th (by decide), wSet_th (by decide), zs_F.2.1 j j7 j8, zo_4.1 0 (by decide)], zv_F.2.2.trans (zs_F.2.2.trans zo_4.2.2)⟩
  · exact absurd (h_7.symm.trans hr0) (by decide)

set_option maxRecDepth 20000 in
set_option maxHeartbeats 4000000 in
theorem K_X6_keep {w : Wd} {A : St} (hD : DR w 3 A) (hA : AOK A)  : CF yX6_keep cX6_keep 1 (some .int) 2 62 [.ref 0] w (fun r w' => r = some (.int (nI (kN A))) ∧ DR w' 26 A ∧ w'.1 0 5 = bI true ∧ (∀ a, ¬ a = 0 → (a < 26 ∨ 49 ≤ a) → w'.1 a = w.1 a) ∧ (∀ j, ¬ j = 5 → w'.1 0 j = w.1 0 j) ∧ w'.2 = w.2) := by
  refine CF.of ok_X6_keep (Nat.le_of_ble_eq_true rfl) (fun ex us G9 p9 l9 e9 s9 m9 ar9 be9 me9 co9 C hr => ?_)
  refine a_aload_n C dX6_keep_0 rfl rfl ?_
  refine a_getfF C fX6_23 dX6_keep_1 (show _ < 219 from (by first | decide | omega)) (by first | decide | omega) rfl rfl ?_
  refine a_aload_n C dX6_keep_4 rfl rfl ?_
  refine a_getfF C fX6_19 dX6_keep_5 (show _ < 219 from (by first | decide | omega)) (by first | decide | omega) rfl rfl ?_
  refine f_callV C _ _ (K_X5_copyFrom (w := w) (A := A) (j := 1) (i := 0) (by decide) (by decide) (by decide) hD hA) vX6_227 (show 26 < 219 by decide) (fzc_state (j := 1) (by decide) _ _) rfl dX6_keep_8 rfl (Nat.le_of_ble_eq_true rfl) ⟨by decide, by decide⟩ (fun zr8 zw8 zp8 => ?_)
  obtain ⟨rfl, zq_D, zq_F⟩ := zp8
  have zq_F1 : ∀ a, a < 26 ∨ 49 ≤ a → zw8.1 a = w.1 a := fun a ha => zq_F.1 a ha
  have zq_D1 : DR zw8 26 A := zq_D
  refine a_aload_n C dX6_keep_11 rfl rfl ?_
  refine a_iconst (v := bI true) C dX6_keep_12 (by decide) ?_
  refine f_putf C fX6_230 dX6_keep_13 (by first | decide | omega) rfl (bI_narrow true) (bI_fits true) (Nat.le_of_ble_eq_true rfl) rfl ?_
  refine a_aload_n C dX6_keep_16 rfl rfl ?_
  refine a_getfF C fX6_19 dX6_keep_17 (show _ < 219 from (by first | decide | omega)) (by first | decide | omega) rfl rfl ?_
  refine a_getf C fX6_80 dX6_keep_20 (show _ < 219 from (by first | decide | omega)) (by first | decide | omega) rfl (gl (show _ = nI (kN A) from by rw [wSet_th (by decide), zq_F1 3 (by omega)]; exact hD.dn.n.trans hA.n)) ?_
  refine f_iret C hr ?_ dX6_keep_23 ?_
  · rfl
  · exact ⟨rfl, zq_D1.same hA (fun a h1 h2 => wSet_th (by omega)), wSet_at, fun a a0 ha => by rw [wSet_th a0]; exact zq_F1 a ha, fun j hj => by rw [wSet_ne (by omega), zq_F1 0 (by omega)], zq_F.2⟩

set_option maxRecDepth 20000 in
set_option maxHeartbeats 4000000 in
theorem K_X6_goBack {w : Wd} {A : St} {S : Nat → St} {sv lt : Nat} (hD : DR w 3 A) (hA : AOK A) (hS : SvC w S sv lt) {B : St} (hB : AOK B) (hh : w.1 0 5 = bI true) (hE : DR w 26 B) : CF yX6_goBack cX6_goBack 1 (some .int) 6 90 [.ref 0] w (fun r w' => r = some (.int (nI (kN B))) ∧ DR w' 3 B ∧ SvC w' (psh A S) (svN sv) (nxL lt) ∧ FrS w w') := by
  refine CF.of ok_X6_goBack (Nat.le_of_ble_eq_true rfl) (fun ex us G9 p9 l9 e9 s9 m9 ar9 be9 me9 co9 C hr => ?_)
  refine a_aload_n C dX6_goBack_0 rfl rfl ?_
  refine a_getf C fX6_230 dX6_goBack_1 (show _ < 219 from (by first | decide | omega)) (by first | decide | omega) rfl (gl hh) ?_
  first | refine b_if_ne (tgt := 17) C dX6_goBack_4 (by decide) (fun h_4 => ?_) (fun h_4 => ?_) | refine n_if_ne (tgt := 17) C dX6_goBack_4 (by decide) (by first | decide | omega) (fun h_4 => ?_) (fun h_4 => ?_) | refine a_if_ne (tgt := 17) C dX6_goBack_4 (by decide) (fun h_4 => ?_) (fun h_4 => ?_)
  · refine a_aload_n C dX6_goBack_17 rfl rfl ?_
    refine f_callV C _ _ (K_X6_save hD hA hS) vX6_73 (by first | decide | omega) rfl rfl dX6_goBack_18 rfl (Nat.le_of_ble_eq_true rfl) ⟨by decide, by decide⟩ (fun zr18 zw18 zp18 => ?_)
    obtain ⟨rfl, zs_S, zs_F⟩ := zp18
    have zs_E : DR zw18 26 B := hE.same hB (fun a h1 h2 => zs_F.1 a (by omega) (by omega))
    refine a_aload_n C dX6_goBack_21 rfl rfl ?_
    refine a_getfF C fX6_19 dX6_goBack_22 (show _ < 219 from (by first | decide | omega)) (by first | decide | omega) rfl rfl ?_
    refine a_aload_n C dX6_goBack_25 rfl rfl ?_
    refine a_getfF C fX6_23 dX6_goBack_26 (show _ < 219 from (by first | decide | omega)) (by first | decide | omega) rfl rfl ?_
    refine f_callV C _ _ (K_X5_copyFrom (w := zw18) (A := B) (j := 0) (i := 1) (by decide) (by decide) (by decide) zs_E hB) vX6_227 (show 3 < 219 by decide) (fzc_state (j := 0) (by decide) _ _) rfl dX6_goBack_29 rfl (Nat.le_of_ble_eq_true rfl) ⟨by decide, by decide⟩ (fun zr29 zw29 zp29 => ?_)
    obtain ⟨rfl, zq_D, zq_F⟩ := zp29
    have zq_F1 : ∀ a, a < 3 ∨ 26 ≤ a → zw29.1 a = zw18.1 a := fun a ha => zq_F.1 a ha
    have zq_D1 : DR zw29 3 B := zq_D
    refine a_aload_n C dX6_goBack_32 rfl rfl ?_
    refine a_getfF C fX6_19 dX6_goBack_33 (show _ < 219 from (by first | decide | omega)) (by first | decide | omega) rfl rfl ?_
    refine a_getf C fX6_80 dX6_goBack_36 (show _ < 219 from (by first | decide | omega)) (by first | decide | omega) rfl (gl (zq_D1.dn.n.trans hB.n)) ?_
    refine f_iret C hr ?_ dX6_goBack_39 ?_
    · rfl
    · exact ⟨rfl, zq_D1, zs_S.same (fun j hj => by rw [zq_F1 0 (by omega)]) (fun a h1 h2 => zq_F1 a (by omega)), fun a a0 ha => (zq_F1 a (by omega)).trans (zs_F.1 a a0 (by omega)), fun j j7 j8 => by rw [zq_F1 0 (by omega)]; exact zs_F.2.1 j j7 j8, zq_F.2.trans zs_F.2.2⟩
  · exact absurd h_4 (by decide)

def prL (lt : Nat) : Nat := if 0 < lt then lt - 1 else 5
theorem prL_lt {lt : Nat} (h : lt < 6) : prL lt < 6 := by
  unfold prL
  split <;> omega
theorem SvC.pop {w w' : Wd} {S : Nat → St} {sv lt : Nat} (h : SvC w S sv lt) (hz : 0 < sv) (h8 : w'.1 0 8 = nI (sv - 1)) (h7 : w'.1 0 7 = nI (prL lt)) (hw : ∀ a, 66 ≤ a → a < 204 → w'.1 a = w.1 a) : SvC w' (fun q => S (q + 1)) (sv - 1) (prL lt) := by
  refine ⟨⟨h8, by have := h.1.2; omega⟩, ⟨h7, prL_lt h.2.1.2⟩, fun q hq => ?_⟩
  obtain ⟨z1, z2⟩ := h.2.2 (q + 1) (by omega)
  have hl := h.2.1.2
  have hs := h.1.2
  have e : (lt + 6 - (q + 1)) % 6 = (prL lt + 6 - q) % 6 := by
    unfold prL
    split <;> omega
  rw [e] at z2
  exact ⟨z1, z2.same z1 (fun a h1 h2 => hw a (by omega) (by omega))⟩
set_option maxRecDepth 20000 in
set_option maxHeartbeats 4000000 in
theorem K_X6_undo {w : Wd} {A : St} {S : Nat → St} {sv lt : Nat} (hD : DR w 3 A) (hA : AOK A) (hS : SvC w S sv lt) (hz : 0 < sv) : CF yX6_undo cX6_undo 1 (some .int) 6 90 [.ref 0] w (fun r w' => r = some (.int (nI (sv - 1))) ∧ DR w' 3 (S 0) ∧ SvC w' (fun q => S (q + 1)) (sv - 1) (prL lt) ∧ FrS w w') := by
  have zq_s := hS.1.2
  have zq_l := hS.2.1.2
  obtain ⟨zq_0, zq_1⟩ := hS.2.2 0 hz
  rw [show (lt + 6 - 0) % 6 = lt by omega] at zq_1
  have zq_pl := prL_lt zq_l
  refine CF.of ok_X6_undo (Nat.le_of_ble_eq_true rfl) (fun ex us G9 p9 l9 e9 s9 m9 ar9 be9 me9 co9 C hr => ?_)
  refine a_aload_n C dX6_undo_0 rfl rfl ?_
  refine a_getf C fX6_235 dX6_undo_1 (show _ < 219 from (by first | decide | omega)) (by first | decide | omega) rfl (gl hS.1.1) ?_
  refine n_if_gt (tgt := 17) C dX6_undo_4 (by decide) (by first | decide | omega)  (fun h_4 => ?_) (fun h_4 => ?_)
  · refine a_aload_n C dX6_undo_17 rfl rfl ?_
    refine a_getfF C fX6_19 dX6_undo_18 (show _ < 219 from (by first | decide | omega)) (by first | decide | omega) rfl rfl ?_
    refine a_aload_n C dX6_undo_21 rfl rfl ?_
    refine a_getfF C fX6_26 dX6_undo_22 (show _ < 219 from (by first | decide | omega)) (by first | decide | omega) rfl rfl ?_
    refine a_aload_n C dX6_undo_25 rfl rfl ?_
    refine a_getf C fX6_30 dX6_undo_26 (show _ < 219 from (by first | decide | omega)) (by first | decide | omega) rfl (gl hS.2.1.1) ?_
    refine a_aaldS C dX6_undo_29 (show _ < 219 from (by first | decide | omega)) (by first | decide | omega) rfl rfl (by first | decide | omega) (by decide) rfl ?_
    refine f_callV C [.ref (66 + 23 * lt)] _ (K_X5_copyFrom (w := w) (A := S 0) (j := 0) (i := lt + 2) (by decide) (by omega) (by omega) zq_1 zq_0) vX6_227 (show 3 < 219 by decide) (fzc_state (j := 0) (by decide) _ _) rfl dX6_undo_30 rfl (Nat.le_of_ble_eq_true rfl) ⟨by decide, by decide⟩ (fun zr30 zw30 zp30 => ?_)
    obtain ⟨rfl, zq_D, zq_F⟩ := zp30
    have zq_F1 : ∀ a, a < 3 ∨ 26 ≤ a → zw30.1 a = w.1 a := fun a ha => zq_F.1 a ha
    have zq_D1 : DR zw30 3 (S 0) := zq_D
    refine a_aload_n C dX6_undo_33 rfl rfl ?_
    refine a_via 51 (nI (prL lt)) ?_ (fun zJ51 => ?_)
    · refine f_putf C fX6_30 dX6_undo_51 (by first | decide | omega) rfl rfl rfl (Nat.le_of_ble_eq_true rfl) rfl ?_
      refine a_aload_n C dX6_undo_54 rfl rfl ?_
      refine a_dup C dX6_undo_55 rfl ?_
      refine a_getf C fX6_235 dX6_undo_56 (show _ < 219 from (by first | decide | omega)) (by first | decide | omega) rfl (gl (show _ = nI sv from by rw [wSet_ne (by decide), zq_F1 0 (by omega)]; exact hS.1.1)) ?_
      refine a_iconst (v := nI 1) C dX6_undo_59 (by decide) ?_
      refine n_isub C dX6_undo_60 (by first | decide | omega) ?_
      refine f_putf C fX6_235 dX6_undo_61 (by first | decide | omega) rfl rfl rfl (Nat.le_of_ble_eq_true rfl) rfl ?_
      refine a_aload_n C dX6_undo_64 rfl rfl ?_
      refine a_getf C fX6_235 dX6_undo_65 (show _ < 219 from (by first | decide | omega)) (by first | decide | omega) rfl (gl wSet_at) ?_
      refine f_iret C hr ?_ dX6_undo_68 ?_
      · rfl
      · exact ⟨rfl, zq_D1.same zq_0 (fun a h1 h2 => by rw [wSet_th (by omega), wSet_th (by omega)]), hS.pop hz wSet_at ((wSet_ne (by decide)).trans wSet_at) (fun a h1 h2 => by rw [wSet_th (by omega), wSet_th (by omega)]; exact zq_F1 a (by omega)), fun a a0 ha => by rw [wSet_th a0, wSet_th a0]; exact zq_F1 a (by omega), fun j j7 j8 => by rw [wSet_ne (by omega), wSet_ne (by omega), zq_F1 0 (by omega)], zq_F.2⟩
    · refine a_aload_n C dX6_undo_34 rfl rfl ?_
      refine a_getf C fX6_30 dX6_undo_35 (show _ < 219 from (by first | decide | omega)) (by first | decide | omega) rfl (gl (show _ = nI lt from by rw [zq_F1 0 (by omega)]; exact hS.2.1.1)) ?_
      refine n_if_le (tgt := 50) C dX6_undo_38 (by decide) (by first | decide | omega)  (fun h_38 => ?_) (fun h_38 => ?_)
      · refine a_iconst (v := nI 5) C dX6_undo_50 (by decide) ?_
        refine a_eq rfl (gl1 ?_) rfl zJ51
        · (unfold prL; first | rw [if_pos (by omega)] | rw [if_neg (by omega)])
      · refine a_aload_n C dX6_undo_41 rfl rfl ?_
        refine a_getf C fX6_30 dX6_undo_42 (show _ < 219 from (by first | decide | omega)) (by first | decide | omega) rfl (gl (show _ = nI lt from by rw [zq_F1 0 (by omega)]; exact hS.2.1.1)) ?_
        refine a_iconst (v := nI 1) C dX6_undo_45 (by decide) ?_
        refine n_isub C dX6_undo_46 (by first | decide | omega) ?_
        refine a_goto (tgt := 51) C dX6_undo_47 (by decide) ?_
        refine a_eq rfl (gl1 ?_) rfl zJ51
        · (unfold prL; first | rw [if_pos (by omega)] | rw [if_neg (by omega)])
  · exfalso; omega

end A37

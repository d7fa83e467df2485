section A25
/-- a call of the class that throws: nothing of the world is changed -/
def CXF (y : MethodName) (cc : ByteArray) (n : Nat) (ret : Option FieldType) (fr lo : Nat) (av : List Value) (w : Wd) (E : String) : Prop := ∀ (ex : Nat × Nat) (us : Nat), CX y cc n ret fr lo av (fzM w ex us) 1 6 (fun E' M' => E' = E ∧ M' = fzM w (ex.1, ex.2 + 1) (us + 6))
abbrev RX9 (fr lo : Nat) : Room := { frames := fr, cells := 1, slots := 6, locals := lo }
abbrev QX (G : aG) (below : List Frame) (args : Array Value) (s : State) (w : Wd) (ex : Nat × Nat) (us : Nat) (E : String) : State → Prop := vx_MQ below (fun _ _ _ _ => False) (aXc G (fzM w ex us) 1 6 (fun E' M' => E' = E ∧ M' = fzM w (ex.1, ex.2 + 1) (us + 6))) args s 1 6 (aOld G)
theorem CXF.of {w : Wd} {y : MethodName} {cc : ByteArray} {n : Nat} {ret : Option FieldType} {fr lo : Nat} {av : List Value} {E : String} (hW : aCode y cc n ret) (hpn : plainName y.cls = true) (hn : aSz av ≤ n)
    (body : ∀ (ex : Nat × Nat) (us : Nat) (G : aG) (p : Program) (l : Launch) (e : Env) (s : State) (m : MethodId) (args : Array Value) (below : List Frame) (meth : Method) (c : Code), aCtx G p s m args meth c cc n y.cls → l.flags = flags0 → (∀ x ∈ c.exceptionTable.toList, False) →
      WA G p l e (RX9 fr lo) s m args below meth c (QX G below args s w ex us E) n (207 + ex.1 + ex.2) us 0 (aEn av) [] (fzM w ex us)) : CXF y cc n ret fr lo av w E := by
  intro ex us
  exact CX.of hW hpn hn (fun G p l e s m args below meth c C hl ht => body ex us G p l e s m args below meth c C hl ht)
variable {G : aG} {p : Program} {l : Launch} {e : Env} {s : State} {m : MethodId} {args : Array Value} {below : List Frame} {meth : Method} {c : Code} {n pc : Nat} {cc : ByteArray} {L : aL} {w : Wd} {ex : Nat × Nat} {us fr lo : Nat} {cls text : String} {ik is ic : Nat}
theorem f_throwS (C : aCtx G p s m args meth c cc n RX6) (hl : l.flags = flags0) (ht : ∀ x ∈ c.exceptionTable.toList, False) (hX : xOk ik ic cls) (hstr : (is, text) ∈ aStr)
    (d0 : decode cc pc = .ok (.new ik, 3)) (d3 : decode cc (pc + 3) = .ok (.dup, 1)) (d4 : decode cc (pc + 4) = .ok (.ldc is, 2)) (d6 : decode cc (pc + 6) = .ok (.invokespecial ic, 3)) (d9 : decode cc (pc + 9) = .ok (.athrow, 1)) (hR : 5 < fr ∧ 82 ≤ lo) :
    WA G p l e (RX9 fr lo) s m args below meth c (QX G below args s w ex us cls) n (207 + ex.1 + ex.2) us pc L [] (fzM w ex us) :=
  a_throwS (M0 := fzM w ex us) C hl ht hX hstr d0 d3 d4 d6 d9 ⟨hR.1, hR.2, Nat.le_refl _, Nat.le_refl _⟩ rfl rfl rfl rfl ⟨rfl, rfl⟩
theorem f_throwSW (C : aCtx G p s m args meth c cc n RX6) (hl : l.flags = flags0) (ht : ∀ x ∈ c.exceptionTable.toList, False) (hX : xOk ik ic cls) (hstr : (is, text) ∈ aStr)
    (d0 : decode cc pc = .ok (.new ik, 3)) (d3 : decode cc (pc + 3) = .ok (.dup, 1)) (d4 : decode cc (pc + 4) = .ok (.ldc_w is, 3)) (d7 : decode cc (pc + 7) = .ok (.invokespecial ic, 3)) (d10 : decode cc (pc + 10) = .ok (.athrow, 1)) (hR : 5 < fr ∧ 82 ≤ lo) :
    WA G p l e (RX9 fr lo) s m args below meth c (QX G below args s w ex us cls) n (207 + ex.1 + ex.2) us pc L [] (fzM w ex us) :=
  a_throwSW (M0 := fzM w ex us) C hl ht hX hstr d0 d3 d4 d7 d10 ⟨hR.1, hR.2, Nat.le_refl _, Nat.le_refl _⟩ rfl rfl rfl rfl ⟨rfl, rfl⟩
theorem inR_n {x : Int32} {N : Nat} (h : inR x N = false) : ¬ (0 ≤ x.toInt ∧ x.toInt < N) := of_decide_eq_false h
theorem not_lt0 {x : Int32} (h : ¬ x < 0) : 0 ≤ x.toInt := by
  have zq_1 : ¬ x.toInt < (0 : Int32).toInt := fun z => h (Int32.lt_iff_toInt_lt.mpr z)
  have zq_2 : (0 : Int32).toInt = 0 := by decide
  omega
theorem le_nI {x : Int32} {n : Nat} (hn : n < 2 ^ 31) (h : x ≤ nI n) : x.toInt ≤ n := by
  have zq_1 := Int32.le_iff_toInt_le.mp h
  rwa [nI_toInt hn] at zq_1
theorem lt_nI {x : Int32} {n : Nat} (hn : n < 2 ^ 31) (h : x < nI n) : x.toInt < n := by
  have zq_1 := Int32.lt_iff_toInt_lt.mp h
  rwa [nI_toInt hn] at zq_1
theorem sbI_ge {j : Nat} (hj : j < 4) : lvv j = .int (nI (loN j)) := by
  match j, hj with
  | 0, _ => rfl
  | 1, _ => rfl
  | 2, _ => rfl
  | 3, _ => rfl
theorem sbI_le {j : Nat} (hj : j < 4) : gvv j = .int (nI (hiN j)) := by
  match j, hj with
  | 0, _ => rfl
  | 1, _ => rfl
  | 2, _ => rfl
  | 3, _ => rfl
set_option maxRecDepth 20000 in
set_option maxHeartbeats 4000000 in
theorem K_X6_key_0 {w : Wd} {A : St} (hD : DR w 3 A) (hA : AOK A) (k : Int32) (hf : inR k (kN A) = false) (j : Int32)  : CXF yX6_key cX6_key 4 (some .int) 6 90 [.ref 0, .int k, .int j] w "java/lang/IndexOutOfBoundsException" := by
  have zq_n := hA.n12
  have zf0 : inR k (kN A) = false := hf
  refine CXF.of ok_X6_key (by decide +kernel) (Nat.le_of_ble_eq_true rfl) (fun ex us G9 p9 l9 e9 s9 m9 ar9 be9 me9 co9 C hl9 ht9 => ?_)
  refine a_pad 1 ?_
  refine a_eq (L' := [some (.ref 0), some (.int k), some (.int j), none]) rfl rfl rfl ?_
  refine a_aload_n C dX6_key_0 rfl rfl ?_
  refine a_iload_n C dX6_key_1 rfl rfl ?_
  refine p_callV C (K_X6_isKey hD hA _) vX6_83 rfl (by first | decide | omega) rfl rfl dX6_key_2 (Nat.le_of_ble_eq_true rfl) ⟨by decide, by decide⟩ ?_
  refine b_if_ne (tgt := 18) C dX6_key_5 (by decide) (fun h_5 => ?_) (fun h_5 => ?_)
  · exact absurd (h_5.symm.trans zf0) (by decide)
  · exact f_throwS (text := "no such key") C hl9 ht9 xIOB (by decide) dX6_key_8 dX6_key_11 dX6_key_12 dX6_key_14 dX6_key_17 ⟨by decide, by decide⟩

set_option maxRecDepth 20000 in
set_option maxHeartbeats 4000000 in
theorem K_X6_key_1 {w : Wd} {A : St} (hD : DR w 3 A) (hA : AOK A) {k : Nat} (hk : k < (kN A)) (j : Int32) (hf : inR j 10 = false)  : CXF yX6_key cX6_key 4 (some .int) 6 90 [.ref 0, .int (nI k), .int j] w "java/lang/IllegalArgumentException" := by
  have zq_n := hA.n12
  have zf0 : inR (nI k) (kN A) = true := ((inR_nI (by omega)).trans (decide_eq_true (by omega)))
  have zq_o := inR_n hf
  refine CXF.of ok_X6_key (by decide +kernel) (Nat.le_of_ble_eq_true rfl) (fun ex us G9 p9 l9 e9 s9 m9 ar9 be9 me9 co9 C hl9 ht9 => ?_)
  refine a_pad 1 ?_
  refine a_eq (L' := [some (.ref 0), some (.int (nI k)), some (.int j), none]) rfl rfl rfl ?_
  refine a_aload_n C dX6_key_0 rfl rfl ?_
  refine a_iload_n C dX6_key_1 rfl rfl ?_
  refine p_callV C (K_X6_isKey hD hA _) vX6_83 rfl (by first | decide | omega) rfl rfl dX6_key_2 (Nat.le_of_ble_eq_true rfl) ⟨by decide, by decide⟩ ?_
  refine b_if_ne (tgt := 18) C dX6_key_5 (by decide) (fun h_5 => ?_) (fun h_5 => ?_)
  · refine a_aload_n C dX6_key_18 rfl rfl ?_
    refine a_getfF C fX6_19 dX6_key_19 (tw (by first | decide | omega)) (by first | decide | omega) rfl rfl ?_
    refine a_getfF C fX6_103 dX6_key_22 (tw (by first | decide | omega)) (by first | decide | omega) rfl rfl ?_
    refine a_iload_n C dX6_key_25 rfl rfl ?_
    refine a_aaldK C dX6_key_26 (tw (by first | decide | omega)) (by first | decide | omega) rfl rfl (by first | decide | omega) (by decide) rfl ?_
    refine a_astore_n C dX6_key_27 rfl (by decide) ?_
    refine a_iload_n C dX6_key_28 rfl rfl ?_
    refine a_tableOut (x := j) (tgt := 159) C dX6_key_29 (by omega) (by decide) ?_
    exact f_throwSW (text := "what is not 0 to 9") C hl9 ht9 xIAE (by decide) dX6_key_159 dX6_key_162 dX6_key_163 dX6_key_166 dX6_key_169 ⟨by decide, by decide⟩
  · exact absurd (h_5.symm.trans zf0) (by decide)

set_option maxRecDepth 20000 in
set_option maxHeartbeats 4000000 in
theorem K_X6_lock_0 {w : Wd} {A : St} (hD : DR w 3 A) (hA : AOK A) (p : Int32) (hf : inR p 6 = false) (y : Int32)  : CXF yX6_lock cX6_lock 4 (some .int) 6 90 [.ref 0, .int p, .int y] w "java/lang/IndexOutOfBoundsException" := by
  have zq_n := hA.n12
  have zf0 : inR p 6 = false := hf
  refine CXF.of ok_X6_lock (by decide +kernel) (Nat.le_of_ble_eq_true rfl) (fun ex us G9 p9 l9 e9 s9 m9 ar9 be9 me9 co9 C hl9 ht9 => ?_)
  refine a_pad 1 ?_
  refine a_eq (L' := [some (.ref 0), some (.int p), some (.int y), none]) rfl rfl rfl ?_
  refine a_iload_n C dX6_lock_0 rfl rfl ?_
  refine p_callS C ((K_X6_isPlace _)).cp sX6_142 rfl dX6_lock_1 (Nat.le_of_ble_eq_true rfl) ⟨by decide, by decide⟩ ?_
  refine b_if_ne (tgt := 17) C dX6_lock_4 (by decide) (fun h_4 => ?_) (fun h_4 => ?_)
  · exact absurd (h_4.symm.trans zf0) (by decide)
  · exact f_throwS (text := "no such place") C hl9 ht9 xIOB (by decide) dX6_lock_7 dX6_lock_10 dX6_lock_11 dX6_lock_13 dX6_lock_16 ⟨by decide, by decide⟩

set_option maxRecDepth 20000 in
set_option maxHeartbeats 4000000 in
theorem K_X6_lock_1 {w : Wd} {A : St} (hD : DR w 3 A) (hA : AOK A) {p : Nat} (hp : p < 6) (y : Int32) (hf : inR y 6 = false) : CXF yX6_lock cX6_lock 4 (some .int) 6 90 [.ref 0, .int (nI p), .int y] w "java/lang/IllegalArgumentException" := by
  have zq_n := hA.n12
  have zf0 : inR (nI p) 6 = true := ((inR_nI (by omega)).trans (decide_eq_true (by omega)))
  have zq_o := inR_n hf
  refine CXF.of ok_X6_lock (by decide +kernel) (Nat.le_of_ble_eq_true rfl) (fun ex us G9 p9 l9 e9 s9 m9 ar9 be9 me9 co9 C hl9 ht9 => ?_)
  refine a_pad 1 ?_
  refine a_eq (L' := [some (.ref 0), some (.int (nI p)), some (.int y), none]) rfl rfl rfl ?_
  refine a_iload_n C dX6_lock_0 rfl rfl ?_
  refine p_callS C ((K_X6_isPlace _)).cp sX6_142 rfl dX6_lock_1 (Nat.le_of_ble_eq_true rfl) ⟨by decide, by decide⟩ ?_
  refine b_if_ne (tgt := 17) C dX6_lock_4 (by decide) (fun h_4 => ?_) (fun h_4 => ?_)
  · refine a_iload_n C dX6_lock_17 rfl rfl ?_
    refine a_if_lt (tgt := 26) C dX6_lock_18 (by decide) (fun h_18 => ?_) (fun h_18 => ?_)
    · exact f_throwSW (text := "what is not 0 to 5") C hl9 ht9 xIAE (by decide) dX6_lock_26 dX6_lock_29 dX6_lock_30 dX6_lock_33 dX6_lock_36 ⟨by decide, by decide⟩
    · refine a_iload_n C dX6_lock_21 rfl rfl ?_
      refine a_iconst (v := nI 5) C dX6_lock_22 (by decide) ?_
      refine a_icmp_le (tgt := 37) C dX6_lock_23 (by decide) (fun h_23 => ?_) (fun h_23 => ?_)
      · exact absurd ⟨not_lt0 h_18, by have := le_nI (by decide) h_23; omega⟩ zq_o
      · exact f_throwSW (text := "what is not 0 to 5") C hl9 ht9 xIAE (by decide) dX6_lock_26 dX6_lock_29 dX6_lock_30 dX6_lock_33 dX6_lock_36 ⟨by decide, by decide⟩
  · exact absurd (h_4.symm.trans zf0) (by decide)

set_option maxRecDepth 20000 in
set_option maxHeartbeats 4000000 in
theorem K_X6_person_0 {w : Wd} {A : St} (hD : DR w 3 A) (hA : AOK A) (q : Int32) (hf : inR q 4 = false) (j : Int32)  : CXF yX6_person cX6_person 3 (some .int) 6 91 [.ref 0, .int q, .int j] w "java/lang/IndexOutOfBoundsException" := by
  have zq_n := hA.n12
  have zf0 : inR q 4 = false := hf
  refine CXF.of ok_X6_person (by decide +kernel) (Nat.le_of_ble_eq_true rfl) (fun ex us G9 p9 l9 e9 s9 m9 ar9 be9 me9 co9 C hl9 ht9 => ?_)
  refine a_iload_n C dX6_person_0 rfl rfl ?_
  refine p_callS C ((K_X6_isPerson _)).cp sX6_54 rfl dX6_person_1 (Nat.le_of_ble_eq_true rfl) ⟨by decide, by decide⟩ ?_
  refine b_if_ne (tgt := 18) C dX6_person_4 (by decide) (fun h_4 => ?_) (fun h_4 => ?_)
  · exact absurd (h_4.symm.trans zf0) (by decide)
  · exact f_throwSW (text := "no such person") C hl9 ht9 xIOB (by decide) dX6_person_7 dX6_person_10 dX6_person_11 dX6_person_14 dX6_person_17 ⟨by decide, by decide⟩

set_option maxRecDepth 20000 in
set_option maxHeartbeats 4000000 in
theorem K_X6_person_1 {w : Wd} {A : St} (hD : DR w 3 A) (hA : AOK A) {q : Nat} (hq : q < 4) (j : Int32) (hf : inR j 3 = false)  : CXF yX6_person cX6_person 3 (some .int) 6 91 [.ref 0, .int (nI q), .int j] w "java/lang/IllegalArgumentException" := by
  have zq_n := hA.n12
  have zf0 : inR (nI q) 4 = true := ((inR_nI (by omega)).trans (decide_eq_true (by omega)))
  have zq_o := inR_n hf
  refine CXF.of ok_X6_person (by decide +kernel) (Nat.le_of_ble_eq_true rfl) (fun ex us G9 p9 l9 e9 s9 m9 ar9 be9 me9 co9 C hl9 ht9 => ?_)
  refine a_iload_n C dX6_person_0 rfl rfl ?_
  refine p_callS C ((K_X6_isPerson _)).cp sX6_54 rfl dX6_person_1 (Nat.le_of_ble_eq_true rfl) ⟨by decide, by decide⟩ ?_
  refine b_if_ne (tgt := 18) C dX6_person_4 (by decide) (fun h_4 => ?_) (fun h_4 => ?_)
  · refine a_iload_n C dX6_person_18 rfl rfl ?_
    refine a_tableOut (x := j) (tgt := 66) C dX6_person_19 (by omega) (by decide) ?_
    exact f_throwSW (text := "what is not 0 to 2") C hl9 ht9 xIAE (by decide) dX6_person_66 dX6_person_69 dX6_person_70 dX6_person_73 dX6_person_76 ⟨by decide, by decide⟩
  · exact absurd (h_4.symm.trans zf0) (by decide)

set_option maxRecDepth 20000 in
set_option maxHeartbeats 4000000 in
theorem K_X6_code_0 {w : Wd} {A : St} (hD : DR w 3 A) (hA : AOK A) (c : Int32) (hf : inR c 81 = false) (j : Int32)  : CXF yX6_code cX6_code 3 (some .int) 6 90 [.ref 0, .int c, .int j] w "java/lang/IllegalArgumentException" := by
  have zq_n := hA.n12
  have zf0 : inR c 81 = false := hf
  refine CXF.of ok_X6_code (by decide +kernel) (Nat.le_of_ble_eq_true rfl) (fun ex us G9 p9 l9 e9 s9 m9 ar9 be9 me9 co9 C hl9 ht9 => ?_)
  refine a_iload_n C dX6_code_0 rfl rfl ?_
  refine p_callS C ((K_X6_isCode _)).cp sX6_50 rfl dX6_code_1 (Nat.le_of_ble_eq_true rfl) ⟨by decide, by decide⟩ ?_
  refine b_if_ne (tgt := 17) C dX6_code_4 (by decide) (fun h_4 => ?_) (fun h_4 => ?_)
  · exact absurd (h_4.symm.trans zf0) (by decide)
  · exact f_throwS (text := "code is out of range") C hl9 ht9 xIAE (by decide) dX6_code_7 dX6_code_10 dX6_code_11 dX6_code_13 dX6_code_16 ⟨by decide, by decide⟩

set_option maxRecDepth 20000 in
set_option maxHeartbeats 4000000 in
theorem K_X6_code_1 {w : Wd} {A : St} (hD : DR w 3 A) (hA : AOK A) {c : Nat} (hc : c < 81) (j : Int32) (hf : inR j 6 = false)  : CXF yX6_code cX6_code 3 (some .int) 6 90 [.ref 0, .int (nI c), .int j] w "java/lang/IllegalArgumentException" := by
  have zq_n := hA.n12
  have zf0 : inR (nI c) 81 = true := ((inR_nI (by omega)).trans (decide_eq_true (by omega)))
  have zq_o := inR_n hf
  refine CXF.of ok_X6_code (by decide +kernel) (Nat.le_of_ble_eq_true rfl) (fun ex us G9 p9 l9 e9 s9 m9 ar9 be9 me9 co9 C hl9 ht9 => ?_)
  refine a_iload_n C dX6_code_0 rfl rfl ?_
  refine p_callS C ((K_X6_isCode _)).cp sX6_50 rfl dX6_code_1 (Nat.le_of_ble_eq_true rfl) ⟨by decide, by decide⟩ ?_
  refine b_if_ne (tgt := 17) C dX6_code_4 (by decide) (fun h_4 => ?_) (fun h_4 => ?_)
  · refine a_iload_n C dX6_code_17 rfl rfl ?_
    refine a_tableOut (x := j) (tgt := 112) C dX6_code_18 (by omega) (by decide) ?_
    exact f_throwSW (text := "what is not 0 to 5") C hl9 ht9 xIAE (by decide) dX6_code_112 dX6_code_115 dX6_code_116 dX6_code_119 dX6_code_122 ⟨by decide, by decide⟩
  · exact absurd (h_4.symm.trans zf0) (by decide)

set_option maxRecDepth 20000 in
set_option maxHeartbeats 4000000 in
theorem K_X6_count_0 {w : Wd} {A : St} (hD : DR w 3 A) (hA : AOK A) (j : Int32) (hf : inR j 12 = false)  : CXF yX6_count cX6_count 2 (some .int) 6 93 [.ref 0, .int j] w "java/lang/IllegalArgumentException" := by
  have zq_n := hA.n12
  
  have zq_o := inR_n hf
  refine CXF.of ok_X6_count (by decide +kernel) (Nat.le_of_ble_eq_true rfl) (fun ex us G9 p9 l9 e9 s9 m9 ar9 be9 me9 co9 C hl9 ht9 => ?_)
  refine a_iload_n C dX6_count_0 rfl rfl ?_
  refine a_tableOut (x := j) (tgt := 142) C dX6_count_1 (by omega) (by decide) ?_
  exact f_throwSW (text := "what is not 0 to 11") C hl9 ht9 xIAE (by decide) dX6_count_142 dX6_count_145 dX6_count_146 dX6_count_149 dX6_count_152 ⟨by decide, by decide⟩

set_option maxRecDepth 20000 in
set_option maxHeartbeats 4000000 in
theorem K_X6_why_0 {w : Wd} {A : St} (hD : DR w 3 A) (hA : AOK A) (k : Int32) (hf : inR k (kN A) = false) (j : Int32)  : CXF yX6_why cX6_why 3 (some .int) 6 90 [.ref 0, .int k, .int j] w "java/lang/IndexOutOfBoundsException" := by
  have zq_n := hA.n12
  have zf0 : inR k (kN A) = false := hf
  refine CXF.of ok_X6_why (by decide +kernel) (Nat.le_of_ble_eq_true rfl) (fun ex us G9 p9 l9 e9 s9 m9 ar9 be9 me9 co9 C hl9 ht9 => ?_)
  refine a_aload_n C dX6_why_0 rfl rfl ?_
  refine a_iload_n C dX6_why_1 rfl rfl ?_
  refine p_callV C (K_X6_isKey hD hA _) vX6_83 rfl (by first | decide | omega) rfl rfl dX6_why_2 (Nat.le_of_ble_eq_true rfl) ⟨by decide, by decide⟩ ?_
  refine b_if_eq (tgt := 15) C dX6_why_5 (by decide) (fun h_5 => ?_) (fun h_5 => ?_)
  · exact f_throwS (text := "no such key or notch") C hl9 ht9 xIOB (by decide) dX6_why_15 dX6_why_18 dX6_why_19 dX6_why_21 dX6_why_24 ⟨by decide, by decide⟩
  · exact absurd (h_5.symm.trans zf0) (by decide)

set_option maxRecDepth 20000 in
set_option maxHeartbeats 4000000 in
theorem K_X6_why_1 {w : Wd} {A : St} (hD : DR w 3 A) (hA : AOK A) {k : Nat} (hk : k < (kN A)) (j : Int32) (hf : inR j 4 = false)  : CXF yX6_why cX6_why 3 (some .int) 6 90 [.ref 0, .int (nI k), .int j] w "java/lang/IndexOutOfBoundsException" := by
  have zq_n := hA.n12
  have zf0 : inR (nI k) (kN A) = true := ((inR_nI (by omega)).trans (decide_eq_true (by omega)))
  have zf1 : inR j 4 = false := hf
  refine CXF.of ok_X6_why (by decide +kernel) (Nat.le_of_ble_eq_true rfl) (fun ex us G9 p9 l9 e9 s9 m9 ar9 be9 me9 co9 C hl9 ht9 => ?_)
  refine a_aload_n C dX6_why_0 rfl rfl ?_
  refine a_iload_n C dX6_why_1 rfl rfl ?_
  refine p_callV C (K_X6_isKey hD hA _) vX6_83 rfl (by first | decide | omega) rfl rfl dX6_why_2 (Nat.le_of_ble_eq_true rfl) ⟨by decide, by decide⟩ ?_
  refine b_if_eq (tgt := 15) C dX6_why_5 (by decide) (fun h_5 => ?_) (fun h_5 => ?_)
  · exact absurd (h_5.symm.trans zf0) (by decide)
  · refine a_iload_n C dX6_why_8 rfl rfl ?_
    refine p_callS C ((K_X6_isNotch _)).cp sX6_86 rfl dX6_why_9 (Nat.le_of_ble_eq_true rfl) ⟨by decide, by decide⟩ ?_
    refine b_if_ne (tgt := 25) C dX6_why_12 (by decide) (fun h_12 => ?_) (fun h_12 => ?_)
    · exact absurd (h_12.symm.trans zf1) (by decide)
    · exact f_throwS (text := "no such key or notch") C hl9 ht9 xIOB (by decide) dX6_why_15 dX6_why_18 dX6_why_19 dX6_why_21 dX6_why_24 ⟨by decide, by decide⟩

set_option maxRecDepth 20000 in
set_option maxHeartbeats 4000000 in
theorem K_X6_most_0 {w : Wd} (x : Int32) (hf : inR x 2 = false) : CXF yX6_most cX6_most 2 (some .int) 6 117 [.ref 0, .int x] w "java/lang/IllegalArgumentException" := by
  have zq_o := inR_n hf
  refine CXF.of ok_X6_most (by decide +kernel) (Nat.le_of_ble_eq_true rfl) (fun ex us G9 p9 l9 e9 s9 m9 ar9 be9 me9 co9 C hl9 ht9 => ?_)
  refine a_iload_n C dX6_most_0 rfl rfl ?_
  refine a_if_lt (tgt := 9) C dX6_most_1 (by decide) (fun h_1 => ?_) (fun h_1 => ?_)
  · exact f_throwSW (text := "what is not 0 or 1") C hl9 ht9 xIAE (by decide) dX6_most_9 dX6_most_12 dX6_most_13 dX6_most_16 dX6_most_19 ⟨by decide, by decide⟩
  · refine a_iload_n C dX6_most_4 rfl rfl ?_
    refine a_iconst (v := nI 1) C dX6_most_5 (by decide) ?_
    refine a_icmp_le (tgt := 20) C dX6_most_6 (by decide) (fun h_6 => ?_) (fun h_6 => ?_)
    · exact absurd ⟨not_lt0 h_1, by have := le_nI (by decide) h_6; omega⟩ zq_o
    · exact f_throwSW (text := "what is not 0 or 1") C hl9 ht9 xIAE (by decide) dX6_most_9 dX6_most_12 dX6_most_13 dX6_most_16 dX6_most_19 ⟨by decide, by decide⟩

set_option maxRecDepth 20000 in
set_option maxHeartbeats 4000000 in
theorem K_X6_pick_0 {w : Wd} (x : Int32) (hf : ¬ 0 ≤ x) : CXF yX6_pick cX6_pick 2 (some .int) 6 117 [.ref 0, .int x] w "java/lang/IndexOutOfBoundsException" := by
  skip
  refine CXF.of ok_X6_pick (by decide +kernel) (Nat.le_of_ble_eq_true rfl) (fun ex us G9 p9 l9 e9 s9 m9 ar9 be9 me9 co9 C hl9 ht9 => ?_)
  refine a_iload_n C dX6_pick_0 rfl rfl ?_
  refine a_if_ge (tgt := 15) C dX6_pick_1 (by decide) (fun h_1 => ?_) (fun h_1 => ?_)
  · exact absurd h_1 hf
  · exact f_throwSW (text := "rank is below 0") C hl9 ht9 xIOB (by decide) dX6_pick_4 dX6_pick_7 dX6_pick_8 dX6_pick_11 dX6_pick_14 ⟨by decide, by decide⟩

set_option maxRecDepth 20000 in
set_option maxHeartbeats 4000000 in
theorem K_X6_opener_0 {w : Wd} {A : St} (hD : DR w 3 A) (hA : AOK A) (x : Int32) (hf : arlA A x = false) : CXF yX6_opener cX6_opener 5 (some .int) 6 90 [.ref 0, .int x] w "java/lang/IllegalArgumentException" := by
  have zq_n := hA.n12
  refine CXF.of ok_X6_opener (by decide +kernel) (Nat.le_of_ble_eq_true rfl) (fun ex us G9 p9 l9 e9 s9 m9 ar9 be9 me9 co9 C hl9 ht9 => ?_)
  refine a_pad 3 ?_
  refine a_eq (L' := [some (.ref 0), some (.int x), none, none, none]) rfl rfl rfl ?_
  refine a_iload_n C dX6_opener_0 rfl rfl ?_
  refine a_if_le (tgt := 18) C dX6_opener_1 (by decide) (fun h_1 => ?_) (fun h_1 => ?_)
  · exact f_throwSW (text := "locks is no set of locks") C hl9 ht9 xIAE (by decide) dX6_opener_18 dX6_opener_21 dX6_opener_22 dX6_opener_25 dX6_opener_28 ⟨by decide, by decide⟩
  · refine a_iload_n C dX6_opener_4 rfl rfl ?_
    refine a_bipush (v := nI 64) C dX6_opener_5 (by decide) ?_
    refine a_icmp_ge (tgt := 18) C dX6_opener_7 (by decide) (fun h_7 => ?_) (fun h_7 => ?_)
    · exact f_throwSW (text := "locks is no set of locks") C hl9 ht9 xIAE (by decide) dX6_opener_18 dX6_opener_21 dX6_opener_22 dX6_opener_25 dX6_opener_28 ⟨by decide, by decide⟩
    · have zq_r : inR x 64 = true := inR_t (by decide) (fun zq_1 => h_1 (Int32.le_of_lt zq_1)) h_7
      obtain ⟨n, zq_n1, rfl⟩ := inR_of zq_r (by decide)
      have zq_n2 : 1 ≤ n := Nat.pos_of_ne_zero (fun zq_1 => h_1 (by rw [zq_1]; decide))
      have zq_f : allN (alP A n) 6 = false := by
        have zq_1 := hf
        unfold arlA at zq_1
        rw [nI_toInt (by omega), iN_nI (by omega), decide_eq_true (by omega), Bool.true_and] at zq_1
        exact zq_1
      refine a_aload_n C dX6_opener_10 rfl rfl ?_
      refine a_iload_n C dX6_opener_11 rfl rfl ?_
      refine p_callV C (K_X6_hasAllLocks hD hA (by first | assumption | decide | omega)) vX6_349 rfl (by first | decide | omega) rfl rfl dX6_opener_12 (Nat.le_of_ble_eq_true rfl) ⟨by decide, by decide⟩ ?_
      refine b_if_ne (tgt := 29) C dX6_opener_15 (by decide) (fun h_15 => ?_) (fun h_15 => ?_)
      · exact absurd (h_15.symm.trans zq_f) (by decide)
      · exact f_throwSW (text := "locks is no set of locks") C hl9 ht9 xIAE (by decide) dX6_opener_18 dX6_opener_21 dX6_opener_22 dX6_opener_25 dX6_opener_28 ⟨by decide, by decide⟩

set_option maxRecDepth 20000 in
set_option maxHeartbeats 4000000 in
theorem K_X6_cut_0 {w : Wd} {A : St} (hD : DR w 3 A) (hA : AOK A) (c : Int32) (hf : inR c 81 = false) (q : Int32)  : CXF yX6_cut cX6_cut 3 (some .int) 6 90 [.ref 0, .int c, .int q] w "java/lang/IllegalArgumentException" := by
  have zq_n := hA.n12
  have zf0 : inR c 81 = false := hf
  refine CXF.of ok_X6_cut (by decide +kernel) (Nat.le_of_ble_eq_true rfl) (fun ex us G9 p9 l9 e9 s9 m9 ar9 be9 me9 co9 C hl9 ht9 => ?_)
  refine a_iload_n C dX6_cut_0 rfl rfl ?_
  refine p_callS C ((K_X6_isCode _)).cp sX6_50 rfl dX6_cut_1 (Nat.le_of_ble_eq_true rfl) ⟨by decide, by decide⟩ ?_
  refine b_if_eq (tgt := 14) C dX6_cut_4 (by decide) (fun h_4 => ?_) (fun h_4 => ?_)
  · exact f_throwS (text := "code or owner is out of range") C hl9 ht9 xIAE (by decide) dX6_cut_14 dX6_cut_17 dX6_cut_18 dX6_cut_20 dX6_cut_23 ⟨by decide, by decide⟩
  · exact absurd (h_4.symm.trans zf0) (by decide)

set_option maxRecDepth 20000 in
set_option maxHeartbeats 4000000 in
theorem K_X6_cut_1 {w : Wd} {A : St} (hD : DR w 3 A) (hA : AOK A) {c : Nat} (hc : c < 81) (q : Int32) (hf : inR q 4 = false)  : CXF yX6_cut cX6_cut 3 (some .int) 6 90 [.ref 0, .int (nI c), .int q] w "java/lang/IllegalArgumentException" := by
  have zq_n := hA.n12
  have zf0 : inR (nI c) 81 = true := ((inR_nI (by omega)).trans (decide_eq_true (by omega)))
  have zf1 : inR q 4 = false := hf
  refine CXF.of ok_X6_cut (by decide +kernel) (Nat.le_of_ble_eq_true rfl) (fun ex us G9 p9 l9 e9 s9 m9 ar9 be9 me9 co9 C hl9 ht9 => ?_)
  refine a_iload_n C dX6_cut_0 rfl rfl ?_
  refine p_callS C ((K_X6_isCode _)).cp sX6_50 rfl dX6_cut_1 (Nat.le_of_ble_eq_true rfl) ⟨by decide, by decide⟩ ?_
  refine b_if_eq (tgt := 14) C dX6_cut_4 (by decide) (fun h_4 => ?_) (fun h_4 => ?_)
  · exact absurd (h_4.symm.trans zf0) (by decide)
  · refine a_iload_n C dX6_cut_7 rfl rfl ?_
    refine p_callS C ((K_X6_isPerson _)).cp sX6_54 rfl dX6_cut_8 (Nat.le_of_ble_eq_true rfl) ⟨by decide, by decide⟩ ?_
    refine b_if_ne (tgt := 24) C dX6_cut_11 (by decide) (fun h_11 => ?_) (fun h_11 => ?_)
    · exact absurd (h_11.symm.trans zf1) (by decide)
    · exact f_throwS (text := "code or owner is out of range") C hl9 ht9 xIAE (by decide) dX6_cut_14 dX6_cut_17 dX6_cut_18 dX6_cut_20 dX6_cut_23 ⟨by decide, by decide⟩

set_option maxRecDepth 20000 in
set_option maxHeartbeats 4000000 in
theorem K_X6_cut_2 {w : Wd} {A : St} (hD : DR w 3 A) (hA : AOK A) {c q : Nat} (hc : c < 81) (hq : q < 4) (hz : ¬ wncA A c = 0) : CXF yX6_cut cX6_cut 3 (some .int) 6 90 [.ref 0, .int (nI c), .int (nI q)] w "java/lang/IllegalStateException" := by
  have zq_n := hA.n12
  have zf0 : inR (nI c) 81 = true := ((inR_nI (by omega)).trans (decide_eq_true (by omega)))
  have zf1 : inR (nI q) 4 = true := ((inR_nI (by omega)).trans (decide_eq_true (by omega)))
  refine CXF.of ok_X6_cut (by decide +kernel) (Nat.le_of_ble_eq_true rfl) (fun ex us G9 p9 l9 e9 s9 m9 ar9 be9 me9 co9 C hl9 ht9 => ?_)
  refine a_iload_n C dX6_cut_0 rfl rfl ?_
  refine p_callS C ((K_X6_isCode _)).cp sX6_50 rfl dX6_cut_1 (Nat.le_of_ble_eq_true rfl) ⟨by decide, by decide⟩ ?_
  refine b_if_eq (tgt := 14) C dX6_cut_4 (by decide) (fun h_4 => ?_) (fun h_4 => ?_)
  · exact absurd (h_4.symm.trans zf0) (by decide)
  · refine a_iload_n C dX6_cut_7 rfl rfl ?_
    refine p_callS C ((K_X6_isPerson _)).cp sX6_54 rfl dX6_cut_8 (Nat.le_of_ble_eq_true rfl) ⟨by decide, by decide⟩ ?_
    refine b_if_ne (tgt := 24) C dX6_cut_11 (by decide) (fun h_11 => ?_) (fun h_11 => ?_)
    · refine a_aload_n C dX6_cut_24 rfl rfl ?_
      refine a_iload_n C dX6_cut_25 rfl rfl ?_
      refine p_callV C (K_X6_reasonAgainstCut hD hA (by first | assumption | decide | omega)) vX6_64 rfl (by first | decide | omega) rfl rfl dX6_cut_26 (Nat.le_of_ble_eq_true rfl) ⟨by decide, by decide⟩ ?_
      refine n_if_eq (tgt := 42) C dX6_cut_29 (by decide) (wnc_lt A c)  (fun h_29 => ?_) (fun h_29 => ?_)
      · exact absurd h_29 hz
      · exact f_throwS (text := "no key can be cut with this code") C hl9 ht9 xISE (by decide) dX6_cut_32 dX6_cut_35 dX6_cut_36 dX6_cut_38 dX6_cut_41 ⟨by decide, by decide⟩
    · exact absurd (h_11.symm.trans zf1) (by decide)

set_option maxRecDepth 20000 in
set_option maxHeartbeats 4000000 in
theorem K_X6_deepen_0 {w : Wd} {A : St} (hD : DR w 3 A) (hA : AOK A) (k : Int32) (hf : inR k (kN A) = false) (j : Int32)  : CXF yX6_deepen cX6_deepen 3 (some .int) 6 90 [.ref 0, .int k, .int j] w "java/lang/IndexOutOfBoundsException" := by
  have zq_n := hA.n12
  have zf0 : inR k (kN A) = false := hf
  refine CXF.of ok_X6_deepen (by decide +kernel) (Nat.le_of_ble_eq_true rfl) (fun ex us G9 p9 l9 e9 s9 m9 ar9 be9 me9 co9 C hl9 ht9 => ?_)
  refine a_aload_n C dX6_deepen_0 rfl rfl ?_
  refine a_iload_n C dX6_deepen_1 rfl rfl ?_
  refine p_callV C (K_X6_isKey hD hA _) vX6_83 rfl (by first | decide | omega) rfl rfl dX6_deepen_2 (Nat.le_of_ble_eq_true rfl) ⟨by decide, by decide⟩ ?_
  refine b_if_eq (tgt := 15) C dX6_deepen_5 (by decide) (fun h_5 => ?_) (fun h_5 => ?_)
  · exact f_throwS (text := "no such key or notch") C hl9 ht9 xIOB (by decide) dX6_deepen_15 dX6_deepen_18 dX6_deepen_19 dX6_deepen_21 dX6_deepen_24 ⟨by decide, by decide⟩
  · exact absurd (h_5.symm.trans zf0) (by decide)

set_option maxRecDepth 20000 in
set_option maxHeartbeats 4000000 in
theorem K_X6_deepen_1 {w : Wd} {A : St} (hD : DR w 3 A) (hA : AOK A) {k : Nat} (hk : k < (kN A)) (j : Int32) (hf : inR j 4 = false)  : CXF yX6_deepen cX6_deepen 3 (some .int) 6 90 [.ref 0, .int (nI k), .int j] w "java/lang/IndexOutOfBoundsException" := by
  have zq_n := hA.n12
  have zf0 : inR (nI k) (kN A) = true := ((inR_nI (by omega)).trans (decide_eq_true (by omega)))
  have zf1 : inR j 4 = false := hf
  refine CXF.of ok_X6_deepen (by decide +kernel) (Nat.le_of_ble_eq_true rfl) (fun ex us G9 p9 l9 e9 s9 m9 ar9 be9 me9 co9 C hl9 ht9 => ?_)
  refine a_aload_n C dX6_deepen_0 rfl rfl ?_
  refine a_iload_n C dX6_deepen_1 rfl rfl ?_
  refine p_callV C (K_X6_isKey hD hA _) vX6_83 rfl (by first | decide | omega) rfl rfl dX6_deepen_2 (Nat.le_of_ble_eq_true rfl) ⟨by decide, by decide⟩ ?_
  refine b_if_eq (tgt := 15) C dX6_deepen_5 (by decide) (fun h_5 => ?_) (fun h_5 => ?_)
  · exact absurd (h_5.symm.trans zf0) (by decide)
  · refine a_iload_n C dX6_deepen_8 rfl rfl ?_
    refine p_callS C ((K_X6_isNotch _)).cp sX6_86 rfl dX6_deepen_9 (Nat.le_of_ble_eq_true rfl) ⟨by decide, by decide⟩ ?_
    refine b_if_ne (tgt := 25) C dX6_deepen_12 (by decide) (fun h_12 => ?_) (fun h_12 => ?_)
    · exact absurd (h_12.symm.trans zf1) (by decide)
    · exact f_throwS (text := "no such key or notch") C hl9 ht9 xIOB (by decide) dX6_deepen_15 dX6_deepen_18 dX6_deepen_19 dX6_deepen_21 dX6_deepen_24 ⟨by decide, by decide⟩

set_option maxRecDepth 20000 in
set_option maxHeartbeats 4000000 in
theorem K_X6_deepen_2 {w : Wd} {A : St} (hD : DR w 3 A) (hA : AOK A) {k j : Nat} (hk : k < kN A) (hj : j < 4) (hz : ¬ wndA A k j = 0) : CXF yX6_deepen cX6_deepen 3 (some .int) 6 90 [.ref 0, .int (nI k), .int (nI j)] w "java/lang/IllegalStateException" := by
  have zq_n := hA.n12
  have zf0 : inR (nI k) (kN A) = true := ((inR_nI (by omega)).trans (decide_eq_true (by omega)))
  have zf1 : inR (nI j) 4 = true := ((inR_nI (by omega)).trans (decide_eq_true (by omega)))
  refine CXF.of ok_X6_deepen (by decide +kernel) (Nat.le_of_ble_eq_true rfl) (fun ex us G9 p9 l9 e9 s9 m9 ar9 be9 me9 co9 C hl9 ht9 => ?_)
  refine a_aload_n C dX6_deepen_0 rfl rfl ?_
  refine a_iload_n C dX6_deepen_1 rfl rfl ?_
  refine p_callV C (K_X6_isKey hD hA _) vX6_83 rfl (by first | decide | omega) rfl rfl dX6_deepen_2 (Nat.le_of_ble_eq_true rfl) ⟨by decide, by decide⟩ ?_
  refine b_if_eq (tgt := 15) C dX6_deepen_5 (by decide) (fun h_5 => ?_) (fun h_5 => ?_)
  · exact absurd (h_5.symm.trans zf0) (by decide)
  · refine a_iload_n C dX6_deepen_8 rfl rfl ?_
    refine p_callS C ((K_X6_isNotch _)).cp sX6_86 rfl dX6_deepen_9 (Nat.le_of_ble_eq_true rfl) ⟨by decide, by decide⟩ ?_
    refine b_if_ne (tgt := 25) C dX6_deepen_12 (by decide) (fun h_12 => ?_) (fun h_12 => ?_)
    · refine a_aload_n C dX6_deepen_25 rfl rfl ?_
      refine a_iload_n C dX6_deepen_26 rfl rfl ?_
      refine a_iload_n C dX6_deepen_27 rfl rfl ?_
      refine p_callV C (K_X6_reasonAgainstDeeper hD hA (by first | assumption | decide | omega) (by first | assumption | decide | omega)) vX6_94 rfl (by first | decide | omega) rfl rfl dX6_deepen_28 (Nat.le_of_ble_eq_true rfl) ⟨by decide, by decide⟩ ?_
      refine n_if_eq (tgt := 44) C dX6_deepen_31 (by decide) (wnd_lt A k j)  (fun h_31 => ?_) (fun h_31 => ?_)
      · exact absurd h_31 hz
      · exact f_throwS (text := "this notch can not be cut deeper") C hl9 ht9 xISE (by decide) dX6_deepen_34 dX6_deepen_37 dX6_deepen_38 dX6_deepen_40 dX6_deepen_43 ⟨by decide, by decide⟩
    · exact absurd (h_12.symm.trans zf1) (by decide)

set_option maxRecDepth 20000 in
set_option maxHeartbeats 4000000 in
theorem K_X6_retire_0 {w : Wd} {A : St} (hD : DR w 3 A) (hA : AOK A) (k : Int32) (hf : inR k (kN A) = false)  : CXF yX6_retire cX6_retire 3 (some .int) 6 90 [.ref 0, .int k] w "java/lang/IndexOutOfBoundsException" := by
  have zq_n := hA.n12
  have zf0 : inR k (kN A) = false := hf
  refine CXF.of ok_X6_retire (by decide +kernel) (Nat.le_of_ble_eq_true rfl) (fun ex us G9 p9 l9 e9 s9 m9 ar9 be9 me9 co9 C hl9 ht9 => ?_)
  refine a_pad 1 ?_
  refine a_eq (L' := [some (.ref 0), some (.int k), none]) rfl rfl rfl ?_
  refine a_aload_n C dX6_retire_0 rfl rfl ?_
  refine a_iload_n C dX6_retire_1 rfl rfl ?_
  refine p_callV C (K_X6_isKey hD hA _) vX6_83 rfl (by first | decide | omega) rfl rfl dX6_retire_2 (Nat.le_of_ble_eq_true rfl) ⟨by decide, by decide⟩ ?_
  refine b_if_ne (tgt := 18) C dX6_retire_5 (by decide) (fun h_5 => ?_) (fun h_5 => ?_)
  · exact absurd (h_5.symm.trans zf0) (by decide)
  · exact f_throwS (text := "no such key") C hl9 ht9 xIOB (by decide) dX6_retire_8 dX6_retire_11 dX6_retire_12 dX6_retire_14 dX6_retire_17 ⟨by decide, by decide⟩

set_option maxRecDepth 20000 in
set_option maxHeartbeats 4000000 in
theorem K_X6_give_0 {w : Wd} {A : St} (hD : DR w 3 A) (hA : AOK A) (k : Int32) (hf : inR k (kN A) = false) (q : Int32)  : CXF yX6_give cX6_give 5 (some .int) 6 90 [.ref 0, .int k, .int q] w "java/lang/IndexOutOfBoundsException" := by
  have zq_n := hA.n12
  have zf0 : inR k (kN A) = false := hf
  refine CXF.of ok_X6_give (by decide +kernel) (Nat.le_of_ble_eq_true rfl) (fun ex us G9 p9 l9 e9 s9 m9 ar9 be9 me9 co9 C hl9 ht9 => ?_)
  refine a_pad 2 ?_
  refine a_eq (L' := [some (.ref 0), some (.int k), some (.int q), none, none]) rfl rfl rfl ?_
  refine a_aload_n C dX6_give_0 rfl rfl ?_
  refine a_iload_n C dX6_give_1 rfl rfl ?_
  refine p_callV C (K_X6_isKey hD hA _) vX6_83 rfl (by first | decide | omega) rfl rfl dX6_give_2 (Nat.le_of_ble_eq_true rfl) ⟨by decide, by decide⟩ ?_
  refine b_if_ne (tgt := 18) C dX6_give_5 (by decide) (fun h_5 => ?_) (fun h_5 => ?_)
  · exact absurd (h_5.symm.trans zf0) (by decide)
  · exact f_throwS (text := "no such key") C hl9 ht9 xIOB (by decide) dX6_give_8 dX6_give_11 dX6_give_12 dX6_give_14 dX6_give_17 ⟨by decide, by decide⟩

set_option maxRecDepth 20000 in
set_option maxHeartbeats 4000000 in
theorem K_X6_give_1 {w : Wd} {A : St} (hD : DR w 3 A) (hA : AOK A) {k : Nat} (hk : k < (kN A)) (q : Int32) (hf : inR q 4 = false)  : CXF yX6_give cX6_give 5 (some .int) 6 90 [.ref 0, .int (nI k), .int q] w "java/lang/IllegalArgumentException" := by
  have zq_n := hA.n12
  have zf0 : inR (nI k) (kN A) = true := ((inR_nI (by omega)).trans (decide_eq_true (by omega)))
  have zf1 : inR q 4 = false := hf
  refine CXF.of ok_X6_give (by decide +kernel) (Nat.le_of_ble_eq_true rfl) (fun ex us G9 p9 l9 e9 s9 m9 ar9 be9 me9 co9 C hl9 ht9 => ?_)
  refine a_pad 2 ?_
  refine a_eq (L' := [some (.ref 0), some (.int (nI k)), some (.int q), none, none]) rfl rfl rfl ?_
  refine a_aload_n C dX6_give_0 rfl rfl ?_
  refine a_iload_n C dX6_give_1 rfl rfl ?_
  refine p_callV C (K_X6_isKey hD hA _) vX6_83 rfl (by first | decide | omega) rfl rfl dX6_give_2 (Nat.le_of_ble_eq_true rfl) ⟨by decide, by decide⟩ ?_
  refine b_if_ne (tgt := 18) C dX6_give_5 (by decide) (fun h_5 => ?_) (fun h_5 => ?_)
  · refine a_iload_n C dX6_give_18 rfl rfl ?_
    refine p_callS C ((K_X6_isPerson _)).cp sX6_54 rfl dX6_give_19 (Nat.le_of_ble_eq_true rfl) ⟨by decide, by decide⟩ ?_
    refine b_if_ne (tgt := 35) C dX6_give_22 (by decide) (fun h_22 => ?_) (fun h_22 => ?_)
    · exact absurd (h_22.symm.trans zf1) (by decide)
    · exact f_throwS (text := "owner is out of range") C hl9 ht9 xIAE (by decide) dX6_give_25 dX6_give_28 dX6_give_29 dX6_give_31 dX6_give_34 ⟨by decide, by decide⟩
  · exact absurd (h_5.symm.trans zf0) (by decide)

set_option maxRecDepth 20000 in
set_option maxHeartbeats 4000000 in
theorem K_X6_lose_0 {w : Wd} {A : St} (hD : DR w 3 A) (hA : AOK A) (k : Int32) (hf : inR k (kN A) = false)  : CXF yX6_lose cX6_lose 2 (some .int) 6 90 [.ref 0, .int k] w "java/lang/IndexOutOfBoundsException" := by
  have zq_n := hA.n12
  have zf0 : inR k (kN A) = false := hf
  refine CXF.of ok_X6_lose (by decide +kernel) (Nat.le_of_ble_eq_true rfl) (fun ex us G9 p9 l9 e9 s9 m9 ar9 be9 me9 co9 C hl9 ht9 => ?_)
  refine a_aload_n C dX6_lose_0 rfl rfl ?_
  refine a_iload_n C dX6_lose_1 rfl rfl ?_
  refine p_callV C (K_X6_isKey hD hA _) vX6_83 rfl (by first | decide | omega) rfl rfl dX6_lose_2 (Nat.le_of_ble_eq_true rfl) ⟨by decide, by decide⟩ ?_
  refine b_if_ne (tgt := 18) C dX6_lose_5 (by decide) (fun h_5 => ?_) (fun h_5 => ?_)
  · exact absurd (h_5.symm.trans zf0) (by decide)
  · exact f_throwS (text := "no such key") C hl9 ht9 xIOB (by decide) dX6_lose_8 dX6_lose_11 dX6_lose_12 dX6_lose_14 dX6_lose_17 ⟨by decide, by decide⟩

set_option maxRecDepth 20000 in
set_option maxHeartbeats 4000000 in
theorem K_X6_lose_1 {w : Wd} {A : St} (hD : DR w 3 A) (hA : AOK A) {k : Nat} (hk : k < kN A) (zf1 : lsA A k = true) : CXF yX6_lose cX6_lose 2 (some .int) 6 90 [.ref 0, .int (nI k)] w "java/lang/IllegalStateException" := by
  have zq_n := hA.n12
  have zf0 : inR (nI k) (kN A) = true := ((inR_nI (by omega)).trans (decide_eq_true (by omega)))
  refine CXF.of ok_X6_lose (by decide +kernel) (Nat.le_of_ble_eq_true rfl) (fun ex us G9 p9 l9 e9 s9 m9 ar9 be9 me9 co9 C hl9 ht9 => ?_)
  refine a_aload_n C dX6_lose_0 rfl rfl ?_
  refine a_iload_n C dX6_lose_1 rfl rfl ?_
  refine p_callV C (K_X6_isKey hD hA _) vX6_83 rfl (by first | decide | omega) rfl rfl dX6_lose_2 (Nat.le_of_ble_eq_true rfl) ⟨by decide, by decide⟩ ?_
  refine b_if_ne (tgt := 18) C dX6_lose_5 (by decide) (fun h_5 => ?_) (fun h_5 => ?_)
  · refine a_aload_n C dX6_lose_18 rfl rfl ?_
    refine a_getfF C fX6_19 dX6_lose_19 (tw (by first | decide | omega)) (by first | decide | omega) rfl rfl ?_
    refine a_getfF C fX6_103 dX6_lose_22 (tw (by first | decide | omega)) (by first | decide | omega) rfl rfl ?_
    refine a_iload_n C dX6_lose_25 rfl rfl ?_
    refine a_aaldK C dX6_lose_26 (tw (by first | decide | omega)) (by first | decide | omega) rfl rfl (by first | decide | omega) (by decide) rfl ?_
    refine a_getf C fX6_126 dX6_lose_27 (tw (by first | decide | omega)) (by first | decide | omega) (fz_key (j := 0) (by decide) (by omega)) (gl (DR_kl hD hA (by omega))) ?_
    refine b_if_eq (tgt := 43) C dX6_lose_30 (by decide) (fun h_30 => ?_) (fun h_30 => ?_)
    · exact absurd (h_30.symm.trans zf1) (by decide)
    · exact f_throwS (text := "the key is lost already") C hl9 ht9 xISE (by decide) dX6_lose_33 dX6_lose_36 dX6_lose_37 dX6_lose_39 dX6_lose_42 ⟨by decide, by decide⟩
  · exact absurd (h_5.symm.trans zf0) (by decide)

set_option maxRecDepth 20000 in
set_option maxHeartbeats 4000000 in
theorem K_X6_find_0 {w : Wd} {A : St} (hD : DR w 3 A) (hA : AOK A) (k : Int32) (hf : inR k (kN A) = false)  : CXF yX6_find cX6_find 2 (some .int) 6 90 [.ref 0, .int k] w "java/lang/IndexOutOfBoundsException" := by
  have zq_n := hA.n12
  have zf0 : inR k (kN A) = false := hf
  refine CXF.of ok_X6_find (by decide +kernel) (Nat.le_of_ble_eq_true rfl) (fun ex us G9 p9 l9 e9 s9 m9 ar9 be9 me9 co9 C hl9 ht9 => ?_)
  refine a_aload_n C dX6_find_0 rfl rfl ?_
  refine a_iload_n C dX6_find_1 rfl rfl ?_
  refine p_callV C (K_X6_isKey hD hA _) vX6_83 rfl (by first | decide | omega) rfl rfl dX6_find_2 (Nat.le_of_ble_eq_true rfl) ⟨by decide, by decide⟩ ?_
  refine b_if_ne (tgt := 18) C dX6_find_5 (by decide) (fun h_5 => ?_) (fun h_5 => ?_)
  · exact absurd (h_5.symm.trans zf0) (by decide)
  · exact f_throwS (text := "no such key") C hl9 ht9 xIOB (by decide) dX6_find_8 dX6_find_11 dX6_find_12 dX6_find_14 dX6_find_17 ⟨by decide, by decide⟩

set_option maxRecDepth 20000 in
set_option maxHeartbeats 4000000 in
theorem K_X6_find_1 {w : Wd} {A : St} (hD : DR w 3 A) (hA : AOK A) {k : Nat} (hk : k < kN A) (zf1 : lsA A k = false) : CXF yX6_find cX6_find 2 (some .int) 6 90 [.ref 0, .int (nI k)] w "java/lang/IllegalStateException" := by
  have zq_n := hA.n12
  have zf0 : inR (nI k) (kN A) = true := ((inR_nI (by omega)).trans (decide_eq_true (by omega)))
  refine CXF.of ok_X6_find (by decide +kernel) (Nat.le_of_ble_eq_true rfl) (fun ex us G9 p9 l9 e9 s9 m9 ar9 be9 me9 co9 C hl9 ht9 => ?_)
  refine a_aload_n C dX6_find_0 rfl rfl ?_
  refine a_iload_n C dX6_find_1 rfl rfl ?_
  refine p_callV C (K_X6_isKey hD hA _) vX6_83 rfl (by first | decide | omega) rfl rfl dX6_find_2 (Nat.le_of_ble_eq_true rfl) ⟨by decide, by decide⟩ ?_
  refine b_if_ne (tgt := 18) C dX6_find_5 (by decide) (fun h_5 => ?_) (fun h_5 => ?_)
  · refine a_aload_n C dX6_find_18 rfl rfl ?_
    refine a_getfF C fX6_19 dX6_find_19 (tw (by first | decide | omega)) (by first | decide | omega) rfl rfl ?_
    refine a_getfF C fX6_103 dX6_find_22 (tw (by first | decide | omega)) (by first | decide | omega) rfl rfl ?_
    refine a_iload_n C dX6_find_25 rfl rfl ?_
    refine a_aaldK C dX6_find_26 (tw (by first | decide | omega)) (by first | decide | omega) rfl rfl (by first | decide | omega) (by decide) rfl ?_
    refine a_getf C fX6_126 dX6_find_27 (tw (by first | decide | omega)) (by first | decide | omega) (fz_key (j := 0) (by decide) (by omega)) (gl (DR_kl hD hA (by omega))) ?_
    refine b_if_ne (tgt := 43) C dX6_find_30 (by decide) (fun h_30 => ?_) (fun h_30 => ?_)
    · exact absurd (h_30.symm.trans zf1) (by decide)
    · exact f_throwS (text := "the key is not lost") C hl9 ht9 xISE (by decide) dX6_find_33 dX6_find_36 dX6_find_37 dX6_find_39 dX6_find_42 ⟨by decide, by decide⟩
  · exact absurd (h_5.symm.trans zf0) (by decide)

set_option maxRecDepth 20000 in
set_option maxHeartbeats 4000000 in
theorem K_X6_ward_0 {w : Wd} {A : St} (hD : DR w 3 A) (hA : AOK A) (p : Int32) (hf : inR p 6 = false) (c : Int32)  : CXF yX6_ward cX6_ward 4 (some .int) 6 90 [.ref 0, .int p, .int c] w "java/lang/IndexOutOfBoundsException" := by
  have zq_n := hA.n12
  have zf0 : inR p 6 = false := hf
  refine CXF.of ok_X6_ward (by decide +kernel) (Nat.le_of_ble_eq_true rfl) (fun ex us G9 p9 l9 e9 s9 m9 ar9 be9 me9 co9 C hl9 ht9 => ?_)
  refine a_pad 1 ?_
  refine a_eq (L' := [some (.ref 0), some (.int p), some (.int c), none]) rfl rfl rfl ?_
  refine a_iload_n C dX6_ward_0 rfl rfl ?_
  refine p_callS C ((K_X6_isPlace _)).cp sX6_142 rfl dX6_ward_1 (Nat.le_of_ble_eq_true rfl) ⟨by decide, by decide⟩ ?_
  refine b_if_ne (tgt := 17) C dX6_ward_4 (by decide) (fun h_4 => ?_) (fun h_4 => ?_)
  · exact absurd (h_4.symm.trans zf0) (by decide)
  · exact f_throwS (text := "no such place") C hl9 ht9 xIOB (by decide) dX6_ward_7 dX6_ward_10 dX6_ward_11 dX6_ward_13 dX6_ward_16 ⟨by decide, by decide⟩

set_option maxRecDepth 20000 in
set_option maxHeartbeats 4000000 in
theorem K_X6_ward_1 {w : Wd} {A : St} (hD : DR w 3 A) (hA : AOK A) {p : Nat} (hp : p < 6) (c : Int32) (hf : inR c 81 = false)  : CXF yX6_ward cX6_ward 4 (some .int) 6 90 [.ref 0, .int (nI p), .int c] w "java/lang/IllegalArgumentException" := by
  have zq_n := hA.n12
  have zf0 : inR (nI p) 6 = true := ((inR_nI (by omega)).trans (decide_eq_true (by omega)))
  have zf1 : inR c 81 = false := hf
  refine CXF.of ok_X6_ward (by decide +kernel) (Nat.le_of_ble_eq_true rfl) (fun ex us G9 p9 l9 e9 s9 m9 ar9 be9 me9 co9 C hl9 ht9 => ?_)
  refine a_pad 1 ?_
  refine a_eq (L' := [some (.ref 0), some (.int (nI p)), some (.int c), none]) rfl rfl rfl ?_
  refine a_iload_n C dX6_ward_0 rfl rfl ?_
  refine p_callS C ((K_X6_isPlace _)).cp sX6_142 rfl dX6_ward_1 (Nat.le_of_ble_eq_true rfl) ⟨by decide, by decide⟩ ?_
  refine b_if_ne (tgt := 17) C dX6_ward_4 (by decide) (fun h_4 => ?_) (fun h_4 => ?_)
  · refine a_iload_n C dX6_ward_17 rfl rfl ?_
    refine p_callS C ((K_X6_isCode _)).cp sX6_50 rfl dX6_ward_18 (Nat.le_of_ble_eq_true rfl) ⟨by decide, by decide⟩ ?_
    refine b_if_ne (tgt := 34) C dX6_ward_21 (by decide) (fun h_21 => ?_) (fun h_21 => ?_)
    · exact absurd (h_21.symm.trans zf1) (by decide)
    · exact f_throwS (text := "code is out of range") C hl9 ht9 xIAE (by decide) dX6_ward_24 dX6_ward_27 dX6_ward_28 dX6_ward_30 dX6_ward_33 ⟨by decide, by decide⟩
  · exact absurd (h_4.symm.trans zf0) (by decide)

set_option maxRecDepth 20000 in
set_option maxHeartbeats 4000000 in
theorem K_X6_guest_0 {w : Wd} {A : St} (hD : DR w 3 A) (hA : AOK A) (p : Int32) (hf : inR p 6 = false) (x : Int32)  : CXF yX6_guest cX6_guest 4 (some .int) 6 90 [.ref 0, .int p, .int x] w "java/lang/IndexOutOfBoundsException" := by
  have zq_n := hA.n12
  have zf0 : inR p 6 = false := hf
  refine CXF.of ok_X6_guest (by decide +kernel) (Nat.le_of_ble_eq_true rfl) (fun ex us G9 p9 l9 e9 s9 m9 ar9 be9 me9 co9 C hl9 ht9 => ?_)
  refine a_pad 1 ?_
  refine a_eq (L' := [some (.ref 0), some (.int p), some (.int x), none]) rfl rfl rfl ?_
  refine a_iload_n C dX6_guest_0 rfl rfl ?_
  refine p_callS C ((K_X6_isPlace _)).cp sX6_142 rfl dX6_guest_1 (Nat.le_of_ble_eq_true rfl) ⟨by decide, by decide⟩ ?_
  refine b_if_ne (tgt := 17) C dX6_guest_4 (by decide) (fun h_4 => ?_) (fun h_4 => ?_)
  · exact absurd (h_4.symm.trans zf0) (by decide)
  · exact f_throwS (text := "no such place") C hl9 ht9 xIOB (by decide) dX6_guest_7 dX6_guest_10 dX6_guest_11 dX6_guest_13 dX6_guest_16 ⟨by decide, by decide⟩

set_option maxRecDepth 20000 in
set_option maxHeartbeats 4000000 in
theorem K_X6_guest_1 {w : Wd} {A : St} (hD : DR w 3 A) (hA : AOK A) {p : Nat} (hp : p < 6) (x : Int32) (hx : ¬ x = -1) (zf1 : inR x 81 = false) : CXF yX6_guest cX6_guest 4 (some .int) 6 90 [.ref 0, .int (nI p), .int x] w "java/lang/IllegalArgumentException" := by
  have zq_n := hA.n12
  have zf0 : inR (nI p) 6 = true := ((inR_nI (by omega)).trans (decide_eq_true (by omega)))
  refine CXF.of ok_X6_guest (by decide +kernel) (Nat.le_of_ble_eq_true rfl) (fun ex us G9 p9 l9 e9 s9 m9 ar9 be9 me9 co9 C hl9 ht9 => ?_)
  refine a_pad 1 ?_
  refine a_eq (L' := [some (.ref 0), some (.int (nI p)), some (.int x), none]) rfl rfl rfl ?_
  refine a_iload_n C dX6_guest_0 rfl rfl ?_
  refine p_callS C ((K_X6_isPlace _)).cp sX6_142 rfl dX6_guest_1 (Nat.le_of_ble_eq_true rfl) ⟨by decide, by decide⟩ ?_
  refine b_if_ne (tgt := 17) C dX6_guest_4 (by decide) (fun h_4 => ?_) (fun h_4 => ?_)
  · refine a_iload_n C dX6_guest_17 rfl rfl ?_
    refine a_iconst (v := (-1)) C dX6_guest_18 (by decide) ?_
    refine a_icmp_eq (tgt := 39) C dX6_guest_19 (by decide) (fun h_19 => ?_) (fun h_19 => ?_)
    · exact absurd h_19 hx
    · refine a_iload_n C dX6_guest_22 rfl rfl ?_
      refine p_callS C ((K_X6_isCode _)).cp sX6_50 rfl dX6_guest_23 (Nat.le_of_ble_eq_true rfl) ⟨by decide, by decide⟩ ?_
      refine b_if_ne (tgt := 39) C dX6_guest_26 (by decide) (fun h_26 => ?_) (fun h_26 => ?_)
      · exact absurd (h_26.symm.trans zf1) (by decide)
      · exact f_throwS (text := "code is out of range") C hl9 ht9 xIAE (by decide) dX6_guest_29 dX6_guest_32 dX6_guest_33 dX6_guest_35 dX6_guest_38 ⟨by decide, by decide⟩
  · exact absurd (h_4.symm.trans zf0) (by decide)

set_option maxRecDepth 20000 in
set_option maxHeartbeats 4000000 in
theorem K_X6_guest_2 {w : Wd} {A : St} (hD : DR w 3 A) (hA : AOK A) {p : Nat} (hp : p < 6) (x : Int32) (hx : x = -1 ∨ inR x 81 = true) (zf2 : wdA A p = false) : CXF yX6_guest cX6_guest 4 (some .int) 6 90 [.ref 0, .int (nI p), .int x] w "java/lang/IllegalStateException" := by
  have zq_n := hA.n12
  have zf0 : inR (nI p) 6 = true := ((inR_nI (by omega)).trans (decide_eq_true (by omega)))
  refine CXF.of ok_X6_guest (by decide +kernel) (Nat.le_of_ble_eq_true rfl) (fun ex us G9 p9 l9 e9 s9 m9 ar9 be9 me9 co9 C hl9 ht9 => ?_)
  refine a_pad 1 ?_
  refine a_eq (L' := [some (.ref 0), some (.int (nI p)), some (.int x), none]) rfl rfl rfl ?_
  refine a_iload_n C dX6_guest_0 rfl rfl ?_
  refine p_callS C ((K_X6_isPlace _)).cp sX6_142 rfl dX6_guest_1 (Nat.le_of_ble_eq_true rfl) ⟨by decide, by decide⟩ ?_
  refine b_if_ne (tgt := 17) C dX6_guest_4 (by decide) (fun h_4 => ?_) (fun h_4 => ?_)
  · refine a_iload_n C dX6_guest_17 rfl rfl ?_
    refine a_iconst (v := (-1)) C dX6_guest_18 (by decide) ?_
    refine a_icmp_eq (tgt := 39) C dX6_guest_19 (by decide) (fun h_19 => ?_) (fun h_19 => ?_)
    · refine a_aload_n C dX6_guest_39 rfl rfl ?_
      refine a_iload_n C dX6_guest_40 rfl rfl ?_
      refine p_callV C (K_X6_isLock hD hA (by first | assumption | decide | omega)) vX6_158 rfl (by first | decide | omega) rfl rfl dX6_guest_41 (Nat.le_of_ble_eq_true rfl) ⟨by decide, by decide⟩ ?_
      refine b_if_ne (tgt := 57) C dX6_guest_44 (by decide) (fun h_44 => ?_) (fun h_44 => ?_)
      · exact absurd (h_44.symm.trans zf2) (by decide)
      · exact f_throwS (text := "there is no lock") C hl9 ht9 xISE (by decide) dX6_guest_47 dX6_guest_50 dX6_guest_51 dX6_guest_53 dX6_guest_56 ⟨by decide, by decide⟩
    · refine a_iload_n C dX6_guest_22 rfl rfl ?_
      refine p_callS C ((K_X6_isCode _)).cp sX6_50 rfl dX6_guest_23 (Nat.le_of_ble_eq_true rfl) ⟨by decide, by decide⟩ ?_
      refine b_if_ne (tgt := 39) C dX6_guest_26 (by decide) (fun h_26 => ?_) (fun h_26 => ?_)
      · refine a_aload_n C dX6_guest_39 rfl rfl ?_
        refine a_iload_n C dX6_guest_40 rfl rfl ?_
        refine p_callV C (K_X6_isLock hD hA (by first | assumption | decide | omega)) vX6_158 rfl (by first | decide | omega) rfl rfl dX6_guest_41 (Nat.le_of_ble_eq_true rfl) ⟨by decide, by decide⟩ ?_
        refine b_if_ne (tgt := 57) C dX6_guest_44 (by decide) (fun h_44 => ?_) (fun h_44 => ?_)
        · exact absurd (h_44.symm.trans zf2) (by decide)
        · exact f_throwS (text := "there is no lock") C hl9 ht9 xISE (by decide) dX6_guest_47 dX6_guest_50 dX6_guest_51 dX6_guest_53 dX6_guest_56 ⟨by decide, by decide⟩
      · exact absurd (h_26.symm.trans (hx.resolve_left h_19)) (by decide)
  · exact absurd (h_4.symm.trans zf0) (by decide)

set_option maxRecDepth 20000 in
set_option maxHeartbeats 4000000 in
theorem K_X6_take_0 {w : Wd} {A : St} (hD : DR w 3 A) (hA : AOK A) (p : Int32) (hf : inR p 6 = false)  : CXF yX6_take cX6_take 3 (some .int) 6 90 [.ref 0, .int p] w "java/lang/IndexOutOfBoundsException" := by
  have zq_n := hA.n12
  have zf0 : inR p 6 = false := hf
  refine CXF.of ok_X6_take (by decide +kernel) (Nat.le_of_ble_eq_true rfl) (fun ex us G9 p9 l9 e9 s9 m9 ar9 be9 me9 co9 C hl9 ht9 => ?_)
  refine a_pad 1 ?_
  refine a_eq (L' := [some (.ref 0), some (.int p), none]) rfl rfl rfl ?_
  refine a_iload_n C dX6_take_0 rfl rfl ?_
  refine p_callS C ((K_X6_isPlace _)).cp sX6_142 rfl dX6_take_1 (Nat.le_of_ble_eq_true rfl) ⟨by decide, by decide⟩ ?_
  refine b_if_ne (tgt := 17) C dX6_take_4 (by decide) (fun h_4 => ?_) (fun h_4 => ?_)
  · exact absurd (h_4.symm.trans zf0) (by decide)
  · exact f_throwS (text := "no such place") C hl9 ht9 xIOB (by decide) dX6_take_7 dX6_take_10 dX6_take_11 dX6_take_13 dX6_take_16 ⟨by decide, by decide⟩

set_option maxRecDepth 20000 in
set_option maxHeartbeats 4000000 in
theorem K_X6_take_1 {w : Wd} {A : St} (hD : DR w 3 A) (hA : AOK A) {p : Nat} (hp : p < 6) (zf1 : wdA A p = false) : CXF yX6_take cX6_take 3 (some .int) 6 90 [.ref 0, .int (nI p)] w "java/lang/IllegalStateException" := by
  have zq_n := hA.n12
  have zf0 : inR (nI p) 6 = true := ((inR_nI (by omega)).trans (decide_eq_true (by omega)))
  refine CXF.of ok_X6_take (by decide +kernel) (Nat.le_of_ble_eq_true rfl) (fun ex us G9 p9 l9 e9 s9 m9 ar9 be9 me9 co9 C hl9 ht9 => ?_)
  refine a_pad 1 ?_
  refine a_eq (L' := [some (.ref 0), some (.int (nI p)), none]) rfl rfl rfl ?_
  refine a_iload_n C dX6_take_0 rfl rfl ?_
  refine p_callS C ((K_X6_isPlace _)).cp sX6_142 rfl dX6_take_1 (Nat.le_of_ble_eq_true rfl) ⟨by decide, by decide⟩ ?_
  refine b_if_ne (tgt := 17) C dX6_take_4 (by decide) (fun h_4 => ?_) (fun h_4 => ?_)
  · refine a_aload_n C dX6_take_17 rfl rfl ?_
    refine a_iload_n C dX6_take_18 rfl rfl ?_
    refine p_callV C (K_X6_isLock hD hA (by first | assumption | decide | omega)) vX6_158 rfl (by first | decide | omega) rfl rfl dX6_take_19 (Nat.le_of_ble_eq_true rfl) ⟨by decide, by decide⟩ ?_
    refine b_if_ne (tgt := 35) C dX6_take_22 (by decide) (fun h_22 => ?_) (fun h_22 => ?_)
    · exact absurd (h_22.symm.trans zf1) (by decide)
    · exact f_throwS (text := "there is no lock") C hl9 ht9 xISE (by decide) dX6_take_25 dX6_take_28 dX6_take_29 dX6_take_31 dX6_take_34 ⟨by decide, by decide⟩
  · exact absurd (h_4.symm.trans zf0) (by decide)

set_option maxRecDepth 20000 in
set_option maxHeartbeats 4000000 in
theorem K_X6_turn_0 {w : Wd} {A : St} (hD : DR w 3 A) (hA : AOK A) (k : Int32) (hf : inR k (kN A) = false) (p : Int32)  : CXF yX6_turn cX6_turn 3 (some .int) 6 90 [.ref 0, .int k, .int p] w "java/lang/IndexOutOfBoundsException" := by
  have zq_n := hA.n12
  have zf0 : inR k (kN A) = false := hf
  refine CXF.of ok_X6_turn (by decide +kernel) (Nat.le_of_ble_eq_true rfl) (fun ex us G9 p9 l9 e9 s9 m9 ar9 be9 me9 co9 C hl9 ht9 => ?_)
  refine a_aload_n C dX6_turn_0 rfl rfl ?_
  refine a_iload_n C dX6_turn_1 rfl rfl ?_
  refine p_callV C (K_X6_isKey hD hA _) vX6_83 rfl (by first | decide | omega) rfl rfl dX6_turn_2 (Nat.le_of_ble_eq_true rfl) ⟨by decide, by decide⟩ ?_
  refine b_if_eq (tgt := 15) C dX6_turn_5 (by decide) (fun h_5 => ?_) (fun h_5 => ?_)
  · exact f_throwS (text := "no such key or place") C hl9 ht9 xIOB (by decide) dX6_turn_15 dX6_turn_18 dX6_turn_19 dX6_turn_21 dX6_turn_24 ⟨by decide, by decide⟩
  · exact absurd (h_5.symm.trans zf0) (by decide)

set_option maxRecDepth 20000 in
set_option maxHeartbeats 4000000 in
theorem K_X6_turn_1 {w : Wd} {A : St} (hD : DR w 3 A) (hA : AOK A) {k : Nat} (hk : k < (kN A)) (p : Int32) (hf : inR p 6 = false)  : CXF yX6_turn cX6_turn 3 (some .int) 6 90 [.ref 0, .int (nI k), .int p] w "java/lang/IndexOutOfBoundsException" := by
  have zq_n := hA.n12
  have zf0 : inR (nI k) (kN A) = true := ((inR_nI (by omega)).trans (decide_eq_true (by omega)))
  have zf1 : inR p 6 = false := hf
  refine CXF.of ok_X6_turn (by decide +kernel) (Nat.le_of_ble_eq_true rfl) (fun ex us G9 p9 l9 e9 s9 m9 ar9 be9 me9 co9 C hl9 ht9 => ?_)
  refine a_aload_n C dX6_turn_0 rfl rfl ?_
  refine a_iload_n C dX6_turn_1 rfl rfl ?_
  refine p_callV C (K_X6_isKey hD hA _) vX6_83 rfl (by first | decide | omega) rfl rfl dX6_turn_2 (Nat.le_of_ble_eq_true rfl) ⟨by decide, by decide⟩ ?_
  refine b_if_eq (tgt := 15) C dX6_turn_5 (by decide) (fun h_5 => ?_) (fun h_5 => ?_)
  · exact absurd (h_5.symm.trans zf0) (by decide)
  · refine a_iload_n C dX6_turn_8 rfl rfl ?_
    refine p_callS C ((K_X6_isPlace _)).cp sX6_142 rfl dX6_turn_9 (Nat.le_of_ble_eq_true rfl) ⟨by decide, by decide⟩ ?_
    refine b_if_ne (tgt := 25) C dX6_turn_12 (by decide) (fun h_12 => ?_) (fun h_12 => ?_)
    · exact absurd (h_12.symm.trans zf1) (by decide)
    · exact f_throwS (text := "no such key or place") C hl9 ht9 xIOB (by decide) dX6_turn_15 dX6_turn_18 dX6_turn_19 dX6_turn_21 dX6_turn_24 ⟨by decide, by decide⟩

set_option maxRecDepth 20000 in
set_option maxHeartbeats 4000000 in
theorem K_X6_turn_2 {w : Wd} {A : St} (hD : DR w 3 A) (hA : AOK A) {k p : Nat} (hk : k < kN A) (hp : p < 6) (zf2 : lsA A k = true) : CXF yX6_turn cX6_turn 3 (some .int) 6 90 [.ref 0, .int (nI k), .int (nI p)] w "java/lang/IllegalStateException" := by
  have zq_n := hA.n12
  have zf0 : inR (nI k) (kN A) = true := ((inR_nI (by omega)).trans (decide_eq_true (by omega)))
  have zf1 : inR (nI p) 6 = true := ((inR_nI (by omega)).trans (decide_eq_true (by omega)))
  refine CXF.of ok_X6_turn (by decide +kernel) (Nat.le_of_ble_eq_true rfl) (fun ex us G9 p9 l9 e9 s9 m9 ar9 be9 me9 co9 C hl9 ht9 => ?_)
  refine a_aload_n C dX6_turn_0 rfl rfl ?_
  refine a_iload_n C dX6_turn_1 rfl rfl ?_
  refine p_callV C (K_X6_isKey hD hA _) vX6_83 rfl (by first | decide | omega) rfl rfl dX6_turn_2 (Nat.le_of_ble_eq_true rfl) ⟨by decide, by decide⟩ ?_
  refine b_if_eq (tgt := 15) C dX6_turn_5 (by decide) (fun h_5 => ?_) (fun h_5 => ?_)
  · exact absurd (h_5.symm.trans zf0) (by decide)
  · refine a_iload_n C dX6_turn_8 rfl rfl ?_
    refine p_callS C ((K_X6_isPlace _)).cp sX6_142 rfl dX6_turn_9 (Nat.le_of_ble_eq_true rfl) ⟨by decide, by decide⟩ ?_
    refine b_if_ne (tgt := 25) C dX6_turn_12 (by decide) (fun h_12 => ?_) (fun h_12 => ?_)
    · refine a_aload_n C dX6_turn_25 rfl rfl ?_
      refine a_getfF C fX6_19 dX6_turn_26 (tw (by first | decide | omega)) (by first | decide | omega) rfl rfl ?_
      refine a_getfF C fX6_103 dX6_turn_29 (tw (by first | decide | omega)) (by first | decide | omega) rfl rfl ?_
      refine a_iload_n C dX6_turn_32 rfl rfl ?_
      refine a_aaldK C dX6_turn_33 (tw (by first | decide | omega)) (by first | decide | omega) rfl rfl (by first | decide | omega) (by decide) rfl ?_
      refine a_getf C fX6_126 dX6_turn_34 (tw (by first | decide | omega)) (by first | decide | omega) (fz_key (j := 0) (by decide) (by omega)) (gl (DR_kl hD hA (by omega))) ?_
      refine b_if_ne (tgt := 48) C dX6_turn_37 (by decide) (fun h_37 => ?_) (fun h_37 => ?_)
      · exact f_throwS (text := "the key is lost, or there is no lock") C hl9 ht9 xISE (by decide) dX6_turn_48 dX6_turn_51 dX6_turn_52 dX6_turn_54 dX6_turn_57 ⟨by decide, by decide⟩
      · exact absurd (h_37.symm.trans zf2) (by decide)
    · exact absurd (h_12.symm.trans zf1) (by decide)

set_option maxRecDepth 20000 in
set_option maxHeartbeats 4000000 in
theorem K_X6_turn_3 {w : Wd} {A : St} (hD : DR w 3 A) (hA : AOK A) {k p : Nat} (hk : k < kN A) (hp : p < 6) (zf2 : lsA A k = false) (zf3 : wdA A p = false) : CXF yX6_turn cX6_turn 3 (some .int) 6 90 [.ref 0, .int (nI k), .int (nI p)] w "java/lang/IllegalStateException" := by
  have zq_n := hA.n12
  have zf0 : inR (nI k) (kN A) = true := ((inR_nI (by omega)).trans (decide_eq_true (by omega)))
  have zf1 : inR (nI p) 6 = true := ((inR_nI (by omega)).trans (decide_eq_true (by omega)))
  refine CXF.of ok_X6_turn (by decide +kernel) (Nat.le_of_ble_eq_true rfl) (fun ex us G9 p9 l9 e9 s9 m9 ar9 be9 me9 co9 C hl9 ht9 => ?_)
  refine a_aload_n C dX6_turn_0 rfl rfl ?_
  refine a_iload_n C dX6_turn_1 rfl rfl ?_
  refine p_callV C (K_X6_isKey hD hA _) vX6_83 rfl (by first | decide | omega) rfl rfl dX6_turn_2 (Nat.le_of_ble_eq_true rfl) ⟨by decide, by decide⟩ ?_
  refine b_if_eq (tgt := 15) C dX6_turn_5 (by decide) (fun h_5 => ?_) (fun h_5 => ?_)
  · exact absurd (h_5.symm.trans zf0) (by decide)
  · refine a_iload_n C dX6_turn_8 rfl rfl ?_
    refine p_callS C ((K_X6_isPlace _)).cp sX6_142 rfl dX6_turn_9 (Nat.le_of_ble_eq_true rfl) ⟨by decide, by decide⟩ ?_
    refine b_if_ne (tgt := 25) C dX6_turn_12 (by decide) (fun h_12 => ?_) (fun h_12 => ?_)
    · refine a_aload_n C dX6_turn_25 rfl rfl ?_
      refine a_getfF C fX6_19 dX6_turn_26 (tw (by first | decide | omega)) (by first | decide | omega) rfl rfl ?_
      refine a_getfF C fX6_103 dX6_turn_29 (tw (by first | decide | omega)) (by first | decide | omega) rfl rfl ?_
      refine a_iload_n C dX6_turn_32 rfl rfl ?_
      refine a_aaldK C dX6_turn_33 (tw (by first | decide | omega)) (by first | decide | omega) rfl rfl (by first | decide | omega) (by decide) rfl ?_
      refine a_getf C fX6_126 dX6_turn_34 (tw (by first | decide | omega)) (by first | decide | omega) (fz_key (j := 0) (by decide) (by omega)) (gl (DR_kl hD hA (by omega))) ?_
      refine b_if_ne (tgt := 48) C dX6_turn_37 (by decide) (fun h_37 => ?_) (fun h_37 => ?_)
      · exact absurd (h_37.symm.trans zf2) (by decide)
      · refine a_aload_n C dX6_turn_40 rfl rfl ?_
        refine a_iload_n C dX6_turn_41 rfl rfl ?_
        refine p_callV C (K_X6_isLock hD hA (by first | assumption | decide | omega)) vX6_158 rfl (by first | decide | omega) rfl rfl dX6_turn_42 (Nat.le_of_ble_eq_true rfl) ⟨by decide, by decide⟩ ?_
        refine b_if_ne (tgt := 58) C dX6_turn_45 (by decide) (fun h_45 => ?_) (fun h_45 => ?_)
        · exact absurd (h_45.symm.trans zf3) (by decide)
        · exact f_throwS (text := "the key is lost, or there is no lock") C hl9 ht9 xISE (by decide) dX6_turn_48 dX6_turn_51 dX6_turn_52 dX6_turn_54 dX6_turn_57 ⟨by decide, by decide⟩
    · exact absurd (h_12.symm.trans zf1) (by decide)

set_option maxRecDepth 20000 in
set_option maxHeartbeats 4000000 in
theorem K_X6_set_0 {w : Wd} {A : St} (hD : DR w 3 A) (hA : AOK A) (j : Int32) (hf : inR j 4 = false) (y : Int32)  : CXF yX6_set cX6_set 4 (some .int) 6 90 [.ref 0, .int j, .int y] w "java/lang/IndexOutOfBoundsException" := by
  have zq_n := hA.n12
  have zf0 : inR j 4 = false := hf
  refine CXF.of ok_X6_set (by decide +kernel) (Nat.le_of_ble_eq_true rfl) (fun ex us G9 p9 l9 e9 s9 m9 ar9 be9 me9 co9 C hl9 ht9 => ?_)
  refine a_pad 1 ?_
  refine a_eq (L' := [some (.ref 0), some (.int j), some (.int y), none]) rfl rfl rfl ?_
  refine a_iload_n C dX6_set_0 rfl rfl ?_
  refine p_callS C ((K_X6_isSetting _)).cp sX6_180 rfl dX6_set_1 (Nat.le_of_ble_eq_true rfl) ⟨by decide, by decide⟩ ?_
  refine b_if_ne (tgt := 17) C dX6_set_4 (by decide) (fun h_4 => ?_) (fun h_4 => ?_)
  · exact absurd (h_4.symm.trans zf0) (by decide)
  · exact f_throwS (text := "no such setting") C hl9 ht9 xIOB (by decide) dX6_set_7 dX6_set_10 dX6_set_11 dX6_set_13 dX6_set_16 ⟨by decide, by decide⟩

set_option maxRecDepth 20000 in
set_option maxHeartbeats 4000000 in
theorem K_X6_set_1 {w : Wd} {A : St} (hD : DR w 3 A) (hA : AOK A) {j : Nat} (hj : j < 4) (y : Int32) (hf : sbI j y = false) : CXF yX6_set cX6_set 4 (some .int) 6 90 [.ref 0, .int (nI j), .int y] w "java/lang/IllegalArgumentException" := by
  have zq_n := hA.n12
  have zf0 : inR (nI j) 4 = true := ((inR_nI (by omega)).trans (decide_eq_true (by omega)))
  have zq_o : ¬ (nI (loN j) ≤ y ∧ y ≤ nI (hiN j)) := of_decide_eq_false hf
  refine CXF.of ok_X6_set (by decide +kernel) (Nat.le_of_ble_eq_true rfl) (fun ex us G9 p9 l9 e9 s9 m9 ar9 be9 me9 co9 C hl9 ht9 => ?_)
  refine a_pad 1 ?_
  refine a_eq (L' := [some (.ref 0), some (.int (nI j)), some (.int y), none]) rfl rfl rfl ?_
  refine a_iload_n C dX6_set_0 rfl rfl ?_
  refine p_callS C ((K_X6_isSetting _)).cp sX6_180 rfl dX6_set_1 (Nat.le_of_ble_eq_true rfl) ⟨by decide, by decide⟩ ?_
  refine b_if_ne (tgt := 17) C dX6_set_4 (by decide) (fun h_4 => ?_) (fun h_4 => ?_)
  · refine a_iload_n C dX6_set_17 rfl rfl ?_
    refine a_gets1 C gX6_185 dX6_set_18 ?_
    refine a_iload_n C dX6_set_21 rfl rfl ?_
    refine a_sald1 C dX6_set_22 rfl (by first | decide | omega) (sbI_ge hj) ?_
    refine a_icmp_lt (tgt := 35) C dX6_set_23 (by decide) (fun h_23 => ?_) (fun h_23 => ?_)
    · exact f_throwS (text := "value is out of range") C hl9 ht9 xIAE (by decide) dX6_set_35 dX6_set_38 dX6_set_39 dX6_set_41 dX6_set_44 ⟨by decide, by decide⟩
    · refine a_iload_n C dX6_set_26 rfl rfl ?_
      refine a_gets2 C gX6_189 dX6_set_27 ?_
      refine a_iload_n C dX6_set_30 rfl rfl ?_
      refine a_sald2 C dX6_set_31 rfl (by first | decide | omega) (sbI_le hj) ?_
      refine a_icmp_le (tgt := 45) C dX6_set_32 (by decide) (fun h_32 => ?_) (fun h_32 => ?_)
      · exact absurd ⟨Int32.not_lt.mp h_23, h_32⟩ zq_o
      · exact f_throwS (text := "value is out of range") C hl9 ht9 xIAE (by decide) dX6_set_35 dX6_set_38 dX6_set_39 dX6_set_41 dX6_set_44 ⟨by decide, by decide⟩
  · exact absurd (h_4.symm.trans zf0) (by decide)

set_option maxRecDepth 20000 in
set_option maxHeartbeats 4000000 in
theorem K_X6_undo_0 {w : Wd} {sv : Nat} (hv : w.1 0 8 = nI sv) (hs : sv ≤ 6) (hz : sv = 0) : CXF yX6_undo cX6_undo 1 (some .int) 6 90 [.ref 0] w "java/lang/IllegalStateException" := by
  skip
  refine CXF.of ok_X6_undo (by decide +kernel) (Nat.le_of_ble_eq_true rfl) (fun ex us G9 p9 l9 e9 s9 m9 ar9 be9 me9 co9 C hl9 ht9 => ?_)
  refine a_aload_n C dX6_undo_0 rfl rfl ?_
  refine a_getf C fX6_235 dX6_undo_1 (tw (by first | decide | omega)) (by first | decide | omega) rfl (gl hv) ?_
  refine n_if_gt (tgt := 17) C dX6_undo_4 (by decide) (by first | decide | omega)  (fun h_4 => ?_) (fun h_4 => ?_)
  · exfalso; omega
  · exact f_throwS (text := "there is no saved state") C hl9 ht9 xISE (by decide) dX6_undo_7 dX6_undo_10 dX6_undo_11 dX6_undo_13 dX6_undo_16 ⟨by decide, by decide⟩

end A25

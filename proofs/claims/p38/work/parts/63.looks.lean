section A63
theorem tl_no {A : St} {p j : Nat} (h : wdA A p = false) : tlA A p j = -1 := by simp [tlA, h]
theorem tl_0 {A : St} {p : Nat} (h : wdA A p = true) : tlA A p 0 = A (16 + 4 * p + 0) := by simp [tlA, h]
theorem tl_1 {A : St} {p : Nat} (h : wdA A p = true) : tlA A p 1 = A (16 + 4 * p + 1) := by simp [tlA, h]
theorem tl_2 {A : St} {p : Nat} (h : wdA A p = true) : tlA A p 2 = nI (mskN (kyP A p) (kN A)) := by simp [tlA, h, kysA]
theorem tl_3 {A : St} {p : Nat} (h : wdA A p = true) : tlA A p 3 = A (16 + 4 * p + 2) := by simp [tlA, h]
theorem tl_4 {A : St} {p : Nat} (h : wdA A p = true) : tlA A p 4 = A (16 + 4 * p + 3) := by simp [tlA, h]
theorem tl_5 {A : St} {p : Nat} (h : wdA A p = true) : tlA A p 5 = nI (orN (whV A p) (kN A)) := by simp [tlA, h, whoA]
theorem lie4 {c d : Nat} : (lieN c d = 4 → und c d = true) ∧ (¬ lieN c d = 4 → und c d = false) := by
  unfold lieN
  by_cases e : c = d
  · subst e
    simp [und_irr]
  · rw [if_neg e]
    cases und c d <;> simp
    split <;> omega
theorem l5_all : (List.range 81).all (fun c => (List.range 81).all fun d => decide (lieN c d = 5) == und d c) = true := by decide +kernel
theorem lie5 {c d : Nat} (hc : c < 81) (hd : d < 81) : (lieN c d = 5 → und d c = true) ∧ (¬ lieN c d = 5 → und d c = false) := by
  have z := eq_of_beq (all81b (P := fun c d => decide (lieN c d = 5) == und d c) l5_all hc hd)
  exact ⟨fun h => by rw [← z]; exact decide_eq_true h, fun h => by rw [← z]; exact decide_eq_false h⟩
theorem dq_all : (List.range 82).all (fun a => (List.range 81).all fun b => decide (Op.cmpValue (FP.dcmp (FP.ddiv (FP.i2d (nI a)) (FP.i2d (nI (b + 1)))) (FP.ddiv (FP.i2d (nI a)) (FP.i2d (nI (b + 1))))) .l = 0)) = true := by decide +kernel
theorem dq_0 (A : St) : Op.cmpValue (FP.dcmp (FP.ddiv (FP.i2d (nI (cdsA A true))) (FP.i2d (nI (cdsA A false)))) (FP.ddiv (FP.i2d (nI (cdsA A true))) (FP.i2d (nI (cdsA A false))))) .l = 0 := by
  have h1 : cdsA A true ≤ 81 := cntN_le _ 81
  have h2 : cdsA A false ≤ 81 := cntN_le _ 81
  have h3 : 1 ≤ cdsA A false := cntN_one (j := 0) (sd0 A) 81 (by decide)
  have z := of_decide_eq_true (List.all_eq_true.mp (List.all_eq_true.mp dq_all (cdsA A true) (List.mem_range.mpr (by omega))) (cdsA A false - 1) (List.mem_range.mpr (by omega)))
  rwa [show cdsA A false - 1 + 1 = cdsA A false by omega] at z
theorem tn_c {A : St} {e : Nat} (h1 : 1 ≤ e) (h2 : e < 6) : tnA A 0 (3 + e) = A e := by
  match e, h1, h2 with
  | 1, _, _ => rfl
  | 2, _, _ => rfl
  | 3, _, _ => rfl
  | 4, _, _ => rfl
  | 5, _, _ => rfl
  | k + 6, _, h => exact absurd h (by omega)
set_option maxRecDepth 20000 in
set_option maxHeartbeats 4000000 in
theorem K_L_isPerson {w : Wd} {A : St} (hD : DR w 3 A) (hL : LR w A) (hA : AOK A) {p : Nat} (hp : p < 4) : CL yL_isPerson cL_isPerson 8 (some .boolean) 8 136 [.ref 0, .int (nI p), .ref 204, .ref 205, .ref 206] w (0) (0) (fun r w' => r = some (.int (nI 1)) ∧ w' = w) := by
  have zq_n := hA.n12
  have zq_10 := hL.2
  refine CL.of ok_L_isPerson (Nat.le_of_ble_eq_true rfl) (fun ex us G9 p9 l9 e9 s9 m9 ar9 be9 me9 co9 C hfl hr => ?_)
  have ZL9 : ∀ (zd9 : Nat) (k : Nat), kN A + 1 ≤ k + zd9 → k ≤ kN A → WA G9 p9 l9 e9 (RL9 8 136 (0) (0)) s9 m9 ar9 be9 me9 co9 (QL G9 be9 ar9 s9 w ex us (0) (0) (fun r w' => r = some (.int (nI 1)) ∧ w' = w)) 8 (207 + ex.1 + ex.2) us 9 [some (.ref 0), some (.int (nI p)), some (.ref 204), some (.ref 205), some (.ref 206), some (.int (nI (mskN (pkP A p) k))), some (.int (nI (orN (plV A p) k))), some (.int (nI k))] [] (fzM w ex us) := by
    intro zd9
    induction zd9 with
    | zero => intro k zm9 zh9_0; exfalso; omega
    | succ zd9 zih9 =>
      intro k zm9 zh9_0
      refine a_iload C dL_isPerson_9 rfl ?_
      refine a_aload_n C dL_isPerson_11 rfl rfl ?_
      refine a_iconst (v := nI 0) C dL_isPerson_12 (by decide) ?_
      refine n_iald C dL_isPerson_13 (tw (by first | decide | omega)) (by first | decide | omega) rfl rfl (by first | decide | omega) (by decide) (LR_n hL hA) ?_
      first | refine n_icmp_ge (tgt := 95) C dL_isPerson_14 (by decide) (by first | decide | omega) (by first | decide | omega) (fun h_14 => ?_) (fun h_14 => ?_) | refine a_icmp_ge (tgt := 95) C dL_isPerson_14 (by decide) (fun h_14 => ?_) (fun h_14 => ?_)
      · obtain rfl : k = kN A := by omega
        refine a_aload_n C dL_isPerson_95 rfl rfl ?_
        refine a_iload_n C dL_isPerson_96 rfl rfl ?_
        refine a_iconst (v := nI 0) C dL_isPerson_97 (by decide) ?_
        refine l0_callSW C hfl _ (HA_person hD hA (by first | assumption | decide | omega) (by first | assumption | decide | omega)) sW_126 dL_isPerson_98 rfl (Nat.le_of_ble_eq_true rfl) ⟨Nat.le_of_ble_eq_true rfl, Nat.le_of_ble_eq_true rfl⟩ ⟨Nat.le_add_right _ _, Nat.le_add_right _ _⟩ (fun zr98 zw98 zp98 => ?_)
        obtain ⟨rfl, rfl⟩ := zp98
        refine a_iload C dL_isPerson_101 rfl ?_
        refine a_icmp_ne (tgt := 136) C dL_isPerson_103 (by decide) (fun h_103 => ?_) (fun h_103 => ?_)
        · exact absurd rfl h_103
        · refine a_aload_n C dL_isPerson_106 rfl rfl ?_
          refine a_iload_n C dL_isPerson_107 rfl rfl ?_
          refine a_iconst (v := nI 1) C dL_isPerson_108 (by decide) ?_
          refine l0_callSW C hfl _ (HA_person hD hA (by first | assumption | decide | omega) (by first | assumption | decide | omega)) sW_126 dL_isPerson_109 rfl (Nat.le_of_ble_eq_true rfl) ⟨Nat.le_of_ble_eq_true rfl, Nat.le_of_ble_eq_true rfl⟩ ⟨Nat.le_add_right _ _, Nat.le_add_right _ _⟩ (fun zr109 zw109 zp109 => ?_)
          obtain ⟨rfl, rfl⟩ := zp109
          refine a_iload C dL_isPerson_112 rfl ?_
          refine a_icmp_ne (tgt := 136) C dL_isPerson_114 (by decide) (fun h_114 => ?_) (fun h_114 => ?_)
          · exact absurd rfl h_114
          · refine a_aload_n C dL_isPerson_117 rfl rfl ?_
            refine a_iload_n C dL_isPerson_118 rfl rfl ?_
            refine a_iconst (v := nI 2) C dL_isPerson_119 (by decide) ?_
            refine l0_callSW C hfl _ (HA_person hD hA (by first | assumption | decide | omega) (by first | assumption | decide | omega)) sW_126 dL_isPerson_120 rfl (Nat.le_of_ble_eq_true rfl) ⟨Nat.le_of_ble_eq_true rfl, Nat.le_of_ble_eq_true rfl⟩ ⟨Nat.le_add_right _ _, Nat.le_add_right _ _⟩ (fun zr120 zw120 zp120 => ?_)
            obtain ⟨rfl, rfl⟩ := zp120
            refine a_aload_n C dL_isPerson_123 rfl rfl ?_
            refine a_bipush (v := nI 10) C dL_isPerson_124 (by decide) ?_
            refine a_iload_n C dL_isPerson_126 rfl rfl ?_
            first | refine n_iadd C dL_isPerson_127 ?_ | refine a_iadd C dL_isPerson_127 ?_
            refine n_iald C dL_isPerson_128 (tw (by first | decide | omega)) (by first | decide | omega) rfl rfl (by first | decide | omega) (by decide) (LR_p hL (by omega)) ?_
            refine a_icmp_ne (tgt := 136) C dL_isPerson_129 (by decide) (fun h_129 => ?_) (fun h_129 => ?_)
            · exact absurd rfl h_129
            · refine a_iconst (v := nI 1) C dL_isPerson_132 (by decide) ?_
              refine a_goto (tgt := 137) C dL_isPerson_133 (by decide) ?_
              refine l_iret C hr ?_ dL_isPerson_137 ⟨?_, rfl⟩
              · first | exact bI_narrow _ | rfl
              · rfl
      · have zq_c := hA.c81 (k := k) (by omega)
        have zq_o := hA.o4 (k := k) (by omega)
        refine a_iload C dL_isPerson_17 rfl ?_
        refine a_via 40 (nI (if pkP A p k = true then 2 ^ k else 0)) ?_ (fun zJ40 => ?_)
        · first | refine n_ior C dL_isPerson_40 ?_ | refine a_ior C dL_isPerson_40 ?_
          refine a_istore C dL_isPerson_41 (by decide) ?_
          refine a_iload C dL_isPerson_43 rfl ?_
          refine a_via 86 (nI (plV A p k)) ?_ (fun zJ86 => ?_)
          · first | refine n_ior C dL_isPerson_86 ?_ | refine a_ior C dL_isPerson_86 ?_
            refine a_istore C dL_isPerson_87 (by decide) ?_
            refine n_iinc C dL_isPerson_89 rfl (by decide) ?_
            refine a_goto (tgt := 9) C dL_isPerson_92 (by decide) ?_
            refine a_join (aLe_s ?_ (aLe_s ?_ (aLe_s ?_ (aLe_s ?_ (aLe_s ?_ (aLe_s ?_ (aLe_s ?_ (aLe_s ?_ aLe_nil)))))))) rfl rfl (zih9 (k + 1) (by omega) (by omega))
            · first | with_reducible rfl | exact gl (by first | with_reducible rfl | (refine iF ?_; simp [mskN, orN, h_14]; done) | (refine iT ?_; simp [mskN, orN, h_14]; done) | (refine iB ?_; simp [mskN, orN, h_14]; done) | (simp [mskN, orN, h_14]; done) | (simp [mskN, orN, h_14]; omega) | omega)
            · first | with_reducible rfl | exact gl (by first | with_reducible rfl | (refine iF ?_; simp [mskN, orN, h_14]; done) | (refine iT ?_; simp [mskN, orN, h_14]; done) | (refine iB ?_; simp [mskN, orN, h_14]; done) | (simp [mskN, orN, h_14]; done) | (simp [mskN, orN, h_14]; omega) | omega)
            · first | with_reducible rfl | exact gl (by first | with_reducible rfl | (refine iF ?_; simp [mskN, orN, h_14]; done) | (refine iT ?_; simp [mskN, orN, h_14]; done) | (refine iB ?_; simp [mskN, orN, h_14]; done) | (simp [mskN, orN, h_14]; done) | (simp [mskN, orN, h_14]; omega) | omega)
            · first | with_reducible rfl | exact gl (by first | with_reducible rfl | (refine iF ?_; simp [mskN, orN, h_14]; done) | (refine iT ?_; simp [mskN, orN, h_14]; done) | (refine iB ?_; simp [mskN, orN, h_14]; done) | (simp [mskN, orN, h_14]; done) | (simp [mskN, orN, h_14]; omega) | omega)
            · first | with_reducible rfl | exact gl (by first | with_reducible rfl | (refine iF ?_; simp [mskN, orN, h_14]; done) | (refine iT ?_; simp [mskN, orN, h_14]; done) | (refine iB ?_; simp [mskN, orN, h_14]; done) | (simp [mskN, orN, h_14]; done) | (simp [mskN, orN, h_14]; omega) | omega)
            · first | with_reducible rfl | exact gl (by first | with_reducible rfl | (refine iF ?_; simp [mskN, orN, h_14]; done) | (refine iT ?_; simp [mskN, orN, h_14]; done) | (refine iB ?_; simp [mskN, orN, h_14]; done) | (simp [mskN, orN, h_14]; done) | (simp [mskN, orN, h_14]; omega) | omega)
            · first | with_reducible rfl | exact gl (by first | with_reducible rfl | (refine iF ?_; simp [mskN, orN, h_14]; done) | (refine iT ?_; simp [mskN, orN, h_14]; done) | (refine iB ?_; simp [mskN, orN, h_14]; done) | (simp [mskN, orN, h_14]; done) | (simp [mskN, orN, h_14]; omega) | omega)
            · first | with_reducible rfl | exact gl (by first | with_reducible rfl | (refine iF ?_; simp [mskN, orN, h_14]; done) | (refine iT ?_; simp [mskN, orN, h_14]; done) | (refine iB ?_; simp [mskN, orN, h_14]; done) | (simp [mskN, orN, h_14]; done) | (simp [mskN, orN, h_14]; omega) | omega)
          · refine a_aload_n C dL_isPerson_45 rfl rfl ?_
            refine a_bipush (v := nI 6) C dL_isPerson_46 (by decide) ?_
            refine a_iload C dL_isPerson_48 rfl ?_
            first | refine n_imul C dL_isPerson_50 ?_ | refine a_imul C dL_isPerson_50 ?_
            refine a_iconst (v := nI 1) C dL_isPerson_51 (by decide) ?_
            first | refine n_iadd C dL_isPerson_52 ?_ | refine a_iadd C dL_isPerson_52 ?_
            refine n_iald C dL_isPerson_53 (tw (by first | decide | omega)) (by first | decide | omega) rfl rfl (by first | decide | omega) (by decide) (LR_ko hL hA (by omega)) ?_
            refine a_iload_n C dL_isPerson_54 rfl rfl ?_
            refine n_icmp_ne (tgt := 85) C dL_isPerson_55 (by decide) (by first | decide | omega) (by first | decide | omega) (fun h_55 => ?_) (fun h_55 => ?_)
            · refine a_iconst (v := nI 0) C dL_isPerson_85 (by decide) ?_
              refine a_eq rfl (gl1 ?_) rfl zJ86
              · first | (refine congrArg nI (?_ : 0 = plV A p k); simp [plV, pkP, h_55]; done) | (refine congrArg nI (?_ : 0 = plV A p k); simp [plV, pkP, h_55, h_67]; done) | (refine congrArg nI (?_ : lksA A (cN A k) = plV A p k); simp [plV, pkP, h_55, h_67]; done)
            · refine a_aload_n C dL_isPerson_58 rfl rfl ?_
              refine a_bipush (v := nI 6) C dL_isPerson_59 (by decide) ?_
              refine a_iload C dL_isPerson_61 rfl ?_
              first | refine n_imul C dL_isPerson_63 ?_ | refine a_imul C dL_isPerson_63 ?_
              refine a_iconst (v := nI 2) C dL_isPerson_64 (by decide) ?_
              first | refine n_iadd C dL_isPerson_65 ?_ | refine a_iadd C dL_isPerson_65 ?_
              refine n_iald C dL_isPerson_66 (tw (by first | decide | omega)) (by first | decide | omega) rfl rfl (by first | decide | omega) (by decide) (LR_kl hL hA (by omega)) ?_
              first | refine b_if_ne (tgt := 85) C dL_isPerson_67 (by decide) (fun h_67 => ?_) (fun h_67 => ?_) | refine n_if_ne (tgt := 85) C dL_isPerson_67 (by decide) (by first | decide | omega) (fun h_67 => ?_) (fun h_67 => ?_) | refine a_if_ne (tgt := 85) C dL_isPerson_67 (by decide) (fun h_67 => ?_) (fun h_67 => ?_)
              · refine a_iconst (v := nI 0) C dL_isPerson_85 (by decide) ?_
                refine a_eq rfl (gl1 ?_) rfl zJ86
                · first | (refine congrArg nI (?_ : 0 = plV A p k); simp [plV, pkP, h_55]; done) | (refine congrArg nI (?_ : 0 = plV A p k); simp [plV, pkP, h_55, h_67]; done) | (refine congrArg nI (?_ : lksA A (cN A k) = plV A p k); simp [plV, pkP, h_55, h_67]; done)
              · refine a_aload_n C dL_isPerson_70 rfl rfl ?_
                refine a_bipush (v := nI 6) C dL_isPerson_71 (by decide) ?_
                refine a_iload C dL_isPerson_73 rfl ?_
                first | refine n_imul C dL_isPerson_75 ?_ | refine a_imul C dL_isPerson_75 ?_
                refine n_iald C dL_isPerson_76 (tw (by first | decide | omega)) (by first | decide | omega) rfl rfl (by first | decide | omega) (by decide) (LR_kc hL hA (by omega)) ?_
                refine a_aload C dL_isPerson_77 rfl ?_
                refine p_callS C (K_L_locksOf hL hA (by first | assumption | decide | omega)) sL_164 rfl dL_isPerson_79 (Nat.le_of_ble_eq_true rfl) ⟨Nat.le_of_ble_eq_true rfl, Nat.le_of_ble_eq_true rfl⟩ ?_
                refine a_goto (tgt := 86) C dL_isPerson_82 (by decide) ?_
                refine a_eq rfl (gl1 ?_) rfl zJ86
                · first | (refine congrArg nI (?_ : 0 = plV A p k); simp [plV, pkP, h_55]; done) | (refine congrArg nI (?_ : 0 = plV A p k); simp [plV, pkP, h_55, h_67]; done) | (refine congrArg nI (?_ : lksA A (cN A k) = plV A p k); simp [plV, pkP, h_55, h_67]; done)
        · refine a_aload_n C dL_isPerson_19 rfl rfl ?_
          refine a_bipush (v := nI 6) C dL_isPerson_20 (by decide) ?_
          refine a_iload C dL_isPerson_22 rfl ?_
          first | refine n_imul C dL_isPerson_24 ?_ | refine a_imul C dL_isPerson_24 ?_
          refine a_iconst (v := nI 1) C dL_isPerson_25 (by decide) ?_
          first | refine n_iadd C dL_isPerson_26 ?_ | refine a_iadd C dL_isPerson_26 ?_
          refine n_iald C dL_isPerson_27 (tw (by first | decide | omega)) (by first | decide | omega) rfl rfl (by first | decide | omega) (by decide) (LR_ko hL hA (by omega)) ?_
          refine a_iload_n C dL_isPerson_28 rfl rfl ?_
          refine n_icmp_ne (tgt := 39) C dL_isPerson_29 (by decide) (by first | decide | omega) (by first | decide | omega) (fun h_29 => ?_) (fun h_29 => ?_)
          · refine a_iconst (v := nI 0) C dL_isPerson_39 (by decide) ?_
            refine a_eq rfl (gl1 ?_) rfl zJ40
            · first | exact congrArg nI (by rw [if_pos (show pkP A p k = true from beq_iff_eq.mpr h_29), Nat.one_mul]) | exact congrArg nI (if_neg (show ¬ pkP A p k = true from fun z => h_29 (beq_iff_eq.mp z))).symm
          · refine a_iconst (v := nI 1) C dL_isPerson_32 (by decide) ?_
            refine a_iload C dL_isPerson_33 rfl ?_
            refine n_ishl C dL_isPerson_35 (by omega) (p12_lt (by omega)) ?_
            refine a_goto (tgt := 40) C dL_isPerson_36 (by decide) ?_
            refine a_eq rfl (gl1 ?_) rfl zJ40
            · first | exact congrArg nI (by rw [if_pos (show pkP A p k = true from beq_iff_eq.mpr h_29), Nat.one_mul]) | exact congrArg nI (if_neg (show ¬ pkP A p k = true from fun z => h_29 (beq_iff_eq.mp z))).symm
  refine a_pad 3 ?_
  refine a_eq (L' := [some (.ref 0), some (.int (nI p)), some (.ref 204), some (.ref 205), some (.ref 206), none, none, none]) rfl rfl rfl ?_
  refine a_iconst (v := nI 0) C dL_isPerson_0 (by decide) ?_
  refine a_istore C dL_isPerson_1 (by decide) ?_
  refine a_iconst (v := nI 0) C dL_isPerson_3 (by decide) ?_
  refine a_istore C dL_isPerson_4 (by decide) ?_
  refine a_iconst (v := nI 0) C dL_isPerson_6 (by decide) ?_
  refine a_istore C dL_isPerson_7 (by decide) ?_
  refine a_join (aLe_s ?_ (aLe_s ?_ (aLe_s ?_ (aLe_s ?_ (aLe_s ?_ (aLe_s ?_ (aLe_s ?_ (aLe_s ?_ aLe_nil)))))))) rfl rfl (ZL9 (kN A + 1) 0 (by omega) (by omega))
  · first | with_reducible rfl | exact gl (by first | with_reducible rfl | (refine iF ?_; simp [mskN, orN]; done) | (refine iT ?_; simp [mskN, orN]; done) | (refine iB ?_; simp [mskN, orN]; done) | (simp [mskN, orN]; done) | (simp [mskN, orN]; omega) | omega | rfl)
  · first | with_reducible rfl | exact gl (by first | with_reducible rfl | (refine iF ?_; simp [mskN, orN]; done) | (refine iT ?_; simp [mskN, orN]; done) | (refine iB ?_; simp [mskN, orN]; done) | (simp [mskN, orN]; done) | (simp [mskN, orN]; omega) | omega | rfl)
  · first | with_reducible rfl | exact gl (by first | with_reducible rfl | (refine iF ?_; simp [mskN, orN]; done) | (refine iT ?_; simp [mskN, orN]; done) | (refine iB ?_; simp [mskN, orN]; done) | (simp [mskN, orN]; done) | (simp [mskN, orN]; omega) | omega | rfl)
  · first | with_reducible rfl | exact gl (by first | with_reducible rfl | (refine iF ?_; simp [mskN, orN]; done) | (refine iT ?_; simp [mskN, orN]; done) | (refine iB ?_; simp [mskN, orN]; done) | (simp [mskN, orN]; done) | (simp [mskN, orN]; omega) | omega | rfl)
  · first | with_reducible rfl | exact gl (by first | with_reducible rfl | (refine iF ?_; simp [mskN, orN]; done) | (refine iT ?_; simp [mskN, orN]; done) | (refine iB ?_; simp [mskN, orN]; done) | (simp [mskN, orN]; done) | (simp [mskN, orN]; omega) | omega | rfl)
  · first | with_reducible rfl | exact gl (by first | with_reducible rfl | (refine iF ?_; simp [mskN, orN]; done) | (refine iT ?_; simp [mskN, orN]; done) | (refine iB ?_; simp [mskN, orN]; done) | (simp [mskN, orN]; done) | (simp [mskN, orN]; omega) | omega | rfl)
  · first | with_reducible rfl | exact gl (by first | with_reducible rfl | (refine iF ?_; simp [mskN, orN]; done) | (refine iT ?_; simp [mskN, orN]; done) | (refine iB ?_; simp [mskN, orN]; done) | (simp [mskN, orN]; done) | (simp [mskN, orN]; omega) | omega | rfl)
  · first | with_reducible rfl | exact gl (by first | with_reducible rfl | (refine iF ?_; simp [mskN, orN]; done) | (refine iT ?_; simp [mskN, orN]; done) | (refine iB ?_; simp [mskN, orN]; done) | (simp [mskN, orN]; done) | (simp [mskN, orN]; omega) | omega | rfl)

set_option maxRecDepth 20000 in
set_option maxHeartbeats 4000000 in
theorem K_L_isLock {w : Wd} {A : St} (hD : DR w 3 A) (hL : LR w A) (hA : AOK A) {p : Nat} (hp : p < 6) : CL yL_isLock cL_isLock 9 (some .boolean) 8 136 [.ref 0, .int (nI p), .ref 204, .ref 205, .ref 206] w (0) (0) (fun r w' => r = some (.int (nI 1)) ∧ w' = w) := by
  have zq_n := hA.n12
  have zq_10 := hL.2
  refine CL.of ok_L_isLock (Nat.le_of_ble_eq_true rfl) (fun ex us G9 p9 l9 e9 s9 m9 ar9 be9 me9 co9 C hfl hr => ?_)
  have ZL54 : ∀ (zd54 : Nat) (k : Nat), kN A + 1 ≤ k + zd54 → k ≤ kN A → wdA A p = true → WA G9 p9 l9 e9 (RL9 8 136 (0) (0)) s9 m9 ar9 be9 me9 co9 (QL G9 be9 ar9 s9 w ex us (0) (0) (fun r w' => r = some (.int (nI 1)) ∧ w' = w)) 9 (207 + ex.1 + ex.2) us 54 [some (.ref 0), some (.int (nI p)), some (.ref 204), some (.ref 205), some (.ref 206), some (.int (nI (mskN (kyP A p) k))), some (.int (nI (orN (whV A p) k))), some (.int (nI k)), none] [] (fzM w ex us) := by
    intro zd54
    induction zd54 with
    | zero => intro k zm54 zh_k zq_w; exfalso; omega
    | succ zd54 zih54 =>
      intro k zm54 zh_k zq_w
      refine a_iload C dL_isLock_54 rfl ?_
      refine a_aload_n C dL_isLock_56 rfl rfl ?_
      refine a_iconst (v := nI 0) C dL_isLock_57 (by decide) ?_
      refine n_iald C dL_isLock_58 (tw (by first | decide | omega)) (by first | decide | omega) rfl rfl (by first | decide | omega) (by decide) (LR_n hL hA) ?_
      first | refine n_icmp_ge (tgt := 144) C dL_isLock_59 (by decide) (by first | decide | omega) (by first | decide | omega) (fun h_59 => ?_) (fun h_59 => ?_) | refine a_icmp_ge (tgt := 144) C dL_isLock_59 (by decide) (fun h_59 => ?_) (fun h_59 => ?_)
      · obtain rfl : k = kN A := by omega
        refine a_aload_n C dL_isLock_144 rfl rfl ?_
        refine a_iload_n C dL_isLock_145 rfl rfl ?_
        refine a_iconst (v := nI 0) C dL_isLock_146 (by decide) ?_
        refine l0_callSW C hfl _ (HA_lock hD hA (by first | assumption | decide | omega) (by first | assumption | decide | omega)) sW_124 dL_isLock_147 rfl (Nat.le_of_ble_eq_true rfl) ⟨Nat.le_of_ble_eq_true rfl, Nat.le_of_ble_eq_true rfl⟩ ⟨Nat.le_add_right _ _, Nat.le_add_right _ _⟩ (fun zr147 zw147 zp147 => ?_)
        obtain ⟨rfl, rfl⟩ := zp147
        refine a_aload C dL_isLock_150 rfl ?_
        refine a_iconst (v := nI 4) C dL_isLock_152 (by decide) ?_
        refine a_iload_n C dL_isLock_153 rfl rfl ?_
        first | refine n_imul C dL_isLock_154 ?_ | refine a_imul C dL_isLock_154 ?_
        refine n_iald C dL_isLock_155 (tw (by first | decide | omega)) (by first | decide | omega) rfl rfl (by first | decide | omega) (by decide) (LR_lw hL (by omega)) ?_
        refine a_icmp_ne (tgt := 236) C dL_isLock_156 (by decide) (fun h_156 => ?_) (fun h_156 => ?_)
        · exact absurd (tl_0 zq_w) h_156
        · refine a_aload_n C dL_isLock_159 rfl rfl ?_
          refine a_iload_n C dL_isLock_160 rfl rfl ?_
          refine a_iconst (v := nI 1) C dL_isLock_161 (by decide) ?_
          refine l0_callSW C hfl _ (HA_lock hD hA (by first | assumption | decide | omega) (by first | assumption | decide | omega)) sW_124 dL_isLock_162 rfl (Nat.le_of_ble_eq_true rfl) ⟨Nat.le_of_ble_eq_true rfl, Nat.le_of_ble_eq_true rfl⟩ ⟨Nat.le_add_right _ _, Nat.le_add_right _ _⟩ (fun zr162 zw162 zp162 => ?_)
          obtain ⟨rfl, rfl⟩ := zp162
          refine a_aload C dL_isLock_165 rfl ?_
          refine a_iconst (v := nI 4) C dL_isLock_167 (by decide) ?_
          refine a_iload_n C dL_isLock_168 rfl rfl ?_
          first | refine n_imul C dL_isLock_169 ?_ | refine a_imul C dL_isLock_169 ?_
          refine a_iconst (v := nI 1) C dL_isLock_170 (by decide) ?_
          first | refine n_iadd C dL_isLock_171 ?_ | refine a_iadd C dL_isLock_171 ?_
          refine n_iald C dL_isLock_172 (tw (by first | decide | omega)) (by first | decide | omega) rfl rfl (by first | decide | omega) (by decide) (LR_lg hL (by omega)) ?_
          refine a_icmp_ne (tgt := 236) C dL_isLock_173 (by decide) (fun h_173 => ?_) (fun h_173 => ?_)
          · exact absurd (tl_1 zq_w) h_173
          · refine a_aload_n C dL_isLock_176 rfl rfl ?_
            refine a_iload_n C dL_isLock_177 rfl rfl ?_
            refine a_iconst (v := nI 2) C dL_isLock_178 (by decide) ?_
            refine l0_callSW C hfl _ (HA_lock hD hA (by first | assumption | decide | omega) (by first | assumption | decide | omega)) sW_124 dL_isLock_179 rfl (Nat.le_of_ble_eq_true rfl) ⟨Nat.le_of_ble_eq_true rfl, Nat.le_of_ble_eq_true rfl⟩ ⟨Nat.le_add_right _ _, Nat.le_add_right _ _⟩ (fun zr179 zw179 zp179 => ?_)
            obtain ⟨rfl, rfl⟩ := zp179
            refine a_iload C dL_isLock_182 rfl ?_
            refine a_icmp_ne (tgt := 236) C dL_isLock_184 (by decide) (fun h_184 => ?_) (fun h_184 => ?_)
            · exact absurd (tl_2 zq_w) h_184
            · refine a_aload_n C dL_isLock_187 rfl rfl ?_
              refine a_iload_n C dL_isLock_188 rfl rfl ?_
              refine a_iconst (v := nI 3) C dL_isLock_189 (by decide) ?_
              refine l0_callSW C hfl _ (HA_lock hD hA (by first | assumption | decide | omega) (by first | assumption | decide | omega)) sW_124 dL_isLock_190 rfl (Nat.le_of_ble_eq_true rfl) ⟨Nat.le_of_ble_eq_true rfl, Nat.le_of_ble_eq_true rfl⟩ ⟨Nat.le_add_right _ _, Nat.le_add_right _ _⟩ (fun zr190 zw190 zp190 => ?_)
              obtain ⟨rfl, rfl⟩ := zp190
              refine a_aload C dL_isLock_193 rfl ?_
              refine a_iconst (v := nI 4) C dL_isLock_195 (by decide) ?_
              refine a_iload_n C dL_isLock_196 rfl rfl ?_
              first | refine n_imul C dL_isLock_197 ?_ | refine a_imul C dL_isLock_197 ?_
              refine a_iconst (v := nI 2) C dL_isLock_198 (by decide) ?_
              first | refine n_iadd C dL_isLock_199 ?_ | refine a_iadd C dL_isLock_199 ?_
              refine n_iald C dL_isLock_200 (tw (by first | decide | omega)) (by first | decide | omega) rfl rfl (by first | decide | omega) (by decide) (LR_lu hL (by omega)) ?_
              refine a_icmp_ne (tgt := 236) C dL_isLock_201 (by decide) (fun h_201 => ?_) (fun h_201 => ?_)
              · exact absurd (tl_3 zq_w) h_201
              · refine a_aload_n C dL_isLock_204 rfl rfl ?_
                refine a_iload_n C dL_isLock_205 rfl rfl ?_
                refine a_iconst (v := nI 4) C dL_isLock_206 (by decide) ?_
                refine l0_callSW C hfl _ (HA_lock hD hA (by first | assumption | decide | omega) (by first | assumption | decide | omega)) sW_124 dL_isLock_207 rfl (Nat.le_of_ble_eq_true rfl) ⟨Nat.le_of_ble_eq_true rfl, Nat.le_of_ble_eq_true rfl⟩ ⟨Nat.le_add_right _ _, Nat.le_add_right _ _⟩ (fun zr207 zw207 zp207 => ?_)
                obtain ⟨rfl, rfl⟩ := zp207
                refine a_aload C dL_isLock_210 rfl ?_
                refine a_iconst (v := nI 4) C dL_isLock_212 (by decide) ?_
                refine a_iload_n C dL_isLock_213 rfl rfl ?_
                first | refine n_imul C dL_isLock_214 ?_ | refine a_imul C dL_isLock_214 ?_
                refine a_iconst (v := nI 3) C dL_isLock_215 (by decide) ?_
                first | refine n_iadd C dL_isLock_216 ?_ | refine a_iadd C dL_isLock_216 ?_
                refine n_iald C dL_isLock_217 (tw (by first | decide | omega)) (by first | decide | omega) rfl rfl (by first | decide | omega) (by decide) (LR_lf hL (by omega)) ?_
                refine a_icmp_ne (tgt := 236) C dL_isLock_218 (by decide) (fun h_218 => ?_) (fun h_218 => ?_)
                · exact absurd (tl_4 zq_w) h_218
                · refine a_aload_n C dL_isLock_221 rfl rfl ?_
                  refine a_iload_n C dL_isLock_222 rfl rfl ?_
                  refine a_iconst (v := nI 5) C dL_isLock_223 (by decide) ?_
                  refine l0_callSW C hfl _ (HA_lock hD hA (by first | assumption | decide | omega) (by first | assumption | decide | omega)) sW_124 dL_isLock_224 rfl (Nat.le_of_ble_eq_true rfl) ⟨Nat.le_of_ble_eq_true rfl, Nat.le_of_ble_eq_true rfl⟩ ⟨Nat.le_add_right _ _, Nat.le_add_right _ _⟩ (fun zr224 zw224 zp224 => ?_)
                  obtain ⟨rfl, rfl⟩ := zp224
                  refine a_iload C dL_isLock_227 rfl ?_
                  refine a_icmp_ne (tgt := 236) C dL_isLock_229 (by decide) (fun h_229 => ?_) (fun h_229 => ?_)
                  · exact absurd (tl_5 zq_w) h_229
                  · refine a_iconst (v := nI 1) C dL_isLock_232 (by decide) ?_
                    refine a_goto (tgt := 237) C dL_isLock_233 (by decide) ?_
                    refine l_iret C hr ?_ dL_isLock_237 ⟨?_, rfl⟩
                    · first | exact bI_narrow _ | rfl
                    · rfl
      · have zq_c := hA.c81 (k := k) (by omega)
        have zq_o := hA.o4 (k := k) (by omega)
        refine a_aload_n C dL_isLock_62 rfl rfl ?_
        refine a_bipush (v := nI 6) C dL_isLock_63 (by decide) ?_
        refine a_iload C dL_isLock_65 rfl ?_
        first | refine n_imul C dL_isLock_67 ?_ | refine a_imul C dL_isLock_67 ?_
        refine n_iald C dL_isLock_68 (tw (by first | decide | omega)) (by first | decide | omega) rfl rfl (by first | decide | omega) (by decide) (LR_kc hL hA (by omega)) ?_
        refine a_iload_n C dL_isLock_69 rfl rfl ?_
        refine a_aload C dL_isLock_70 rfl ?_
        refine p_callS C (K_L_opens hL hA (by first | assumption | decide | omega) (by first | assumption | decide | omega)) sL_106 rfl dL_isLock_72 (Nat.le_of_ble_eq_true rfl) ⟨Nat.le_of_ble_eq_true rfl, Nat.le_of_ble_eq_true rfl⟩ ?_
        refine a_istore C dL_isLock_75 (by decide) ?_
        refine a_iload C dL_isLock_77 rfl ?_
        refine a_via 92 (nI (if kyP A p k = true then 2 ^ k else 0)) ?_ (fun zJ92 => ?_)
        · first | refine n_ior C dL_isLock_92 ?_ | refine a_ior C dL_isLock_92 ?_
          refine a_istore C dL_isLock_93 (by decide) ?_
          refine a_iload C dL_isLock_95 rfl ?_
          refine a_via 135 (nI (whV A p k)) ?_ (fun zJ135 => ?_)
          · first | refine n_ior C dL_isLock_135 ?_ | refine a_ior C dL_isLock_135 ?_
            refine a_istore C dL_isLock_136 (by decide) ?_
            refine n_iinc C dL_isLock_138 rfl (by decide) ?_
            refine a_goto (tgt := 54) C dL_isLock_141 (by decide) ?_
            refine a_join (aLe_s ?_ (aLe_s ?_ (aLe_s ?_ (aLe_s ?_ (aLe_s ?_ (aLe_s ?_ (aLe_s ?_ (aLe_s ?_ (aLe_n aLe_nil))))))))) rfl rfl (zih54 (k + 1) (by omega) (by omega) zq_w)
            · first | with_reducible rfl | exact gl (by first | with_reducible rfl | (refine iF ?_; simp [mskN, orN, h_59]; done) | (refine iT ?_; simp [mskN, orN, h_59]; done) | (refine iB ?_; simp [mskN, orN, h_59]; done) | (simp [mskN, orN, h_59]; done) | (simp [mskN, orN, h_59]; omega) | omega)
            · first | with_reducible rfl | exact gl (by first | with_reducible rfl | (refine iF ?_; simp [mskN, orN, h_59]; done) | (refine iT ?_; simp [mskN, orN, h_59]; done) | (refine iB ?_; simp [mskN, orN, h_59]; done) | (simp [mskN, orN, h_59]; done) | (simp [mskN, orN, h_59]; omega) | omega)
            · first | with_reducible rfl | exact gl (by first | with_reducible rfl | (refine iF ?_; simp [mskN, orN, h_59]; done) | (refine iT ?_; simp [mskN, orN, h_59]; done) | (refine iB ?_; simp [mskN, orN, h_59]; done) | (simp [mskN, orN, h_59]; done) | (simp [mskN, orN, h_59]; omega) | omega)
            · first | with_reducible rfl | exact gl (by first | with_reducible rfl | (refine iF ?_; simp [mskN, orN, h_59]; done) | (refine iT ?_; simp [mskN, orN, h_59]; done) | (refine iB ?_; simp [mskN, orN, h_59]; done) | (simp [mskN, orN, h_59]; done) | (simp [mskN, orN, h_59]; omega) | omega)
            · first | with_reducible rfl | exact gl (by first | with_reducible rfl | (refine iF ?_; simp [mskN, orN, h_59]; done) | (refine iT ?_; simp [mskN, orN, h_59]; done) | (refine iB ?_; simp [mskN, orN, h_59]; done) | (simp [mskN, orN, h_59]; done) | (simp [mskN, orN, h_59]; omega) | omega)
            · first | with_reducible rfl | exact gl (by first | with_reducible rfl | (refine iF ?_; simp [mskN, orN, h_59]; done) | (refine iT ?_; simp [mskN, orN, h_59]; done) | (refine iB ?_; simp [mskN, orN, h_59]; done) | (simp [mskN, orN, h_59]; done) | (simp [mskN, orN, h_59]; omega) | omega)
            · first | with_reducible rfl | exact gl (by first | with_reducible rfl | (refine iF ?_; simp [mskN, orN, h_59]; done) | (refine iT ?_; simp [mskN, orN, h_59]; done) | (refine iB ?_; simp [mskN, orN, h_59]; done) | (simp [mskN, orN, h_59]; done) | (simp [mskN, orN, h_59]; omega) | omega)
            · first | with_reducible rfl | exact gl (by first | with_reducible rfl | (refine iF ?_; simp [mskN, orN, h_59]; done) | (refine iT ?_; simp [mskN, orN, h_59]; done) | (refine iB ?_; simp [mskN, orN, h_59]; done) | (simp [mskN, orN, h_59]; done) | (simp [mskN, orN, h_59]; omega) | omega)
          · refine a_iload C dL_isLock_97 rfl ?_
            first | refine b_if_ne (tgt := 106) C dL_isLock_99 (by decide) (fun h_99 => ?_) (fun h_99 => ?_) | refine n_if_ne (tgt := 106) C dL_isLock_99 (by decide) (by first | decide | omega) (fun h_99 => ?_) (fun h_99 => ?_) | refine a_if_ne (tgt := 106) C dL_isLock_99 (by decide) (fun h_99 => ?_) (fun h_99 => ?_)
            · refine a_aload_n C dL_isLock_106 rfl rfl ?_
              refine a_bipush (v := nI 6) C dL_isLock_107 (by decide) ?_
              refine a_iload C dL_isLock_109 rfl ?_
              first | refine n_imul C dL_isLock_111 ?_ | refine a_imul C dL_isLock_111 ?_
              refine a_iconst (v := nI 2) C dL_isLock_112 (by decide) ?_
              first | refine n_iadd C dL_isLock_113 ?_ | refine a_iadd C dL_isLock_113 ?_
              refine n_iald C dL_isLock_114 (tw (by first | decide | omega)) (by first | decide | omega) rfl rfl (by first | decide | omega) (by decide) (LR_kl hL hA (by omega)) ?_
              refine a_iconst (v := nI 1) C dL_isLock_115 (by decide) ?_
              refine b_icmp1_ne (tgt := 124) C dL_isLock_116 (by decide) (fun h_116 => ?_) (fun h_116 => ?_)
              · refine a_iconst (v := nI 1) C dL_isLock_124 (by decide) ?_
                refine a_aload_n C dL_isLock_125 rfl rfl ?_
                refine a_bipush (v := nI 6) C dL_isLock_126 (by decide) ?_
                refine a_iload C dL_isLock_128 rfl ?_
                first | refine n_imul C dL_isLock_130 ?_ | refine a_imul C dL_isLock_130 ?_
                refine a_iconst (v := nI 1) C dL_isLock_131 (by decide) ?_
                first | refine n_iadd C dL_isLock_132 ?_ | refine a_iadd C dL_isLock_132 ?_
                refine n_iald C dL_isLock_133 (tw (by first | decide | omega)) (by first | decide | omega) rfl rfl (by first | decide | omega) (by decide) (LR_ko hL hA (by omega)) ?_
                refine n_ishl C dL_isLock_134 (by omega) (p12_lt (by omega)) ?_
                refine a_eq rfl (gl1 ?_) rfl zJ135
                · first | (refine congrArg nI (?_ : 0 = whV A p k); simp [whV, h_99]; done) | (refine congrArg nI (?_ : 16 = whV A p k); simp [whV, whB, h_99, h_116]; done) | (refine congrArg nI (?_ : 1 * 2 ^ oN A k = whV A p k); simp [whV, whB, h_99, h_116]; done)
              · refine a_bipush (v := nI 16) C dL_isLock_119 (by decide) ?_
                refine a_goto (tgt := 135) C dL_isLock_121 (by decide) ?_
                refine a_eq rfl (gl1 ?_) rfl zJ135
                · first | (refine congrArg nI (?_ : 0 = whV A p k); simp [whV, h_99]; done) | (refine congrArg nI (?_ : 16 = whV A p k); simp [whV, whB, h_99, h_116]; done) | (refine congrArg nI (?_ : 1 * 2 ^ oN A k = whV A p k); simp [whV, whB, h_99, h_116]; done)
            · refine a_iconst (v := nI 0) C dL_isLock_102 (by decide) ?_
              refine a_goto (tgt := 135) C dL_isLock_103 (by decide) ?_
              refine a_eq rfl (gl1 ?_) rfl zJ135
              · first | (refine congrArg nI (?_ : 0 = whV A p k); simp [whV, h_99]; done) | (refine congrArg nI (?_ : 16 = whV A p k); simp [whV, whB, h_99, h_116]; done) | (refine congrArg nI (?_ : 1 * 2 ^ oN A k = whV A p k); simp [whV, whB, h_99, h_116]; done)
        · refine a_iload C dL_isLock_79 rfl ?_
          first | refine b_if_eq (tgt := 91) C dL_isLock_81 (by decide) (fun h_81 => ?_) (fun h_81 => ?_) | refine n_if_eq (tgt := 91) C dL_isLock_81 (by decide) (by first | decide | omega) (fun h_81 => ?_) (fun h_81 => ?_) | refine a_if_eq (tgt := 91) C dL_isLock_81 (by decide) (fun h_81 => ?_) (fun h_81 => ?_)
          · refine a_iconst (v := nI 0) C dL_isLock_91 (by decide) ?_
            refine a_eq rfl (gl1 ?_) rfl zJ92
            · first | exact congrArg nI (by rw [if_pos (show kyP A p k = true from h_81), Nat.one_mul]) | exact congrArg nI (show 0 = if kyP A p k = true then 2 ^ k else 0 by rw [show kyP A p k = false from h_81]; rfl)
          · refine a_iconst (v := nI 1) C dL_isLock_84 (by decide) ?_
            refine a_iload C dL_isLock_85 rfl ?_
            refine n_ishl C dL_isLock_87 (by omega) (p12_lt (by omega)) ?_
            refine a_goto (tgt := 92) C dL_isLock_88 (by decide) ?_
            refine a_eq rfl (gl1 ?_) rfl zJ92
            · first | exact congrArg nI (by rw [if_pos (show kyP A p k = true from h_81), Nat.one_mul]) | exact congrArg nI (show 0 = if kyP A p k = true then 2 ^ k else 0 by rw [show kyP A p k = false from h_81]; rfl)
  refine a_pad 4 ?_
  refine a_eq (L' := [some (.ref 0), some (.int (nI p)), some (.ref 204), some (.ref 205), some (.ref 206), none, none, none, none]) rfl rfl rfl ?_
  refine a_aload C dL_isLock_0 rfl ?_
  refine a_iconst (v := nI 4) C dL_isLock_2 (by decide) ?_
  refine a_iload_n C dL_isLock_3 rfl rfl ?_
  first | refine n_imul C dL_isLock_4 ?_ | refine a_imul C dL_isLock_4 ?_
  refine n_iald C dL_isLock_5 (tw (by first | decide | omega)) (by first | decide | omega) rfl rfl (by first | decide | omega) (by decide) (LR_lw hL (by omega)) ?_
  refine a_if_ge (tgt := 45) C dL_isLock_6 (by decide) (fun h_6 => ?_) (fun h_6 => ?_)
  · have zq_w := wd_ge hA hp h_6
    refine a_iconst (v := nI 0) C dL_isLock_45 (by decide) ?_
    refine a_istore C dL_isLock_46 (by decide) ?_
    refine a_iconst (v := nI 0) C dL_isLock_48 (by decide) ?_
    refine a_istore C dL_isLock_49 (by decide) ?_
    refine a_iconst (v := nI 0) C dL_isLock_51 (by decide) ?_
    refine a_istore C dL_isLock_52 (by decide) ?_
    refine a_join (aLe_s ?_ (aLe_s ?_ (aLe_s ?_ (aLe_s ?_ (aLe_s ?_ (aLe_s ?_ (aLe_s ?_ (aLe_s ?_ (aLe_n aLe_nil))))))))) rfl rfl (ZL54 (kN A + 1) 0 (by omega) (by omega) zq_w)
    · first | with_reducible rfl | exact gl (by first | with_reducible rfl | (refine iF ?_; simp [mskN, orN]; done) | (refine iT ?_; simp [mskN, orN]; done) | (refine iB ?_; simp [mskN, orN]; done) | (simp [mskN, orN]; done) | (simp [mskN, orN]; omega) | omega | rfl)
    · first | with_reducible rfl | exact gl (by first | with_reducible rfl | (refine iF ?_; simp [mskN, orN]; done) | (refine iT ?_; simp [mskN, orN]; done) | (refine iB ?_; simp [mskN, orN]; done) | (simp [mskN, orN]; done) | (simp [mskN, orN]; omega) | omega | rfl)
    · first | with_reducible rfl | exact gl (by first | with_reducible rfl | (refine iF ?_; simp [mskN, orN]; done) | (refine iT ?_; simp [mskN, orN]; done) | (refine iB ?_; simp [mskN, orN]; done) | (simp [mskN, orN]; done) | (simp [mskN, orN]; omega) | omega | rfl)
    · first | with_reducible rfl | exact gl (by first | with_reducible rfl | (refine iF ?_; simp [mskN, orN]; done) | (refine iT ?_; simp [mskN, orN]; done) | (refine iB ?_; simp [mskN, orN]; done) | (simp [mskN, orN]; done) | (simp [mskN, orN]; omega) | omega | rfl)
    · first | with_reducible rfl | exact gl (by first | with_reducible rfl | (refine iF ?_; simp [mskN, orN]; done) | (refine iT ?_; simp [mskN, orN]; done) | (refine iB ?_; simp [mskN, orN]; done) | (simp [mskN, orN]; done) | (simp [mskN, orN]; omega) | omega | rfl)
    · first | with_reducible rfl | exact gl (by first | with_reducible rfl | (refine iF ?_; simp [mskN, orN]; done) | (refine iT ?_; simp [mskN, orN]; done) | (refine iB ?_; simp [mskN, orN]; done) | (simp [mskN, orN]; done) | (simp [mskN, orN]; omega) | omega | rfl)
    · first | with_reducible rfl | exact gl (by first | with_reducible rfl | (refine iF ?_; simp [mskN, orN]; done) | (refine iT ?_; simp [mskN, orN]; done) | (refine iB ?_; simp [mskN, orN]; done) | (simp [mskN, orN]; done) | (simp [mskN, orN]; omega) | omega | rfl)
    · first | with_reducible rfl | exact gl (by first | with_reducible rfl | (refine iF ?_; simp [mskN, orN]; done) | (refine iT ?_; simp [mskN, orN]; done) | (refine iB ?_; simp [mskN, orN]; done) | (simp [mskN, orN]; done) | (simp [mskN, orN]; omega) | omega | rfl)
  · have zq_w := wd_lt hA hp h_6
    refine a_aload_n C dL_isLock_9 rfl rfl ?_
    refine a_iload_n C dL_isLock_10 rfl rfl ?_
    refine a_iconst (v := nI 0) C dL_isLock_11 (by decide) ?_
    refine l0_callSW C hfl _ (HA_lock hD hA (by first | assumption | decide | omega) (by first | assumption | decide | omega)) sW_124 dL_isLock_12 rfl (Nat.le_of_ble_eq_true rfl) ⟨Nat.le_of_ble_eq_true rfl, Nat.le_of_ble_eq_true rfl⟩ ⟨Nat.le_add_right _ _, Nat.le_add_right _ _⟩ (fun zr12 zw12 zp12 => ?_)
    obtain ⟨rfl, rfl⟩ := zp12
    refine a_iconst (v := (-1)) C dL_isLock_15 (by decide) ?_
    refine a_icmp_ne (tgt := 43) C dL_isLock_16 (by decide) (fun h_16 => ?_) (fun h_16 => ?_)
    · exact absurd (tl_no zq_w) h_16
    · refine a_aload_n C dL_isLock_19 rfl rfl ?_
      refine a_iload_n C dL_isLock_20 rfl rfl ?_
      refine a_iconst (v := nI 2) C dL_isLock_21 (by decide) ?_
      refine l0_callSW C hfl _ (HA_lock hD hA (by first | assumption | decide | omega) (by first | assumption | decide | omega)) sW_124 dL_isLock_22 rfl (Nat.le_of_ble_eq_true rfl) ⟨Nat.le_of_ble_eq_true rfl, Nat.le_of_ble_eq_true rfl⟩ ⟨Nat.le_add_right _ _, Nat.le_add_right _ _⟩ (fun zr22 zw22 zp22 => ?_)
      obtain ⟨rfl, rfl⟩ := zp22
      refine a_iconst (v := (-1)) C dL_isLock_25 (by decide) ?_
      refine a_icmp_ne (tgt := 43) C dL_isLock_26 (by decide) (fun h_26 => ?_) (fun h_26 => ?_)
      · exact absurd (tl_no zq_w) h_26
      · refine a_aload_n C dL_isLock_29 rfl rfl ?_
        refine a_iload_n C dL_isLock_30 rfl rfl ?_
        refine a_iconst (v := nI 5) C dL_isLock_31 (by decide) ?_
        refine l0_callSW C hfl _ (HA_lock hD hA (by first | assumption | decide | omega) (by first | assumption | decide | omega)) sW_124 dL_isLock_32 rfl (Nat.le_of_ble_eq_true rfl) ⟨Nat.le_of_ble_eq_true rfl, Nat.le_of_ble_eq_true rfl⟩ ⟨Nat.le_add_right _ _, Nat.le_add_right _ _⟩ (fun zr32 zw32 zp32 => ?_)
        obtain ⟨rfl, rfl⟩ := zp32
        refine a_iconst (v := (-1)) C dL_isLock_35 (by decide) ?_
        refine a_icmp_ne (tgt := 43) C dL_isLock_36 (by decide) (fun h_36 => ?_) (fun h_36 => ?_)
        · exact absurd (tl_no zq_w) h_36
        · refine a_iconst (v := nI 1) C dL_isLock_39 (by decide) ?_
          refine a_goto (tgt := 44) C dL_isLock_40 (by decide) ?_
          refine l_iret C hr ?_ dL_isLock_44 ⟨?_, rfl⟩
          · first | exact bI_narrow _ | rfl
          · rfl

set_option maxRecDepth 20000 in
set_option maxHeartbeats 4000000 in
theorem K_L_isKey {w : Wd} {A : St} (hD : DR w 3 A) (hL : LR w A) (hA : AOK A) {k : Nat} (hk : k < kN A) : CL yL_isKey cL_isKey 9 (some .boolean) 8 136 [.ref 0, .int (nI k), .ref 204, .ref 205, .ref 206] w (0) (0) (fun r w' => r = some (.int (nI 1)) ∧ w' = w) := by
  have zq_n := hA.n12
  have zq_10 := hL.2
  have zq_c := hA.c81 (k := k) (by omega)
  refine CL.of ok_L_isKey (Nat.le_of_ble_eq_true rfl) (fun ex us G9 p9 l9 e9 s9 m9 ar9 be9 me9 co9 C hfl hr => ?_)
  have ZL253 : ∀ (zd253 : Nat) (n : Nat), 4 + 1 ≤ n + zd253 → n ≤ 4 → WA G9 p9 l9 e9 (RL9 8 136 (0) (0)) s9 m9 ar9 be9 me9 co9 (QL G9 be9 ar9 s9 w ex us (0) (0) (fun r w' => r = some (.int (nI 1)) ∧ w' = w)) 9 (207 + ex.1 + ex.2) us 253 [some (.ref 0), some (.int (nI k)), some (.ref 204), some (.ref 205), some (.ref 206), none, none, some (.int (nI 1)), some (.int (nI n))] [] (fzM w ex us) := by
    intro zd253
    induction zd253 with
    | zero => intro n zm253 zh253_0; exfalso; omega
    | succ zd253 zih253 =>
      intro n zm253 zh253_0
      refine a_iload C dL_isKey_253 rfl ?_
      refine a_iconst (v := nI 4) C dL_isKey_255 (by decide) ?_
      first | refine n_icmp_ge (tgt := 295) C dL_isKey_256 (by decide) (by first | decide | omega) (by first | decide | omega) (fun h_256 => ?_) (fun h_256 => ?_) | refine a_icmp_ge (tgt := 295) C dL_isKey_256 (by decide) (fun h_256 => ?_) (fun h_256 => ?_)
      · refine a_iload C dL_isKey_295 rfl ?_
        refine l_iret C hr ?_ dL_isKey_297 ⟨?_, rfl⟩
        · first | exact bI_narrow _ | rfl
        · rfl
      · refine a_iload C dL_isKey_259 rfl ?_
        refine n_if_eq (tgt := 286) C dL_isKey_261 (by decide) (by first | decide | omega)  (fun h_261 => ?_) (fun h_261 => ?_)
        · exact absurd h_261 (by decide)
        · refine a_aload_n C dL_isKey_264 rfl rfl ?_
          refine a_iload_n C dL_isKey_265 rfl rfl ?_
          refine a_iload C dL_isKey_266 rfl ?_
          refine l0_callSW C hfl _ (HA_why hD hA (by first | assumption | decide | omega) (by first | assumption | decide | omega)) sW_171 dL_isKey_268 rfl (Nat.le_of_ble_eq_true rfl) ⟨Nat.le_of_ble_eq_true rfl, Nat.le_of_ble_eq_true rfl⟩ ⟨Nat.le_add_right _ _, Nat.le_add_right _ _⟩ (fun zr268 zw268 zp268 => ?_)
          obtain ⟨rfl, rfl⟩ := zp268
          refine a_iload_n C dL_isKey_271 rfl rfl ?_
          refine a_iload C dL_isKey_272 rfl ?_
          refine a_aload_n C dL_isKey_274 rfl rfl ?_
          refine a_aload_n C dL_isKey_275 rfl rfl ?_
          refine p_callS C (K_L_whyNotDeeper hL hA (by first | assumption | decide | omega) (by first | assumption | decide | omega)) sL_157 rfl dL_isKey_276 (Nat.le_of_ble_eq_true rfl) ⟨Nat.le_of_ble_eq_true rfl, Nat.le_of_ble_eq_true rfl⟩ ?_
          refine a_icmp_ne (tgt := 286) C dL_isKey_279 (by decide) (fun h_279 => ?_) (fun h_279 => ?_)
          · exact absurd rfl h_279
          · refine a_iconst (v := nI 1) C dL_isKey_282 (by decide) ?_
            refine a_goto (tgt := 287) C dL_isKey_283 (by decide) ?_
            refine a_istore C dL_isKey_287 (by decide) ?_
            refine n_iinc C dL_isKey_289 rfl (by decide) ?_
            refine a_goto (tgt := 253) C dL_isKey_292 (by decide) ?_
            refine a_join (aLe_s ?_ (aLe_s ?_ (aLe_s ?_ (aLe_s ?_ (aLe_s ?_ (aLe_n (aLe_n (aLe_s ?_ (aLe_s ?_ aLe_nil))))))))) rfl rfl (zih253 (n + 1) (by omega) (by omega))
            · first | with_reducible rfl | exact gl (by first | with_reducible rfl | (refine iF ?_; simp [mskN, h_256, h_261, (beq_eq_false_iff_ne.mpr h_261), (bne_iff_ne.mpr h_261), (eq_true h_279), (beq_iff_eq.mpr h_279), (bne_eq_false_iff_eq.mpr h_279)]; done) | (refine iT ?_; simp [mskN, h_256, h_261, (beq_eq_false_iff_ne.mpr h_261), (bne_iff_ne.mpr h_261), (eq_true h_279), (beq_iff_eq.mpr h_279), (bne_eq_false_iff_eq.mpr h_279)]; done) | (refine iB ?_; simp [mskN, h_256, h_261, (beq_eq_false_iff_ne.mpr h_261), (bne_iff_ne.mpr h_261), (eq_true h_279), (beq_iff_eq.mpr h_279), (bne_eq_false_iff_eq.mpr h_279)]; done) | (simp [mskN, h_256, h_261, (beq_eq_false_iff_ne.mpr h_261), (bne_iff_ne.mpr h_261), (eq_true h_279), (beq_iff_eq.mpr h_279), (bne_eq_false_iff_eq.mpr h_279)]; done) | (simp [mskN, h_256, h_261, (beq_eq_false_iff_ne.mpr h_261), (bne_iff_ne.mpr h_261), (eq_true h_279), (beq_iff_eq.mpr h_279), (bne_eq_false_iff_eq.mpr h_279)]; omega) | omega)
            · first | with_reducible rfl | exact gl (by first | with_reducible rfl | (refine iF ?_; simp [mskN, h_256, h_261, (beq_eq_false_iff_ne.mpr h_261), (bne_iff_ne.mpr h_261), (eq_true h_279), (beq_iff_eq.mpr h_279), (bne_eq_false_iff_eq.mpr h_279)]; done) | (refine iT ?_; simp [mskN, h_256, h_261, (beq_eq_false_iff_ne.mpr h_261), (bne_iff_ne.mpr h_261), (eq_true h_279), (beq_iff_eq.mpr h_279), (bne_eq_false_iff_eq.mpr h_279)]; done) | (refine iB ?_; simp [mskN, h_256, h_261, (beq_eq_false_iff_ne.mpr h_261), (bne_iff_ne.mpr h_261), (eq_true h_279), (beq_iff_eq.mpr h_279), (bne_eq_false_iff_eq.mpr h_279)]; done) | (simp [mskN, h_256, h_261, (beq_eq_false_iff_ne.mpr h_261), (bne_iff_ne.mpr h_261), (eq_true h_279), (beq_iff_eq.mpr h_279), (bne_eq_false_iff_eq.mpr h_279)]; done) | (simp [mskN, h_256, h_261, (beq_eq_false_iff_ne.mpr h_261), (bne_iff_ne.mpr h_261), (eq_true h_279), (beq_iff_eq.mpr h_279), (bne_eq_false_iff_eq.mpr h_279)]; omega) | omega)
            · first | with_reducible rfl | exact gl (by first | with_reducible rfl | (refine iF ?_; simp [mskN, h_256, h_261, (beq_eq_false_iff_ne.mpr h_261), (bne_iff_ne.mpr h_261), (eq_true h_279), (beq_iff_eq.mpr h_279), (bne_eq_false_iff_eq.mpr h_279)]; done) | (refine iT ?_; simp [mskN, h_256, h_261, (beq_eq_false_iff_ne.mpr h_261), (bne_iff_ne.mpr h_261), (eq_true h_279), (beq_iff_eq.mpr h_279), (bne_eq_false_iff_eq.mpr h_279)]; done) | (refine iB ?_; simp [mskN, h_256, h_261, (beq_eq_false_iff_ne.mpr h_261), (bne_iff_ne.mpr h_261), (eq_true h_279), (beq_iff_eq.mpr h_279), (bne_eq_false_iff_eq.mpr h_279)]; done) | (simp [mskN, h_256, h_261, (beq_eq_false_iff_ne.mpr h_261), (bne_iff_ne.mpr h_261), (eq_true h_279), (beq_iff_eq.mpr h_279), (bne_eq_false_iff_eq.mpr h_279)]; done) | (simp [mskN, h_256, h_261, (beq_eq_false_iff_ne.mpr h_261), (bne_iff_ne.mpr h_261), (eq_true h_279), (beq_iff_eq.mpr h_279), (bne_eq_false_iff_eq.mpr h_279)]; omega) | omega)
            · first | with_reducible rfl | exact gl (by first | with_reducible rfl | (refine iF ?_; simp [mskN, h_256, h_261, (beq_eq_false_iff_ne.mpr h_261), (bne_iff_ne.mpr h_261), (eq_true h_279), (beq_iff_eq.mpr h_279), (bne_eq_false_iff_eq.mpr h_279)]; done) | (refine iT ?_; simp [mskN, h_256, h_261, (beq_eq_false_iff_ne.mpr h_261), (bne_iff_ne.mpr h_261), (eq_true h_279), (beq_iff_eq.mpr h_279), (bne_eq_false_iff_eq.mpr h_279)]; done) | (refine iB ?_; simp [mskN, h_256, h_261, (beq_eq_false_iff_ne.mpr h_261), (bne_iff_ne.mpr h_261), (eq_true h_279), (beq_iff_eq.mpr h_279), (bne_eq_false_iff_eq.mpr h_279)]; done) | (simp [mskN, h_256, h_261, (beq_eq_false_iff_ne.mpr h_261), (bne_iff_ne.mpr h_261), (eq_true h_279), (beq_iff_eq.mpr h_279), (bne_eq_false_iff_eq.mpr h_279)]; done) | (simp [mskN, h_256, h_261, (beq_eq_false_iff_ne.mpr h_261), (bne_iff_ne.mpr h_261), (eq_true h_279), (beq_iff_eq.mpr h_279), (bne_eq_false_iff_eq.mpr h_279)]; omega) | omega)
            · first | with_reducible rfl | exact gl (by first | with_reducible rfl | (refine iF ?_; simp [mskN, h_256, h_261, (beq_eq_false_iff_ne.mpr h_261), (bne_iff_ne.mpr h_261), (eq_true h_279), (beq_iff_eq.mpr h_279), (bne_eq_false_iff_eq.mpr h_279)]; done) | (refine iT ?_; simp [mskN, h_256, h_261, (beq_eq_false_iff_ne.mpr h_261), (bne_iff_ne.mpr h_261), (eq_true h_279), (beq_iff_eq.mpr h_279), (bne_eq_false_iff_eq.mpr h_279)]; done) | (refine iB ?_; simp [mskN, h_256, h_261, (beq_eq_false_iff_ne.mpr h_261), (bne_iff_ne.mpr h_261), (eq_true h_279), (beq_iff_eq.mpr h_279), (bne_eq_false_iff_eq.mpr h_279)]; done) | (simp [mskN, h_256, h_261, (beq_eq_false_iff_ne.mpr h_261), (bne_iff_ne.mpr h_261), (eq_true h_279), (beq_iff_eq.mpr h_279), (bne_eq_false_iff_eq.mpr h_279)]; done) | (simp [mskN, h_256, h_261, (beq_eq_false_iff_ne.mpr h_261), (bne_iff_ne.mpr h_261), (eq_true h_279), (beq_iff_eq.mpr h_279), (bne_eq_false_iff_eq.mpr h_279)]; omega) | omega)
            · first | with_reducible rfl | exact gl (by first | with_reducible rfl | (refine iF ?_; simp [mskN, h_256, h_261, (beq_eq_false_iff_ne.mpr h_261), (bne_iff_ne.mpr h_261), (eq_true h_279), (beq_iff_eq.mpr h_279), (bne_eq_false_iff_eq.mpr h_279)]; done) | (refine iT ?_; simp [mskN, h_256, h_261, (beq_eq_false_iff_ne.mpr h_261), (bne_iff_ne.mpr h_261), (eq_true h_279), (beq_iff_eq.mpr h_279), (bne_eq_false_iff_eq.mpr h_279)]; done) | (refine iB ?_; simp [mskN, h_256, h_261, (beq_eq_false_iff_ne.mpr h_261), (bne_iff_ne.mpr h_261), (eq_true h_279), (beq_iff_eq.mpr h_279), (bne_eq_false_iff_eq.mpr h_279)]; done) | (simp [mskN, h_256, h_261, (beq_eq_false_iff_ne.mpr h_261), (bne_iff_ne.mpr h_261), (eq_true h_279), (beq_iff_eq.mpr h_279), (bne_eq_false_iff_eq.mpr h_279)]; done) | (simp [mskN, h_256, h_261, (beq_eq_false_iff_ne.mpr h_261), (bne_iff_ne.mpr h_261), (eq_true h_279), (beq_iff_eq.mpr h_279), (bne_eq_false_iff_eq.mpr h_279)]; omega) | omega)
            · first | with_reducible rfl | exact gl (by first | with_reducible rfl | (refine iF ?_; simp [mskN, h_256, h_261, (beq_eq_false_iff_ne.mpr h_261), (bne_iff_ne.mpr h_261), (eq_true h_279), (beq_iff_eq.mpr h_279), (bne_eq_false_iff_eq.mpr h_279)]; done) | (refine iT ?_; simp [mskN, h_256, h_261, (beq_eq_false_iff_ne.mpr h_261), (bne_iff_ne.mpr h_261), (eq_true h_279), (beq_iff_eq.mpr h_279), (bne_eq_false_iff_eq.mpr h_279)]; done) | (refine iB ?_; simp [mskN, h_256, h_261, (beq_eq_false_iff_ne.mpr h_261), (bne_iff_ne.mpr h_261), (eq_true h_279), (beq_iff_eq.mpr h_279), (bne_eq_false_iff_eq.mpr h_279)]; done) | (simp [mskN, h_256, h_261, (beq_eq_false_iff_ne.mpr h_261), (bne_iff_ne.mpr h_261), (eq_true h_279), (beq_iff_eq.mpr h_279), (bne_eq_false_iff_eq.mpr h_279)]; done) | (simp [mskN, h_256, h_261, (beq_eq_false_iff_ne.mpr h_261), (bne_iff_ne.mpr h_261), (eq_true h_279), (beq_iff_eq.mpr h_279), (bne_eq_false_iff_eq.mpr h_279)]; omega) | omega)
  have ZL9 : ∀ (zd9 : Nat) (o : Nat), kN A + 1 ≤ o + zd9 → o ≤ kN A → WA G9 p9 l9 e9 (RL9 8 136 (0) (0)) s9 m9 ar9 be9 me9 co9 (QL G9 be9 ar9 s9 w ex us (0) (0) (fun r w' => r = some (.int (nI 1)) ∧ w' = w)) 9 (207 + ex.1 + ex.2) us 9 [some (.ref 0), some (.int (nI k)), some (.ref 204), some (.ref 205), some (.ref 206), some (.int (nI (mskN (cbP A true (cN A k)) o))), some (.int (nI (mskN (cbP A false (cN A k)) o))), some (.int (nI o)), none] [] (fzM w ex us) := by
    intro zd9
    induction zd9 with
    | zero => intro o zm9 zh9_0; exfalso; omega
    | succ zd9 zih9 =>
      intro o zm9 zh9_0
      refine a_iload C dL_isKey_9 rfl ?_
      refine a_aload_n C dL_isKey_11 rfl rfl ?_
      refine a_iconst (v := nI 0) C dL_isKey_12 (by decide) ?_
      refine n_iald C dL_isKey_13 (tw (by first | decide | omega)) (by first | decide | omega) rfl rfl (by first | decide | omega) (by decide) (LR_n hL hA) ?_
      first | refine n_icmp_ge (tgt := 79) C dL_isKey_14 (by decide) (by first | decide | omega) (by first | decide | omega) (fun h_14 => ?_) (fun h_14 => ?_) | refine a_icmp_ge (tgt := 79) C dL_isKey_14 (by decide) (fun h_14 => ?_) (fun h_14 => ?_)
      · obtain rfl : o = kN A := by omega
        refine a_aload_n C dL_isKey_79 rfl rfl ?_
        refine a_iload_n C dL_isKey_80 rfl rfl ?_
        refine a_iconst (v := nI 0) C dL_isKey_81 (by decide) ?_
        refine l0_callSW C hfl _ (HA_key hD hA (by first | assumption | decide | omega) (by first | assumption | decide | omega)) sW_117 dL_isKey_82 rfl (Nat.le_of_ble_eq_true rfl) ⟨Nat.le_of_ble_eq_true rfl, Nat.le_of_ble_eq_true rfl⟩ ⟨Nat.le_add_right _ _, Nat.le_add_right _ _⟩ (fun zr82 zw82 zp82 => ?_)
        obtain ⟨rfl, rfl⟩ := zp82
        refine a_aload_n C dL_isKey_85 rfl rfl ?_
        refine a_bipush (v := nI 6) C dL_isKey_86 (by decide) ?_
        refine a_iload_n C dL_isKey_88 rfl rfl ?_
        first | refine n_imul C dL_isKey_89 ?_ | refine a_imul C dL_isKey_89 ?_
        refine n_iald C dL_isKey_90 (tw (by first | decide | omega)) (by first | decide | omega) rfl rfl (by first | decide | omega) (by decide) (LR_kc hL hA (by omega)) ?_
        refine a_icmp_ne (tgt := 247) C dL_isKey_91 (by decide) (fun h_91 => ?_) (fun h_91 => ?_)
        · exact absurd rfl h_91
        · refine a_aload_n C dL_isKey_94 rfl rfl ?_
          refine a_iload_n C dL_isKey_95 rfl rfl ?_
          refine a_iconst (v := nI 1) C dL_isKey_96 (by decide) ?_
          refine l0_callSW C hfl _ (HA_key hD hA (by first | assumption | decide | omega) (by first | assumption | decide | omega)) sW_117 dL_isKey_97 rfl (Nat.le_of_ble_eq_true rfl) ⟨Nat.le_of_ble_eq_true rfl, Nat.le_of_ble_eq_true rfl⟩ ⟨Nat.le_add_right _ _, Nat.le_add_right _ _⟩ (fun zr97 zw97 zp97 => ?_)
          obtain ⟨rfl, rfl⟩ := zp97
          refine a_aload_n C dL_isKey_100 rfl rfl ?_
          refine a_bipush (v := nI 6) C dL_isKey_101 (by decide) ?_
          refine a_iload_n C dL_isKey_103 rfl rfl ?_
          first | refine n_imul C dL_isKey_104 ?_ | refine a_imul C dL_isKey_104 ?_
          refine n_iald C dL_isKey_105 (tw (by first | decide | omega)) (by first | decide | omega) rfl rfl (by first | decide | omega) (by decide) (LR_kc hL hA (by omega)) ?_
          refine p_callS C ((K_L_levelOf (by first | assumption | decide | omega))).cp sL_154 rfl dL_isKey_106 (Nat.le_of_ble_eq_true rfl) ⟨Nat.le_of_ble_eq_true rfl, Nat.le_of_ble_eq_true rfl⟩ ?_
          refine a_icmp_ne (tgt := 247) C dL_isKey_109 (by decide) (fun h_109 => ?_) (fun h_109 => ?_)
          · exact absurd rfl h_109
          · refine a_aload_n C dL_isKey_112 rfl rfl ?_
            refine a_iload_n C dL_isKey_113 rfl rfl ?_
            refine a_iconst (v := nI 2) C dL_isKey_114 (by decide) ?_
            refine l0_callSW C hfl _ (HA_key hD hA (by first | assumption | decide | omega) (by first | assumption | decide | omega)) sW_117 dL_isKey_115 rfl (Nat.le_of_ble_eq_true rfl) ⟨Nat.le_of_ble_eq_true rfl, Nat.le_of_ble_eq_true rfl⟩ ⟨Nat.le_add_right _ _, Nat.le_add_right _ _⟩ (fun zr115 zw115 zp115 => ?_)
            obtain ⟨rfl, rfl⟩ := zp115
            refine a_aload_n C dL_isKey_118 rfl rfl ?_
            refine a_bipush (v := nI 6) C dL_isKey_119 (by decide) ?_
            refine a_iload_n C dL_isKey_121 rfl rfl ?_
            first | refine n_imul C dL_isKey_122 ?_ | refine a_imul C dL_isKey_122 ?_
            refine a_iconst (v := nI 3) C dL_isKey_123 (by decide) ?_
            first | refine n_iadd C dL_isKey_124 ?_ | refine a_iadd C dL_isKey_124 ?_
            refine n_iald C dL_isKey_125 (tw (by first | decide | omega)) (by first | decide | omega) rfl rfl (by first | decide | omega) (by decide) (LR_kf hL (by omega)) ?_
            refine a_icmp_ne (tgt := 247) C dL_isKey_126 (by decide) (fun h_126 => ?_) (fun h_126 => ?_)
            · exact absurd rfl h_126
            · refine a_aload_n C dL_isKey_129 rfl rfl ?_
              refine a_iload_n C dL_isKey_130 rfl rfl ?_
              refine a_iconst (v := nI 3) C dL_isKey_131 (by decide) ?_
              refine l0_callSW C hfl _ (HA_key hD hA (by first | assumption | decide | omega) (by first | assumption | decide | omega)) sW_117 dL_isKey_132 rfl (Nat.le_of_ble_eq_true rfl) ⟨Nat.le_of_ble_eq_true rfl, Nat.le_of_ble_eq_true rfl⟩ ⟨Nat.le_add_right _ _, Nat.le_add_right _ _⟩ (fun zr132 zw132 zp132 => ?_)
              obtain ⟨rfl, rfl⟩ := zp132
              refine a_aload_n C dL_isKey_135 rfl rfl ?_
              refine a_bipush (v := nI 6) C dL_isKey_136 (by decide) ?_
              refine a_iload_n C dL_isKey_138 rfl rfl ?_
              first | refine n_imul C dL_isKey_139 ?_ | refine a_imul C dL_isKey_139 ?_
              refine a_iconst (v := nI 4) C dL_isKey_140 (by decide) ?_
              first | refine n_iadd C dL_isKey_141 ?_ | refine a_iadd C dL_isKey_141 ?_
              refine n_iald C dL_isKey_142 (tw (by first | decide | omega)) (by first | decide | omega) rfl rfl (by first | decide | omega) (by decide) (LR_ku hL (by omega)) ?_
              refine a_icmp_ne (tgt := 247) C dL_isKey_143 (by decide) (fun h_143 => ?_) (fun h_143 => ?_)
              · exact absurd rfl h_143
              · refine a_aload_n C dL_isKey_146 rfl rfl ?_
                refine a_iload_n C dL_isKey_147 rfl rfl ?_
                refine a_iconst (v := nI 4) C dL_isKey_148 (by decide) ?_
                refine l0_callSW C hfl _ (HA_key hD hA (by first | assumption | decide | omega) (by first | assumption | decide | omega)) sW_117 dL_isKey_149 rfl (Nat.le_of_ble_eq_true rfl) ⟨Nat.le_of_ble_eq_true rfl, Nat.le_of_ble_eq_true rfl⟩ ⟨Nat.le_add_right _ _, Nat.le_add_right _ _⟩ (fun zr149 zw149 zp149 => ?_)
                obtain ⟨rfl, rfl⟩ := zp149
                refine a_aload_n C dL_isKey_152 rfl rfl ?_
                refine a_bipush (v := nI 6) C dL_isKey_153 (by decide) ?_
                refine a_iload_n C dL_isKey_155 rfl rfl ?_
                first | refine n_imul C dL_isKey_156 ?_ | refine a_imul C dL_isKey_156 ?_
                refine a_iconst (v := nI 1) C dL_isKey_157 (by decide) ?_
                first | refine n_iadd C dL_isKey_158 ?_ | refine a_iadd C dL_isKey_158 ?_
                refine n_iald C dL_isKey_159 (tw (by first | decide | omega)) (by first | decide | omega) rfl rfl (by first | decide | omega) (by decide) (LR_ko hL hA (by omega)) ?_
                refine a_icmp_ne (tgt := 247) C dL_isKey_160 (by decide) (fun h_160 => ?_) (fun h_160 => ?_)
                · exact absurd rfl h_160
                · refine a_aload_n C dL_isKey_163 rfl rfl ?_
                  refine a_iload_n C dL_isKey_164 rfl rfl ?_
                  refine a_iconst (v := nI 5) C dL_isKey_165 (by decide) ?_
                  refine l0_callSW C hfl _ (HA_key hD hA (by first | assumption | decide | omega) (by first | assumption | decide | omega)) sW_117 dL_isKey_166 rfl (Nat.le_of_ble_eq_true rfl) ⟨Nat.le_of_ble_eq_true rfl, Nat.le_of_ble_eq_true rfl⟩ ⟨Nat.le_add_right _ _, Nat.le_add_right _ _⟩ (fun zr166 zw166 zp166 => ?_)
                  obtain ⟨rfl, rfl⟩ := zp166
                  refine a_aload_n C dL_isKey_169 rfl rfl ?_
                  refine a_bipush (v := nI 6) C dL_isKey_170 (by decide) ?_
                  refine a_iload_n C dL_isKey_172 rfl rfl ?_
                  first | refine n_imul C dL_isKey_173 ?_ | refine a_imul C dL_isKey_173 ?_
                  refine a_iconst (v := nI 2) C dL_isKey_174 (by decide) ?_
                  first | refine n_iadd C dL_isKey_175 ?_ | refine a_iadd C dL_isKey_175 ?_
                  refine n_iald C dL_isKey_176 (tw (by first | decide | omega)) (by first | decide | omega) rfl rfl (by first | decide | omega) (by decide) (LR_kl hL hA (by omega)) ?_
                  refine a_icmp_ne (tgt := 247) C dL_isKey_177 (by decide) (fun h_177 => ?_) (fun h_177 => ?_)
                  · exact absurd rfl h_177
                  · refine a_aload_n C dL_isKey_180 rfl rfl ?_
                    refine a_iload_n C dL_isKey_181 rfl rfl ?_
                    refine a_bipush (v := nI 6) C dL_isKey_182 (by decide) ?_
                    refine l0_callSW C hfl _ (HA_key hD hA (by first | assumption | decide | omega) (by first | assumption | decide | omega)) sW_117 dL_isKey_184 rfl (Nat.le_of_ble_eq_true rfl) ⟨Nat.le_of_ble_eq_true rfl, Nat.le_of_ble_eq_true rfl⟩ ⟨Nat.le_add_right _ _, Nat.le_add_right _ _⟩ (fun zr184 zw184 zp184 => ?_)
                    obtain ⟨rfl, rfl⟩ := zp184
                    refine a_aload_n C dL_isKey_187 rfl rfl ?_
                    refine a_bipush (v := nI 6) C dL_isKey_188 (by decide) ?_
                    refine a_iload_n C dL_isKey_190 rfl rfl ?_
                    first | refine n_imul C dL_isKey_191 ?_ | refine a_imul C dL_isKey_191 ?_
                    refine n_iald C dL_isKey_192 (tw (by first | decide | omega)) (by first | decide | omega) rfl rfl (by first | decide | omega) (by decide) (LR_kc hL hA (by omega)) ?_
                    refine a_aload C dL_isKey_193 rfl ?_
                    refine p_callS C (K_L_locksOf hL hA (by first | assumption | decide | omega)) sL_164 rfl dL_isKey_195 (Nat.le_of_ble_eq_true rfl) ⟨Nat.le_of_ble_eq_true rfl, Nat.le_of_ble_eq_true rfl⟩ ?_
                    refine a_icmp_ne (tgt := 247) C dL_isKey_198 (by decide) (fun h_198 => ?_) (fun h_198 => ?_)
                    · exact absurd rfl h_198
                    · refine a_aload_n C dL_isKey_201 rfl rfl ?_
                      refine a_iload_n C dL_isKey_202 rfl rfl ?_
                      refine a_bipush (v := nI 7) C dL_isKey_203 (by decide) ?_
                      refine l0_callSW C hfl _ (HA_key hD hA (by first | assumption | decide | omega) (by first | assumption | decide | omega)) sW_117 dL_isKey_205 rfl (Nat.le_of_ble_eq_true rfl) ⟨Nat.le_of_ble_eq_true rfl, Nat.le_of_ble_eq_true rfl⟩ ⟨Nat.le_add_right _ _, Nat.le_add_right _ _⟩ (fun zr205 zw205 zp205 => ?_)
                      obtain ⟨rfl, rfl⟩ := zp205
                      refine a_iload C dL_isKey_208 rfl ?_
                      refine a_icmp_ne (tgt := 247) C dL_isKey_210 (by decide) (fun h_210 => ?_) (fun h_210 => ?_)
                      · exact absurd rfl h_210
                      · refine a_aload_n C dL_isKey_213 rfl rfl ?_
                        refine a_iload_n C dL_isKey_214 rfl rfl ?_
                        refine a_bipush (v := nI 8) C dL_isKey_215 (by decide) ?_
                        refine l0_callSW C hfl _ (HA_key hD hA (by first | assumption | decide | omega) (by first | assumption | decide | omega)) sW_117 dL_isKey_217 rfl (Nat.le_of_ble_eq_true rfl) ⟨Nat.le_of_ble_eq_true rfl, Nat.le_of_ble_eq_true rfl⟩ ⟨Nat.le_add_right _ _, Nat.le_add_right _ _⟩ (fun zr217 zw217 zp217 => ?_)
                        obtain ⟨rfl, rfl⟩ := zp217
                        refine a_iload C dL_isKey_220 rfl ?_
                        refine a_icmp_ne (tgt := 247) C dL_isKey_222 (by decide) (fun h_222 => ?_) (fun h_222 => ?_)
                        · exact absurd rfl h_222
                        · refine a_aload_n C dL_isKey_225 rfl rfl ?_
                          refine a_iload_n C dL_isKey_226 rfl rfl ?_
                          refine a_bipush (v := nI 9) C dL_isKey_227 (by decide) ?_
                          refine l0_callSW C hfl _ (HA_key hD hA (by first | assumption | decide | omega) (by first | assumption | decide | omega)) sW_117 dL_isKey_229 rfl (Nat.le_of_ble_eq_true rfl) ⟨Nat.le_of_ble_eq_true rfl, Nat.le_of_ble_eq_true rfl⟩ ⟨Nat.le_add_right _ _, Nat.le_add_right _ _⟩ (fun zr229 zw229 zp229 => ?_)
                          obtain ⟨rfl, rfl⟩ := zp229
                          refine a_aload_n C dL_isKey_232 rfl rfl ?_
                          refine a_bipush (v := nI 6) C dL_isKey_233 (by decide) ?_
                          refine a_iload_n C dL_isKey_235 rfl rfl ?_
                          first | refine n_imul C dL_isKey_236 ?_ | refine a_imul C dL_isKey_236 ?_
                          refine a_iconst (v := nI 5) C dL_isKey_237 (by decide) ?_
                          first | refine n_iadd C dL_isKey_238 ?_ | refine a_iadd C dL_isKey_238 ?_
                          refine n_iald C dL_isKey_239 (tw (by first | decide | omega)) (by first | decide | omega) rfl rfl (by first | decide | omega) (by decide) (LR_kw hL (by omega)) ?_
                          refine a_icmp_ne (tgt := 247) C dL_isKey_240 (by decide) (fun h_240 => ?_) (fun h_240 => ?_)
                          · exact absurd rfl h_240
                          · refine a_iconst (v := nI 1) C dL_isKey_243 (by decide) ?_
                            refine a_goto (tgt := 248) C dL_isKey_244 (by decide) ?_
                            refine a_istore C dL_isKey_248 (by decide) ?_
                            refine a_iconst (v := nI 0) C dL_isKey_250 (by decide) ?_
                            refine a_istore C dL_isKey_251 (by decide) ?_
                            refine a_join (aLe_s ?_ (aLe_s ?_ (aLe_s ?_ (aLe_s ?_ (aLe_s ?_ (aLe_n (aLe_n (aLe_s ?_ (aLe_s ?_ aLe_nil))))))))) rfl rfl (ZL253 (4 + 1) 0 (by omega) (by omega))
                            · first | with_reducible rfl | exact gl (by first | with_reducible rfl | (refine iF ?_; simp [mskN, h_14, (eq_true h_91), (beq_iff_eq.mpr h_91), (bne_eq_false_iff_eq.mpr h_91), (eq_true h_109), (beq_iff_eq.mpr h_109), (bne_eq_false_iff_eq.mpr h_109), (eq_true h_126), (beq_iff_eq.mpr h_126), (bne_eq_false_iff_eq.mpr h_126), (eq_true h_143), (beq_iff_eq.mpr h_143), (bne_eq_false_iff_eq.mpr h_143), (eq_true h_160), (beq_iff_eq.mpr h_160), (bne_eq_false_iff_eq.mpr h_160), (eq_true h_177), (beq_iff_eq.mpr h_177), (bne_eq_false_iff_eq.mpr h_177), (eq_true h_198), (beq_iff_eq.mpr h_198), (bne_eq_false_iff_eq.mpr h_198), (eq_true h_210), (beq_iff_eq.mpr h_210), (bne_eq_false_iff_eq.mpr h_210), (eq_true h_222), (beq_iff_eq.mpr h_222), (bne_eq_false_iff_eq.mpr h_222), (eq_true h_240), (beq_iff_eq.mpr h_240), (bne_eq_false_iff_eq.mpr h_240)]; done) | (refine iT ?_; simp [mskN, h_14, (eq_true h_91), (beq_iff_eq.mpr h_91), (bne_eq_false_iff_eq.mpr h_91), (eq_true h_109), (beq_iff_eq.mpr h_109), (bne_eq_false_iff_eq.mpr h_109), (eq_true h_126), (beq_iff_eq.mpr h_126), (bne_eq_false_iff_eq.mpr h_126), (eq_true h_143), (beq_iff_eq.mpr h_143), (bne_eq_false_iff_eq.mpr h_143), (eq_true h_160), (beq_iff_eq.mpr h_160), (bne_eq_false_iff_eq.mpr h_160), (eq_true h_177), (beq_iff_eq.mpr h_177), (bne_eq_false_iff_eq.mpr h_177), (eq_true h_198), (beq_iff_eq.mpr h_198), (bne_eq_false_iff_eq.mpr h_198), (eq_true h_210), (beq_iff_eq.mpr h_210), (bne_eq_false_iff_eq.mpr h_210), (eq_true h_222), (beq_iff_eq.mpr h_222), (bne_eq_false_iff_eq.mpr h_222), (eq_true h_240), (beq_iff_eq.mpr h_240), (bne_eq_false_iff_eq.mpr h_240)]; done) | (refine iB ?_; simp [mskN, h_14, (eq_true h_91), (beq_iff_eq.mpr h_91), (bne_eq_false_iff_eq.mpr h_91), (eq_true h_109), (beq_iff_eq.mpr h_109), (bne_eq_false_iff_eq.mpr h_109), (eq_true h_126), (beq_iff_eq.mpr h_126), (bne_eq_false_iff_eq.mpr h_126), (eq_true h_143), (beq_iff_eq.mpr h_143), (bne_eq_false_iff_eq.mpr h_143), (eq_true h_160), (beq_iff_eq.mpr h_160), (bne_eq_false_iff_eq.mpr h_160), (eq_true h_177), (beq_iff_eq.mpr h_177), (bne_eq_false_iff_eq.mpr h_177), (eq_true h_198), (beq_iff_eq.mpr h_198), (bne_eq_false_iff_eq.mpr h_198), (eq_true h_210), (beq_iff_eq.mpr h_210), (bne_eq_false_iff_eq.mpr h_210), (eq_true h_222), (beq_iff_eq.mpr h_222), (bne_eq_false_iff_eq.mpr h_222), (eq_true h_240), (beq_iff_eq.mpr h_240), (bne_eq_false_iff_eq.mpr h_240)]; done) | (simp [mskN, h_14, (eq_true h_91), (beq_iff_eq.mpr h_91), (bne_eq_false_iff_eq.mpr h_91), (eq_true h_109), (beq_iff_eq.mpr h_109), (bne_eq_false_iff_eq.mpr h_109), (eq_true h_126), (beq_iff_eq.mpr h_126), (bne_eq_false_iff_eq.mpr h_126), (eq_true h_143), (beq_iff_eq.mpr h_143), (bne_eq_false_iff_eq.mpr h_143), (eq_true h_160), (beq_iff_eq.mpr h_160), (bne_eq_false_iff_eq.mpr h_160), (eq_true h_177), (beq_iff_eq.mpr h_177), (bne_eq_false_iff_eq.mpr h_177), (eq_true h_198), (beq_iff_eq.mpr h_198), (bne_eq_false_iff_eq.mpr h_198), (eq_true h_210), (beq_iff_eq.mpr h_210), (bne_eq_false_iff_eq.mpr h_210), (eq_true h_222), (beq_iff_eq.mpr h_222), (bne_eq_false_iff_eq.mpr h_222), (eq_true h_240), (beq_iff_eq.mpr h_240), (bne_eq_false_iff_eq.mpr h_240)]; done) | (simp [mskN, h_14, (eq_true h_91), (beq_iff_eq.mpr h_91), (bne_eq_false_iff_eq.mpr h_91), (eq_true h_109), (beq_iff_eq.mpr h_109), (bne_eq_false_iff_eq.mpr h_109), (eq_true h_126), (beq_iff_eq.mpr h_126), (bne_eq_false_iff_eq.mpr h_126), (eq_true h_143), (beq_iff_eq.mpr h_143), (bne_eq_false_iff_eq.mpr h_143), (eq_true h_160), (beq_iff_eq.mpr h_160), (bne_eq_false_iff_eq.mpr h_160), (eq_true h_177), (beq_iff_eq.mpr h_177), (bne_eq_false_iff_eq.mpr h_177), (eq_true h_198), (beq_iff_eq.mpr h_198), (bne_eq_false_iff_eq.mpr h_198), (eq_true h_210), (beq_iff_eq.mpr h_210), (bne_eq_false_iff_eq.mpr h_210), (eq_true h_222), (beq_iff_eq.mpr h_222), (bne_eq_false_iff_eq.mpr h_222), (eq_true h_240), (beq_iff_eq.mpr h_240), (bne_eq_false_iff_eq.mpr h_240)]; omega) | omega | rfl)
                            · first | with_reducible rfl | exact gl (by first | with_reducible rfl | (refine iF ?_; simp [mskN, h_14, (eq_true h_91), (beq_iff_eq.mpr h_91), (bne_eq_false_iff_eq.mpr h_91), (eq_true h_109), (beq_iff_eq.mpr h_109), (bne_eq_false_iff_eq.mpr h_109), (eq_true h_126), (beq_iff_eq.mpr h_126), (bne_eq_false_iff_eq.mpr h_126), (eq_true h_143), (beq_iff_eq.mpr h_143), (bne_eq_false_iff_eq.mpr h_143), (eq_true h_160), (beq_iff_eq.mpr h_160), (bne_eq_false_iff_eq.mpr h_160), (eq_true h_177), (beq_iff_eq.mpr h_177), (bne_eq_false_iff_eq.mpr h_177), (eq_true h_198), (beq_iff_eq.mpr h_198), (bne_eq_false_iff_eq.mpr h_198), (eq_true h_210), (beq_iff_eq.mpr h_210), (bne_eq_false_iff_eq.mpr h_210), (eq_true h_222), (beq_iff_eq.mpr h_222), (bne_eq_false_iff_eq.mpr h_222), (eq_true h_240), (beq_iff_eq.mpr h_240), (bne_eq_false_iff_eq.mpr h_240)]; done) | (refine iT ?_; simp [mskN, h_14, (eq_true h_91), (beq_iff_eq.mpr h_91), (bne_eq_false_iff_eq.mpr h_91), (eq_true h_109), (beq_iff_eq.mpr h_109), (bne_eq_false_iff_eq.mpr h_109), (eq_true h_126), (beq_iff_eq.mpr h_126), (bne_eq_false_iff_eq.mpr h_126), (eq_true h_143), (beq_iff_eq.mpr h_143), (bne_eq_false_iff_eq.mpr h_143), (eq_true h_160), (beq_iff_eq.mpr h_160), (bne_eq_false_iff_eq.mpr h_160), (eq_true h_177), (beq_iff_eq.mpr h_177), (bne_eq_false_iff_eq.mpr h_177), (eq_true h_198), (beq_iff_eq.mpr h_198), (bne_eq_false_iff_eq.mpr h_198), (eq_true h_210), (beq_iff_eq.mpr h_210), (bne_eq_false_iff_eq.mpr h_210), (eq_true h_222), (beq_iff_eq.mpr h_222), (bne_eq_false_iff_eq.mpr h_222), (eq_true h_240), (beq_iff_eq.mpr h_240), (bne_eq_false_iff_eq.mpr h_240)]; done) | (refine iB ?_; simp [mskN, h_14, (eq_true h_91), (beq_iff_eq.mpr h_91), (bne_eq_false_iff_eq.mpr h_91), (eq_true h_109), (beq_iff_eq.mpr h_109), (bne_eq_false_iff_eq.mpr h_109), (eq_true h_126), (beq_iff_eq.mpr h_126), (bne_eq_false_iff_eq.mpr h_126), (eq_true h_143), (beq_iff_eq.mpr h_143), (bne_eq_false_iff_eq.mpr h_143), (eq_true h_160), (beq_iff_eq.mpr h_160), (bne_eq_false_iff_eq.mpr h_160), (eq_true h_177), (beq_iff_eq.mpr h_177), (bne_eq_false_iff_eq.mpr h_177), (eq_true h_198), (beq_iff_eq.mpr h_198), (bne_eq_false_iff_eq.mpr h_198), (eq_true h_210), (beq_iff_eq.mpr h_210), (bne_eq_false_iff_eq.mpr h_210), (eq_true h_222), (beq_iff_eq.mpr h_222), (bne_eq_false_iff_eq.mpr h_222), (eq_true h_240), (beq_iff_eq.mpr h_240), (bne_eq_false_iff_eq.mpr h_240)]; done) | (simp [mskN, h_14, (eq_true h_91), (beq_iff_eq.mpr h_91), (bne_eq_false_iff_eq.mpr h_91), (eq_true h_109), (beq_iff_eq.mpr h_109), (bne_eq_false_iff_eq.mpr h_109), (eq_true h_126), (beq_iff_eq.mpr h_126), (bne_eq_false_iff_eq.mpr h_126), (eq_true h_143), (beq_iff_eq.mpr h_143), (bne_eq_false_iff_eq.mpr h_143), (eq_true h_160), (beq_iff_eq.mpr h_160), (bne_eq_false_iff_eq.mpr h_160), (eq_true h_177), (beq_iff_eq.mpr h_177), (bne_eq_false_iff_eq.mpr h_177), (eq_true h_198), (beq_iff_eq.mpr h_198), (bne_eq_false_iff_eq.mpr h_198), (eq_true h_210), (beq_iff_eq.mpr h_210), (bne_eq_false_iff_eq.mpr h_210), (eq_true h_222), (beq_iff_eq.mpr h_222), (bne_eq_false_iff_eq.mpr h_222), (eq_true h_240), (beq_iff_eq.mpr h_240), (bne_eq_false_iff_eq.mpr h_240)]; done) | (simp [mskN, h_14, (eq_true h_91), (beq_iff_eq.mpr h_91), (bne_eq_false_iff_eq.mpr h_91), (eq_true h_109), (beq_iff_eq.mpr h_109), (bne_eq_false_iff_eq.mpr h_109), (eq_true h_126), (beq_iff_eq.mpr h_126), (bne_eq_false_iff_eq.mpr h_126), (eq_true h_143), (beq_iff_eq.mpr h_143), (bne_eq_false_iff_eq.mpr h_143), (eq_true h_160), (beq_iff_eq.mpr h_160), (bne_eq_false_iff_eq.mpr h_160), (eq_true h_177), (beq_iff_eq.mpr h_177), (bne_eq_false_iff_eq.mpr h_177), (eq_true h_198), (beq_iff_eq.mpr h_198), (bne_eq_false_iff_eq.mpr h_198), (eq_true h_210), (beq_iff_eq.mpr h_210), (bne_eq_false_iff_eq.mpr h_210), (eq_true h_222), (beq_iff_eq.mpr h_222), (bne_eq_false_iff_eq.mpr h_222), (eq_true h_240), (beq_iff_eq.mpr h_240), (bne_eq_false_iff_eq.mpr h_240)]; omega) | omega | rfl)
                            · first | with_reducible rfl | exact gl (by first | with_reducible rfl | (refine iF ?_; simp [mskN, h_14, (eq_true h_91), (beq_iff_eq.mpr h_91), (bne_eq_false_iff_eq.mpr h_91), (eq_true h_109), (beq_iff_eq.mpr h_109), (bne_eq_false_iff_eq.mpr h_109), (eq_true h_126), (beq_iff_eq.mpr h_126), (bne_eq_false_iff_eq.mpr h_126), (eq_true h_143), (beq_iff_eq.mpr h_143), (bne_eq_false_iff_eq.mpr h_143), (eq_true h_160), (beq_iff_eq.mpr h_160), (bne_eq_false_iff_eq.mpr h_160), (eq_true h_177), (beq_iff_eq.mpr h_177), (bne_eq_false_iff_eq.mpr h_177), (eq_true h_198), (beq_iff_eq.mpr h_198), (bne_eq_false_iff_eq.mpr h_198), (eq_true h_210), (beq_iff_eq.mpr h_210), (bne_eq_false_iff_eq.mpr h_210), (eq_true h_222), (beq_iff_eq.mpr h_222), (bne_eq_false_iff_eq.mpr h_222), (eq_true h_240), (beq_iff_eq.mpr h_240), (bne_eq_false_iff_eq.mpr h_240)]; done) | (refine iT ?_; simp [mskN, h_14, (eq_true h_91), (beq_iff_eq.mpr h_91), (bne_eq_false_iff_eq.mpr h_91), (eq_true h_109), (beq_iff_eq.mpr h_109), (bne_eq_false_iff_eq.mpr h_109), (eq_true h_126), (beq_iff_eq.mpr h_126), (bne_eq_false_iff_eq.mpr h_126), (eq_true h_143), (beq_iff_eq.mpr h_143), (bne_eq_false_iff_eq.mpr h_143), (eq_true h_160), (beq_iff_eq.mpr h_160), (bne_eq_false_iff_eq.mpr h_160), (eq_true h_177), (beq_iff_eq.mpr h_177), (bne_eq_false_iff_eq.mpr h_177), (eq_true h_198), (beq_iff_eq.mpr h_198), (bne_eq_false_iff_eq.mpr h_198), (eq_true h_210), (beq_iff_eq.mpr h_210), (bne_eq_false_iff_eq.mpr h_210), (eq_true h_222), (beq_iff_eq.mpr h_222), (bne_eq_false_iff_eq.mpr h_222), (eq_true h_240), (beq_iff_eq.mpr h_240), (bne_eq_false_iff_eq.mpr h_240)]; done) | (refine iB ?_; simp [mskN, h_14, (eq_true h_91), (beq_iff_eq.mpr h_91), (bne_eq_false_iff_eq.mpr h_91), (eq_true h_109), (beq_iff_eq.mpr h_109), (bne_eq_false_iff_eq.mpr h_109), (eq_true h_126), (beq_iff_eq.mpr h_126), (bne_eq_false_iff_eq.mpr h_126), (eq_true h_143), (beq_iff_eq.mpr h_143), (bne_eq_false_iff_eq.mpr h_143), (eq_true h_160), (beq_iff_eq.mpr h_160), (bne_eq_false_iff_eq.mpr h_160), (eq_true h_177), (beq_iff_eq.mpr h_177), (bne_eq_false_iff_eq.mpr h_177), (eq_true h_198), (beq_iff_eq.mpr h_198), (bne_eq_false_iff_eq.mpr h_198), (eq_true h_210), (beq_iff_eq.mpr h_210), (bne_eq_false_iff_eq.mpr h_210), (eq_true h_222), (beq_iff_eq.mpr h_222), (bne_eq_false_iff_eq.mpr h_222), (eq_true h_240), (beq_iff_eq.mpr h_240), (bne_eq_false_iff_eq.mpr h_240)]; done) | (simp [mskN, h_14, (eq_true h_91), (beq_iff_eq.mpr h_91), (bne_eq_false_iff_eq.mpr h_91), (eq_true h_109), (beq_iff_eq.mpr h_109), (bne_eq_false_iff_eq.mpr h_109), (eq_true h_126), (beq_iff_eq.mpr h_126), (bne_eq_false_iff_eq.mpr h_126), (eq_true h_143), (beq_iff_eq.mpr h_143), (bne_eq_false_iff_eq.mpr h_143), (eq_true h_160), (beq_iff_eq.mpr h_160), (bne_eq_false_iff_eq.mpr h_160), (eq_true h_177), (beq_iff_eq.mpr h_177), (bne_eq_false_iff_eq.mpr h_177), (eq_true h_198), (beq_iff_eq.mpr h_198), (bne_eq_false_iff_eq.mpr h_198), (eq_true h_210), (beq_iff_eq.mpr h_210), (bne_eq_false_iff_eq.mpr h_210), (eq_true h_222), (beq_iff_eq.mpr h_222), (bne_eq_false_iff_eq.mpr h_222), (eq_true h_240), (beq_iff_eq.mpr h_240), (bne_eq_false_iff_eq.mpr h_240)]; done) | (simp [mskN, h_14, (eq_true h_91), (beq_iff_eq.mpr h_91), (bne_eq_false_iff_eq.mpr h_91), (eq_true h_109), (beq_iff_eq.mpr h_109), (bne_eq_false_iff_eq.mpr h_109), (eq_true h_126), (beq_iff_eq.mpr h_126), (bne_eq_false_iff_eq.mpr h_126), (eq_true h_143), (beq_iff_eq.mpr h_143), (bne_eq_false_iff_eq.mpr h_143), (eq_true h_160), (beq_iff_eq.mpr h_160), (bne_eq_false_iff_eq.mpr h_160), (eq_true h_177), (beq_iff_eq.mpr h_177), (bne_eq_false_iff_eq.mpr h_177), (eq_true h_198), (beq_iff_eq.mpr h_198), (bne_eq_false_iff_eq.mpr h_198), (eq_true h_210), (beq_iff_eq.mpr h_210), (bne_eq_false_iff_eq.mpr h_210), (eq_true h_222), (beq_iff_eq.mpr h_222), (bne_eq_false_iff_eq.mpr h_222), (eq_true h_240), (beq_iff_eq.mpr h_240), (bne_eq_false_iff_eq.mpr h_240)]; omega) | omega | rfl)
                            · first | with_reducible rfl | exact gl (by first | with_reducible rfl | (refine iF ?_; simp [mskN, h_14, (eq_true h_91), (beq_iff_eq.mpr h_91), (bne_eq_false_iff_eq.mpr h_91), (eq_true h_109), (beq_iff_eq.mpr h_109), (bne_eq_false_iff_eq.mpr h_109), (eq_true h_126), (beq_iff_eq.mpr h_126), (bne_eq_false_iff_eq.mpr h_126), (eq_true h_143), (beq_iff_eq.mpr h_143), (bne_eq_false_iff_eq.mpr h_143), (eq_true h_160), (beq_iff_eq.mpr h_160), (bne_eq_false_iff_eq.mpr h_160), (eq_true h_177), (beq_iff_eq.mpr h_177), (bne_eq_false_iff_eq.mpr h_177), (eq_true h_198), (beq_iff_eq.mpr h_198), (bne_eq_false_iff_eq.mpr h_198), (eq_true h_210), (beq_iff_eq.mpr h_210), (bne_eq_false_iff_eq.mpr h_210), (eq_true h_222), (beq_iff_eq.mpr h_222), (bne_eq_false_iff_eq.mpr h_222), (eq_true h_240), (beq_iff_eq.mpr h_240), (bne_eq_false_iff_eq.mpr h_240)]; done) | (refine iT ?_; simp [mskN, h_14, (eq_true h_91), (beq_iff_eq.mpr h_91), (bne_eq_false_iff_eq.mpr h_91), (eq_true h_109), (beq_iff_eq.mpr h_109), (bne_eq_false_iff_eq.mpr h_109), (eq_true h_126), (beq_iff_eq.mpr h_126), (bne_eq_false_iff_eq.mpr h_126), (eq_true h_143), (beq_iff_eq.mpr h_143), (bne_eq_false_iff_eq.mpr h_143), (eq_true h_160), (beq_iff_eq.mpr h_160), (bne_eq_false_iff_eq.mpr h_160), (eq_true h_177), (beq_iff_eq.mpr h_177), (bne_eq_false_iff_eq.mpr h_177), (eq_true h_198), (beq_iff_eq.mpr h_198), (bne_eq_false_iff_eq.mpr h_198), (eq_true h_210), (beq_iff_eq.mpr h_210), (bne_eq_false_iff_eq.mpr h_210), (eq_true h_222), (beq_iff_eq.mpr h_222), (bne_eq_false_iff_eq.mpr h_222), (eq_true h_240), (beq_iff_eq.mpr h_240), (bne_eq_false_iff_eq.mpr h_240)]; done) | (refine iB ?_; simp [mskN, h_14, (eq_true h_91), (beq_iff_eq.mpr h_91), (bne_eq_false_iff_eq.mpr h_91), (eq_true h_109), (beq_iff_eq.mpr h_109), (bne_eq_false_iff_eq.mpr h_109), (eq_true h_126), (beq_iff_eq.mpr h_126), (bne_eq_false_iff_eq.mpr h_126), (eq_true h_143), (beq_iff_eq.mpr h_143), (bne_eq_false_iff_eq.mpr h_143), (eq_true h_160), (beq_iff_eq.mpr h_160), (bne_eq_false_iff_eq.mpr h_160), (eq_true h_177), (beq_iff_eq.mpr h_177), (bne_eq_false_iff_eq.mpr h_177), (eq_true h_198), (beq_iff_eq.mpr h_198), (bne_eq_false_iff_eq.mpr h_198), (eq_true h_210), (beq_iff_eq.mpr h_210), (bne_eq_false_iff_eq.mpr h_210), (eq_true h_222), (beq_iff_eq.mpr h_222), (bne_eq_false_iff_eq.mpr h_222), (eq_true h_240), (beq_iff_eq.mpr h_240), (bne_eq_false_iff_eq.mpr h_240)]; done) | (simp [mskN, h_14, (eq_true h_91), (beq_iff_eq.mpr h_91), (bne_eq_false_iff_eq.mpr h_91), (eq_true h_109), (beq_iff_eq.mpr h_109), (bne_eq_false_iff_eq.mpr h_109), (eq_true h_126), (beq_iff_eq.mpr h_126), (bne_eq_false_iff_eq.mpr h_126), (eq_true h_143), (beq_iff_eq.mpr h_143), (bne_eq_false_iff_eq.mpr h_143), (eq_true h_160), (beq_iff_eq.mpr h_160), (bne_eq_false_iff_eq.mpr h_160), (eq_true h_177), (beq_iff_eq.mpr h_177), (bne_eq_false_iff_eq.mpr h_177), (eq_true h_198), (beq_iff_eq.mpr h_198), (bne_eq_false_iff_eq.mpr h_198), (eq_true h_210), (beq_iff_eq.mpr h_210), (bne_eq_false_iff_eq.mpr h_210), (eq_true h_222), (beq_iff_eq.mpr h_222), (bne_eq_false_iff_eq.mpr h_222), (eq_true h_240), (beq_iff_eq.mpr h_240), (bne_eq_false_iff_eq.mpr h_240)]; done) | (simp [mskN, h_14, (eq_true h_91), (beq_iff_eq.mpr h_91), (bne_eq_false_iff_eq.mpr h_91), (eq_true h_109), (beq_iff_eq.mpr h_109), (bne_eq_false_iff_eq.mpr h_109), (eq_true h_126), (beq_iff_eq.mpr h_126), (bne_eq_false_iff_eq.mpr h_126), (eq_true h_143), (beq_iff_eq.mpr h_143), (bne_eq_false_iff_eq.mpr h_143), (eq_true h_160), (beq_iff_eq.mpr h_160), (bne_eq_false_iff_eq.mpr h_160), (eq_true h_177), (beq_iff_eq.mpr h_177), (bne_eq_false_iff_eq.mpr h_177), (eq_true h_198), (beq_iff_eq.mpr h_198), (bne_eq_false_iff_eq.mpr h_198), (eq_true h_210), (beq_iff_eq.mpr h_210), (bne_eq_false_iff_eq.mpr h_210), (eq_true h_222), (beq_iff_eq.mpr h_222), (bne_eq_false_iff_eq.mpr h_222), (eq_true h_240), (beq_iff_eq.mpr h_240), (bne_eq_false_iff_eq.mpr h_240)]; omega) | omega | rfl)
                            · first | with_reducible rfl | exact gl (by first | with_reducible rfl | (refine iF ?_; simp [mskN, h_14, (eq_true h_91), (beq_iff_eq.mpr h_91), (bne_eq_false_iff_eq.mpr h_91), (eq_true h_109), (beq_iff_eq.mpr h_109), (bne_eq_false_iff_eq.mpr h_109), (eq_true h_126), (beq_iff_eq.mpr h_126), (bne_eq_false_iff_eq.mpr h_126), (eq_true h_143), (beq_iff_eq.mpr h_143), (bne_eq_false_iff_eq.mpr h_143), (eq_true h_160), (beq_iff_eq.mpr h_160), (bne_eq_false_iff_eq.mpr h_160), (eq_true h_177), (beq_iff_eq.mpr h_177), (bne_eq_false_iff_eq.mpr h_177), (eq_true h_198), (beq_iff_eq.mpr h_198), (bne_eq_false_iff_eq.mpr h_198), (eq_true h_210), (beq_iff_eq.mpr h_210), (bne_eq_false_iff_eq.mpr h_210), (eq_true h_222), (beq_iff_eq.mpr h_222), (bne_eq_false_iff_eq.mpr h_222), (eq_true h_240), (beq_iff_eq.mpr h_240), (bne_eq_false_iff_eq.mpr h_240)]; done) | (refine iT ?_; simp [mskN, h_14, (eq_true h_91), (beq_iff_eq.mpr h_91), (bne_eq_false_iff_eq.mpr h_91), (eq_true h_109), (beq_iff_eq.mpr h_109), (bne_eq_false_iff_eq.mpr h_109), (eq_true h_126), (beq_iff_eq.mpr h_126), (bne_eq_false_iff_eq.mpr h_126), (eq_true h_143), (beq_iff_eq.mpr h_143), (bne_eq_false_iff_eq.mpr h_143), (eq_true h_160), (beq_iff_eq.mpr h_160), (bne_eq_false_iff_eq.mpr h_160), (eq_true h_177), (beq_iff_eq.mpr h_177), (bne_eq_false_iff_eq.mpr h_177), (eq_true h_198), (beq_iff_eq.mpr h_198), (bne_eq_false_iff_eq.mpr h_198), (eq_true h_210), (beq_iff_eq.mpr h_210), (bne_eq_false_iff_eq.mpr h_210), (eq_true h_222), (beq_iff_eq.mpr h_222), (bne_eq_false_iff_eq.mpr h_222), (eq_true h_240), (beq_iff_eq.mpr h_240), (bne_eq_false_iff_eq.mpr h_240)]; done) | (refine iB ?_; simp [mskN, h_14, (eq_true h_91), (beq_iff_eq.mpr h_91), (bne_eq_false_iff_eq.mpr h_91), (eq_true h_109), (beq_iff_eq.mpr h_109), (bne_eq_false_iff_eq.mpr h_109), (eq_true h_126), (beq_iff_eq.mpr h_126), (bne_eq_false_iff_eq.mpr h_126), (eq_true h_143), (beq_iff_eq.mpr h_143), (bne_eq_false_iff_eq.mpr h_143), (eq_true h_160), (beq_iff_eq.mpr h_160), (bne_eq_false_iff_eq.mpr h_160), (eq_true h_177), (beq_iff_eq.mpr h_177), (bne_eq_false_iff_eq.mpr h_177), (eq_true h_198), (beq_iff_eq.mpr h_198), (bne_eq_false_iff_eq.mpr h_198), (eq_true h_210), (beq_iff_eq.mpr h_210), (bne_eq_false_iff_eq.mpr h_210), (eq_true h_222), (beq_iff_eq.mpr h_222), (bne_eq_false_iff_eq.mpr h_222), (eq_true h_240), (beq_iff_eq.mpr h_240), (bne_eq_false_iff_eq.mpr h_240)]; done) | (simp [mskN, h_14, (eq_true h_91), (beq_iff_eq.mpr h_91), (bne_eq_false_iff_eq.mpr h_91), (eq_true h_109), (beq_iff_eq.mpr h_109), (bne_eq_false_iff_eq.mpr h_109), (eq_true h_126), (beq_iff_eq.mpr h_126), (bne_eq_false_iff_eq.mpr h_126), (eq_true h_143), (beq_iff_eq.mpr h_143), (bne_eq_false_iff_eq.mpr h_143), (eq_true h_160), (beq_iff_eq.mpr h_160), (bne_eq_false_iff_eq.mpr h_160), (eq_true h_177), (beq_iff_eq.mpr h_177), (bne_eq_false_iff_eq.mpr h_177), (eq_true h_198), (beq_iff_eq.mpr h_198), (bne_eq_false_iff_eq.mpr h_198), (eq_true h_210), (beq_iff_eq.mpr h_210), (bne_eq_false_iff_eq.mpr h_210), (eq_true h_222), (beq_iff_eq.mpr h_222), (bne_eq_false_iff_eq.mpr h_222), (eq_true h_240), (beq_iff_eq.mpr h_240), (bne_eq_false_iff_eq.mpr h_240)]; done) | (simp [mskN, h_14, (eq_true h_91), (beq_iff_eq.mpr h_91), (bne_eq_false_iff_eq.mpr h_91), (eq_true h_109), (beq_iff_eq.mpr h_109), (bne_eq_false_iff_eq.mpr h_109), (eq_true h_126), (beq_iff_eq.mpr h_126), (bne_eq_false_iff_eq.mpr h_126), (eq_true h_143), (beq_iff_eq.mpr h_143), (bne_eq_false_iff_eq.mpr h_143), (eq_true h_160), (beq_iff_eq.mpr h_160), (bne_eq_false_iff_eq.mpr h_160), (eq_true h_177), (beq_iff_eq.mpr h_177), (bne_eq_false_iff_eq.mpr h_177), (eq_true h_198), (beq_iff_eq.mpr h_198), (bne_eq_false_iff_eq.mpr h_198), (eq_true h_210), (beq_iff_eq.mpr h_210), (bne_eq_false_iff_eq.mpr h_210), (eq_true h_222), (beq_iff_eq.mpr h_222), (bne_eq_false_iff_eq.mpr h_222), (eq_true h_240), (beq_iff_eq.mpr h_240), (bne_eq_false_iff_eq.mpr h_240)]; omega) | omega | rfl)
                            · first | with_reducible rfl | exact gl (by first | with_reducible rfl | (refine iF ?_; simp [mskN, h_14, (eq_true h_91), (beq_iff_eq.mpr h_91), (bne_eq_false_iff_eq.mpr h_91), (eq_true h_109), (beq_iff_eq.mpr h_109), (bne_eq_false_iff_eq.mpr h_109), (eq_true h_126), (beq_iff_eq.mpr h_126), (bne_eq_false_iff_eq.mpr h_126), (eq_true h_143), (beq_iff_eq.mpr h_143), (bne_eq_false_iff_eq.mpr h_143), (eq_true h_160), (beq_iff_eq.mpr h_160), (bne_eq_false_iff_eq.mpr h_160), (eq_true h_177), (beq_iff_eq.mpr h_177), (bne_eq_false_iff_eq.mpr h_177), (eq_true h_198), (beq_iff_eq.mpr h_198), (bne_eq_false_iff_eq.mpr h_198), (eq_true h_210), (beq_iff_eq.mpr h_210), (bne_eq_false_iff_eq.mpr h_210), (eq_true h_222), (beq_iff_eq.mpr h_222), (bne_eq_false_iff_eq.mpr h_222), (eq_true h_240), (beq_iff_eq.mpr h_240), (bne_eq_false_iff_eq.mpr h_240)]; done) | (refine iT ?_; simp [mskN, h_14, (eq_true h_91), (beq_iff_eq.mpr h_91), (bne_eq_false_iff_eq.mpr h_91), (eq_true h_109), (beq_iff_eq.mpr h_109), (bne_eq_false_iff_eq.mpr h_109), (eq_true h_126), (beq_iff_eq.mpr h_126), (bne_eq_false_iff_eq.mpr h_126), (eq_true h_143), (beq_iff_eq.mpr h_143), (bne_eq_false_iff_eq.mpr h_143), (eq_true h_160), (beq_iff_eq.mpr h_160), (bne_eq_false_iff_eq.mpr h_160), (eq_true h_177), (beq_iff_eq.mpr h_177), (bne_eq_false_iff_eq.mpr h_177), (eq_true h_198), (beq_iff_eq.mpr h_198), (bne_eq_false_iff_eq.mpr h_198), (eq_true h_210), (beq_iff_eq.mpr h_210), (bne_eq_false_iff_eq.mpr h_210), (eq_true h_222), (beq_iff_eq.mpr h_222), (bne_eq_false_iff_eq.mpr h_222), (eq_true h_240), (beq_iff_eq.mpr h_240), (bne_eq_false_iff_eq.mpr h_240)]; done) | (refine iB ?_; simp [mskN, h_14, (eq_true h_91), (beq_iff_eq.mpr h_91), (bne_eq_false_iff_eq.mpr h_91), (eq_true h_109), (beq_iff_eq.mpr h_109), (bne_eq_false_iff_eq.mpr h_109), (eq_true h_126), (beq_iff_eq.mpr h_126), (bne_eq_false_iff_eq.mpr h_126), (eq_true h_143), (beq_iff_eq.mpr h_143), (bne_eq_false_iff_eq.mpr h_143), (eq_true h_160), (beq_iff_eq.mpr h_160), (bne_eq_false_iff_eq.mpr h_160), (eq_true h_177), (beq_iff_eq.mpr h_177), (bne_eq_false_iff_eq.mpr h_177), (eq_true h_198), (beq_iff_eq.mpr h_198), (bne_eq_false_iff_eq.mpr h_198), (eq_true h_210), (beq_iff_eq.mpr h_210), (bne_eq_false_iff_eq.mpr h_210), (eq_true h_222), (beq_iff_eq.mpr h_222), (bne_eq_false_iff_eq.mpr h_222), (eq_true h_240), (beq_iff_eq.mpr h_240), (bne_eq_false_iff_eq.mpr h_240)]; done) | (simp [mskN, h_14, (eq_true h_91), (beq_iff_eq.mpr h_91), (bne_eq_false_iff_eq.mpr h_91), (eq_true h_109), (beq_iff_eq.mpr h_109), (bne_eq_false_iff_eq.mpr h_109), (eq_true h_126), (beq_iff_eq.mpr h_126), (bne_eq_false_iff_eq.mpr h_126), (eq_true h_143), (beq_iff_eq.mpr h_143), (bne_eq_false_iff_eq.mpr h_143), (eq_true h_160), (beq_iff_eq.mpr h_160), (bne_eq_false_iff_eq.mpr h_160), (eq_true h_177), (beq_iff_eq.mpr h_177), (bne_eq_false_iff_eq.mpr h_177), (eq_true h_198), (beq_iff_eq.mpr h_198), (bne_eq_false_iff_eq.mpr h_198), (eq_true h_210), (beq_iff_eq.mpr h_210), (bne_eq_false_iff_eq.mpr h_210), (eq_true h_222), (beq_iff_eq.mpr h_222), (bne_eq_false_iff_eq.mpr h_222), (eq_true h_240), (beq_iff_eq.mpr h_240), (bne_eq_false_iff_eq.mpr h_240)]; done) | (simp [mskN, h_14, (eq_true h_91), (beq_iff_eq.mpr h_91), (bne_eq_false_iff_eq.mpr h_91), (eq_true h_109), (beq_iff_eq.mpr h_109), (bne_eq_false_iff_eq.mpr h_109), (eq_true h_126), (beq_iff_eq.mpr h_126), (bne_eq_false_iff_eq.mpr h_126), (eq_true h_143), (beq_iff_eq.mpr h_143), (bne_eq_false_iff_eq.mpr h_143), (eq_true h_160), (beq_iff_eq.mpr h_160), (bne_eq_false_iff_eq.mpr h_160), (eq_true h_177), (beq_iff_eq.mpr h_177), (bne_eq_false_iff_eq.mpr h_177), (eq_true h_198), (beq_iff_eq.mpr h_198), (bne_eq_false_iff_eq.mpr h_198), (eq_true h_210), (beq_iff_eq.mpr h_210), (bne_eq_false_iff_eq.mpr h_210), (eq_true h_222), (beq_iff_eq.mpr h_222), (bne_eq_false_iff_eq.mpr h_222), (eq_true h_240), (beq_iff_eq.mpr h_240), (bne_eq_false_iff_eq.mpr h_240)]; omega) | omega | rfl)
                            · first | with_reducible rfl | exact gl (by first | with_reducible rfl | (refine iF ?_; simp [mskN, h_14, (eq_true h_91), (beq_iff_eq.mpr h_91), (bne_eq_false_iff_eq.mpr h_91), (eq_true h_109), (beq_iff_eq.mpr h_109), (bne_eq_false_iff_eq.mpr h_109), (eq_true h_126), (beq_iff_eq.mpr h_126), (bne_eq_false_iff_eq.mpr h_126), (eq_true h_143), (beq_iff_eq.mpr h_143), (bne_eq_false_iff_eq.mpr h_143), (eq_true h_160), (beq_iff_eq.mpr h_160), (bne_eq_false_iff_eq.mpr h_160), (eq_true h_177), (beq_iff_eq.mpr h_177), (bne_eq_false_iff_eq.mpr h_177), (eq_true h_198), (beq_iff_eq.mpr h_198), (bne_eq_false_iff_eq.mpr h_198), (eq_true h_210), (beq_iff_eq.mpr h_210), (bne_eq_false_iff_eq.mpr h_210), (eq_true h_222), (beq_iff_eq.mpr h_222), (bne_eq_false_iff_eq.mpr h_222), (eq_true h_240), (beq_iff_eq.mpr h_240), (bne_eq_false_iff_eq.mpr h_240)]; done) | (refine iT ?_; simp [mskN, h_14, (eq_true h_91), (beq_iff_eq.mpr h_91), (bne_eq_false_iff_eq.mpr h_91), (eq_true h_109), (beq_iff_eq.mpr h_109), (bne_eq_false_iff_eq.mpr h_109), (eq_true h_126), (beq_iff_eq.mpr h_126), (bne_eq_false_iff_eq.mpr h_126), (eq_true h_143), (beq_iff_eq.mpr h_143), (bne_eq_false_iff_eq.mpr h_143), (eq_true h_160), (beq_iff_eq.mpr h_160), (bne_eq_false_iff_eq.mpr h_160), (eq_true h_177), (beq_iff_eq.mpr h_177), (bne_eq_false_iff_eq.mpr h_177), (eq_true h_198), (beq_iff_eq.mpr h_198), (bne_eq_false_iff_eq.mpr h_198), (eq_true h_210), (beq_iff_eq.mpr h_210), (bne_eq_false_iff_eq.mpr h_210), (eq_true h_222), (beq_iff_eq.mpr h_222), (bne_eq_false_iff_eq.mpr h_222), (eq_true h_240), (beq_iff_eq.mpr h_240), (bne_eq_false_iff_eq.mpr h_240)]; done) | (refine iB ?_; simp [mskN, h_14, (eq_true h_91), (beq_iff_eq.mpr h_91), (bne_eq_false_iff_eq.mpr h_91), (eq_true h_109), (beq_iff_eq.mpr h_109), (bne_eq_false_iff_eq.mpr h_109), (eq_true h_126), (beq_iff_eq.mpr h_126), (bne_eq_false_iff_eq.mpr h_126), (eq_true h_143), (beq_iff_eq.mpr h_143), (bne_eq_false_iff_eq.mpr h_143), (eq_true h_160), (beq_iff_eq.mpr h_160), (bne_eq_false_iff_eq.mpr h_160), (eq_true h_177), (beq_iff_eq.mpr h_177), (bne_eq_false_iff_eq.mpr h_177), (eq_true h_198), (beq_iff_eq.mpr h_198), (bne_eq_false_iff_eq.mpr h_198), (eq_true h_210), (beq_iff_eq.mpr h_210), (bne_eq_false_iff_eq.mpr h_210), (eq_true h_222), (beq_iff_eq.mpr h_222), (bne_eq_false_iff_eq.mpr h_222), (eq_true h_240), (beq_iff_eq.mpr h_240), (bne_eq_false_iff_eq.mpr h_240)]; done) | (simp [mskN, h_14, (eq_true h_91), (beq_iff_eq.mpr h_91), (bne_eq_false_iff_eq.mpr h_91), (eq_true h_109), (beq_iff_eq.mpr h_109), (bne_eq_false_iff_eq.mpr h_109), (eq_true h_126), (beq_iff_eq.mpr h_126), (bne_eq_false_iff_eq.mpr h_126), (eq_true h_143), (beq_iff_eq.mpr h_143), (bne_eq_false_iff_eq.mpr h_143), (eq_true h_160), (beq_iff_eq.mpr h_160), (bne_eq_false_iff_eq.mpr h_160), (eq_true h_177), (beq_iff_eq.mpr h_177), (bne_eq_false_iff_eq.mpr h_177), (eq_true h_198), (beq_iff_eq.mpr h_198), (bne_eq_false_iff_eq.mpr h_198), (eq_true h_210), (beq_iff_eq.mpr h_210), (bne_eq_false_iff_eq.mpr h_210), (eq_true h_222), (beq_iff_eq.mpr h_222), (bne_eq_false_iff_eq.mpr h_222), (eq_true h_240), (beq_iff_eq.mpr h_240), (bne_eq_false_iff_eq.mpr h_240)]; done) | (simp [mskN, h_14, (eq_true h_91), (beq_iff_eq.mpr h_91), (bne_eq_false_iff_eq.mpr h_91), (eq_true h_109), (beq_iff_eq.mpr h_109), (bne_eq_false_iff_eq.mpr h_109), (eq_true h_126), (beq_iff_eq.mpr h_126), (bne_eq_false_iff_eq.mpr h_126), (eq_true h_143), (beq_iff_eq.mpr h_143), (bne_eq_false_iff_eq.mpr h_143), (eq_true h_160), (beq_iff_eq.mpr h_160), (bne_eq_false_iff_eq.mpr h_160), (eq_true h_177), (beq_iff_eq.mpr h_177), (bne_eq_false_iff_eq.mpr h_177), (eq_true h_198), (beq_iff_eq.mpr h_198), (bne_eq_false_iff_eq.mpr h_198), (eq_true h_210), (beq_iff_eq.mpr h_210), (bne_eq_false_iff_eq.mpr h_210), (eq_true h_222), (beq_iff_eq.mpr h_222), (bne_eq_false_iff_eq.mpr h_222), (eq_true h_240), (beq_iff_eq.mpr h_240), (bne_eq_false_iff_eq.mpr h_240)]; omega) | omega | rfl)
      · have zq_co := hA.c81 (k := o) (by omega)
        have zq_li := lie_lt (cN A k) (cN A o)
        refine a_aload_n C dL_isKey_17 rfl rfl ?_
        refine a_bipush (v := nI 6) C dL_isKey_18 (by decide) ?_
        refine a_iload_n C dL_isKey_20 rfl rfl ?_
        first | refine n_imul C dL_isKey_21 ?_ | refine a_imul C dL_isKey_21 ?_
        refine n_iald C dL_isKey_22 (tw (by first | decide | omega)) (by first | decide | omega) rfl rfl (by first | decide | omega) (by decide) (LR_kc hL hA (by omega)) ?_
        refine a_aload_n C dL_isKey_23 rfl rfl ?_
        refine a_bipush (v := nI 6) C dL_isKey_24 (by decide) ?_
        refine a_iload C dL_isKey_26 rfl ?_
        first | refine n_imul C dL_isKey_28 ?_ | refine a_imul C dL_isKey_28 ?_
        refine n_iald C dL_isKey_29 (tw (by first | decide | omega)) (by first | decide | omega) rfl rfl (by first | decide | omega) (by decide) (LR_kc hL hA (by omega)) ?_
        refine p_callS C ((K_L_lie (by first | assumption | decide | omega) (by first | assumption | decide | omega))).cp sL_92 rfl dL_isKey_30 (Nat.le_of_ble_eq_true rfl) ⟨Nat.le_of_ble_eq_true rfl, Nat.le_of_ble_eq_true rfl⟩ ?_
        refine a_istore C dL_isKey_33 (by decide) ?_
        refine a_iload C dL_isKey_35 rfl ?_
        refine a_via 51 (nI (if cbP A true (cN A k) o = true then 2 ^ o else 0)) ?_ (fun zJ51 => ?_)
        · first | refine n_ior C dL_isKey_51 ?_ | refine a_ior C dL_isKey_51 ?_
          refine a_istore C dL_isKey_52 (by decide) ?_
          refine a_iload C dL_isKey_54 rfl ?_
          refine a_via 70 (nI (if cbP A false (cN A k) o = true then 2 ^ o else 0)) ?_ (fun zJ70 => ?_)
          · first | refine n_ior C dL_isKey_70 ?_ | refine a_ior C dL_isKey_70 ?_
            refine a_istore C dL_isKey_71 (by decide) ?_
            refine n_iinc C dL_isKey_73 rfl (by decide) ?_
            refine a_goto (tgt := 9) C dL_isKey_76 (by decide) ?_
            refine a_join (aLe_s ?_ (aLe_s ?_ (aLe_s ?_ (aLe_s ?_ (aLe_s ?_ (aLe_s ?_ (aLe_s ?_ (aLe_s ?_ (aLe_n aLe_nil))))))))) rfl rfl (zih9 (o + 1) (by omega) (by omega))
            · first | with_reducible rfl | exact gl (by first | with_reducible rfl | (refine iF ?_; simp [mskN, h_14]; done) | (refine iT ?_; simp [mskN, h_14]; done) | (refine iB ?_; simp [mskN, h_14]; done) | (simp [mskN, h_14]; done) | (simp [mskN, h_14]; omega) | omega)
            · first | with_reducible rfl | exact gl (by first | with_reducible rfl | (refine iF ?_; simp [mskN, h_14]; done) | (refine iT ?_; simp [mskN, h_14]; done) | (refine iB ?_; simp [mskN, h_14]; done) | (simp [mskN, h_14]; done) | (simp [mskN, h_14]; omega) | omega)
            · first | with_reducible rfl | exact gl (by first | with_reducible rfl | (refine iF ?_; simp [mskN, h_14]; done) | (refine iT ?_; simp [mskN, h_14]; done) | (refine iB ?_; simp [mskN, h_14]; done) | (simp [mskN, h_14]; done) | (simp [mskN, h_14]; omega) | omega)
            · first | with_reducible rfl | exact gl (by first | with_reducible rfl | (refine iF ?_; simp [mskN, h_14]; done) | (refine iT ?_; simp [mskN, h_14]; done) | (refine iB ?_; simp [mskN, h_14]; done) | (simp [mskN, h_14]; done) | (simp [mskN, h_14]; omega) | omega)
            · first | with_reducible rfl | exact gl (by first | with_reducible rfl | (refine iF ?_; simp [mskN, h_14]; done) | (refine iT ?_; simp [mskN, h_14]; done) | (refine iB ?_; simp [mskN, h_14]; done) | (simp [mskN, h_14]; done) | (simp [mskN, h_14]; omega) | omega)
            · first | with_reducible rfl | exact gl (by first | with_reducible rfl | (refine iF ?_; simp [mskN, h_14]; done) | (refine iT ?_; simp [mskN, h_14]; done) | (refine iB ?_; simp [mskN, h_14]; done) | (simp [mskN, h_14]; done) | (simp [mskN, h_14]; omega) | omega)
            · first | with_reducible rfl | exact gl (by first | with_reducible rfl | (refine iF ?_; simp [mskN, h_14]; done) | (refine iT ?_; simp [mskN, h_14]; done) | (refine iB ?_; simp [mskN, h_14]; done) | (simp [mskN, h_14]; done) | (simp [mskN, h_14]; omega) | omega)
            · first | with_reducible rfl | exact gl (by first | with_reducible rfl | (refine iF ?_; simp [mskN, h_14]; done) | (refine iT ?_; simp [mskN, h_14]; done) | (refine iB ?_; simp [mskN, h_14]; done) | (simp [mskN, h_14]; done) | (simp [mskN, h_14]; omega) | omega)
          · refine a_iload C dL_isKey_56 rfl ?_
            refine a_iconst (v := nI 5) C dL_isKey_58 (by decide) ?_
            refine n_icmp_ne (tgt := 69) C dL_isKey_59 (by decide) (by first | decide | omega) (by first | decide | omega) (fun h_59 => ?_) (fun h_59 => ?_)
            · refine a_iconst (v := nI 0) C dL_isKey_69 (by decide) ?_
              refine a_eq rfl (gl1 ?_) rfl zJ70
              · first | exact congrArg nI (by rw [if_pos (show cbP A false (cN A k) o = true from (lie5 zq_c zq_co).1 h_59), Nat.one_mul]) | exact congrArg nI (show 0 = if cbP A false (cN A k) o = true then 2 ^ o else 0 by rw [show cbP A false (cN A k) o = false from (lie5 zq_c zq_co).2 h_59]; rfl)
            · refine a_iconst (v := nI 1) C dL_isKey_62 (by decide) ?_
              refine a_iload C dL_isKey_63 rfl ?_
              refine n_ishl C dL_isKey_65 (by omega) (p12_lt (by omega)) ?_
              refine a_goto (tgt := 70) C dL_isKey_66 (by decide) ?_
              refine a_eq rfl (gl1 ?_) rfl zJ70
              · first | exact congrArg nI (by rw [if_pos (show cbP A false (cN A k) o = true from (lie5 zq_c zq_co).1 h_59), Nat.one_mul]) | exact congrArg nI (show 0 = if cbP A false (cN A k) o = true then 2 ^ o else 0 by rw [show cbP A false (cN A k) o = false from (lie5 zq_c zq_co).2 h_59]; rfl)
        · refine a_iload C dL_isKey_37 rfl ?_
          refine a_iconst (v := nI 4) C dL_isKey_39 (by decide) ?_
          refine n_icmp_ne (tgt := 50) C dL_isKey_40 (by decide) (by first | decide | omega) (by first | decide | omega) (fun h_40 => ?_) (fun h_40 => ?_)
          · refine a_iconst (v := nI 0) C dL_isKey_50 (by decide) ?_
            refine a_eq rfl (gl1 ?_) rfl zJ51
            · first | exact congrArg nI (by rw [if_pos (show cbP A true (cN A k) o = true from lie4.1 h_40), Nat.one_mul]) | exact congrArg nI (show 0 = if cbP A true (cN A k) o = true then 2 ^ o else 0 by rw [show cbP A true (cN A k) o = false from lie4.2 h_40]; rfl)
          · refine a_iconst (v := nI 1) C dL_isKey_43 (by decide) ?_
            refine a_iload C dL_isKey_44 rfl ?_
            refine n_ishl C dL_isKey_46 (by omega) (p12_lt (by omega)) ?_
            refine a_goto (tgt := 51) C dL_isKey_47 (by decide) ?_
            refine a_eq rfl (gl1 ?_) rfl zJ51
            · first | exact congrArg nI (by rw [if_pos (show cbP A true (cN A k) o = true from lie4.1 h_40), Nat.one_mul]) | exact congrArg nI (show 0 = if cbP A true (cN A k) o = true then 2 ^ o else 0 by rw [show cbP A true (cN A k) o = false from lie4.2 h_40]; rfl)
  refine a_pad 4 ?_
  refine a_eq (L' := [some (.ref 0), some (.int (nI k)), some (.ref 204), some (.ref 205), some (.ref 206), none, none, none, none]) rfl rfl rfl ?_
  refine a_iconst (v := nI 0) C dL_isKey_0 (by decide) ?_
  refine a_istore C dL_isKey_1 (by decide) ?_
  refine a_iconst (v := nI 0) C dL_isKey_3 (by decide) ?_
  refine a_istore C dL_isKey_4 (by decide) ?_
  refine a_iconst (v := nI 0) C dL_isKey_6 (by decide) ?_
  refine a_istore C dL_isKey_7 (by decide) ?_
  refine a_join (aLe_s ?_ (aLe_s ?_ (aLe_s ?_ (aLe_s ?_ (aLe_s ?_ (aLe_s ?_ (aLe_s ?_ (aLe_s ?_ (aLe_n aLe_nil))))))))) rfl rfl (ZL9 (kN A + 1) 0 (by omega) (by omega))
  · first | with_reducible rfl | exact gl (by first | with_reducible rfl | (refine iF ?_; simp [mskN]; done) | (refine iT ?_; simp [mskN]; done) | (refine iB ?_; simp [mskN]; done) | (simp [mskN]; done) | (simp [mskN]; omega) | omega | rfl)
  · first | with_reducible rfl | exact gl (by first | with_reducible rfl | (refine iF ?_; simp [mskN]; done) | (refine iT ?_; simp [mskN]; done) | (refine iB ?_; simp [mskN]; done) | (simp [mskN]; done) | (simp [mskN]; omega) | omega | rfl)
  · first | with_reducible rfl | exact gl (by first | with_reducible rfl | (refine iF ?_; simp [mskN]; done) | (refine iT ?_; simp [mskN]; done) | (refine iB ?_; simp [mskN]; done) | (simp [mskN]; done) | (simp [mskN]; omega) | omega | rfl)
  · first | with_reducible rfl | exact gl (by first | with_reducible rfl | (refine iF ?_; simp [mskN]; done) | (refine iT ?_; simp [mskN]; done) | (refine iB ?_; simp [mskN]; done) | (simp [mskN]; done) | (simp [mskN]; omega) | omega | rfl)
  · first | with_reducible rfl | exact gl (by first | with_reducible rfl | (refine iF ?_; simp [mskN]; done) | (refine iT ?_; simp [mskN]; done) | (refine iB ?_; simp [mskN]; done) | (simp [mskN]; done) | (simp [mskN]; omega) | omega | rfl)
  · first | with_reducible rfl | exact gl (by first | with_reducible rfl | (refine iF ?_; simp [mskN]; done) | (refine iT ?_; simp [mskN]; done) | (refine iB ?_; simp [mskN]; done) | (simp [mskN]; done) | (simp [mskN]; omega) | omega | rfl)
  · first | with_reducible rfl | exact gl (by first | with_reducible rfl | (refine iF ?_; simp [mskN]; done) | (refine iT ?_; simp [mskN]; done) | (refine iB ?_; simp [mskN]; done) | (simp [mskN]; done) | (simp [mskN]; omega) | omega | rfl)
  · first | with_reducible rfl | exact gl (by first | with_reducible rfl | (refine iF ?_; simp [mskN]; done) | (refine iT ?_; simp [mskN]; done) | (refine iB ?_; simp [mskN]; done) | (simp [mskN]; done) | (simp [mskN]; omega) | omega | rfl)

set_option maxRecDepth 20000 in
set_option maxHeartbeats 4000000 in
theorem K_L_areCounts {w : Wd} {A : St} (hD : DR w 3 A) (hL : LR w A) (hA : AOK A)  : CL yL_areCounts cL_areCounts 11 (some .boolean) 8 136 [.ref 0, .ref 204, .ref 205, .ref 206] w (0) (0) (fun r w' => r = some (.int (nI 1)) ∧ w' = w) := by
  have zq_n := hA.n12
  have zq_10 := hL.2
  refine CL.of ok_L_areCounts (Nat.le_of_ble_eq_true rfl) (fun ex us G9 p9 l9 e9 s9 m9 ar9 be9 me9 co9 C hfl hr => ?_)
  have ZL280 : ∀ (zd280 : Nat) (e : Nat), 6 + 1 ≤ e + zd280 → e ≤ 6 → 1 ≤ e → WA G9 p9 l9 e9 (RL9 8 136 (0) (0)) s9 m9 ar9 be9 me9 co9 (QL G9 be9 ar9 s9 w ex us (0) (0) (fun r w' => r = some (.int (nI 1)) ∧ w' = w)) 11 (207 + ex.1 + ex.2) us 280 [some (.ref 0), some (.ref 204), some (.ref 205), some (.ref 206), none, none, none, none, none, some (.int (nI 1)), some (.int (nI e))] [] (fzM w ex us) := by
    intro zd280
    induction zd280 with
    | zero => intro e zm280 zh_6 zh_1; exfalso; omega
    | succ zd280 zih280 =>
      intro e zm280 zh_6 zh_1
      refine a_iload C dL_areCounts_280 rfl ?_
      refine a_bipush (v := nI 6) C dL_areCounts_282 (by decide) ?_
      first | refine n_icmp_ge (tgt := 320) C dL_areCounts_284 (by decide) (by first | decide | omega) (by first | decide | omega) (fun h_284 => ?_) (fun h_284 => ?_) | refine a_icmp_ge (tgt := 320) C dL_areCounts_284 (by decide) (fun h_284 => ?_) (fun h_284 => ?_)
      · refine a_iload C dL_areCounts_320 rfl ?_
        refine l_iret C hr ?_ dL_areCounts_322 ⟨?_, rfl⟩
        · first | exact bI_narrow _ | rfl
        · rfl
      · refine a_iload C dL_areCounts_287 rfl ?_
        refine n_if_eq (tgt := 311) C dL_areCounts_289 (by decide) (by first | decide | omega)  (fun h_289 => ?_) (fun h_289 => ?_)
        · exact absurd h_289 (by decide)
        · refine a_aload_n C dL_areCounts_292 rfl rfl ?_
          refine a_iconst (v := nI 3) C dL_areCounts_293 (by decide) ?_
          refine a_iload C dL_areCounts_294 rfl ?_
          first | refine n_iadd C dL_areCounts_296 ?_ | refine a_iadd C dL_areCounts_296 ?_
          refine l0_callSW C hfl _ (HA_count hD hA (by first | assumption | decide | omega)) sW_114 dL_areCounts_297 rfl (Nat.le_of_ble_eq_true rfl) ⟨Nat.le_of_ble_eq_true rfl, Nat.le_of_ble_eq_true rfl⟩ ⟨Nat.le_add_right _ _, Nat.le_add_right _ _⟩ (fun zr297 zw297 zp297 => ?_)
          obtain ⟨rfl, rfl⟩ := zp297
          refine a_aload_n C dL_areCounts_300 rfl rfl ?_
          refine a_iload C dL_areCounts_301 rfl ?_
          refine n_iald C dL_areCounts_303 (tw (by first | decide | omega)) (by first | decide | omega) rfl rfl (by first | decide | omega) (by decide) (LR_q hL (j := e) (by omega)) ?_
          refine a_icmp_ne (tgt := 311) C dL_areCounts_304 (by decide) (fun h_304 => ?_) (fun h_304 => ?_)
          · exact absurd (tn_c zh_1 (by omega)) h_304
          · refine a_iconst (v := nI 1) C dL_areCounts_307 (by decide) ?_
            refine a_goto (tgt := 312) C dL_areCounts_308 (by decide) ?_
            refine a_istore C dL_areCounts_312 (by decide) ?_
            refine n_iinc C dL_areCounts_314 rfl (by decide) ?_
            refine a_goto (tgt := 280) C dL_areCounts_317 (by decide) ?_
            refine a_join (aLe_s ?_ (aLe_s ?_ (aLe_s ?_ (aLe_s ?_ (aLe_n (aLe_n (aLe_n (aLe_n (aLe_n (aLe_s ?_ (aLe_s ?_ aLe_nil))))))))))) rfl rfl (zih280 (e + 1) (by omega) (by omega) (by omega))
            · first | with_reducible rfl | exact gl (by first | with_reducible rfl | (refine iF ?_; simp [cntN, sumN, xpC, h_284, h_289, (beq_eq_false_iff_ne.mpr h_289), (bne_iff_ne.mpr h_289), (eq_true h_304), (beq_iff_eq.mpr h_304), (bne_eq_false_iff_eq.mpr h_304)]; done) | (refine iT ?_; simp [cntN, sumN, xpC, h_284, h_289, (beq_eq_false_iff_ne.mpr h_289), (bne_iff_ne.mpr h_289), (eq_true h_304), (beq_iff_eq.mpr h_304), (bne_eq_false_iff_eq.mpr h_304)]; done) | (refine iB ?_; simp [cntN, sumN, xpC, h_284, h_289, (beq_eq_false_iff_ne.mpr h_289), (bne_iff_ne.mpr h_289), (eq_true h_304), (beq_iff_eq.mpr h_304), (bne_eq_false_iff_eq.mpr h_304)]; done) | (simp [cntN, sumN, xpC, h_284, h_289, (beq_eq_false_iff_ne.mpr h_289), (bne_iff_ne.mpr h_289), (eq_true h_304), (beq_iff_eq.mpr h_304), (bne_eq_false_iff_eq.mpr h_304)]; done) | (simp [cntN, sumN, xpC, h_284, h_289, (beq_eq_false_iff_ne.mpr h_289), (bne_iff_ne.mpr h_289), (eq_true h_304), (beq_iff_eq.mpr h_304), (bne_eq_false_iff_eq.mpr h_304)]; omega) | omega)
            · first | with_reducible rfl | exact gl (by first | with_reducible rfl | (refine iF ?_; simp [cntN, sumN, xpC, h_284, h_289, (beq_eq_false_iff_ne.mpr h_289), (bne_iff_ne.mpr h_289), (eq_true h_304), (beq_iff_eq.mpr h_304), (bne_eq_false_iff_eq.mpr h_304)]; done) | (refine iT ?_; simp [cntN, sumN, xpC, h_284, h_289, (beq_eq_false_iff_ne.mpr h_289), (bne_iff_ne.mpr h_289), (eq_true h_304), (beq_iff_eq.mpr h_304), (bne_eq_false_iff_eq.mpr h_304)]; done) | (refine iB ?_; simp [cntN, sumN, xpC, h_284, h_289, (beq_eq_false_iff_ne.mpr h_289), (bne_iff_ne.mpr h_289), (eq_true h_304), (beq_iff_eq.mpr h_304), (bne_eq_false_iff_eq.mpr h_304)]; done) | (simp [cntN, sumN, xpC, h_284, h_289, (beq_eq_false_iff_ne.mpr h_289), (bne_iff_ne.mpr h_289), (eq_true h_304), (beq_iff_eq.mpr h_304), (bne_eq_false_iff_eq.mpr h_304)]; done) | (simp [cntN, sumN, xpC, h_284, h_289, (beq_eq_false_iff_ne.mpr h_289), (bne_iff_ne.mpr h_289), (eq_true h_304), (beq_iff_eq.mpr h_304), (bne_eq_false_iff_eq.mpr h_304)]; omega) | omega)
            · first | with_reducible rfl | exact gl (by first | with_reducible rfl | (refine iF ?_; simp [cntN, sumN, xpC, h_284, h_289, (beq_eq_false_iff_ne.mpr h_289), (bne_iff_ne.mpr h_289), (eq_true h_304), (beq_iff_eq.mpr h_304), (bne_eq_false_iff_eq.mpr h_304)]; done) | (refine iT ?_; simp [cntN, sumN, xpC, h_284, h_289, (beq_eq_false_iff_ne.mpr h_289), (bne_iff_ne.mpr h_289), (eq_true h_304), (beq_iff_eq.mpr h_304), (bne_eq_false_iff_eq.mpr h_304)]; done) | (refine iB ?_; simp [cntN, sumN, xpC, h_284, h_289, (beq_eq_false_iff_ne.mpr h_289), (bne_iff_ne.mpr h_289), (eq_true h_304), (beq_iff_eq.mpr h_304), (bne_eq_false_iff_eq.mpr h_304)]; done) | (simp [cntN, sumN, xpC, h_284, h_289, (beq_eq_false_iff_ne.mpr h_289), (bne_iff_ne.mpr h_289), (eq_true h_304), (beq_iff_eq.mpr h_304), (bne_eq_false_iff_eq.mpr h_304)]; done) | (simp [cntN, sumN, xpC, h_284, h_289, (beq_eq_false_iff_ne.mpr h_289), (bne_iff_ne.mpr h_289), (eq_true h_304), (beq_iff_eq.mpr h_304), (bne_eq_false_iff_eq.mpr h_304)]; omega) | omega)
            · first | with_reducible rfl | exact gl (by first | with_reducible rfl | (refine iF ?_; simp [cntN, sumN, xpC, h_284, h_289, (beq_eq_false_iff_ne.mpr h_289), (bne_iff_ne.mpr h_289), (eq_true h_304), (beq_iff_eq.mpr h_304), (bne_eq_false_iff_eq.mpr h_304)]; done) | (refine iT ?_; simp [cntN, sumN, xpC, h_284, h_289, (beq_eq_false_iff_ne.mpr h_289), (bne_iff_ne.mpr h_289), (eq_true h_304), (beq_iff_eq.mpr h_304), (bne_eq_false_iff_eq.mpr h_304)]; done) | (refine iB ?_; simp [cntN, sumN, xpC, h_284, h_289, (beq_eq_false_iff_ne.mpr h_289), (bne_iff_ne.mpr h_289), (eq_true h_304), (beq_iff_eq.mpr h_304), (bne_eq_false_iff_eq.mpr h_304)]; done) | (simp [cntN, sumN, xpC, h_284, h_289, (beq_eq_false_iff_ne.mpr h_289), (bne_iff_ne.mpr h_289), (eq_true h_304), (beq_iff_eq.mpr h_304), (bne_eq_false_iff_eq.mpr h_304)]; done) | (simp [cntN, sumN, xpC, h_284, h_289, (beq_eq_false_iff_ne.mpr h_289), (bne_iff_ne.mpr h_289), (eq_true h_304), (beq_iff_eq.mpr h_304), (bne_eq_false_iff_eq.mpr h_304)]; omega) | omega)
            · first | with_reducible rfl | exact gl (by first | with_reducible rfl | (refine iF ?_; simp [cntN, sumN, xpC, h_284, h_289, (beq_eq_false_iff_ne.mpr h_289), (bne_iff_ne.mpr h_289), (eq_true h_304), (beq_iff_eq.mpr h_304), (bne_eq_false_iff_eq.mpr h_304)]; done) | (refine iT ?_; simp [cntN, sumN, xpC, h_284, h_289, (beq_eq_false_iff_ne.mpr h_289), (bne_iff_ne.mpr h_289), (eq_true h_304), (beq_iff_eq.mpr h_304), (bne_eq_false_iff_eq.mpr h_304)]; done) | (refine iB ?_; simp [cntN, sumN, xpC, h_284, h_289, (beq_eq_false_iff_ne.mpr h_289), (bne_iff_ne.mpr h_289), (eq_true h_304), (beq_iff_eq.mpr h_304), (bne_eq_false_iff_eq.mpr h_304)]; done) | (simp [cntN, sumN, xpC, h_284, h_289, (beq_eq_false_iff_ne.mpr h_289), (bne_iff_ne.mpr h_289), (eq_true h_304), (beq_iff_eq.mpr h_304), (bne_eq_false_iff_eq.mpr h_304)]; done) | (simp [cntN, sumN, xpC, h_284, h_289, (beq_eq_false_iff_ne.mpr h_289), (bne_iff_ne.mpr h_289), (eq_true h_304), (beq_iff_eq.mpr h_304), (bne_eq_false_iff_eq.mpr h_304)]; omega) | omega)
            · first | with_reducible rfl | exact gl (by first | with_reducible rfl | (refine iF ?_; simp [cntN, sumN, xpC, h_284, h_289, (beq_eq_false_iff_ne.mpr h_289), (bne_iff_ne.mpr h_289), (eq_true h_304), (beq_iff_eq.mpr h_304), (bne_eq_false_iff_eq.mpr h_304)]; done) | (refine iT ?_; simp [cntN, sumN, xpC, h_284, h_289, (beq_eq_false_iff_ne.mpr h_289), (bne_iff_ne.mpr h_289), (eq_true h_304), (beq_iff_eq.mpr h_304), (bne_eq_false_iff_eq.mpr h_304)]; done) | (refine iB ?_; simp [cntN, sumN, xpC, h_284, h_289, (beq_eq_false_iff_ne.mpr h_289), (bne_iff_ne.mpr h_289), (eq_true h_304), (beq_iff_eq.mpr h_304), (bne_eq_false_iff_eq.mpr h_304)]; done) | (simp [cntN, sumN, xpC, h_284, h_289, (beq_eq_false_iff_ne.mpr h_289), (bne_iff_ne.mpr h_289), (eq_true h_304), (beq_iff_eq.mpr h_304), (bne_eq_false_iff_eq.mpr h_304)]; done) | (simp [cntN, sumN, xpC, h_284, h_289, (beq_eq_false_iff_ne.mpr h_289), (bne_iff_ne.mpr h_289), (eq_true h_304), (beq_iff_eq.mpr h_304), (bne_eq_false_iff_eq.mpr h_304)]; omega) | omega)
  have ZL130 : ∀ (zd130 : Nat) (c : Nat), 81 + 1 ≤ c + zd130 → c ≤ 81 → WA G9 p9 l9 e9 (RL9 8 136 (0) (0)) s9 m9 ar9 be9 me9 co9 (QL G9 be9 ar9 s9 w ex us (0) (0) (fun r w' => r = some (.int (nI 1)) ∧ w' = w)) 11 (207 + ex.1 + ex.2) us 130 [some (.ref 0), some (.ref 204), some (.ref 205), some (.ref 206), some (.int (nI (lstA A))), some (.int (nI (lckA A))), some (.int (nI (xprA A))), some (.int (nI (cntN (cdP A false) c))), some (.int (nI (cntN (cdP A true) c))), some (.int (nI c)), none] [] (fzM w ex us) := by
    intro zd130
    induction zd130 with
    | zero => intro c zm130 zh130_0; exfalso; omega
    | succ zd130 zih130 =>
      intro c zm130 zh130_0
      refine a_iload C dL_areCounts_130 rfl ?_
      refine a_bipush (v := nI 81) C dL_areCounts_132 (by decide) ?_
      first | refine n_icmp_ge (tgt := 192) C dL_areCounts_134 (by decide) (by first | decide | omega) (by first | decide | omega) (fun h_134 => ?_) (fun h_134 => ?_) | refine a_icmp_ge (tgt := 192) C dL_areCounts_134 (by decide) (fun h_134 => ?_) (fun h_134 => ?_)
      · obtain rfl : c = 81 := by omega
        refine a_aload_n C dL_areCounts_192 rfl rfl ?_
        refine a_iconst (v := nI 0) C dL_areCounts_193 (by decide) ?_
        refine l0_callSW C hfl _ (HA_count hD hA (by first | assumption | decide | omega)) sW_114 dL_areCounts_194 rfl (Nat.le_of_ble_eq_true rfl) ⟨Nat.le_of_ble_eq_true rfl, Nat.le_of_ble_eq_true rfl⟩ ⟨Nat.le_add_right _ _, Nat.le_add_right _ _⟩ (fun zr194 zw194 zp194 => ?_)
        obtain ⟨rfl, rfl⟩ := zp194
        refine a_aload_n C dL_areCounts_197 rfl rfl ?_
        refine a_iconst (v := nI 0) C dL_areCounts_198 (by decide) ?_
        refine n_iald C dL_areCounts_199 (tw (by first | decide | omega)) (by first | decide | omega) rfl rfl (by first | decide | omega) (by decide) (LR_n hL hA) ?_
        refine a_icmp_ne (tgt := 274) C dL_areCounts_200 (by decide) (fun h_200 => ?_) (fun h_200 => ?_)
        · exact absurd rfl h_200
        · refine a_aload_n C dL_areCounts_203 rfl rfl ?_
          refine a_iconst (v := nI 1) C dL_areCounts_204 (by decide) ?_
          refine l0_callSW C hfl _ (HA_count hD hA (by first | assumption | decide | omega)) sW_114 dL_areCounts_205 rfl (Nat.le_of_ble_eq_true rfl) ⟨Nat.le_of_ble_eq_true rfl, Nat.le_of_ble_eq_true rfl⟩ ⟨Nat.le_add_right _ _, Nat.le_add_right _ _⟩ (fun zr205 zw205 zp205 => ?_)
          obtain ⟨rfl, rfl⟩ := zp205
          refine a_iload C dL_areCounts_208 rfl ?_
          refine a_icmp_ne (tgt := 274) C dL_areCounts_210 (by decide) (fun h_210 => ?_) (fun h_210 => ?_)
          · exact absurd rfl h_210
          · refine a_aload_n C dL_areCounts_213 rfl rfl ?_
            refine a_iconst (v := nI 2) C dL_areCounts_214 (by decide) ?_
            refine l0_callSW C hfl _ (HA_count hD hA (by first | assumption | decide | omega)) sW_114 dL_areCounts_215 rfl (Nat.le_of_ble_eq_true rfl) ⟨Nat.le_of_ble_eq_true rfl, Nat.le_of_ble_eq_true rfl⟩ ⟨Nat.le_add_right _ _, Nat.le_add_right _ _⟩ (fun zr215 zw215 zp215 => ?_)
            obtain ⟨rfl, rfl⟩ := zp215
            refine a_iload C dL_areCounts_218 rfl ?_
            refine a_icmp_ne (tgt := 274) C dL_areCounts_220 (by decide) (fun h_220 => ?_) (fun h_220 => ?_)
            · exact absurd rfl h_220
            · refine a_aload_n C dL_areCounts_223 rfl rfl ?_
              refine a_iconst (v := nI 3) C dL_areCounts_224 (by decide) ?_
              refine l0_callSW C hfl _ (HA_count hD hA (by first | assumption | decide | omega)) sW_114 dL_areCounts_225 rfl (Nat.le_of_ble_eq_true rfl) ⟨Nat.le_of_ble_eq_true rfl, Nat.le_of_ble_eq_true rfl⟩ ⟨Nat.le_add_right _ _, Nat.le_add_right _ _⟩ (fun zr225 zw225 zp225 => ?_)
              obtain ⟨rfl, rfl⟩ := zp225
              refine a_iload C dL_areCounts_228 rfl ?_
              refine a_icmp_ne (tgt := 274) C dL_areCounts_230 (by decide) (fun h_230 => ?_) (fun h_230 => ?_)
              · exact absurd rfl h_230
              · refine a_aload_n C dL_areCounts_233 rfl rfl ?_
                refine a_bipush (v := nI 9) C dL_areCounts_234 (by decide) ?_
                refine l0_callSW C hfl _ (HA_count hD hA (by first | assumption | decide | omega)) sW_114 dL_areCounts_236 rfl (Nat.le_of_ble_eq_true rfl) ⟨Nat.le_of_ble_eq_true rfl, Nat.le_of_ble_eq_true rfl⟩ ⟨Nat.le_add_right _ _, Nat.le_add_right _ _⟩ (fun zr236 zw236 zp236 => ?_)
                obtain ⟨rfl, rfl⟩ := zp236
                refine a_iload C dL_areCounts_239 rfl ?_
                refine a_icmp_ne (tgt := 274) C dL_areCounts_241 (by decide) (fun h_241 => ?_) (fun h_241 => ?_)
                · exact absurd rfl h_241
                · refine a_aload_n C dL_areCounts_244 rfl rfl ?_
                  refine a_bipush (v := nI 10) C dL_areCounts_245 (by decide) ?_
                  refine l0_callSW C hfl _ (HA_count hD hA (by first | assumption | decide | omega)) sW_114 dL_areCounts_247 rfl (Nat.le_of_ble_eq_true rfl) ⟨Nat.le_of_ble_eq_true rfl, Nat.le_of_ble_eq_true rfl⟩ ⟨Nat.le_add_right _ _, Nat.le_add_right _ _⟩ (fun zr247 zw247 zp247 => ?_)
                  obtain ⟨rfl, rfl⟩ := zp247
                  refine a_iload C dL_areCounts_250 rfl ?_
                  refine a_icmp_ne (tgt := 274) C dL_areCounts_252 (by decide) (fun h_252 => ?_) (fun h_252 => ?_)
                  · exact absurd rfl h_252
                  · refine a_aload_n C dL_areCounts_255 rfl rfl ?_
                    refine p_callV C (K_X6_freeShare hD hA) vL_173 rfl (by first | decide | omega) rfl rfl dL_areCounts_256 (Nat.le_of_ble_eq_true rfl) ⟨Nat.le_of_ble_eq_true rfl, Nat.le_of_ble_eq_true rfl⟩ ?_
                    refine a_iload C dL_areCounts_259 rfl ?_
                    refine a_i2d C dL_areCounts_261 ?_
                    refine a_iload C dL_areCounts_262 rfl ?_
                    refine a_i2d C dL_areCounts_264 ?_
                    refine a_ddiv C dL_areCounts_265 (shr_nn A) ?_
                    refine a_dcmp C dL_areCounts_266 ?_
                    refine a_if_ne (tgt := 274) C dL_areCounts_267 (by decide) (fun h_267 => ?_) (fun h_267 => ?_)
                    · exact absurd (dq_0 A) h_267
                    · refine a_iconst (v := nI 1) C dL_areCounts_270 (by decide) ?_
                      refine a_goto (tgt := 275) C dL_areCounts_271 (by decide) ?_
                      refine a_istore C dL_areCounts_275 (by decide) ?_
                      refine a_iconst (v := nI 1) C dL_areCounts_277 (by decide) ?_
                      refine a_istore C dL_areCounts_278 (by decide) ?_
                      refine a_join (aLe_s ?_ (aLe_s ?_ (aLe_s ?_ (aLe_s ?_ (aLe_n (aLe_n (aLe_n (aLe_n (aLe_n (aLe_s ?_ (aLe_s ?_ aLe_nil))))))))))) rfl rfl (ZL280 (6 + 1) 1 (by omega) (by omega) (by decide))
                      · first | with_reducible rfl | exact gl (by first | with_reducible rfl | (refine iF ?_; simp [cntN, sumN, xpC, h_134, (eq_true h_200), (beq_iff_eq.mpr h_200), (bne_eq_false_iff_eq.mpr h_200), (eq_true h_210), (beq_iff_eq.mpr h_210), (bne_eq_false_iff_eq.mpr h_210), (eq_true h_220), (beq_iff_eq.mpr h_220), (bne_eq_false_iff_eq.mpr h_220), (eq_true h_230), (beq_iff_eq.mpr h_230), (bne_eq_false_iff_eq.mpr h_230), (eq_true h_241), (beq_iff_eq.mpr h_241), (bne_eq_false_iff_eq.mpr h_241), (eq_true h_252), (beq_iff_eq.mpr h_252), (bne_eq_false_iff_eq.mpr h_252), (eq_true h_267), (beq_iff_eq.mpr h_267), (bne_eq_false_iff_eq.mpr h_267)]; done) | (refine iT ?_; simp [cntN, sumN, xpC, h_134, (eq_true h_200), (beq_iff_eq.mpr h_200), (bne_eq_false_iff_eq.mpr h_200), (eq_true h_210), (beq_iff_eq.mpr h_210), (bne_eq_false_iff_eq.mpr h_210), (eq_true h_220), (beq_iff_eq.mpr h_220), (bne_eq_false_iff_eq.mpr h_220), (eq_true h_230), (beq_iff_eq.mpr h_230), (bne_eq_false_iff_eq.mpr h_230), (eq_true h_241), (beq_iff_eq.mpr h_241), (bne_eq_false_iff_eq.mpr h_241), (eq_true h_252), (beq_iff_eq.mpr h_252), (bne_eq_false_iff_eq.mpr h_252), (eq_true h_267), (beq_iff_eq.mpr h_267), (bne_eq_false_iff_eq.mpr h_267)]; done) | (refine iB ?_; simp [cntN, sumN, xpC, h_134, (eq_true h_200), (beq_iff_eq.mpr h_200), (bne_eq_false_iff_eq.mpr h_200), (eq_true h_210), (beq_iff_eq.mpr h_210), (bne_eq_false_iff_eq.mpr h_210), (eq_true h_220), (beq_iff_eq.mpr h_220), (bne_eq_false_iff_eq.mpr h_220), (eq_true h_230), (beq_iff_eq.mpr h_230), (bne_eq_false_iff_eq.mpr h_230), (eq_true h_241), (beq_iff_eq.mpr h_241), (bne_eq_false_iff_eq.mpr h_241), (eq_true h_252), (beq_iff_eq.mpr h_252), (bne_eq_false_iff_eq.mpr h_252), (eq_true h_267), (beq_iff_eq.mpr h_267), (bne_eq_false_iff_eq.mpr h_267)]; done) | (simp [cntN, sumN, xpC, h_134, (eq_true h_200), (beq_iff_eq.mpr h_200), (bne_eq_false_iff_eq.mpr h_200), (eq_true h_210), (beq_iff_eq.mpr h_210), (bne_eq_false_iff_eq.mpr h_210), (eq_true h_220), (beq_iff_eq.mpr h_220), (bne_eq_false_iff_eq.mpr h_220), (eq_true h_230), (beq_iff_eq.mpr h_230), (bne_eq_false_iff_eq.mpr h_230), (eq_true h_241), (beq_iff_eq.mpr h_241), (bne_eq_false_iff_eq.mpr h_241), (eq_true h_252), (beq_iff_eq.mpr h_252), (bne_eq_false_iff_eq.mpr h_252), (eq_true h_267), (beq_iff_eq.mpr h_267), (bne_eq_false_iff_eq.mpr h_267)]; done) | (simp [cntN, sumN, xpC, h_134, (eq_true h_200), (beq_iff_eq.mpr h_200), (bne_eq_false_iff_eq.mpr h_200), (eq_true h_210), (beq_iff_eq.mpr h_210), (bne_eq_false_iff_eq.mpr h_210), (eq_true h_220), (beq_iff_eq.mpr h_220), (bne_eq_false_iff_eq.mpr h_220), (eq_true h_230), (beq_iff_eq.mpr h_230), (bne_eq_false_iff_eq.mpr h_230), (eq_true h_241), (beq_iff_eq.mpr h_241), (bne_eq_false_iff_eq.mpr h_241), (eq_true h_252), (beq_iff_eq.mpr h_252), (bne_eq_false_iff_eq.mpr h_252), (eq_true h_267), (beq_iff_eq.mpr h_267), (bne_eq_false_iff_eq.mpr h_267)]; omega) | omega | rfl)
                      · first | with_reducible rfl | exact gl (by first | with_reducible rfl | (refine iF ?_; simp [cntN, sumN, xpC, h_134, (eq_true h_200), (beq_iff_eq.mpr h_200), (bne_eq_false_iff_eq.mpr h_200), (eq_true h_210), (beq_iff_eq.mpr h_210), (bne_eq_false_iff_eq.mpr h_210), (eq_true h_220), (beq_iff_eq.mpr h_220), (bne_eq_false_iff_eq.mpr h_220), (eq_true h_230), (beq_iff_eq.mpr h_230), (bne_eq_false_iff_eq.mpr h_230), (eq_true h_241), (beq_iff_eq.mpr h_241), (bne_eq_false_iff_eq.mpr h_241), (eq_true h_252), (beq_iff_eq.mpr h_252), (bne_eq_false_iff_eq.mpr h_252), (eq_true h_267), (beq_iff_eq.mpr h_267), (bne_eq_false_iff_eq.mpr h_267)]; done) | (refine iT ?_; simp [cntN, sumN, xpC, h_134, (eq_true h_200), (beq_iff_eq.mpr h_200), (bne_eq_false_iff_eq.mpr h_200), (eq_true h_210), (beq_iff_eq.mpr h_210), (bne_eq_false_iff_eq.mpr h_210), (eq_true h_220), (beq_iff_eq.mpr h_220), (bne_eq_false_iff_eq.mpr h_220), (eq_true h_230), (beq_iff_eq.mpr h_230), (bne_eq_false_iff_eq.mpr h_230), (eq_true h_241), (beq_iff_eq.mpr h_241), (bne_eq_false_iff_eq.mpr h_241), (eq_true h_252), (beq_iff_eq.mpr h_252), (bne_eq_false_iff_eq.mpr h_252), (eq_true h_267), (beq_iff_eq.mpr h_267), (bne_eq_false_iff_eq.mpr h_267)]; done) | (refine iB ?_; simp [cntN, sumN, xpC, h_134, (eq_true h_200), (beq_iff_eq.mpr h_200), (bne_eq_false_iff_eq.mpr h_200), (eq_true h_210), (beq_iff_eq.mpr h_210), (bne_eq_false_iff_eq.mpr h_210), (eq_true h_220), (beq_iff_eq.mpr h_220), (bne_eq_false_iff_eq.mpr h_220), (eq_true h_230), (beq_iff_eq.mpr h_230), (bne_eq_false_iff_eq.mpr h_230), (eq_true h_241), (beq_iff_eq.mpr h_241), (bne_eq_false_iff_eq.mpr h_241), (eq_true h_252), (beq_iff_eq.mpr h_252), (bne_eq_false_iff_eq.mpr h_252), (eq_true h_267), (beq_iff_eq.mpr h_267), (bne_eq_false_iff_eq.mpr h_267)]; done) | (simp [cntN, sumN, xpC, h_134, (eq_true h_200), (beq_iff_eq.mpr h_200), (bne_eq_false_iff_eq.mpr h_200), (eq_true h_210), (beq_iff_eq.mpr h_210), (bne_eq_false_iff_eq.mpr h_210), (eq_true h_220), (beq_iff_eq.mpr h_220), (bne_eq_false_iff_eq.mpr h_220), (eq_true h_230), (beq_iff_eq.mpr h_230), (bne_eq_false_iff_eq.mpr h_230), (eq_true h_241), (beq_iff_eq.mpr h_241), (bne_eq_false_iff_eq.mpr h_241), (eq_true h_252), (beq_iff_eq.mpr h_252), (bne_eq_false_iff_eq.mpr h_252), (eq_true h_267), (beq_iff_eq.mpr h_267), (bne_eq_false_iff_eq.mpr h_267)]; done) | (simp [cntN, sumN, xpC, h_134, (eq_true h_200), (beq_iff_eq.mpr h_200), (bne_eq_false_iff_eq.mpr h_200), (eq_true h_210), (beq_iff_eq.mpr h_210), (bne_eq_false_iff_eq.mpr h_210), (eq_true h_220), (beq_iff_eq.mpr h_220), (bne_eq_false_iff_eq.mpr h_220), (eq_true h_230), (beq_iff_eq.mpr h_230), (bne_eq_false_iff_eq.mpr h_230), (eq_true h_241), (beq_iff_eq.mpr h_241), (bne_eq_false_iff_eq.mpr h_241), (eq_true h_252), (beq_iff_eq.mpr h_252), (bne_eq_false_iff_eq.mpr h_252), (eq_true h_267), (beq_iff_eq.mpr h_267), (bne_eq_false_iff_eq.mpr h_267)]; omega) | omega | rfl)
                      · first | with_reducible rfl | exact gl (by first | with_reducible rfl | (refine iF ?_; simp [cntN, sumN, xpC, h_134, (eq_true h_200), (beq_iff_eq.mpr h_200), (bne_eq_false_iff_eq.mpr h_200), (eq_true h_210), (beq_iff_eq.mpr h_210), (bne_eq_false_iff_eq.mpr h_210), (eq_true h_220), (beq_iff_eq.mpr h_220), (bne_eq_false_iff_eq.mpr h_220), (eq_true h_230), (beq_iff_eq.mpr h_230), (bne_eq_false_iff_eq.mpr h_230), (eq_true h_241), (beq_iff_eq.mpr h_241), (bne_eq_false_iff_eq.mpr h_241), (eq_true h_252), (beq_iff_eq.mpr h_252), (bne_eq_false_iff_eq.mpr h_252), (eq_true h_267), (beq_iff_eq.mpr h_267), (bne_eq_false_iff_eq.mpr h_267)]; done) | (refine iT ?_; simp [cntN, sumN, xpC, h_134, (eq_true h_200), (beq_iff_eq.mpr h_200), (bne_eq_false_iff_eq.mpr h_200), (eq_true h_210), (beq_iff_eq.mpr h_210), (bne_eq_false_iff_eq.mpr h_210), (eq_true h_220), (beq_iff_eq.mpr h_220), (bne_eq_false_iff_eq.mpr h_220), (eq_true h_230), (beq_iff_eq.mpr h_230), (bne_eq_false_iff_eq.mpr h_230), (eq_true h_241), (beq_iff_eq.mpr h_241), (bne_eq_false_iff_eq.mpr h_241), (eq_true h_252), (beq_iff_eq.mpr h_252), (bne_eq_false_iff_eq.mpr h_252), (eq_true h_267), (beq_iff_eq.mpr h_267), (bne_eq_false_iff_eq.mpr h_267)]; done) | (refine iB ?_; simp [cntN, sumN, xpC, h_134, (eq_true h_200), (beq_iff_eq.mpr h_200), (bne_eq_false_iff_eq.mpr h_200), (eq_true h_210), (beq_iff_eq.mpr h_210), (bne_eq_false_iff_eq.mpr h_210), (eq_true h_220), (beq_iff_eq.mpr h_220), (bne_eq_false_iff_eq.mpr h_220), (eq_true h_230), (beq_iff_eq.mpr h_230), (bne_eq_false_iff_eq.mpr h_230), (eq_true h_241), (beq_iff_eq.mpr h_241), (bne_eq_false_iff_eq.mpr h_241), (eq_true h_252), (beq_iff_eq.mpr h_252), (bne_eq_false_iff_eq.mpr h_252), (eq_true h_267), (beq_iff_eq.mpr h_267), (bne_eq_false_iff_eq.mpr h_267)]; done) | (simp [cntN, sumN, xpC, h_134, (eq_true h_200), (beq_iff_eq.mpr h_200), (bne_eq_false_iff_eq.mpr h_200), (eq_true h_210), (beq_iff_eq.mpr h_210), (bne_eq_false_iff_eq.mpr h_210), (eq_true h_220), (beq_iff_eq.mpr h_220), (bne_eq_false_iff_eq.mpr h_220), (eq_true h_230), (beq_iff_eq.mpr h_230), (bne_eq_false_iff_eq.mpr h_230), (eq_true h_241), (beq_iff_eq.mpr h_241), (bne_eq_false_iff_eq.mpr h_241), (eq_true h_252), (beq_iff_eq.mpr h_252), (bne_eq_false_iff_eq.mpr h_252), (eq_true h_267), (beq_iff_eq.mpr h_267), (bne_eq_false_iff_eq.mpr h_267)]; done) | (simp [cntN, sumN, xpC, h_134, (eq_true h_200), (beq_iff_eq.mpr h_200), (bne_eq_false_iff_eq.mpr h_200), (eq_true h_210), (beq_iff_eq.mpr h_210), (bne_eq_false_iff_eq.mpr h_210), (eq_true h_220), (beq_iff_eq.mpr h_220), (bne_eq_false_iff_eq.mpr h_220), (eq_true h_230), (beq_iff_eq.mpr h_230), (bne_eq_false_iff_eq.mpr h_230), (eq_true h_241), (beq_iff_eq.mpr h_241), (bne_eq_false_iff_eq.mpr h_241), (eq_true h_252), (beq_iff_eq.mpr h_252), (bne_eq_false_iff_eq.mpr h_252), (eq_true h_267), (beq_iff_eq.mpr h_267), (bne_eq_false_iff_eq.mpr h_267)]; omega) | omega | rfl)
                      · first | with_reducible rfl | exact gl (by first | with_reducible rfl | (refine iF ?_; simp [cntN, sumN, xpC, h_134, (eq_true h_200), (beq_iff_eq.mpr h_200), (bne_eq_false_iff_eq.mpr h_200), (eq_true h_210), (beq_iff_eq.mpr h_210), (bne_eq_false_iff_eq.mpr h_210), (eq_true h_220), (beq_iff_eq.mpr h_220), (bne_eq_false_iff_eq.mpr h_220), (eq_true h_230), (beq_iff_eq.mpr h_230), (bne_eq_false_iff_eq.mpr h_230), (eq_true h_241), (beq_iff_eq.mpr h_241), (bne_eq_false_iff_eq.mpr h_241), (eq_true h_252), (beq_iff_eq.mpr h_252), (bne_eq_false_iff_eq.mpr h_252), (eq_true h_267), (beq_iff_eq.mpr h_267), (bne_eq_false_iff_eq.mpr h_267)]; done) | (refine iT ?_; simp [cntN, sumN, xpC, h_134, (eq_true h_200), (beq_iff_eq.mpr h_200), (bne_eq_false_iff_eq.mpr h_200), (eq_true h_210), (beq_iff_eq.mpr h_210), (bne_eq_false_iff_eq.mpr h_210), (eq_true h_220), (beq_iff_eq.mpr h_220), (bne_eq_false_iff_eq.mpr h_220), (eq_true h_230), (beq_iff_eq.mpr h_230), (bne_eq_false_iff_eq.mpr h_230), (eq_true h_241), (beq_iff_eq.mpr h_241), (bne_eq_false_iff_eq.mpr h_241), (eq_true h_252), (beq_iff_eq.mpr h_252), (bne_eq_false_iff_eq.mpr h_252), (eq_true h_267), (beq_iff_eq.mpr h_267), (bne_eq_false_iff_eq.mpr h_267)]; done) | (refine iB ?_; simp [cntN, sumN, xpC, h_134, (eq_true h_200), (beq_iff_eq.mpr h_200), (bne_eq_false_iff_eq.mpr h_200), (eq_true h_210), (beq_iff_eq.mpr h_210), (bne_eq_false_iff_eq.mpr h_210), (eq_true h_220), (beq_iff_eq.mpr h_220), (bne_eq_false_iff_eq.mpr h_220), (eq_true h_230), (beq_iff_eq.mpr h_230), (bne_eq_false_iff_eq.mpr h_230), (eq_true h_241), (beq_iff_eq.mpr h_241), (bne_eq_false_iff_eq.mpr h_241), (eq_true h_252), (beq_iff_eq.mpr h_252), (bne_eq_false_iff_eq.mpr h_252), (eq_true h_267), (beq_iff_eq.mpr h_267), (bne_eq_false_iff_eq.mpr h_267)]; done) | (simp [cntN, sumN, xpC, h_134, (eq_true h_200), (beq_iff_eq.mpr h_200), (bne_eq_false_iff_eq.mpr h_200), (eq_true h_210), (beq_iff_eq.mpr h_210), (bne_eq_false_iff_eq.mpr h_210), (eq_true h_220), (beq_iff_eq.mpr h_220), (bne_eq_false_iff_eq.mpr h_220), (eq_true h_230), (beq_iff_eq.mpr h_230), (bne_eq_false_iff_eq.mpr h_230), (eq_true h_241), (beq_iff_eq.mpr h_241), (bne_eq_false_iff_eq.mpr h_241), (eq_true h_252), (beq_iff_eq.mpr h_252), (bne_eq_false_iff_eq.mpr h_252), (eq_true h_267), (beq_iff_eq.mpr h_267), (bne_eq_false_iff_eq.mpr h_267)]; done) | (simp [cntN, sumN, xpC, h_134, (eq_true h_200), (beq_iff_eq.mpr h_200), (bne_eq_false_iff_eq.mpr h_200), (eq_true h_210), (beq_iff_eq.mpr h_210), (bne_eq_false_iff_eq.mpr h_210), (eq_true h_220), (beq_iff_eq.mpr h_220), (bne_eq_false_iff_eq.mpr h_220), (eq_true h_230), (beq_iff_eq.mpr h_230), (bne_eq_false_iff_eq.mpr h_230), (eq_true h_241), (beq_iff_eq.mpr h_241), (bne_eq_false_iff_eq.mpr h_241), (eq_true h_252), (beq_iff_eq.mpr h_252), (bne_eq_false_iff_eq.mpr h_252), (eq_true h_267), (beq_iff_eq.mpr h_267), (bne_eq_false_iff_eq.mpr h_267)]; omega) | omega | rfl)
                      · first | with_reducible rfl | exact gl (by first | with_reducible rfl | (refine iF ?_; simp [cntN, sumN, xpC, h_134, (eq_true h_200), (beq_iff_eq.mpr h_200), (bne_eq_false_iff_eq.mpr h_200), (eq_true h_210), (beq_iff_eq.mpr h_210), (bne_eq_false_iff_eq.mpr h_210), (eq_true h_220), (beq_iff_eq.mpr h_220), (bne_eq_false_iff_eq.mpr h_220), (eq_true h_230), (beq_iff_eq.mpr h_230), (bne_eq_false_iff_eq.mpr h_230), (eq_true h_241), (beq_iff_eq.mpr h_241), (bne_eq_false_iff_eq.mpr h_241), (eq_true h_252), (beq_iff_eq.mpr h_252), (bne_eq_false_iff_eq.mpr h_252), (eq_true h_267), (beq_iff_eq.mpr h_267), (bne_eq_false_iff_eq.mpr h_267)]; done) | (refine iT ?_; simp [cntN, sumN, xpC, h_134, (eq_true h_200), (beq_iff_eq.mpr h_200), (bne_eq_false_iff_eq.mpr h_200), (eq_true h_210), (beq_iff_eq.mpr h_210), (bne_eq_false_iff_eq.mpr h_210), (eq_true h_220), (beq_iff_eq.mpr h_220), (bne_eq_false_iff_eq.mpr h_220), (eq_true h_230), (beq_iff_eq.mpr h_230), (bne_eq_false_iff_eq.mpr h_230), (eq_true h_241), (beq_iff_eq.mpr h_241), (bne_eq_false_iff_eq.mpr h_241), (eq_true h_252), (beq_iff_eq.mpr h_252), (bne_eq_false_iff_eq.mpr h_252), (eq_true h_267), (beq_iff_eq.mpr h_267), (bne_eq_false_iff_eq.mpr h_267)]; done) | (refine iB ?_; simp [cntN, sumN, xpC, h_134, (eq_true h_200), (beq_iff_eq.mpr h_200), (bne_eq_false_iff_eq.mpr h_200), (eq_true h_210), (beq_iff_eq.mpr h_210), (bne_eq_false_iff_eq.mpr h_210), (eq_true h_220), (beq_iff_eq.mpr h_220), (bne_eq_false_iff_eq.mpr h_220), (eq_true h_230), (beq_iff_eq.mpr h_230), (bne_eq_false_iff_eq.mpr h_230), (eq_true h_241), (beq_iff_eq.mpr h_241), (bne_eq_false_iff_eq.mpr h_241), (eq_true h_252), (beq_iff_eq.mpr h_252), (bne_eq_false_iff_eq.mpr h_252), (eq_true h_267), (beq_iff_eq.mpr h_267), (bne_eq_false_iff_eq.mpr h_267)]; done) | (simp [cntN, sumN, xpC, h_134, (eq_true h_200), (beq_iff_eq.mpr h_200), (bne_eq_false_iff_eq.mpr h_200), (eq_true h_210), (beq_iff_eq.mpr h_210), (bne_eq_false_iff_eq.mpr h_210), (eq_true h_220), (beq_iff_eq.mpr h_220), (bne_eq_false_iff_eq.mpr h_220), (eq_true h_230), (beq_iff_eq.mpr h_230), (bne_eq_false_iff_eq.mpr h_230), (eq_true h_241), (beq_iff_eq.mpr h_241), (bne_eq_false_iff_eq.mpr h_241), (eq_true h_252), (beq_iff_eq.mpr h_252), (bne_eq_false_iff_eq.mpr h_252), (eq_true h_267), (beq_iff_eq.mpr h_267), (bne_eq_false_iff_eq.mpr h_267)]; done) | (simp [cntN, sumN, xpC, h_134, (eq_true h_200), (beq_iff_eq.mpr h_200), (bne_eq_false_iff_eq.mpr h_200), (eq_true h_210), (beq_iff_eq.mpr h_210), (bne_eq_false_iff_eq.mpr h_210), (eq_true h_220), (beq_iff_eq.mpr h_220), (bne_eq_false_iff_eq.mpr h_220), (eq_true h_230), (beq_iff_eq.mpr h_230), (bne_eq_false_iff_eq.mpr h_230), (eq_true h_241), (beq_iff_eq.mpr h_241), (bne_eq_false_iff_eq.mpr h_241), (eq_true h_252), (beq_iff_eq.mpr h_252), (bne_eq_false_iff_eq.mpr h_252), (eq_true h_267), (beq_iff_eq.mpr h_267), (bne_eq_false_iff_eq.mpr h_267)]; omega) | omega | rfl)
                      · first | with_reducible rfl | exact gl (by first | with_reducible rfl | (refine iF ?_; simp [cntN, sumN, xpC, h_134, (eq_true h_200), (beq_iff_eq.mpr h_200), (bne_eq_false_iff_eq.mpr h_200), (eq_true h_210), (beq_iff_eq.mpr h_210), (bne_eq_false_iff_eq.mpr h_210), (eq_true h_220), (beq_iff_eq.mpr h_220), (bne_eq_false_iff_eq.mpr h_220), (eq_true h_230), (beq_iff_eq.mpr h_230), (bne_eq_false_iff_eq.mpr h_230), (eq_true h_241), (beq_iff_eq.mpr h_241), (bne_eq_false_iff_eq.mpr h_241), (eq_true h_252), (beq_iff_eq.mpr h_252), (bne_eq_false_iff_eq.mpr h_252), (eq_true h_267), (beq_iff_eq.mpr h_267), (bne_eq_false_iff_eq.mpr h_267)]; done) | (refine iT ?_; simp [cntN, sumN, xpC, h_134, (eq_true h_200), (beq_iff_eq.mpr h_200), (bne_eq_false_iff_eq.mpr h_200), (eq_true h_210), (beq_iff_eq.mpr h_210), (bne_eq_false_iff_eq.mpr h_210), (eq_true h_220), (beq_iff_eq.mpr h_220), (bne_eq_false_iff_eq.mpr h_220), (eq_true h_230), (beq_iff_eq.mpr h_230), (bne_eq_false_iff_eq.mpr h_230), (eq_true h_241), (beq_iff_eq.mpr h_241), (bne_eq_false_iff_eq.mpr h_241), (eq_true h_252), (beq_iff_eq.mpr h_252), (bne_eq_false_iff_eq.mpr h_252), (eq_true h_267), (beq_iff_eq.mpr h_267), (bne_eq_false_iff_eq.mpr h_267)]; done) | (refine iB ?_; simp [cntN, sumN, xpC, h_134, (eq_true h_200), (beq_iff_eq.mpr h_200), (bne_eq_false_iff_eq.mpr h_200), (eq_true h_210), (beq_iff_eq.mpr h_210), (bne_eq_false_iff_eq.mpr h_210), (eq_true h_220), (beq_iff_eq.mpr h_220), (bne_eq_false_iff_eq.mpr h_220), (eq_true h_230), (beq_iff_eq.mpr h_230), (bne_eq_false_iff_eq.mpr h_230), (eq_true h_241), (beq_iff_eq.mpr h_241), (bne_eq_false_iff_eq.mpr h_241), (eq_true h_252), (beq_iff_eq.mpr h_252), (bne_eq_false_iff_eq.mpr h_252), (eq_true h_267), (beq_iff_eq.mpr h_267), (bne_eq_false_iff_eq.mpr h_267)]; done) | (simp [cntN, sumN, xpC, h_134, (eq_true h_200), (beq_iff_eq.mpr h_200), (bne_eq_false_iff_eq.mpr h_200), (eq_true h_210), (beq_iff_eq.mpr h_210), (bne_eq_false_iff_eq.mpr h_210), (eq_true h_220), (beq_iff_eq.mpr h_220), (bne_eq_false_iff_eq.mpr h_220), (eq_true h_230), (beq_iff_eq.mpr h_230), (bne_eq_false_iff_eq.mpr h_230), (eq_true h_241), (beq_iff_eq.mpr h_241), (bne_eq_false_iff_eq.mpr h_241), (eq_true h_252), (beq_iff_eq.mpr h_252), (bne_eq_false_iff_eq.mpr h_252), (eq_true h_267), (beq_iff_eq.mpr h_267), (bne_eq_false_iff_eq.mpr h_267)]; done) | (simp [cntN, sumN, xpC, h_134, (eq_true h_200), (beq_iff_eq.mpr h_200), (bne_eq_false_iff_eq.mpr h_200), (eq_true h_210), (beq_iff_eq.mpr h_210), (bne_eq_false_iff_eq.mpr h_210), (eq_true h_220), (beq_iff_eq.mpr h_220), (bne_eq_false_iff_eq.mpr h_220), (eq_true h_230), (beq_iff_eq.mpr h_230), (bne_eq_false_iff_eq.mpr h_230), (eq_true h_241), (beq_iff_eq.mpr h_241), (bne_eq_false_iff_eq.mpr h_241), (eq_true h_252), (beq_iff_eq.mpr h_252), (bne_eq_false_iff_eq.mpr h_252), (eq_true h_267), (beq_iff_eq.mpr h_267), (bne_eq_false_iff_eq.mpr h_267)]; omega) | omega | rfl)
      · refine a_iload C dL_areCounts_137 rfl ?_
        refine a_via 153 (nI (if cdP A false c = true then 1 else 0)) ?_ (fun zJ153 => ?_)
        · first | refine n_iadd C dL_areCounts_153 ?_ | refine a_iadd C dL_areCounts_153 ?_
          refine a_istore C dL_areCounts_154 (by decide) ?_
          refine a_iload C dL_areCounts_156 rfl ?_
          refine a_via 183 (nI (if cdP A true c = true then 1 else 0)) ?_ (fun zJ183 => ?_)
          · first | refine n_iadd C dL_areCounts_183 ?_ | refine a_iadd C dL_areCounts_183 ?_
            refine a_istore C dL_areCounts_184 (by decide) ?_
            refine n_iinc C dL_areCounts_186 rfl (by decide) ?_
            refine a_goto (tgt := 130) C dL_areCounts_189 (by decide) ?_
            refine a_join (aLe_s ?_ (aLe_s ?_ (aLe_s ?_ (aLe_s ?_ (aLe_s ?_ (aLe_s ?_ (aLe_s ?_ (aLe_s ?_ (aLe_s ?_ (aLe_s ?_ (aLe_n aLe_nil))))))))))) rfl rfl (zih130 (c + 1) (by omega) (by omega))
            · first | with_reducible rfl | exact gl (by first | with_reducible rfl | (refine iF ?_; simp [cntN, sumN, xpC, h_134]; done) | (refine iT ?_; simp [cntN, sumN, xpC, h_134]; done) | (refine iB ?_; simp [cntN, sumN, xpC, h_134]; done) | (simp [cntN, sumN, xpC, h_134]; done) | (simp [cntN, sumN, xpC, h_134]; omega) | omega)
            · first | with_reducible rfl | exact gl (by first | with_reducible rfl | (refine iF ?_; simp [cntN, sumN, xpC, h_134]; done) | (refine iT ?_; simp [cntN, sumN, xpC, h_134]; done) | (refine iB ?_; simp [cntN, sumN, xpC, h_134]; done) | (simp [cntN, sumN, xpC, h_134]; done) | (simp [cntN, sumN, xpC, h_134]; omega) | omega)
            · first | with_reducible rfl | exact gl (by first | with_reducible rfl | (refine iF ?_; simp [cntN, sumN, xpC, h_134]; done) | (refine iT ?_; simp [cntN, sumN, xpC, h_134]; done) | (refine iB ?_; simp [cntN, sumN, xpC, h_134]; done) | (simp [cntN, sumN, xpC, h_134]; done) | (simp [cntN, sumN, xpC, h_134]; omega) | omega)
            · first | with_reducible rfl | exact gl (by first | with_reducible rfl | (refine iF ?_; simp [cntN, sumN, xpC, h_134]; done) | (refine iT ?_; simp [cntN, sumN, xpC, h_134]; done) | (refine iB ?_; simp [cntN, sumN, xpC, h_134]; done) | (simp [cntN, sumN, xpC, h_134]; done) | (simp [cntN, sumN, xpC, h_134]; omega) | omega)
            · first | with_reducible rfl | exact gl (by first | with_reducible rfl | (refine iF ?_; simp [cntN, sumN, xpC, h_134]; done) | (refine iT ?_; simp [cntN, sumN, xpC, h_134]; done) | (refine iB ?_; simp [cntN, sumN, xpC, h_134]; done) | (simp [cntN, sumN, xpC, h_134]; done) | (simp [cntN, sumN, xpC, h_134]; omega) | omega)
            · first | with_reducible rfl | exact gl (by first | with_reducible rfl | (refine iF ?_; simp [cntN, sumN, xpC, h_134]; done) | (refine iT ?_; simp [cntN, sumN, xpC, h_134]; done) | (refine iB ?_; simp [cntN, sumN, xpC, h_134]; done) | (simp [cntN, sumN, xpC, h_134]; done) | (simp [cntN, sumN, xpC, h_134]; omega) | omega)
            · first | with_reducible rfl | exact gl (by first | with_reducible rfl | (refine iF ?_; simp [cntN, sumN, xpC, h_134]; done) | (refine iT ?_; simp [cntN, sumN, xpC, h_134]; done) | (refine iB ?_; simp [cntN, sumN, xpC, h_134]; done) | (simp [cntN, sumN, xpC, h_134]; done) | (simp [cntN, sumN, xpC, h_134]; omega) | omega)
            · first | with_reducible rfl | exact gl (by first | with_reducible rfl | (refine iF ?_; simp [cntN, sumN, xpC, h_134]; done) | (refine iT ?_; simp [cntN, sumN, xpC, h_134]; done) | (refine iB ?_; simp [cntN, sumN, xpC, h_134]; done) | (simp [cntN, sumN, xpC, h_134]; done) | (simp [cntN, sumN, xpC, h_134]; omega) | omega)
            · first | with_reducible rfl | exact gl (by first | with_reducible rfl | (refine iF ?_; simp [cntN, sumN, xpC, h_134]; done) | (refine iT ?_; simp [cntN, sumN, xpC, h_134]; done) | (refine iB ?_; simp [cntN, sumN, xpC, h_134]; done) | (simp [cntN, sumN, xpC, h_134]; done) | (simp [cntN, sumN, xpC, h_134]; omega) | omega)
            · first | with_reducible rfl | exact gl (by first | with_reducible rfl | (refine iF ?_; simp [cntN, sumN, xpC, h_134]; done) | (refine iT ?_; simp [cntN, sumN, xpC, h_134]; done) | (refine iB ?_; simp [cntN, sumN, xpC, h_134]; done) | (simp [cntN, sumN, xpC, h_134]; done) | (simp [cntN, sumN, xpC, h_134]; omega) | omega)
          · refine a_iload C dL_areCounts_158 rfl ?_
            refine a_aload_n C dL_areCounts_160 rfl rfl ?_
            refine p_callS C (K_L_isSound hL hA (by first | assumption | decide | omega)) sL_95 rfl dL_areCounts_161 (Nat.le_of_ble_eq_true rfl) ⟨Nat.le_of_ble_eq_true rfl, Nat.le_of_ble_eq_true rfl⟩ ?_
            first | refine b_if_eq (tgt := 182) C dL_areCounts_164 (by decide) (fun h_164 => ?_) (fun h_164 => ?_) | refine n_if_eq (tgt := 182) C dL_areCounts_164 (by decide) (by first | decide | omega) (fun h_164 => ?_) (fun h_164 => ?_) | refine a_if_eq (tgt := 182) C dL_areCounts_164 (by decide) (fun h_164 => ?_) (fun h_164 => ?_)
            · refine a_iconst (v := nI 0) C dL_areCounts_182 (by decide) ?_
              refine a_eq rfl (gl1 ?_) rfl zJ183
              · first | (refine n0 (?_ : freA A c = false); simp [freA, h_164]; done) | (refine n0 (?_ : freA A c = false); simp [freA, h_164, h_175]; done) | (refine n1 (?_ : freA A c = true); simp [freA, h_164, h_175]; done)
            · refine a_iload C dL_areCounts_167 rfl ?_
              refine a_iconst (v := (-1)) C dL_areCounts_169 (by decide) ?_
              refine a_aload_n C dL_areCounts_170 rfl rfl ?_
              refine a_aload_n C dL_areCounts_171 rfl rfl ?_
              refine p_callS C (K_L_clash hL hA _ (by first | assumption | decide | omega)) sL_99 rfl dL_areCounts_172 (Nat.le_of_ble_eq_true rfl) ⟨Nat.le_of_ble_eq_true rfl, Nat.le_of_ble_eq_true rfl⟩ ?_
              refine n_if_ne (tgt := 182) C dL_areCounts_175 (by decide) (by have := clsA_lt A c (-1) (kN A); unfold clA; omega)  (fun h_175 => ?_) (fun h_175 => ?_)
              · refine a_iconst (v := nI 0) C dL_areCounts_182 (by decide) ?_
                refine a_eq rfl (gl1 ?_) rfl zJ183
                · first | (refine n0 (?_ : freA A c = false); simp [freA, h_164]; done) | (refine n0 (?_ : freA A c = false); simp [freA, h_164, h_175]; done) | (refine n1 (?_ : freA A c = true); simp [freA, h_164, h_175]; done)
              · refine a_iconst (v := nI 1) C dL_areCounts_178 (by decide) ?_
                refine a_goto (tgt := 183) C dL_areCounts_179 (by decide) ?_
                refine a_eq rfl (gl1 ?_) rfl zJ183
                · first | (refine n0 (?_ : freA A c = false); simp [freA, h_164]; done) | (refine n0 (?_ : freA A c = false); simp [freA, h_164, h_175]; done) | (refine n1 (?_ : freA A c = true); simp [freA, h_164, h_175]; done)
        · refine a_iload C dL_areCounts_139 rfl ?_
          refine a_aload_n C dL_areCounts_141 rfl rfl ?_
          refine p_callS C (K_L_isSound hL hA (by first | assumption | decide | omega)) sL_95 rfl dL_areCounts_142 (Nat.le_of_ble_eq_true rfl) ⟨Nat.le_of_ble_eq_true rfl, Nat.le_of_ble_eq_true rfl⟩ ?_
          first | refine b_if_eq (tgt := 152) C dL_areCounts_145 (by decide) (fun h_145 => ?_) (fun h_145 => ?_) | refine n_if_eq (tgt := 152) C dL_areCounts_145 (by decide) (by first | decide | omega) (fun h_145 => ?_) (fun h_145 => ?_) | refine a_if_eq (tgt := 152) C dL_areCounts_145 (by decide) (fun h_145 => ?_) (fun h_145 => ?_)
          · refine a_iconst (v := nI 0) C dL_areCounts_152 (by decide) ?_
            refine a_eq rfl (gl1 ?_) rfl zJ153
            · first | exact n1 h_145 | exact n0 h_145
          · refine a_iconst (v := nI 1) C dL_areCounts_148 (by decide) ?_
            refine a_goto (tgt := 153) C dL_areCounts_149 (by decide) ?_
            refine a_eq rfl (gl1 ?_) rfl zJ153
            · first | exact n1 h_145 | exact n0 h_145
  have ZL95 : ∀ (zd95 : Nat) (e : Nat), 6 + 1 ≤ e + zd95 → e ≤ 6 → WA G9 p9 l9 e9 (RL9 8 136 (0) (0)) s9 m9 ar9 be9 me9 co9 (QL G9 be9 ar9 s9 w ex us (0) (0) (fun r w' => r = some (.int (nI 1)) ∧ w' = w)) 11 (207 + ex.1 + ex.2) us 95 [some (.ref 0), some (.ref 204), some (.ref 205), some (.ref 206), some (.int (nI (lstA A))), some (.int (nI (cntN (wdA A) e))), some (.int (nI (xprA A))), some (.int (nI 0)), some (.int (nI 0)), some (.int (nI e)), none] [] (fzM w ex us) := by
    intro zd95
    induction zd95 with
    | zero => intro e zm95 zh95_0; exfalso; omega
    | succ zd95 zih95 =>
      intro e zm95 zh95_0
      refine a_iload C dL_areCounts_95 rfl ?_
      refine a_bipush (v := nI 6) C dL_areCounts_97 (by decide) ?_
      first | refine n_icmp_ge (tgt := 127) C dL_areCounts_99 (by decide) (by first | decide | omega) (by first | decide | omega) (fun h_99 => ?_) (fun h_99 => ?_) | refine a_icmp_ge (tgt := 127) C dL_areCounts_99 (by decide) (fun h_99 => ?_) (fun h_99 => ?_)
      · obtain rfl : e = 6 := by omega
        refine a_iconst (v := nI 0) C dL_areCounts_127 (by decide) ?_
        refine a_istore C dL_areCounts_128 (by decide) ?_
        refine a_join (aLe_s ?_ (aLe_s ?_ (aLe_s ?_ (aLe_s ?_ (aLe_s ?_ (aLe_s ?_ (aLe_s ?_ (aLe_s ?_ (aLe_s ?_ (aLe_s ?_ (aLe_n aLe_nil))))))))))) rfl rfl (ZL130 (81 + 1) 0 (by omega) (by omega))
        · first | with_reducible rfl | exact gl (by first | with_reducible rfl | (refine iF ?_; simp [cntN, sumN, xpC, h_99]; done) | (refine iT ?_; simp [cntN, sumN, xpC, h_99]; done) | (refine iB ?_; simp [cntN, sumN, xpC, h_99]; done) | (simp [cntN, sumN, xpC, h_99]; done) | (simp [cntN, sumN, xpC, h_99]; omega) | omega | rfl)
        · first | with_reducible rfl | exact gl (by first | with_reducible rfl | (refine iF ?_; simp [cntN, sumN, xpC, h_99]; done) | (refine iT ?_; simp [cntN, sumN, xpC, h_99]; done) | (refine iB ?_; simp [cntN, sumN, xpC, h_99]; done) | (simp [cntN, sumN, xpC, h_99]; done) | (simp [cntN, sumN, xpC, h_99]; omega) | omega | rfl)
        · first | with_reducible rfl | exact gl (by first | with_reducible rfl | (refine iF ?_; simp [cntN, sumN, xpC, h_99]; done) | (refine iT ?_; simp [cntN, sumN, xpC, h_99]; done) | (refine iB ?_; simp [cntN, sumN, xpC, h_99]; done) | (simp [cntN, sumN, xpC, h_99]; done) | (simp [cntN, sumN, xpC, h_99]; omega) | omega | rfl)
        · first | with_reducible rfl | exact gl (by first | with_reducible rfl | (refine iF ?_; simp [cntN, sumN, xpC, h_99]; done) | (refine iT ?_; simp [cntN, sumN, xpC, h_99]; done) | (refine iB ?_; simp [cntN, sumN, xpC, h_99]; done) | (simp [cntN, sumN, xpC, h_99]; done) | (simp [cntN, sumN, xpC, h_99]; omega) | omega | rfl)
        · first | with_reducible rfl | exact gl (by first | with_reducible rfl | (refine iF ?_; simp [cntN, sumN, xpC, h_99]; done) | (refine iT ?_; simp [cntN, sumN, xpC, h_99]; done) | (refine iB ?_; simp [cntN, sumN, xpC, h_99]; done) | (simp [cntN, sumN, xpC, h_99]; done) | (simp [cntN, sumN, xpC, h_99]; omega) | omega | rfl)
        · first | with_reducible rfl | exact gl (by first | with_reducible rfl | (refine iF ?_; simp [cntN, sumN, xpC, h_99]; done) | (refine iT ?_; simp [cntN, sumN, xpC, h_99]; done) | (refine iB ?_; simp [cntN, sumN, xpC, h_99]; done) | (simp [cntN, sumN, xpC, h_99]; done) | (simp [cntN, sumN, xpC, h_99]; omega) | omega | rfl)
        · first | with_reducible rfl | exact gl (by first | with_reducible rfl | (refine iF ?_; simp [cntN, sumN, xpC, h_99]; done) | (refine iT ?_; simp [cntN, sumN, xpC, h_99]; done) | (refine iB ?_; simp [cntN, sumN, xpC, h_99]; done) | (simp [cntN, sumN, xpC, h_99]; done) | (simp [cntN, sumN, xpC, h_99]; omega) | omega | rfl)
        · first | with_reducible rfl | exact gl (by first | with_reducible rfl | (refine iF ?_; simp [cntN, sumN, xpC, h_99]; done) | (refine iT ?_; simp [cntN, sumN, xpC, h_99]; done) | (refine iB ?_; simp [cntN, sumN, xpC, h_99]; done) | (simp [cntN, sumN, xpC, h_99]; done) | (simp [cntN, sumN, xpC, h_99]; omega) | omega | rfl)
        · first | with_reducible rfl | exact gl (by first | with_reducible rfl | (refine iF ?_; simp [cntN, sumN, xpC, h_99]; done) | (refine iT ?_; simp [cntN, sumN, xpC, h_99]; done) | (refine iB ?_; simp [cntN, sumN, xpC, h_99]; done) | (simp [cntN, sumN, xpC, h_99]; done) | (simp [cntN, sumN, xpC, h_99]; omega) | omega | rfl)
        · first | with_reducible rfl | exact gl (by first | with_reducible rfl | (refine iF ?_; simp [cntN, sumN, xpC, h_99]; done) | (refine iT ?_; simp [cntN, sumN, xpC, h_99]; done) | (refine iB ?_; simp [cntN, sumN, xpC, h_99]; done) | (simp [cntN, sumN, xpC, h_99]; done) | (simp [cntN, sumN, xpC, h_99]; omega) | omega | rfl)
      · refine a_iload C dL_areCounts_102 rfl ?_
        refine a_via 118 (nI (if wdA A e = true then 1 else 0)) ?_ (fun zJ118 => ?_)
        · first | refine n_iadd C dL_areCounts_118 ?_ | refine a_iadd C dL_areCounts_118 ?_
          refine a_istore C dL_areCounts_119 (by decide) ?_
          refine n_iinc C dL_areCounts_121 rfl (by decide) ?_
          refine a_goto (tgt := 95) C dL_areCounts_124 (by decide) ?_
          refine a_join (aLe_s ?_ (aLe_s ?_ (aLe_s ?_ (aLe_s ?_ (aLe_s ?_ (aLe_s ?_ (aLe_s ?_ (aLe_s ?_ (aLe_s ?_ (aLe_s ?_ (aLe_n aLe_nil))))))))))) rfl rfl (zih95 (e + 1) (by omega) (by omega))
          · first | with_reducible rfl | exact gl (by first | with_reducible rfl | (refine iF ?_; simp [cntN, sumN, xpC, h_99]; done) | (refine iT ?_; simp [cntN, sumN, xpC, h_99]; done) | (refine iB ?_; simp [cntN, sumN, xpC, h_99]; done) | (simp [cntN, sumN, xpC, h_99]; done) | (simp [cntN, sumN, xpC, h_99]; omega) | omega)
          · first | with_reducible rfl | exact gl (by first | with_reducible rfl | (refine iF ?_; simp [cntN, sumN, xpC, h_99]; done) | (refine iT ?_; simp [cntN, sumN, xpC, h_99]; done) | (refine iB ?_; simp [cntN, sumN, xpC, h_99]; done) | (simp [cntN, sumN, xpC, h_99]; done) | (simp [cntN, sumN, xpC, h_99]; omega) | omega)
          · first | with_reducible rfl | exact gl (by first | with_reducible rfl | (refine iF ?_; simp [cntN, sumN, xpC, h_99]; done) | (refine iT ?_; simp [cntN, sumN, xpC, h_99]; done) | (refine iB ?_; simp [cntN, sumN, xpC, h_99]; done) | (simp [cntN, sumN, xpC, h_99]; done) | (simp [cntN, sumN, xpC, h_99]; omega) | omega)
          · first | with_reducible rfl | exact gl (by first | with_reducible rfl | (refine iF ?_; simp [cntN, sumN, xpC, h_99]; done) | (refine iT ?_; simp [cntN, sumN, xpC, h_99]; done) | (refine iB ?_; simp [cntN, sumN, xpC, h_99]; done) | (simp [cntN, sumN, xpC, h_99]; done) | (simp [cntN, sumN, xpC, h_99]; omega) | omega)
          · first | with_reducible rfl | exact gl (by first | with_reducible rfl | (refine iF ?_; simp [cntN, sumN, xpC, h_99]; done) | (refine iT ?_; simp [cntN, sumN, xpC, h_99]; done) | (refine iB ?_; simp [cntN, sumN, xpC, h_99]; done) | (simp [cntN, sumN, xpC, h_99]; done) | (simp [cntN, sumN, xpC, h_99]; omega) | omega)
          · first | with_reducible rfl | exact gl (by first | with_reducible rfl | (refine iF ?_; simp [cntN, sumN, xpC, h_99]; done) | (refine iT ?_; simp [cntN, sumN, xpC, h_99]; done) | (refine iB ?_; simp [cntN, sumN, xpC, h_99]; done) | (simp [cntN, sumN, xpC, h_99]; done) | (simp [cntN, sumN, xpC, h_99]; omega) | omega)
          · first | with_reducible rfl | exact gl (by first | with_reducible rfl | (refine iF ?_; simp [cntN, sumN, xpC, h_99]; done) | (refine iT ?_; simp [cntN, sumN, xpC, h_99]; done) | (refine iB ?_; simp [cntN, sumN, xpC, h_99]; done) | (simp [cntN, sumN, xpC, h_99]; done) | (simp [cntN, sumN, xpC, h_99]; omega) | omega)
          · first | with_reducible rfl | exact gl (by first | with_reducible rfl | (refine iF ?_; simp [cntN, sumN, xpC, h_99]; done) | (refine iT ?_; simp [cntN, sumN, xpC, h_99]; done) | (refine iB ?_; simp [cntN, sumN, xpC, h_99]; done) | (simp [cntN, sumN, xpC, h_99]; done) | (simp [cntN, sumN, xpC, h_99]; omega) | omega)
          · first | with_reducible rfl | exact gl (by first | with_reducible rfl | (refine iF ?_; simp [cntN, sumN, xpC, h_99]; done) | (refine iT ?_; simp [cntN, sumN, xpC, h_99]; done) | (refine iB ?_; simp [cntN, sumN, xpC, h_99]; done) | (simp [cntN, sumN, xpC, h_99]; done) | (simp [cntN, sumN, xpC, h_99]; omega) | omega)
          · first | with_reducible rfl | exact gl (by first | with_reducible rfl | (refine iF ?_; simp [cntN, sumN, xpC, h_99]; done) | (refine iT ?_; simp [cntN, sumN, xpC, h_99]; done) | (refine iB ?_; simp [cntN, sumN, xpC, h_99]; done) | (simp [cntN, sumN, xpC, h_99]; done) | (simp [cntN, sumN, xpC, h_99]; omega) | omega)
        · refine a_aload_n C dL_areCounts_104 rfl rfl ?_
          refine a_iconst (v := nI 4) C dL_areCounts_105 (by decide) ?_
          refine a_iload C dL_areCounts_106 rfl ?_
          first | refine n_imul C dL_areCounts_108 ?_ | refine a_imul C dL_areCounts_108 ?_
          refine n_iald C dL_areCounts_109 (tw (by first | decide | omega)) (by first | decide | omega) rfl rfl (by first | decide | omega) (by decide) (LR_lw hL (by omega)) ?_
          refine a_if_ge (tgt := 117) C dL_areCounts_110 (by decide) (fun h_110 => ?_) (fun h_110 => ?_)
          · refine a_iconst (v := nI 1) C dL_areCounts_117 (by decide) ?_
            refine a_eq rfl (gl1 ?_) rfl zJ118
            · first | exact n1 (wd_ge hA (by omega) h_110) | exact n0 (wd_lt hA (by omega) h_110)
          · refine a_iconst (v := nI 0) C dL_areCounts_113 (by decide) ?_
            refine a_goto (tgt := 118) C dL_areCounts_114 (by decide) ?_
            refine a_eq rfl (gl1 ?_) rfl zJ118
            · first | exact n1 (wd_ge hA (by omega) h_110) | exact n0 (wd_lt hA (by omega) h_110)
  have ZL18 : ∀ (zd18 : Nat) (a : Nat), kN A + 1 ≤ a + zd18 → a ≤ kN A → WA G9 p9 l9 e9 (RL9 8 136 (0) (0)) s9 m9 ar9 be9 me9 co9 (QL G9 be9 ar9 s9 w ex us (0) (0) (fun r w' => r = some (.int (nI 1)) ∧ w' = w)) 11 (207 + ex.1 + ex.2) us 18 [some (.ref 0), some (.ref 204), some (.ref 205), some (.ref 206), some (.int (nI (cntN (lsA A) a))), some (.int (nI 0)), some (.int (nI (sumN (xpC A) a))), some (.int (nI 0)), some (.int (nI 0)), some (.int (nI a)), none] [] (fzM w ex us) := by
    intro zd18
    induction zd18 with
    | zero => intro a zm18 zh18_0; exfalso; omega
    | succ zd18 zih18 =>
      intro a zm18 zh18_0
      have ZL43 : ∀ (zd43 : Nat) (b : Nat), a + 1 ≤ b + zd43 → b ≤ a → a < kN A → WA G9 p9 l9 e9 (RL9 8 136 (0) (0)) s9 m9 ar9 be9 me9 co9 (QL G9 be9 ar9 s9 w ex us (0) (0) (fun r w' => r = some (.int (nI 1)) ∧ w' = w)) 11 (207 + ex.1 + ex.2) us 43 [some (.ref 0), some (.ref 204), some (.ref 205), some (.ref 206), some (.int (nI (cntN (lsA A) (a + 1)))), some (.int (nI 0)), some (.int (nI (sumN (xpC A) a + cntN (xpP A a) b))), some (.int (nI 0)), some (.int (nI 0)), some (.int (nI a)), some (.int (nI b))] [] (fzM w ex us) := by
        intro zd43
        induction zd43 with
        | zero => intro b zm43 zh_b zh_a; exfalso; omega
        | succ zd43 zih43 =>
          intro b zm43 zh_b zh_a
          refine a_iload C dL_areCounts_43 rfl ?_
          refine a_iload C dL_areCounts_45 rfl ?_
          first | refine n_icmp_ge (tgt := 86) C dL_areCounts_47 (by decide) (by first | decide | omega) (by first | decide | omega) (fun h_47 => ?_) (fun h_47 => ?_) | refine a_icmp_ge (tgt := 86) C dL_areCounts_47 (by decide) (fun h_47 => ?_) (fun h_47 => ?_)
          · obtain rfl : a = b := by omega
            refine n_iinc C dL_areCounts_86 rfl (by decide) ?_
            refine a_goto (tgt := 18) C dL_areCounts_89 (by decide) ?_
            refine a_join (aLe_s ?_ (aLe_s ?_ (aLe_s ?_ (aLe_s ?_ (aLe_s ?_ (aLe_s ?_ (aLe_s ?_ (aLe_s ?_ (aLe_s ?_ (aLe_s ?_ (aLe_n aLe_nil))))))))))) rfl rfl (zih18 (a + 1) (by omega) (by omega))
            · first | with_reducible rfl | exact gl (by first | with_reducible rfl | (refine iF ?_; simp [cntN, sumN, xpC, h_47]; done) | (refine iT ?_; simp [cntN, sumN, xpC, h_47]; done) | (refine iB ?_; simp [cntN, sumN, xpC, h_47]; done) | (simp [cntN, sumN, xpC, h_47]; done) | (simp [cntN, sumN, xpC, h_47]; omega) | omega)
            · first | with_reducible rfl | exact gl (by first | with_reducible rfl | (refine iF ?_; simp [cntN, sumN, xpC, h_47]; done) | (refine iT ?_; simp [cntN, sumN, xpC, h_47]; done) | (refine iB ?_; simp [cntN, sumN, xpC, h_47]; done) | (simp [cntN, sumN, xpC, h_47]; done) | (simp [cntN, sumN, xpC, h_47]; omega) | omega)
            · first | with_reducible rfl | exact gl (by first | with_reducible rfl | (refine iF ?_; simp [cntN, sumN, xpC, h_47]; done) | (refine iT ?_; simp [cntN, sumN, xpC, h_47]; done) | (refine iB ?_; simp [cntN, sumN, xpC, h_47]; done) | (simp [cntN, sumN, xpC, h_47]; done) | (simp [cntN, sumN, xpC, h_47]; omega) | omega)
            · first | with_reducible rfl | exact gl (by first | with_reducible rfl | (refine iF ?_; simp [cntN, sumN, xpC, h_47]; done) | (refine iT ?_; simp [cntN, sumN, xpC, h_47]; done) | (refine iB ?_; simp [cntN, sumN, xpC, h_47]; done) | (simp [cntN, sumN, xpC, h_47]; done) | (simp [cntN, sumN, xpC, h_47]; omega) | omega)
            · first | with_reducible rfl | exact gl (by first | with_reducible rfl | (refine iF ?_; simp [cntN, sumN, xpC, h_47]; done) | (refine iT ?_; simp [cntN, sumN, xpC, h_47]; done) | (refine iB ?_; simp [cntN, sumN, xpC, h_47]; done) | (simp [cntN, sumN, xpC, h_47]; done) | (simp [cntN, sumN, xpC, h_47]; omega) | omega)
            · first | with_reducible rfl | exact gl (by first | with_reducible rfl | (refine iF ?_; simp [cntN, sumN, xpC, h_47]; done) | (refine iT ?_; simp [cntN, sumN, xpC, h_47]; done) | (refine iB ?_; simp [cntN, sumN, xpC, h_47]; done) | (simp [cntN, sumN, xpC, h_47]; done) | (simp [cntN, sumN, xpC, h_47]; omega) | omega)
            · first | with_reducible rfl | exact gl (by first | with_reducible rfl | (refine iF ?_; simp [cntN, sumN, xpC, h_47]; done) | (refine iT ?_; simp [cntN, sumN, xpC, h_47]; done) | (refine iB ?_; simp [cntN, sumN, xpC, h_47]; done) | (simp [cntN, sumN, xpC, h_47]; done) | (simp [cntN, sumN, xpC, h_47]; omega) | omega)
            · first | with_reducible rfl | exact gl (by first | with_reducible rfl | (refine iF ?_; simp [cntN, sumN, xpC, h_47]; done) | (refine iT ?_; simp [cntN, sumN, xpC, h_47]; done) | (refine iB ?_; simp [cntN, sumN, xpC, h_47]; done) | (simp [cntN, sumN, xpC, h_47]; done) | (simp [cntN, sumN, xpC, h_47]; omega) | omega)
            · first | with_reducible rfl | exact gl (by first | with_reducible rfl | (refine iF ?_; simp [cntN, sumN, xpC, h_47]; done) | (refine iT ?_; simp [cntN, sumN, xpC, h_47]; done) | (refine iB ?_; simp [cntN, sumN, xpC, h_47]; done) | (simp [cntN, sumN, xpC, h_47]; done) | (simp [cntN, sumN, xpC, h_47]; omega) | omega)
            · first | with_reducible rfl | exact gl (by first | with_reducible rfl | (refine iF ?_; simp [cntN, sumN, xpC, h_47]; done) | (refine iT ?_; simp [cntN, sumN, xpC, h_47]; done) | (refine iB ?_; simp [cntN, sumN, xpC, h_47]; done) | (simp [cntN, sumN, xpC, h_47]; done) | (simp [cntN, sumN, xpC, h_47]; omega) | omega)
          · have zq_ca := hA.c81 (k := a) (by omega)
            have zq_cb := hA.c81 (k := b) (by omega)
            have zq_li := lie_lt (cN A a) (cN A b)
            refine a_iload C dL_areCounts_50 rfl ?_
            refine a_via 77 (nI (if xpP A a b = true then 1 else 0)) ?_ (fun zJ77 => ?_)
            · first | refine n_iadd C dL_areCounts_77 ?_ | refine a_iadd C dL_areCounts_77 ?_
              refine a_istore C dL_areCounts_78 (by decide) ?_
              refine n_iinc C dL_areCounts_80 rfl (by decide) ?_
              refine a_goto (tgt := 43) C dL_areCounts_83 (by decide) ?_
              refine a_join (aLe_s ?_ (aLe_s ?_ (aLe_s ?_ (aLe_s ?_ (aLe_s ?_ (aLe_s ?_ (aLe_s ?_ (aLe_s ?_ (aLe_s ?_ (aLe_s ?_ (aLe_s ?_ aLe_nil))))))))))) rfl rfl (zih43 (b + 1) (by omega) (by omega) zh_a)
              · first | with_reducible rfl | exact gl (by first | with_reducible rfl | (refine iF ?_; simp [cntN, sumN, xpC, h_47]; done) | (refine iT ?_; simp [cntN, sumN, xpC, h_47]; done) | (refine iB ?_; simp [cntN, sumN, xpC, h_47]; done) | (simp [cntN, sumN, xpC, h_47]; done) | (simp [cntN, sumN, xpC, h_47]; omega) | omega)
              · first | with_reducible rfl | exact gl (by first | with_reducible rfl | (refine iF ?_; simp [cntN, sumN, xpC, h_47]; done) | (refine iT ?_; simp [cntN, sumN, xpC, h_47]; done) | (refine iB ?_; simp [cntN, sumN, xpC, h_47]; done) | (simp [cntN, sumN, xpC, h_47]; done) | (simp [cntN, sumN, xpC, h_47]; omega) | omega)
              · first | with_reducible rfl | exact gl (by first | with_reducible rfl | (refine iF ?_; simp [cntN, sumN, xpC, h_47]; done) | (refine iT ?_; simp [cntN, sumN, xpC, h_47]; done) | (refine iB ?_; simp [cntN, sumN, xpC, h_47]; done) | (simp [cntN, sumN, xpC, h_47]; done) | (simp [cntN, sumN, xpC, h_47]; omega) | omega)
              · first | with_reducible rfl | exact gl (by first | with_reducible rfl | (refine iF ?_; simp [cntN, sumN, xpC, h_47]; done) | (refine iT ?_; simp [cntN, sumN, xpC, h_47]; done) | (refine iB ?_; simp [cntN, sumN, xpC, h_47]; done) | (simp [cntN, sumN, xpC, h_47]; done) | (simp [cntN, sumN, xpC, h_47]; omega) | omega)
              · first | with_reducible rfl | exact gl (by first | with_reducible rfl | (refine iF ?_; simp [cntN, sumN, xpC, h_47]; done) | (refine iT ?_; simp [cntN, sumN, xpC, h_47]; done) | (refine iB ?_; simp [cntN, sumN, xpC, h_47]; done) | (simp [cntN, sumN, xpC, h_47]; done) | (simp [cntN, sumN, xpC, h_47]; omega) | omega)
              · first | with_reducible rfl | exact gl (by first | with_reducible rfl | (refine iF ?_; simp [cntN, sumN, xpC, h_47]; done) | (refine iT ?_; simp [cntN, sumN, xpC, h_47]; done) | (refine iB ?_; simp [cntN, sumN, xpC, h_47]; done) | (simp [cntN, sumN, xpC, h_47]; done) | (simp [cntN, sumN, xpC, h_47]; omega) | omega)
              · exact gl (congrArg nI (Nat.add_assoc _ _ _))
              · first | with_reducible rfl | exact gl (by first | with_reducible rfl | (refine iF ?_; simp [cntN, sumN, xpC, h_47]; done) | (refine iT ?_; simp [cntN, sumN, xpC, h_47]; done) | (refine iB ?_; simp [cntN, sumN, xpC, h_47]; done) | (simp [cntN, sumN, xpC, h_47]; done) | (simp [cntN, sumN, xpC, h_47]; omega) | omega)
              · first | with_reducible rfl | exact gl (by first | with_reducible rfl | (refine iF ?_; simp [cntN, sumN, xpC, h_47]; done) | (refine iT ?_; simp [cntN, sumN, xpC, h_47]; done) | (refine iB ?_; simp [cntN, sumN, xpC, h_47]; done) | (simp [cntN, sumN, xpC, h_47]; done) | (simp [cntN, sumN, xpC, h_47]; omega) | omega)
              · first | with_reducible rfl | exact gl (by first | with_reducible rfl | (refine iF ?_; simp [cntN, sumN, xpC, h_47]; done) | (refine iT ?_; simp [cntN, sumN, xpC, h_47]; done) | (refine iB ?_; simp [cntN, sumN, xpC, h_47]; done) | (simp [cntN, sumN, xpC, h_47]; done) | (simp [cntN, sumN, xpC, h_47]; omega) | omega)
              · first | with_reducible rfl | exact gl (by first | with_reducible rfl | (refine iF ?_; simp [cntN, sumN, xpC, h_47]; done) | (refine iT ?_; simp [cntN, sumN, xpC, h_47]; done) | (refine iB ?_; simp [cntN, sumN, xpC, h_47]; done) | (simp [cntN, sumN, xpC, h_47]; done) | (simp [cntN, sumN, xpC, h_47]; omega) | omega)
            · refine a_aload_n C dL_areCounts_52 rfl rfl ?_
              refine a_bipush (v := nI 6) C dL_areCounts_53 (by decide) ?_
              refine a_iload C dL_areCounts_55 rfl ?_
              first | refine n_imul C dL_areCounts_57 ?_ | refine a_imul C dL_areCounts_57 ?_
              refine n_iald C dL_areCounts_58 (tw (by first | decide | omega)) (by first | decide | omega) rfl rfl (by first | decide | omega) (by decide) (LR_kc hL hA (by omega)) ?_
              refine a_aload_n C dL_areCounts_59 rfl rfl ?_
              refine a_bipush (v := nI 6) C dL_areCounts_60 (by decide) ?_
              refine a_iload C dL_areCounts_62 rfl ?_
              first | refine n_imul C dL_areCounts_64 ?_ | refine a_imul C dL_areCounts_64 ?_
              refine n_iald C dL_areCounts_65 (tw (by first | decide | omega)) (by first | decide | omega) rfl rfl (by first | decide | omega) (by decide) (LR_kc hL hA (by omega)) ?_
              refine p_callS C ((K_L_lie (by first | assumption | decide | omega) (by first | assumption | decide | omega))).cp sL_92 rfl dL_areCounts_66 (Nat.le_of_ble_eq_true rfl) ⟨Nat.le_of_ble_eq_true rfl, Nat.le_of_ble_eq_true rfl⟩ ?_
              refine n_if_le (tgt := 76) C dL_areCounts_69 (by decide) (by first | decide | omega)  (fun h_69 => ?_) (fun h_69 => ?_)
              · refine a_iconst (v := nI 0) C dL_areCounts_76 (by decide) ?_
                refine a_eq rfl (gl1 ?_) rfl zJ77
                · first | exact n0 (lie_no h_69) | exact n1 (by
                    cases zc : crs (cN A a) (cN A b) with
                    | true => exact zc
                    | false => rw [lie_ap zc] at h_69; exact absurd h_69 (by decide))
              · refine a_iconst (v := nI 1) C dL_areCounts_72 (by decide) ?_
                refine a_goto (tgt := 77) C dL_areCounts_73 (by decide) ?_
                refine a_eq rfl (gl1 ?_) rfl zJ77
                · first | exact n0 (lie_no h_69) | exact n1 (by
                    cases zc : crs (cN A a) (cN A b) with
                    | true => exact zc
                    | false => rw [lie_ap zc] at h_69; exact absurd h_69 (by decide))
      refine a_iload C dL_areCounts_18 rfl ?_
      refine a_aload_n C dL_areCounts_20 rfl rfl ?_
      refine a_iconst (v := nI 0) C dL_areCounts_21 (by decide) ?_
      refine n_iald C dL_areCounts_22 (tw (by first | decide | omega)) (by first | decide | omega) rfl rfl (by first | decide | omega) (by decide) (LR_n hL hA) ?_
      first | refine n_icmp_ge (tgt := 92) C dL_areCounts_23 (by decide) (by first | decide | omega) (by first | decide | omega) (fun h_23 => ?_) (fun h_23 => ?_) | refine a_icmp_ge (tgt := 92) C dL_areCounts_23 (by decide) (fun h_23 => ?_) (fun h_23 => ?_)
      · obtain rfl : a = kN A := by omega
        refine a_iconst (v := nI 0) C dL_areCounts_92 (by decide) ?_
        refine a_istore C dL_areCounts_93 (by decide) ?_
        refine a_join (aLe_s ?_ (aLe_s ?_ (aLe_s ?_ (aLe_s ?_ (aLe_s ?_ (aLe_s ?_ (aLe_s ?_ (aLe_s ?_ (aLe_s ?_ (aLe_s ?_ (aLe_n aLe_nil))))))))))) rfl rfl (ZL95 (6 + 1) 0 (by omega) (by omega))
        · first | with_reducible rfl | exact gl (by first | with_reducible rfl | (refine iF ?_; simp [cntN, sumN, xpC, h_23]; done) | (refine iT ?_; simp [cntN, sumN, xpC, h_23]; done) | (refine iB ?_; simp [cntN, sumN, xpC, h_23]; done) | (simp [cntN, sumN, xpC, h_23]; done) | (simp [cntN, sumN, xpC, h_23]; omega) | omega | rfl)
        · first | with_reducible rfl | exact gl (by first | with_reducible rfl | (refine iF ?_; simp [cntN, sumN, xpC, h_23]; done) | (refine iT ?_; simp [cntN, sumN, xpC, h_23]; done) | (refine iB ?_; simp [cntN, sumN, xpC, h_23]; done) | (simp [cntN, sumN, xpC, h_23]; done) | (simp [cntN, sumN, xpC, h_23]; omega) | omega | rfl)
        · first | with_reducible rfl | exact gl (by first | with_reducible rfl | (refine iF ?_; simp [cntN, sumN, xpC, h_23]; done) | (refine iT ?_; simp [cntN, sumN, xpC, h_23]; done) | (refine iB ?_; simp [cntN, sumN, xpC, h_23]; done) | (simp [cntN, sumN, xpC, h_23]; done) | (simp [cntN, sumN, xpC, h_23]; omega) | omega | rfl)
        · first | with_reducible rfl | exact gl (by first | with_reducible rfl | (refine iF ?_; simp [cntN, sumN, xpC, h_23]; done) | (refine iT ?_; simp [cntN, sumN, xpC, h_23]; done) | (refine iB ?_; simp [cntN, sumN, xpC, h_23]; done) | (simp [cntN, sumN, xpC, h_23]; done) | (simp [cntN, sumN, xpC, h_23]; omega) | omega | rfl)
        · first | with_reducible rfl | exact gl (by first | with_reducible rfl | (refine iF ?_; simp [cntN, sumN, xpC, h_23]; done) | (refine iT ?_; simp [cntN, sumN, xpC, h_23]; done) | (refine iB ?_; simp [cntN, sumN, xpC, h_23]; done) | (simp [cntN, sumN, xpC, h_23]; done) | (simp [cntN, sumN, xpC, h_23]; omega) | omega | rfl)
        · first | with_reducible rfl | exact gl (by first | with_reducible rfl | (refine iF ?_; simp [cntN, sumN, xpC, h_23]; done) | (refine iT ?_; simp [cntN, sumN, xpC, h_23]; done) | (refine iB ?_; simp [cntN, sumN, xpC, h_23]; done) | (simp [cntN, sumN, xpC, h_23]; done) | (simp [cntN, sumN, xpC, h_23]; omega) | omega | rfl)
        · first | with_reducible rfl | exact gl (by first | with_reducible rfl | (refine iF ?_; simp [cntN, sumN, xpC, h_23]; done) | (refine iT ?_; simp [cntN, sumN, xpC, h_23]; done) | (refine iB ?_; simp [cntN, sumN, xpC, h_23]; done) | (simp [cntN, sumN, xpC, h_23]; done) | (simp [cntN, sumN, xpC, h_23]; omega) | omega | rfl)
        · first | with_reducible rfl | exact gl (by first | with_reducible rfl | (refine iF ?_; simp [cntN, sumN, xpC, h_23]; done) | (refine iT ?_; simp [cntN, sumN, xpC, h_23]; done) | (refine iB ?_; simp [cntN, sumN, xpC, h_23]; done) | (simp [cntN, sumN, xpC, h_23]; done) | (simp [cntN, sumN, xpC, h_23]; omega) | omega | rfl)
        · first | with_reducible rfl | exact gl (by first | with_reducible rfl | (refine iF ?_; simp [cntN, sumN, xpC, h_23]; done) | (refine iT ?_; simp [cntN, sumN, xpC, h_23]; done) | (refine iB ?_; simp [cntN, sumN, xpC, h_23]; done) | (simp [cntN, sumN, xpC, h_23]; done) | (simp [cntN, sumN, xpC, h_23]; omega) | omega | rfl)
        · first | with_reducible rfl | exact gl (by first | with_reducible rfl | (refine iF ?_; simp [cntN, sumN, xpC, h_23]; done) | (refine iT ?_; simp [cntN, sumN, xpC, h_23]; done) | (refine iB ?_; simp [cntN, sumN, xpC, h_23]; done) | (simp [cntN, sumN, xpC, h_23]; done) | (simp [cntN, sumN, xpC, h_23]; omega) | omega | rfl)
      · refine a_via 38 (nI (cntN (lsA A) (a + 1))) ?_ (fun zJ38 => ?_)
        · refine a_istore C dL_areCounts_38 (by decide) ?_
          refine a_iconst (v := nI 0) C dL_areCounts_40 (by decide) ?_
          refine a_istore C dL_areCounts_41 (by decide) ?_
          refine a_join (aLe_s ?_ (aLe_s ?_ (aLe_s ?_ (aLe_s ?_ (aLe_s ?_ (aLe_s ?_ (aLe_s ?_ (aLe_s ?_ (aLe_s ?_ (aLe_s ?_ (aLe_s ?_ aLe_nil))))))))))) rfl rfl (ZL43 (a + 1) 0 (by omega) (by omega) (by omega))
          · first | with_reducible rfl | exact gl (by first | with_reducible rfl | (refine iF ?_; simp [cntN, sumN, xpC, h_23]; done) | (refine iT ?_; simp [cntN, sumN, xpC, h_23]; done) | (refine iB ?_; simp [cntN, sumN, xpC, h_23]; done) | (simp [cntN, sumN, xpC, h_23]; done) | (simp [cntN, sumN, xpC, h_23]; omega) | omega | rfl)
          · first | with_reducible rfl | exact gl (by first | with_reducible rfl | (refine iF ?_; simp [cntN, sumN, xpC, h_23]; done) | (refine iT ?_; simp [cntN, sumN, xpC, h_23]; done) | (refine iB ?_; simp [cntN, sumN, xpC, h_23]; done) | (simp [cntN, sumN, xpC, h_23]; done) | (simp [cntN, sumN, xpC, h_23]; omega) | omega | rfl)
          · first | with_reducible rfl | exact gl (by first | with_reducible rfl | (refine iF ?_; simp [cntN, sumN, xpC, h_23]; done) | (refine iT ?_; simp [cntN, sumN, xpC, h_23]; done) | (refine iB ?_; simp [cntN, sumN, xpC, h_23]; done) | (simp [cntN, sumN, xpC, h_23]; done) | (simp [cntN, sumN, xpC, h_23]; omega) | omega | rfl)
          · first | with_reducible rfl | exact gl (by first | with_reducible rfl | (refine iF ?_; simp [cntN, sumN, xpC, h_23]; done) | (refine iT ?_; simp [cntN, sumN, xpC, h_23]; done) | (refine iB ?_; simp [cntN, sumN, xpC, h_23]; done) | (simp [cntN, sumN, xpC, h_23]; done) | (simp [cntN, sumN, xpC, h_23]; omega) | omega | rfl)
          · first | with_reducible rfl | exact gl (by first | with_reducible rfl | (refine iF ?_; simp [cntN, sumN, xpC, h_23]; done) | (refine iT ?_; simp [cntN, sumN, xpC, h_23]; done) | (refine iB ?_; simp [cntN, sumN, xpC, h_23]; done) | (simp [cntN, sumN, xpC, h_23]; done) | (simp [cntN, sumN, xpC, h_23]; omega) | omega | rfl)
          · first | with_reducible rfl | exact gl (by first | with_reducible rfl | (refine iF ?_; simp [cntN, sumN, xpC, h_23]; done) | (refine iT ?_; simp [cntN, sumN, xpC, h_23]; done) | (refine iB ?_; simp [cntN, sumN, xpC, h_23]; done) | (simp [cntN, sumN, xpC, h_23]; done) | (simp [cntN, sumN, xpC, h_23]; omega) | omega | rfl)
          · first | with_reducible rfl | exact gl (by first | with_reducible rfl | (refine iF ?_; simp [cntN, sumN, xpC, h_23]; done) | (refine iT ?_; simp [cntN, sumN, xpC, h_23]; done) | (refine iB ?_; simp [cntN, sumN, xpC, h_23]; done) | (simp [cntN, sumN, xpC, h_23]; done) | (simp [cntN, sumN, xpC, h_23]; omega) | omega | rfl)
          · first | with_reducible rfl | exact gl (by first | with_reducible rfl | (refine iF ?_; simp [cntN, sumN, xpC, h_23]; done) | (refine iT ?_; simp [cntN, sumN, xpC, h_23]; done) | (refine iB ?_; simp [cntN, sumN, xpC, h_23]; done) | (simp [cntN, sumN, xpC, h_23]; done) | (simp [cntN, sumN, xpC, h_23]; omega) | omega | rfl)
          · first | with_reducible rfl | exact gl (by first | with_reducible rfl | (refine iF ?_; simp [cntN, sumN, xpC, h_23]; done) | (refine iT ?_; simp [cntN, sumN, xpC, h_23]; done) | (refine iB ?_; simp [cntN, sumN, xpC, h_23]; done) | (simp [cntN, sumN, xpC, h_23]; done) | (simp [cntN, sumN, xpC, h_23]; omega) | omega | rfl)
          · first | with_reducible rfl | exact gl (by first | with_reducible rfl | (refine iF ?_; simp [cntN, sumN, xpC, h_23]; done) | (refine iT ?_; simp [cntN, sumN, xpC, h_23]; done) | (refine iB ?_; simp [cntN, sumN, xpC, h_23]; done) | (simp [cntN, sumN, xpC, h_23]; done) | (simp [cntN, sumN, xpC, h_23]; omega) | omega | rfl)
          · first | with_reducible rfl | exact gl (by first | with_reducible rfl | (refine iF ?_; simp [cntN, sumN, xpC, h_23]; done) | (refine iT ?_; simp [cntN, sumN, xpC, h_23]; done) | (refine iB ?_; simp [cntN, sumN, xpC, h_23]; done) | (simp [cntN, sumN, xpC, h_23]; done) | (simp [cntN, sumN, xpC, h_23]; omega) | omega | rfl)
        · refine a_iload C dL_areCounts_26 rfl ?_
          refine a_aload_n C dL_areCounts_28 rfl rfl ?_
          refine a_bipush (v := nI 6) C dL_areCounts_29 (by decide) ?_
          refine a_iload C dL_areCounts_31 rfl ?_
          first | refine n_imul C dL_areCounts_33 ?_ | refine a_imul C dL_areCounts_33 ?_
          refine a_iconst (v := nI 2) C dL_areCounts_34 (by decide) ?_
          first | refine n_iadd C dL_areCounts_35 ?_ | refine a_iadd C dL_areCounts_35 ?_
          refine n_iald C dL_areCounts_36 (tw (by first | decide | omega)) (by first | decide | omega) rfl rfl (by first | decide | omega) (by decide) (LR_kl hL hA (by omega)) ?_
          refine a_iadd C dL_areCounts_37 ?_
          refine a_eq rfl (gl1 ?_) rfl zJ38
          · exact bI_add _ _
  refine a_pad 7 ?_
  refine a_eq (L' := [some (.ref 0), some (.ref 204), some (.ref 205), some (.ref 206), none, none, none, none, none, none, none]) rfl rfl rfl ?_
  refine a_iconst (v := nI 0) C dL_areCounts_0 (by decide) ?_
  refine a_istore C dL_areCounts_1 (by decide) ?_
  refine a_iconst (v := nI 0) C dL_areCounts_3 (by decide) ?_
  refine a_istore C dL_areCounts_4 (by decide) ?_
  refine a_iconst (v := nI 0) C dL_areCounts_6 (by decide) ?_
  refine a_istore C dL_areCounts_7 (by decide) ?_
  refine a_iconst (v := nI 0) C dL_areCounts_9 (by decide) ?_
  refine a_istore C dL_areCounts_10 (by decide) ?_
  refine a_iconst (v := nI 0) C dL_areCounts_12 (by decide) ?_
  refine a_istore C dL_areCounts_13 (by decide) ?_
  refine a_iconst (v := nI 0) C dL_areCounts_15 (by decide) ?_
  refine a_istore C dL_areCounts_16 (by decide) ?_
  refine a_join (aLe_s ?_ (aLe_s ?_ (aLe_s ?_ (aLe_s ?_ (aLe_s ?_ (aLe_s ?_ (aLe_s ?_ (aLe_s ?_ (aLe_s ?_ (aLe_s ?_ (aLe_n aLe_nil))))))))))) rfl rfl (ZL18 (kN A + 1) 0 (by omega) (by omega))
  · first | with_reducible rfl | exact gl (by first | with_reducible rfl | (refine iF ?_; simp [cntN, sumN, xpC]; done) | (refine iT ?_; simp [cntN, sumN, xpC]; done) | (refine iB ?_; simp [cntN, sumN, xpC]; done) | (simp [cntN, sumN, xpC]; done) | (simp [cntN, sumN, xpC]; omega) | omega | rfl)
  · first | with_reducible rfl | exact gl (by first | with_reducible rfl | (refine iF ?_; simp [cntN, sumN, xpC]; done) | (refine iT ?_; simp [cntN, sumN, xpC]; done) | (refine iB ?_; simp [cntN, sumN, xpC]; done) | (simp [cntN, sumN, xpC]; done) | (simp [cntN, sumN, xpC]; omega) | omega | rfl)
  · first | with_reducible rfl | exact gl (by first | with_reducible rfl | (refine iF ?_; simp [cntN, sumN, xpC]; done) | (refine iT ?_; simp [cntN, sumN, xpC]; done) | (refine iB ?_; simp [cntN, sumN, xpC]; done) | (simp [cntN, sumN, xpC]; done) | (simp [cntN, sumN, xpC]; omega) | omega | rfl)
  · first | with_reducible rfl | exact gl (by first | with_reducible rfl | (refine iF ?_; simp [cntN, sumN, xpC]; done) | (refine iT ?_; simp [cntN, sumN, xpC]; done) | (refine iB ?_; simp [cntN, sumN, xpC]; done) | (simp [cntN, sumN, xpC]; done) | (simp [cntN, sumN, xpC]; omega) | omega | rfl)
  · first | with_reducible rfl | exact gl (by first | with_reducible rfl | (refine iF ?_; simp [cntN, sumN, xpC]; done) | (refine iT ?_; simp [cntN, sumN, xpC]; done) | (refine iB ?_; simp [cntN, sumN, xpC]; done) | (simp [cntN, sumN, xpC]; done) | (simp [cntN, sumN, xpC]; omega) | omega | rfl)
  · first | with_reducible rfl | exact gl (by first | with_reducible rfl | (refine iF ?_; simp [cntN, sumN, xpC]; done) | (refine iT ?_; simp [cntN, sumN, xpC]; done) | (refine iB ?_; simp [cntN, sumN, xpC]; done) | (simp [cntN, sumN, xpC]; done) | (simp [cntN, sumN, xpC]; omega) | omega | rfl)
  · first | with_reducible rfl | exact gl (by first | with_reducible rfl | (refine iF ?_; simp [cntN, sumN, xpC]; done) | (refine iT ?_; simp [cntN, sumN, xpC]; done) | (refine iB ?_; simp [cntN, sumN, xpC]; done) | (simp [cntN, sumN, xpC]; done) | (simp [cntN, sumN, xpC]; omega) | omega | rfl)
  · first | with_reducible rfl | exact gl (by first | with_reducible rfl | (refine iF ?_; simp [cntN, sumN, xpC]; done) | (refine iT ?_; simp [cntN, sumN, xpC]; done) | (refine iB ?_; simp [cntN, sumN, xpC]; done) | (simp [cntN, sumN, xpC]; done) | (simp [cntN, sumN, xpC]; omega) | omega | rfl)
  · first | with_reducible rfl | exact gl (by first | with_reducible rfl | (refine iF ?_; simp [cntN, sumN, xpC]; done) | (refine iT ?_; simp [cntN, sumN, xpC]; done) | (refine iB ?_; simp [cntN, sumN, xpC]; done) | (simp [cntN, sumN, xpC]; done) | (simp [cntN, sumN, xpC]; omega) | omega | rfl)
  · first | with_reducible rfl | exact gl (by first | with_reducible rfl | (refine iF ?_; simp [cntN, sumN, xpC]; done) | (refine iT ?_; simp [cntN, sumN, xpC]; done) | (refine iB ?_; simp [cntN, sumN, xpC]; done) | (simp [cntN, sumN, xpC]; done) | (simp [cntN, sumN, xpC]; omega) | omega | rfl)

end A63

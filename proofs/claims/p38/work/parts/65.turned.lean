section A65
theorem tu4_u {A : St} {k p : Nat} (ho : oN A k < 4) (hp : p < 6) : tu4A A k p (40 + 6 * k + 4) = A (40 + 6 * k + 4) + nI 1 := by
  unfold tu4A tu1A
  rw [upd_ne (by omega), upd_ne (by omega), upd_ne (by omega), upd_at]
theorem tu4_w {A : St} {k p : Nat} (ho : oN A k < 4) (hp : p < 6) : tu4A A k p (40 + 6 * k + 5) = A (40 + 6 * k + 5) := by
  unfold tu4A tu1A
  rw [upd_ne (by omega), upd_ne (by omega), upd_ne (by omega), upd_ne (by omega)]
theorem tu4_4 {A : St} {k p : Nat} (ho : oN A k < 4) (hp : p < 6) : tu4A A k p 4 = A 4 := by
  unfold tu4A tu1A
  rw [upd_ne (by omega), upd_ne (by omega), upd_ne (by omega), upd_ne (by omega)]
theorem beh_a {A : St} {k : Nat} (h : sN A 2 = 0) : behA A k = cN A k := by
  unfold behA wrA
  rw [h]
  simp
theorem beh_b {A : St} {k : Nat} (h : ¬ A (40 + 6 * k + 4) + nI 1 - (A (40 + 6 * k + 4) + nI 1) / nI (sN A 2) * nI (sN A 2) = 0) : behA A k = cN A k := by
  unfold behA wrA
  rw [decide_eq_false h, Bool.and_false]
  rfl
theorem beh_c {A : St} {k : Nat} (h : 2 ≤ dep (cN A k) (shN (cN A k))) : behA A k = cN A k := by
  unfold behA woN
  rw [if_neg (show ¬ dep (cN A k) (shN (cN A k)) < 2 by omega)]
  split <;> rfl
theorem beh_w {A : St} {k : Nat} (h1 : 0 < sN A 2) (h2 : A (40 + 6 * k + 4) + nI 1 - (A (40 + 6 * k + 4) + nI 1) / nI (sN A 2) * nI (sN A 2) = 0) (h3 : dep (cN A k) (shN (cN A k)) < 2) : cN A k + wtN (shN (cN A k)) = behA A k := by
  unfold behA wrA woN
  rw [decide_eq_true h1, decide_eq_true h2, if_pos h3]
  rfl
theorem tur_w {w4 : Wd} {A : St} {k p m : Nat} (hA : AOK A) (hk : k < kN A) (hp : p < 6) (ho : opnA A (cN A k) p = true) (h : LR w4 (tu4A A k p)) (hm : cN A k + wtN m = behA A k) :
    LR (wSet (wSet (wSet w4 205 (6 * k) (nI (cN A k + wtN m))) 205 (6 * k + 5) (A (40 + 6 * k + 5) + nI 1)) 204 4 (A 4 + nI 1)) (turA A k p) := by
  have hne : ¬ behA A k = cN A k := by have := (wtN_lt (k := m)).1; omega
  have z := ((h.1.setk (k := k) (j := 0) (x := nI (cN A k + wtN m))).setk (k := k) (j := 5) (x := A (40 + 6 * k + 5) + nI 1)).setq (j := 4) (x := A 4 + nI 1) (by decide)
  rw [hm] at z ⊢
  rw [← tur_7 ho hne]
  exact LR_set z (kN_same (by unfold tu7A; rw [upd_ne (by omega), upd_ne (by omega), upd_ne (by omega)])) h.2
set_option maxRecDepth 20000 in
set_option maxHeartbeats 4000000 in
theorem K_L_turned_0 {w : Wd} {A : St} (hL : LR w A) (hA : AOK A) {k p : Nat} (hk : k < kN A) (hp : p < 6) (hz : lsA A k = true ∨ wdA A p = false) : CP yL_turned cL_turned 8 (some .int) 3 71 [.int (nI k), .int (nI p), .ref 204, .ref 205, .ref 206] w (.int (-103)) := by
  have zq_n := hA.n12
  have zq_10 := hL.2
  refine CF.of ok_L_turned (Nat.le_of_ble_eq_true rfl) (fun ex us G9 p9 l9 e9 s9 m9 ar9 be9 me9 co9 C hr => ?_)
  refine a_pad 3 ?_
  refine a_eq (L' := [some (.int (nI k)), some (.int (nI p)), some (.ref 204), some (.ref 205), some (.ref 206), none, none, none]) rfl rfl rfl ?_
  refine a_aload_n C dL_turned_0 rfl rfl ?_
  refine a_bipush (v := nI 6) C dL_turned_1 (by decide) ?_
  refine a_iload_n C dL_turned_3 rfl rfl ?_
  first | refine n_imul C dL_turned_4 ?_ | refine a_imul C dL_turned_4 ?_
  refine a_iconst (v := nI 2) C dL_turned_5 (by decide) ?_
  first | refine n_iadd C dL_turned_6 ?_ | refine a_iadd C dL_turned_6 ?_
  refine n_iald C dL_turned_7 (tw (by first | decide | omega)) (by first | decide | omega) rfl rfl (by first | decide | omega) (by decide) (LR_kl hL hA (by omega)) ?_
  refine a_iconst (v := nI 1) C dL_turned_8 (by decide) ?_
  refine b_icmp1_eq (tgt := 21) C dL_turned_9 (by decide) (fun h_9 => ?_) (fun h_9 => ?_)
  · refine a_bipush (v := (-103)) C dL_turned_21 (by decide) ?_
    refine f_iret C hr ?_ dL_turned_23 ⟨?_, rfl⟩
    · rfl
    · rfl
  · refine a_aload C dL_turned_12 rfl ?_
    refine a_iconst (v := nI 4) C dL_turned_14 (by decide) ?_
    refine a_iload_n C dL_turned_15 rfl rfl ?_
    first | refine n_imul C dL_turned_16 ?_ | refine a_imul C dL_turned_16 ?_
    refine n_iald C dL_turned_17 (tw (by first | decide | omega)) (by first | decide | omega) rfl rfl (by first | decide | omega) (by decide) (LR_lw hL (by omega)) ?_
    refine a_if_ge (tgt := 24) C dL_turned_18 (by decide) (fun h_18 => ?_) (fun h_18 => ?_)
    · exact absurd (hz.resolve_left (by rw [h_9]; decide)) (by rw [wd_ge hA hp h_18]; decide)
    · refine a_bipush (v := (-103)) C dL_turned_21 (by decide) ?_
      refine f_iret C hr ?_ dL_turned_23 ⟨?_, rfl⟩
      · rfl
      · rfl

set_option maxRecDepth 20000 in
set_option maxHeartbeats 4000000 in
theorem K_L_turned_1 {w : Wd} {A : St} (hL : LR w A) (hA : AOK A) {k p : Nat} (hk : k < kN A) (hp : p < 6) (hl0 : lsA A k = false) (hw1 : wdA A p = true) : CF yL_turned cL_turned 8 (some .int) 3 71 [.int (nI k), .int (nI p), .ref 204, .ref 205, .ref 206] w (PD w (turA A k p) (bI (opnA A (cN A k) p))) := by
  have zq_n := hA.n12
  have zq_10 := hL.2
  have zq_c := hA.c81 (k := k) (by omega)
  have zq_o := hA.o4 (k := k) (by omega)
  have zq_ok4 := tu4_ok hA (k := k) (p := p) (by omega) hp
  have zq_ae := tu4_ae hA (k := k) (p := p) (by omega) hp
  have zq_k4 := tu4_kN (A := A) (k := k) (p := p)
  refine CF.of ok_L_turned (Nat.le_of_ble_eq_true rfl) (fun ex us G9 p9 l9 e9 s9 m9 ar9 be9 me9 co9 C hr => ?_)
  have ZL118 : ∀ (zd118 : Nat) (d : Nat) (w4 : Wd), 4 + 1 ≤ d + zd118 → d ≤ 4 → LR w4 (tu4A A k p) → Frm L3 w w4 → opnA A (cN A k) p = true → WA G9 p9 l9 e9 (RM 3 71) s9 m9 ar9 be9 me9 co9 (QF G9 be9 ar9 s9 w ex us (PD w (turA A k p) (bI (opnA A (cN A k) p)))) 8 (207 + ex.1 + ex.2) us 118 [some (.int (nI k)), some (.int (nI p)), some (.ref 204), some (.ref 205), some (.ref 206), some (.int (nI (cN A k))), some (.int (nI (nQ (cN A k) d))), some (.int (nI (4 - d) - nI 1))] [] (fzM w4 ex us) := by
    intro zd118
    induction zd118 with
    | zero => intro d w4 zm118 zh_d hL4 hF4 ho1; exfalso; omega
    | succ zd118 zih118 =>
      intro d w4 zm118 zh_d hL4 hF4 ho1
      refine a_iload C dL_turned_118 rfl ?_
      refine a_if_lt (tgt := 155) C dL_turned_120 (by decide) (fun h_120 => ?_) (fun h_120 => ?_)
      · obtain rfl : d = 4 := (d4 zh_d).1 h_120
        have zq_q := nQ_4 zq_c
        have zq_qn := nQ_lt (cN A k) 4
        have zq_s := hA.s10 (j := 2) (by decide)
        have zq_k := hk
        rw [← zq_k4] at zq_k
        refine a_aload_n C dL_turned_155 rfl rfl ?_
        refine a_bipush (v := nI 8) C dL_turned_156 (by decide) ?_
        refine n_iald C dL_turned_158 (tw (by first | decide | omega)) (by first | decide | omega) rfl rfl (by first | decide | omega) (by decide) ((LR_s2 hL4 zq_ok4).trans (congrArg nI (zq_ae.sN (j := 2) (by decide)))) ?_
        refine n_if_le (tgt := 222) C dL_turned_159 (by decide) (by first | decide | omega)  (fun h_159 => ?_) (fun h_159 => ?_)
        · refine a_iconst (v := nI 1) C dL_turned_222 (by decide) ?_
          refine f_iret C hr ?_ dL_turned_223 ?_
          · rfl
          · first | exact ⟨bI_tru ho1, tur_4 ho1 (beh_a h_159) ▸ hL4, hF4⟩ | exact ⟨bI_tru ho1, tur_4 ho1 (beh_b h_175) ▸ hL4, hF4⟩ | exact ⟨bI_tru ho1, tur_4 ho1 (beh_c (by rw [← zq_q]; exact h_186)) ▸ hL4, hF4⟩ | exact ⟨bI_tru ho1, tur_w hA hk hp ho1 hL4 (by rw [zq_q]; exact beh_w h_159 h_175 (by rw [← zq_q]; exact h_186)), (by repeat' (first | exact Frm.rf | assumption | (refine Frm.set ?_ (by decide))))⟩
        · refine a_aload_n C dL_turned_162 rfl rfl ?_
          refine a_bipush (v := nI 6) C dL_turned_163 (by decide) ?_
          refine a_iload_n C dL_turned_165 rfl rfl ?_
          first | refine n_imul C dL_turned_166 ?_ | refine a_imul C dL_turned_166 ?_
          refine a_iconst (v := nI 4) C dL_turned_167 (by decide) ?_
          first | refine n_iadd C dL_turned_168 ?_ | refine a_iadd C dL_turned_168 ?_
          refine n_iald C dL_turned_169 (tw (by first | decide | omega)) (by first | decide | omega) rfl rfl (by first | decide | omega) (by decide) ((LR_ku hL4 zq_k).trans (tu4_u zq_o hp)) ?_
          refine a_aload_n C dL_turned_170 rfl rfl ?_
          refine a_bipush (v := nI 8) C dL_turned_171 (by decide) ?_
          refine n_iald C dL_turned_173 (tw (by first | decide | omega)) (by first | decide | omega) rfl rfl (by first | decide | omega) (by decide) ((LR_s2 hL4 zq_ok4).trans (congrArg nI (zq_ae.sN (j := 2) (by decide)))) ?_
          refine a_irem C dL_turned_174 (nI_ne0 h_159 (by omega)) ?_
          refine a_if_ne (tgt := 222) C dL_turned_175 (by decide) (fun h_175 => ?_) (fun h_175 => ?_)
          · refine a_iconst (v := nI 1) C dL_turned_222 (by decide) ?_
            refine f_iret C hr ?_ dL_turned_223 ?_
            · rfl
            · first | exact ⟨bI_tru ho1, tur_4 ho1 (beh_a h_159) ▸ hL4, hF4⟩ | exact ⟨bI_tru ho1, tur_4 ho1 (beh_b h_175) ▸ hL4, hF4⟩ | exact ⟨bI_tru ho1, tur_4 ho1 (beh_c (by rw [← zq_q]; exact h_186)) ▸ hL4, hF4⟩ | exact ⟨bI_tru ho1, tur_w hA hk hp ho1 hL4 (by rw [zq_q]; exact beh_w h_159 h_175 (by rw [← zq_q]; exact h_186)), (by repeat' (first | exact Frm.rf | assumption | (refine Frm.set ?_ (by decide))))⟩
          · refine a_iload C dL_turned_178 rfl ?_
            refine a_iload C dL_turned_180 rfl ?_
            refine p_callS C ((K_L_digit (by first | assumption | decide | omega) (by first | assumption | decide | omega))).cp sL_87 rfl dL_turned_182 (Nat.le_of_ble_eq_true rfl) ⟨by decide, by decide⟩ ?_
            refine a_iconst (v := nI 2) C dL_turned_185 (by decide) ?_
            refine n_icmp_ge (tgt := 222) C dL_turned_186 (by decide) (Nat.lt_trans (dep_lt _ _) (by decide)) (by first | decide | omega) (fun h_186 => ?_) (fun h_186 => ?_)
            · refine a_iconst (v := nI 1) C dL_turned_222 (by decide) ?_
              refine f_iret C hr ?_ dL_turned_223 ?_
              · rfl
              · first | exact ⟨bI_tru ho1, tur_4 ho1 (beh_a h_159) ▸ hL4, hF4⟩ | exact ⟨bI_tru ho1, tur_4 ho1 (beh_b h_175) ▸ hL4, hF4⟩ | exact ⟨bI_tru ho1, tur_4 ho1 (beh_c (by rw [← zq_q]; exact h_186)) ▸ hL4, hF4⟩ | exact ⟨bI_tru ho1, tur_w hA hk hp ho1 hL4 (by rw [zq_q]; exact beh_w h_159 h_175 (by rw [← zq_q]; exact h_186)), (by repeat' (first | exact Frm.rf | assumption | (refine Frm.set ?_ (by decide))))⟩
            · refine a_aload_n C dL_turned_189 rfl rfl ?_
              refine a_bipush (v := nI 6) C dL_turned_190 (by decide) ?_
              refine a_iload_n C dL_turned_192 rfl rfl ?_
              first | refine n_imul C dL_turned_193 ?_ | refine a_imul C dL_turned_193 ?_
              refine a_dup2 C dL_turned_194 rfl rfl ?_
              refine n_iald C dL_turned_195 (tw (by first | decide | omega)) (by first | decide | omega) rfl rfl (by first | decide | omega) (by decide) ((LR_kc hL4 zq_ok4 zq_k).trans (congrArg nI (zq_ae.cN (by omega)))) ?_
              refine a_iload C dL_turned_196 rfl ?_
              refine p_callS C ((K_L_step (by first | assumption | decide | omega))).cp sL_103 rfl dL_turned_198 (Nat.le_of_ble_eq_true rfl) ⟨by decide, by decide⟩ ?_
              first | refine n_iadd C dL_turned_201 ?_ | refine a_iadd C dL_turned_201 ?_
              refine f_iast C dL_turned_202 (by first | decide | omega) rfl rfl (by first | decide | omega) (by decide)  rfl ?_
              refine a_aload_n C dL_turned_203 rfl rfl ?_
              refine a_bipush (v := nI 6) C dL_turned_204 (by decide) ?_
              refine a_iload_n C dL_turned_206 rfl rfl ?_
              first | refine n_imul C dL_turned_207 ?_ | refine a_imul C dL_turned_207 ?_
              refine a_iconst (v := nI 5) C dL_turned_208 (by decide) ?_
              first | refine n_iadd C dL_turned_209 ?_ | refine a_iadd C dL_turned_209 ?_
              refine a_dup2 C dL_turned_210 rfl rfl ?_
              refine n_iald C dL_turned_211 (tw (by first | decide | omega)) (by first | decide | omega) rfl rfl (by first | decide | omega) (by decide) (show _ = A (40 + 6 * k + 5) from by
                rw [wSet_ne (by omega)]
                exact (LR_kw hL4 zq_k).trans (tu4_w zq_o hp)) ?_
              refine a_iconst (v := nI 1) C dL_turned_212 (by decide) ?_
              first | refine n_iadd C dL_turned_213 ?_ | refine a_iadd C dL_turned_213 ?_
              refine f_iast C dL_turned_214 (by first | decide | omega) rfl rfl (by first | decide | omega) (by decide)  rfl ?_
              refine a_aload_n C dL_turned_215 rfl rfl ?_
              refine a_iconst (v := nI 4) C dL_turned_216 (by decide) ?_
              refine a_dup2 C dL_turned_217 rfl rfl ?_
              refine n_iald C dL_turned_218 (tw (by first | decide | omega)) (by first | decide | omega) rfl rfl (by first | decide | omega) (by decide) (show _ = A 4 from (LR_q (j := 4) hL4 (by decide)).trans (tu4_4 zq_o hp)) ?_
              refine a_iconst (v := nI 1) C dL_turned_219 (by decide) ?_
              first | refine n_iadd C dL_turned_220 ?_ | refine a_iadd C dL_turned_220 ?_
              refine f_iast C dL_turned_221 (by first | decide | omega) rfl rfl (by first | decide | omega) (by decide)  rfl ?_
              refine a_iconst (v := nI 1) C dL_turned_222 (by decide) ?_
              refine f_iret C hr ?_ dL_turned_223 ?_
              · rfl
              · first | exact ⟨bI_tru ho1, tur_4 ho1 (beh_a h_159) ▸ hL4, hF4⟩ | exact ⟨bI_tru ho1, tur_4 ho1 (beh_b h_175) ▸ hL4, hF4⟩ | exact ⟨bI_tru ho1, tur_4 ho1 (beh_c (by rw [← zq_q]; exact h_186)) ▸ hL4, hF4⟩ | exact ⟨bI_tru ho1, tur_w hA hk hp ho1 hL4 (by rw [zq_q]; exact beh_w h_159 h_175 (by rw [← zq_q]; exact h_186)), (by repeat' (first | exact Frm.rf | assumption | (refine Frm.set ?_ (by decide))))⟩
      · have zq_d := (d4 zh_d).2 h_120
        have zq_qn := nQ_lt (cN A k) d
        refine a_eq (L' := [some (.int (nI k)), some (.int (nI p)), some (.ref 204), some (.ref 205), some (.ref 206), some (.int (nI (cN A k))), some (.int (nI (nQ (cN A k) d))), some (.int (nI (4 - d - 1)))]) (by rw [pk_sub (by omega)]) rfl rfl ?_
        refine a_via 147 (nI (nQ (cN A k) (d + 1))) ?_ (fun zJ147 => ?_)
        · refine a_istore C dL_turned_147 (by decide) ?_
          refine a_iinc (v := nI (4 - d - 1) - nI 1) C dL_turned_149 rfl (ii_m1 _) (by decide) ?_
          refine a_goto (tgt := 118) C dL_turned_152 (by decide) ?_
          refine a_join (aLe_s ?_ (aLe_s ?_ (aLe_s ?_ (aLe_s ?_ (aLe_s ?_ (aLe_s ?_ (aLe_s ?_ (aLe_s ?_ aLe_nil)))))))) rfl rfl (zih118 (d + 1) w4 (by omega) (by omega) hL4 hF4 ho1)
          · first | with_reducible rfl | exact gl (by first | with_reducible rfl | (refine iF ?_; simp []; done) | (refine iT ?_; simp []; done) | (refine iB ?_; simp []; done) | (simp []; done) | (simp []; omega) | omega)
          · first | with_reducible rfl | exact gl (by first | with_reducible rfl | (refine iF ?_; simp []; done) | (refine iT ?_; simp []; done) | (refine iB ?_; simp []; done) | (simp []; done) | (simp []; omega) | omega)
          · first | with_reducible rfl | exact gl (by first | with_reducible rfl | (refine iF ?_; simp []; done) | (refine iT ?_; simp []; done) | (refine iB ?_; simp []; done) | (simp []; done) | (simp []; omega) | omega)
          · first | with_reducible rfl | exact gl (by first | with_reducible rfl | (refine iF ?_; simp []; done) | (refine iT ?_; simp []; done) | (refine iB ?_; simp []; done) | (simp []; done) | (simp []; omega) | omega)
          · first | with_reducible rfl | exact gl (by first | with_reducible rfl | (refine iF ?_; simp []; done) | (refine iT ?_; simp []; done) | (refine iB ?_; simp []; done) | (simp []; done) | (simp []; omega) | omega)
          · first | with_reducible rfl | exact gl (by first | with_reducible rfl | (refine iF ?_; simp []; done) | (refine iT ?_; simp []; done) | (refine iB ?_; simp []; done) | (simp []; done) | (simp []; omega) | omega)
          · first | with_reducible rfl | exact gl (by first | with_reducible rfl | (refine iF ?_; simp []; done) | (refine iT ?_; simp []; done) | (refine iB ?_; simp []; done) | (simp []; done) | (simp []; omega) | omega)
          · exact gl (by rw [show 4 - (d + 1) = 3 - d by omega, show 4 - d - 1 = 3 - d by omega])
        · refine a_iload C dL_turned_123 rfl ?_
          refine a_iload C dL_turned_125 rfl ?_
          refine p_callS C ((K_L_digit (by first | assumption | decide | omega) (by first | assumption | decide | omega))).cp sL_87 rfl dL_turned_127 (Nat.le_of_ble_eq_true rfl) ⟨by decide, by decide⟩ ?_
          refine a_iload C dL_turned_130 rfl ?_
          refine a_iload C dL_turned_132 rfl ?_
          refine p_callS C ((K_L_digit (by first | assumption | decide | omega) (by first | assumption | decide | omega))).cp sL_87 rfl dL_turned_134 (Nat.le_of_ble_eq_true rfl) ⟨by decide, by decide⟩ ?_
          refine n_icmp_gt (tgt := 145) C dL_turned_137 (by decide) (Nat.lt_trans (dep_lt _ _) (by decide)) (Nat.lt_trans (dep_lt _ _) (by decide)) (fun h_137 => ?_) (fun h_137 => ?_)
          · refine a_iload C dL_turned_145 rfl ?_
            refine a_eq rfl (gl1 ?_) rfl zJ147
            · first | (refine congrArg nI (?_ : 4 - d - 1 = nQ (cN A k) (d + 1)); unfold nQ; rw [show 4 - d - 1 = 3 - d by omega] at h_137 ⊢; rw [if_pos h_137]; done) | (refine congrArg nI (?_ : nQ (cN A k) d = nQ (cN A k) (d + 1)); rw [show 4 - d - 1 = 3 - d by omega] at h_137; show _ = (if dep (cN A k) (3 - d) ≤ dep (cN A k) (nQ (cN A k) d) then 3 - d else nQ (cN A k) d); rw [if_neg (by omega)]; done)
          · refine a_iload C dL_turned_140 rfl ?_
            refine a_goto (tgt := 147) C dL_turned_142 (by decide) ?_
            refine a_eq rfl (gl1 ?_) rfl zJ147
            · first | (refine congrArg nI (?_ : 4 - d - 1 = nQ (cN A k) (d + 1)); unfold nQ; rw [show 4 - d - 1 = 3 - d by omega] at h_137 ⊢; rw [if_pos h_137]; done) | (refine congrArg nI (?_ : nQ (cN A k) d = nQ (cN A k) (d + 1)); rw [show 4 - d - 1 = 3 - d by omega] at h_137; show _ = (if dep (cN A k) (3 - d) ≤ dep (cN A k) (nQ (cN A k) d) then 3 - d else nQ (cN A k) d); rw [if_neg (by omega)]; done)
  have ZL112 : ∀ (w4 : Wd), LR w4 (tu4A A k p) → Frm L3 w w4 → opnA A (cN A k) p = true → WA G9 p9 l9 e9 (RM 3 71) s9 m9 ar9 be9 me9 co9 (QF G9 be9 ar9 s9 w ex us (PD w (turA A k p) (bI (opnA A (cN A k) p)))) 8 (207 + ex.1 + ex.2) us 112 [some (.int (nI k)), some (.int (nI p)), some (.ref 204), some (.ref 205), some (.ref 206), some (.int (nI (cN A k))), none, none] [] (fzM w4 ex us) := by
    intro w4 hL4 hF4 ho1
    refine a_iconst (v := nI 0) C dL_turned_112 (by decide) ?_
    refine a_istore C dL_turned_113 (by decide) ?_
    refine a_iconst (v := nI 3) C dL_turned_115 (by decide) ?_
    refine a_istore C dL_turned_116 (by decide) ?_
    refine a_join (aLe_s ?_ (aLe_s ?_ (aLe_s ?_ (aLe_s ?_ (aLe_s ?_ (aLe_s ?_ (aLe_s ?_ (aLe_s ?_ aLe_nil)))))))) rfl rfl (ZL118 5 0 w4 (by omega) (by omega) hL4 hF4 ho1)
    · first | with_reducible rfl | exact gl (by first | with_reducible rfl | (refine iF ?_; simp []; done) | (refine iT ?_; simp []; done) | (refine iB ?_; simp []; done) | (simp []; done) | (simp []; omega) | omega | rfl)
    · first | with_reducible rfl | exact gl (by first | with_reducible rfl | (refine iF ?_; simp []; done) | (refine iT ?_; simp []; done) | (refine iB ?_; simp []; done) | (simp []; done) | (simp []; omega) | omega | rfl)
    · first | with_reducible rfl | exact gl (by first | with_reducible rfl | (refine iF ?_; simp []; done) | (refine iT ?_; simp []; done) | (refine iB ?_; simp []; done) | (simp []; done) | (simp []; omega) | omega | rfl)
    · first | with_reducible rfl | exact gl (by first | with_reducible rfl | (refine iF ?_; simp []; done) | (refine iT ?_; simp []; done) | (refine iB ?_; simp []; done) | (simp []; done) | (simp []; omega) | omega | rfl)
    · first | with_reducible rfl | exact gl (by first | with_reducible rfl | (refine iF ?_; simp []; done) | (refine iT ?_; simp []; done) | (refine iB ?_; simp []; done) | (simp []; done) | (simp []; omega) | omega | rfl)
    · first | with_reducible rfl | exact gl (by first | with_reducible rfl | (refine iF ?_; simp []; done) | (refine iT ?_; simp []; done) | (refine iB ?_; simp []; done) | (simp []; done) | (simp []; omega) | omega | rfl)
    · first | with_reducible rfl | exact gl (by first | with_reducible rfl | (refine iF ?_; simp []; done) | (refine iT ?_; simp []; done) | (refine iB ?_; simp []; done) | (simp []; done) | (simp []; omega) | omega | rfl)
    · exact gl (by decide)
  refine a_pad 3 ?_
  refine a_eq (L' := [some (.int (nI k)), some (.int (nI p)), some (.ref 204), some (.ref 205), some (.ref 206), none, none, none]) rfl rfl rfl ?_
  refine a_aload_n C dL_turned_0 rfl rfl ?_
  refine a_bipush (v := nI 6) C dL_turned_1 (by decide) ?_
  refine a_iload_n C dL_turned_3 rfl rfl ?_
  first | refine n_imul C dL_turned_4 ?_ | refine a_imul C dL_turned_4 ?_
  refine a_iconst (v := nI 2) C dL_turned_5 (by decide) ?_
  first | refine n_iadd C dL_turned_6 ?_ | refine a_iadd C dL_turned_6 ?_
  refine n_iald C dL_turned_7 (tw (by first | decide | omega)) (by first | decide | omega) rfl rfl (by first | decide | omega) (by decide) ((LR_kl hL hA hk).trans (congrArg bI hl0)) ?_
  refine a_iconst (v := nI 1) C dL_turned_8 (by decide) ?_
  refine b_icmp1_eq (tgt := 21) C dL_turned_9 (by decide) (fun h_9 => ?_) (fun h_9 => ?_)
  · exact absurd h_9 (by decide)
  · refine a_aload C dL_turned_12 rfl ?_
    refine a_iconst (v := nI 4) C dL_turned_14 (by decide) ?_
    refine a_iload_n C dL_turned_15 rfl rfl ?_
    first | refine n_imul C dL_turned_16 ?_ | refine a_imul C dL_turned_16 ?_
    refine n_iald C dL_turned_17 (tw (by first | decide | omega)) (by first | decide | omega) rfl rfl (by first | decide | omega) (by decide) (LR_lw hL (by omega)) ?_
    refine a_if_ge (tgt := 24) C dL_turned_18 (by decide) (fun h_18 => ?_) (fun h_18 => ?_)
    · refine a_aload_n C dL_turned_24 rfl rfl ?_
      refine a_bipush (v := nI 6) C dL_turned_25 (by decide) ?_
      refine a_iload_n C dL_turned_27 rfl rfl ?_
      first | refine n_imul C dL_turned_28 ?_ | refine a_imul C dL_turned_28 ?_
      refine n_iald C dL_turned_29 (tw (by first | decide | omega)) (by first | decide | omega) rfl rfl (by first | decide | omega) (by decide) (LR_kc hL hA (by omega)) ?_
      refine a_istore C dL_turned_30 (by decide) ?_
      refine a_iload C dL_turned_32 rfl ?_
      refine a_iload_n C dL_turned_34 rfl rfl ?_
      refine a_aload C dL_turned_35 rfl ?_
      refine p_callS C (K_L_opens hL hA (by first | assumption | decide | omega) (by first | assumption | decide | omega)) sL_106 rfl dL_turned_37 (Nat.le_of_ble_eq_true rfl) ⟨by decide, by decide⟩ ?_
      first | refine b_if_ne (tgt := 64) C dL_turned_40 (by decide) (fun h_40 => ?_) (fun h_40 => ?_) | refine n_if_ne (tgt := 64) C dL_turned_40 (by decide) (by first | decide | omega) (fun h_40 => ?_) (fun h_40 => ?_) | refine a_if_ne (tgt := 64) C dL_turned_40 (by decide) (fun h_40 => ?_) (fun h_40 => ?_)
      · refine a_aload_n C dL_turned_64 rfl rfl ?_
        refine a_bipush (v := nI 6) C dL_turned_65 (by decide) ?_
        refine a_iload_n C dL_turned_67 rfl rfl ?_
        first | refine n_imul C dL_turned_68 ?_ | refine a_imul C dL_turned_68 ?_
        refine a_iconst (v := nI 4) C dL_turned_69 (by decide) ?_
        first | refine n_iadd C dL_turned_70 ?_ | refine a_iadd C dL_turned_70 ?_
        refine a_dup2 C dL_turned_71 rfl rfl ?_
        refine n_iald C dL_turned_72 (tw (by first | decide | omega)) (by first | decide | omega) rfl rfl (by first | decide | omega) (by decide) (LR_ku hL (by omega)) ?_
        refine a_iconst (v := nI 1) C dL_turned_73 (by decide) ?_
        first | refine n_iadd C dL_turned_74 ?_ | refine a_iadd C dL_turned_74 ?_
        refine f_iast C dL_turned_75 (by first | decide | omega) rfl rfl (by first | decide | omega) (by decide)  rfl ?_
        refine a_aload_n C dL_turned_76 rfl rfl ?_
        refine a_bipush (v := nI 10) C dL_turned_77 (by decide) ?_
        refine a_aload_n C dL_turned_79 rfl rfl ?_
        refine a_bipush (v := nI 6) C dL_turned_80 (by decide) ?_
        refine a_iload_n C dL_turned_82 rfl rfl ?_
        first | refine n_imul C dL_turned_83 ?_ | refine a_imul C dL_turned_83 ?_
        refine a_iconst (v := nI 1) C dL_turned_84 (by decide) ?_
        first | refine n_iadd C dL_turned_85 ?_ | refine a_iadd C dL_turned_85 ?_
        refine n_iald C dL_turned_86 (tw (by first | decide | omega)) (by first | decide | omega) rfl rfl (by first | decide | omega) (by decide) (show _ = nI (oN A k) from by
          rw [wSet_ne (by omega)]
          exact LR_ko hL hA hk) ?_
        first | refine n_iadd C dL_turned_87 ?_ | refine a_iadd C dL_turned_87 ?_
        refine a_dup2 C dL_turned_88 rfl rfl ?_
        refine n_iald C dL_turned_89 (tw (by first | decide | omega)) (by first | decide | omega) rfl rfl (by first | decide | omega) (by decide) (show _ = A (12 + oN A k) from by
          rw [wSet_th (by decide)]
          exact LR_p hL zq_o) ?_
        refine a_iconst (v := nI 1) C dL_turned_90 (by decide) ?_
        first | refine n_iadd C dL_turned_91 ?_ | refine a_iadd C dL_turned_91 ?_
        refine f_iast C dL_turned_92 (by first | decide | omega) rfl rfl (by first | decide | omega) (by decide)  rfl ?_
        refine a_aload C dL_turned_93 rfl ?_
        refine a_iconst (v := nI 4) C dL_turned_95 (by decide) ?_
        refine a_iload_n C dL_turned_96 rfl rfl ?_
        first | refine n_imul C dL_turned_97 ?_ | refine a_imul C dL_turned_97 ?_
        refine a_iconst (v := nI 2) C dL_turned_98 (by decide) ?_
        first | refine n_iadd C dL_turned_99 ?_ | refine a_iadd C dL_turned_99 ?_
        refine a_dup2 C dL_turned_100 rfl rfl ?_
        refine n_iald C dL_turned_101 (tw (by first | decide | omega)) (by first | decide | omega) rfl rfl (by first | decide | omega) (by decide) (show _ = A (16 + 4 * p + 2) from by
          rw [wSet_th (by decide), wSet_th (by decide)]
          exact LR_lu hL hp) ?_
        refine a_iconst (v := nI 1) C dL_turned_102 (by decide) ?_
        first | refine n_iadd C dL_turned_103 ?_ | refine a_iadd C dL_turned_103 ?_
        refine f_iast C dL_turned_104 (by first | decide | omega) rfl rfl (by first | decide | omega) (by decide)  rfl ?_
        refine a_aload_n C dL_turned_105 rfl rfl ?_
        refine a_iconst (v := nI 2) C dL_turned_106 (by decide) ?_
        refine a_dup2 C dL_turned_107 rfl rfl ?_
        refine n_iald C dL_turned_108 (tw (by first | decide | omega)) (by first | decide | omega) rfl rfl (by first | decide | omega) (by decide) (show _ = A 2 from by
          rw [wSet_th (by decide), wSet_ne (by omega), wSet_th (by decide)]
          exact LR_q hL (j := 2) (by decide)) ?_
        refine a_iconst (v := nI 1) C dL_turned_109 (by decide) ?_
        first | refine n_iadd C dL_turned_110 ?_ | refine a_iadd C dL_turned_110 ?_
        refine f_iast C dL_turned_111 (by first | decide | omega) rfl rfl (by first | decide | omega) (by decide)  rfl ?_
        have zq_l4 := (((hL.1.setk (k := k) (j := 4) (x := A (40 + 6 * k + 4) + nI 1)).setp (j := oN A k) (x := A (12 + oN A k) + nI 1) zq_o).setl (p := p) (j := 2) (x := A (16 + 4 * p + 2) + nI 1) hp (by decide)).setq (j := 2) (x := A 2 + nI 1) (by decide)
        refine a_join (aLe_s ?_ (aLe_s ?_ (aLe_s ?_ (aLe_s ?_ (aLe_s ?_ (aLe_s ?_ (aLe_n (aLe_n aLe_nil)))))))) rfl rfl (ZL112 _ (LR_set (B := tu4A A k p) zq_l4 zq_k4 hL.2) (by repeat' (first | exact Frm.rf | assumption | (refine Frm.set ?_ (by decide)))) h_40)
        · first | with_reducible rfl | exact gl (by first | with_reducible rfl | (refine iF ?_; simp []; done) | (refine iT ?_; simp []; done) | (refine iB ?_; simp []; done) | (simp []; done) | (simp []; omega) | omega | rfl)
        · first | with_reducible rfl | exact gl (by first | with_reducible rfl | (refine iF ?_; simp []; done) | (refine iT ?_; simp []; done) | (refine iB ?_; simp []; done) | (simp []; done) | (simp []; omega) | omega | rfl)
        · first | with_reducible rfl | exact gl (by first | with_reducible rfl | (refine iF ?_; simp []; done) | (refine iT ?_; simp []; done) | (refine iB ?_; simp []; done) | (simp []; done) | (simp []; omega) | omega | rfl)
        · first | with_reducible rfl | exact gl (by first | with_reducible rfl | (refine iF ?_; simp []; done) | (refine iT ?_; simp []; done) | (refine iB ?_; simp []; done) | (simp []; done) | (simp []; omega) | omega | rfl)
        · first | with_reducible rfl | exact gl (by first | with_reducible rfl | (refine iF ?_; simp []; done) | (refine iT ?_; simp []; done) | (refine iB ?_; simp []; done) | (simp []; done) | (simp []; omega) | omega | rfl)
        · first | with_reducible rfl | exact gl (by first | with_reducible rfl | (refine iF ?_; simp []; done) | (refine iT ?_; simp []; done) | (refine iB ?_; simp []; done) | (simp []; done) | (simp []; omega) | omega | rfl)
      · have zq_l7 := (hL.1.setl (p := p) (j := 3) (x := A (16 + 4 * p + 3) + nI 1) hp (by decide)).setq (j := 3) (x := A 3 + nI 1) (by decide)
        rw [show upd (upd A (16 + 4 * p + 3) (A (16 + 4 * p + 3) + nI 1)) 3 (A 3 + nI 1) = turA A k p from tur_f h_40] at zq_l7
        refine a_aload C dL_turned_43 rfl ?_
        refine a_iconst (v := nI 4) C dL_turned_45 (by decide) ?_
        refine a_iload_n C dL_turned_46 rfl rfl ?_
        first | refine n_imul C dL_turned_47 ?_ | refine a_imul C dL_turned_47 ?_
        refine a_iconst (v := nI 3) C dL_turned_48 (by decide) ?_
        first | refine n_iadd C dL_turned_49 ?_ | refine a_iadd C dL_turned_49 ?_
        refine a_dup2 C dL_turned_50 rfl rfl ?_
        refine n_iald C dL_turned_51 (tw (by first | decide | omega)) (by first | decide | omega) rfl rfl (by first | decide | omega) (by decide) (LR_lf hL (by omega)) ?_
        refine a_iconst (v := nI 1) C dL_turned_52 (by decide) ?_
        first | refine n_iadd C dL_turned_53 ?_ | refine a_iadd C dL_turned_53 ?_
        refine f_iast C dL_turned_54 (by first | decide | omega) rfl rfl (by first | decide | omega) (by decide)  rfl ?_
        refine a_aload_n C dL_turned_55 rfl rfl ?_
        refine a_iconst (v := nI 3) C dL_turned_56 (by decide) ?_
        refine a_dup2 C dL_turned_57 rfl rfl ?_
        refine n_iald C dL_turned_58 (tw (by first | decide | omega)) (by first | decide | omega) rfl rfl (by first | decide | omega) (by decide) (show _ = A 3 from by
          rw [wSet_th (by decide)]
          exact LR_q hL (j := 3) (by decide)) ?_
        refine a_iconst (v := nI 1) C dL_turned_59 (by decide) ?_
        first | refine n_iadd C dL_turned_60 ?_ | refine a_iadd C dL_turned_60 ?_
        refine f_iast C dL_turned_61 (by first | decide | omega) rfl rfl (by first | decide | omega) (by decide)  rfl ?_
        refine a_iconst (v := nI 0) C dL_turned_62 (by decide) ?_
        refine f_iret C hr ?_ dL_turned_63 ?_
        · rfl
        · exact ⟨bI_fal h_40, LR_set zq_l7 tur_kN hL.2, (by repeat' (first | exact Frm.rf | assumption | (refine Frm.set ?_ (by decide))))⟩
    · exact absurd (wd_lt hA hp h_18) (by rw [hw1]; decide)

end A65

section A30
/-! ### the reference's reader -/
def O7 (w w' : Wd) : Prop := (∀ a, ¬ a = 204 → w'.1 a = w.1 a) ∧ (∀ j, j < 8 ∨ 12 ≤ j → w'.1 204 j = w.1 204 j) ∧ w'.2 = w.2
theorem O7_refl {w : Wd} : O7 w w := ⟨fun _ _ => rfl, fun _ _ => rfl, rfl⟩
theorem O7.tr {w v u : Wd} (h : O7 w v) (h2 : O7 v u) : O7 w u := ⟨fun a ha => (h2.1 a ha).trans (h.1 a ha), fun j hj => (h2.2.1 j hj).trans (h.2.1 j hj), h2.2.2.trans h.2.2⟩
theorem O7.set {w v : Wd} {j : Nat} {x : Int32} (hj : 8 ≤ j ∧ j < 12) (h : O7 w v) : O7 w (wSet v 204 j x) := ⟨fun a ha => by rw [wSet_th ha]; exact h.1 a ha, fun k hk => by rw [wSet_ne (by omega)]; exact h.2.1 k hk, h.2.2⟩
def Tm (w : Wd) (t : Nat → Nat) (ln : Nat) : Prop := w.1 204 7 = nI ln ∧ ln ≤ 60 ∧ ∀ j, j < ln → w.1 208 j = nI (t j) ∧ t j < 128
theorem Tm.ot {w v : Wd} {t : Nat → Nat} {ln : Nat} (h : Tm w t ln) (h2 : O7 w v) : Tm v t ln := ⟨(h2.2.1 7 (by decide)).trans h.1, h.2.1, fun j hj => ⟨by rw [h2.1 208 (by decide)]; exact (h.2.2 j hj).1, (h.2.2 j hj).2⟩⟩
def nxN (t : Nat → Nat) (ln p : Nat) : Nat := if p < ln then t p else 0
section
variable {t : Nat → Nat} {ln p : Nat}
theorem nx_t {a : Nat} (ha : 0 < a) (h : nxN t ln p = a) : chB t ln a p = true := by
  unfold nxN at h
  split at h
  · exact decide_eq_true ⟨by omega, by omega, by omega⟩
  · omega
theorem nx_f {a : Nat} (h : ¬ nxN t ln p = a) : chB t ln a p = false := by
  refine decide_eq_false (fun z => h ?_)
  unfold nxN
  rw [if_pos z.1]
  omega
theorem nx_lt {w : Wd} (hT : Tm w t ln) : nxN t ln p < 128 := by
  unfold nxN
  split
  · next h => exact (hT.2.2 p h).2
  · decide
theorem dg_all : (List.range 128).all (fun n => (List.range 10).all fun a => decide (nI 0 ≤ nI n - nI 48 ∧ nI n - nI 48 ≤ nI a) == decide (48 ≤ n ∧ n ≤ 48 + a)) = true := by decide +kernel
theorem dg_eq {a : Nat} (hn : nxN t ln p < 128) (ha : a ≤ 9) : decide (nI 0 ≤ nI (nxN t ln p) - nI 48 ∧ nI (nxN t ln p) - nI 48 ≤ nI a) = dgB t ln (a + 1) p := by
  have z := beq_iff_eq.mp (List.all_eq_true.mp (List.all_eq_true.mp dg_all (nxN t ln p) (List.mem_range.mpr hn)) a (List.mem_range.mpr (by omega)))
  rw [z]
  unfold dgB isB nxN
  by_cases h : p < ln
  · rw [if_pos h]
    exact decide_eq_decide.mpr ⟨fun y => ⟨h, y.1, by omega⟩, fun y => ⟨y.2.1, by omega⟩⟩
  · rw [if_neg h, decide_eq_false (fun y => by omega), decide_eq_false (fun y => h y.1)]
theorem dg_sub {a : Nat} (h : dgB t ln a p = true) : nI (nxN t ln p) - nI 48 = nI (t p - 48) := by
  have z := isB_at h
  unfold nxN
  rw [if_pos z.1, pk_sub z.2.1]
theorem stp_e (b : Bool) : p + (if b = true then 1 else 0) = stp b p := by cases b <;> rfl
end
def PS7 (w : Wd) (b : Bool) (p' : Nat) : Option Value → Wd → Prop := fun r w' => r = some (.int (bI b)) ∧ w'.1 204 8 = nI p' ∧ (∀ j, ¬ j = 8 → w'.1 204 j = w.1 204 j) ∧ O7 w w'
def PN7 (w : Wd) (b : Bool) (p' v : Nat) : Option Value → Wd → Prop := fun r w' => r = some (.int (bI b)) ∧ w'.1 204 8 = nI p' ∧ (b = true → w'.1 204 11 = nI v) ∧ (∀ j, ¬ j = 8 → ¬ j = 11 → w'.1 204 j = w.1 204 j) ∧ O7 w w'
def PC7 (w : Wd) (q : PR) : Option Value → Wd → Prop := fun r w' => r = some (.int (bI q.1)) ∧ w'.1 204 8 = nI q.2.1 ∧ (q.1 = true → w'.1 204 10 = nI q.2.2) ∧ w'.1 204 9 = w.1 204 9 ∧ O7 w w'
def PO7 (w : Wd) (q : PO) : Option Value → Wd → Prop := fun r w' => r = some (.int (bI q.1)) ∧ w'.1 204 8 = nI q.2.1 ∧ (q.1 = true → w'.1 204 9 = nI q.2.2.1 ∧ w'.1 204 10 = nI q.2.2.2.1 ∧ (q.2.2.1 = 99 ∨ q.2.2.1 = 100 ∨ q.2.2.1 = 116 → w'.1 204 11 = nI q.2.2.2.2)) ∧ O7 w w'
theorem PO7_f {w w' : Wd} {q : PO} (p' : Nat) (h : q.1 = false) (h2 : q.2.1 = p') (h3 : w'.1 204 8 = nI p') (ho : O7 w w') : PO7 w q (some (.int (nI 0))) w' := ⟨bI_fal h, by rw [h2]; exact h3, (fun z => by rw [h] at z; cases z), ho⟩
theorem PO7_t {w w' : Wd} {q : PO} (k f s : Nat) (h : q.1 = true) (h2 : q.2.2 = (k, f, s)) (h3 : w'.1 204 8 = nI q.2.1) (h4 : w'.1 204 9 = nI k) (h5 : w'.1 204 10 = nI f) (h7 : k = 99 ∨ k = 100 ∨ k = 116 → w'.1 204 11 = nI s) (ho : O7 w w') : PO7 w q (some (.int (nI 1))) w' := by
  refine ⟨bI_tru h, h3, fun _ => ?_, ho⟩
  rw [h2]
  exact ⟨h4, h5, h7⟩
set_option maxRecDepth 20000 in
set_option maxHeartbeats 4000000 in
theorem K_X7_next {w : Wd} {t : Nat → Nat} {ln p : Nat} (hT : Tm w t ln) (hp : w.1 204 8 = nI p) (hl : p ≤ ln)  : CP yX7_next cX7_next 1 (some .int) 0 0 [.ref 204] w (.int (nI (nxN t ln p))) := by
  have zq_l := hT.2.1
  refine CF.of ok_X7_next (Nat.le_of_ble_eq_true rfl) (fun ex us G9 p9 l9 e9 s9 m9 ar9 be9 me9 co9 C hr => ?_)
  refine a_aload_n C dX7_next_0 rfl rfl ?_
  refine a_getf C fX7_158 dX7_next_1 (show _ < 219 from (by first | decide | omega)) (by first | decide | omega) rfl (gl hp) ?_
  refine a_aload_n C dX7_next_4 rfl rfl ?_
  refine a_getf C fX7_155 dX7_next_5 (show _ < 219 from (by first | decide | omega)) (by first | decide | omega) rfl (gl hT.1) ?_
  first | refine n_icmp_ge (tgt := 23) C dX7_next_8 (by decide) (by first | decide | omega) (by first | decide | omega) (fun h_8 => ?_) (fun h_8 => ?_) | refine a_icmp_ge (tgt := 23) C dX7_next_8 (by decide) (fun h_8 => ?_) (fun h_8 => ?_)
  · refine a_iconst (v := nI 0) C dX7_next_23 (by decide) ?_
    refine f_iret C hr ?_ dX7_next_24 ⟨?_, rfl⟩
    · rfl
    · first | exact gl (show nI (t p) = nI (nxN t ln p) from by unfold nxN; rw [if_pos h_8]) | exact gl (show nI 0 = nI (nxN t ln p) from by unfold nxN; rw [if_neg (by omega)])
  · refine a_aload_n C dX7_next_11 rfl rfl ?_
    refine a_getfF C fX7_19 dX7_next_12 (show _ < 219 from (by first | decide | omega)) (by first | decide | omega) rfl rfl ?_
    refine a_aload_n C dX7_next_15 rfl rfl ?_
    refine a_getf C fX7_158 dX7_next_16 (show _ < 219 from (by first | decide | omega)) (by first | decide | omega) rfl (gl hp) ?_
    refine n_iald C dX7_next_19 (show _ < 219 from (by first | decide | omega)) (by first | decide | omega) rfl rfl (by first | decide | omega) (by decide) (hT.2.2 _ (by omega)).1 ?_
    refine a_goto (tgt := 24) C dX7_next_20 (by decide) ?_
    refine f_iret C hr ?_ dX7_next_24 ⟨?_, rfl⟩
    · rfl
    · first | exact gl (show nI (t p) = nI (nxN t ln p) from by unfold nxN; rw [if_pos h_8]) | exact gl (show nI 0 = nI (nxN t ln p) from by unfold nxN; rw [if_neg (by omega)])

set_option maxRecDepth 20000 in
set_option maxHeartbeats 4000000 in
theorem K_X7_takes {w : Wd} {t : Nat → Nat} {ln p : Nat} (hT : Tm w t ln) (hp : w.1 204 8 = nI p) (hl : p ≤ ln) {a : Nat} (ha : 0 < a ∧ a < 128) : CF yX7_takes cX7_takes 3 (some .boolean) 1 20 [.ref 204, .int (nI a)] w (PS7 w (chB t ln a p) (stp (chB t ln a p) p)) := by
  have zq_l := hT.2.1
  have zq_n : nxN t ln p < 128 := nx_lt hT
  refine CF.of ok_X7_takes (Nat.le_of_ble_eq_true rfl) (fun ex us G9 p9 l9 e9 s9 m9 ar9 be9 me9 co9 C hr => ?_)
  refine a_pad 1 ?_
  refine a_eq (L' := [some (.ref 204), some (.int (nI a)), none]) rfl rfl rfl ?_
  refine a_via 13 (bI (chB t ln a p)) ?_ (fun zJ13 => ?_)
  · refine a_istore_n C dX7_takes_13 rfl (by decide) ?_
    refine a_aload_n C dX7_takes_14 rfl rfl ?_
    refine a_dup C dX7_takes_15 rfl ?_
    refine a_getf C fX7_158 dX7_takes_16 (show _ < 219 from (by first | decide | omega)) (by first | decide | omega) rfl (gl hp) ?_
    refine a_via 28 (nI (if chB t ln a p = true then 1 else 0)) ?_ (fun zJ28 => ?_)
    · first | refine n_iadd C dX7_takes_28 ?_ | refine a_iadd C dX7_takes_28 ?_
      refine f_putf C fX7_158 dX7_takes_29 (by first | decide | omega) rfl rfl rfl (Nat.le_of_ble_eq_true rfl) rfl ?_
      refine a_iload_n C dX7_takes_32 rfl rfl ?_
      refine f_iret C hr ?_ dX7_takes_33 ?_
      · first | exact bI_narrow _ | rfl
      · exact ⟨rfl, by rw [← stp_e]; exact wSet_at, fun j hj => wSet_ne (by omega), O7_refl.set (by decide)⟩
    · refine a_iload_n C dX7_takes_19 rfl rfl ?_
      first | refine b_if_eq (tgt := 27) C dX7_takes_20 (by decide) (fun h_20 => ?_) (fun h_20 => ?_) | refine n_if_eq (tgt := 27) C dX7_takes_20 (by decide) (by first | decide | omega) (fun h_20 => ?_) (fun h_20 => ?_) | refine a_if_eq (tgt := 27) C dX7_takes_20 (by decide) (fun h_20 => ?_) (fun h_20 => ?_)
      · refine a_iconst (v := nI 0) C dX7_takes_27 (by decide) ?_
        refine a_eq rfl (gl1 ?_) rfl zJ28
        · simp [h_20]
      · refine a_iconst (v := nI 1) C dX7_takes_23 (by decide) ?_
        refine a_goto (tgt := 28) C dX7_takes_24 (by decide) ?_
        refine a_eq rfl (gl1 ?_) rfl zJ28
        · simp [h_20]
  · refine a_aload_n C dX7_takes_0 rfl rfl ?_
    refine p_callV C (K_X7_next hT hp hl) vX7_161 rfl (by first | decide | omega) rfl rfl dX7_takes_1 (Nat.le_of_ble_eq_true rfl) ⟨by decide, by decide⟩ ?_
    refine a_iload_n C dX7_takes_4 rfl rfl ?_
    refine n_icmp_ne (tgt := 12) C dX7_takes_5 (by decide) (by first | decide | omega) (by first | decide | omega) (fun h_5 => ?_) (fun h_5 => ?_)
    · refine a_iconst (v := nI 0) C dX7_takes_12 (by decide) ?_
      refine a_eq rfl (gl1 ?_) rfl zJ13
      · first | exact iT (nx_t ha.1 h_5) | exact iF (nx_f h_5)
    · refine a_iconst (v := nI 1) C dX7_takes_8 (by decide) ?_
      refine a_goto (tgt := 13) C dX7_takes_9 (by decide) ?_
      refine a_eq rfl (gl1 ?_) rfl zJ13
      · first | exact iT (nx_t ha.1 h_5) | exact iF (nx_f h_5)

set_option maxRecDepth 20000 in
set_option maxHeartbeats 4000000 in
theorem K_X7_readsDigit {w : Wd} {t : Nat → Nat} {ln p : Nat} (hT : Tm w t ln) (hp : w.1 204 8 = nI p) (hl : p ≤ ln) {a : Nat} (ha : a ≤ 9) : CF yX7_readsDigit cX7_readsDigit 4 (some .boolean) 1 22 [.ref 204, .int (nI a)] w (PN7 w (dgB t ln (a + 1) p) (stp (dgB t ln (a + 1) p) p) (t p - 48)) := by
  have zq_l := hT.2.1
  have zq_n : nxN t ln p < 128 := nx_lt hT
  refine CF.of ok_X7_readsDigit (Nat.le_of_ble_eq_true rfl) (fun ex us G9 p9 l9 e9 s9 m9 ar9 be9 me9 co9 C hr => ?_)
  refine a_pad 2 ?_
  refine a_eq (L' := [some (.ref 204), some (.int (nI a)), none, none]) rfl rfl rfl ?_
  refine a_aload_n C dX7_readsDigit_0 rfl rfl ?_
  refine p_callV C (K_X7_next hT hp hl) vX7_161 rfl (by first | decide | omega) rfl rfl dX7_readsDigit_1 (Nat.le_of_ble_eq_true rfl) ⟨by decide, by decide⟩ ?_
  refine a_bipush (v := nI 48) C dX7_readsDigit_4 (by decide) ?_
  refine a_isub C dX7_readsDigit_6 ?_
  refine a_istore_n C dX7_readsDigit_7 rfl (by decide) ?_
  refine a_iload_n C dX7_readsDigit_8 rfl rfl ?_
  refine a_iconst (v := nI 0) C dX7_readsDigit_9 (by decide) ?_
  refine a_iload_n C dX7_readsDigit_10 rfl rfl ?_
  refine p_callS C ((K_X7_within _ _ _)).cp sX7_57 rfl dX7_readsDigit_11 (Nat.le_of_ble_eq_true rfl) ⟨by decide, by decide⟩ ?_
  refine a_eq (st' := [.int (bI (dgB t ln (a + 1) p))]) rfl (by rw [dg_eq zq_n ha]) rfl ?_
  refine a_istore_n C dX7_readsDigit_14 rfl (by decide) ?_
  refine a_aload_n C dX7_readsDigit_15 rfl rfl ?_
  refine a_via 28 (if dgB t ln (a + 1) p = true then nI (t p - 48) else w.1 204 11) ?_ (fun zJ28 => ?_)
  · refine f_putf C fX7_165 dX7_readsDigit_28 (by first | decide | omega) rfl rfl rfl (Nat.le_of_ble_eq_true rfl) rfl ?_
    refine a_aload_n C dX7_readsDigit_31 rfl rfl ?_
    refine a_dup C dX7_readsDigit_32 rfl ?_
    refine a_getf C fX7_158 dX7_readsDigit_33 (show _ < 219 from (by first | decide | omega)) (by first | decide | omega) rfl (gl (show _ = nI p from by rw [wSet_ne (by decide)]; exact hp)) ?_
    refine a_via 45 (nI (if dgB t ln (a + 1) p = true then 1 else 0)) ?_ (fun zJ45 => ?_)
    · first | refine n_iadd C dX7_readsDigit_45 ?_ | refine a_iadd C dX7_readsDigit_45 ?_
      refine f_putf C fX7_158 dX7_readsDigit_46 (by first | decide | omega) rfl rfl rfl (Nat.le_of_ble_eq_true rfl) rfl ?_
      refine a_iload_n C dX7_readsDigit_49 rfl rfl ?_
      refine f_iret C hr ?_ dX7_readsDigit_50 ?_
      · first | exact bI_narrow _ | rfl
      · exact ⟨rfl, by rw [← stp_e]; exact wSet_at, fun z => by rw [wSet_ne (by decide), wSet_at, z]; rfl, fun j h8 h11 => by rw [wSet_ne (by omega), wSet_ne (by omega)], (O7_refl.set (by decide)).set (by decide)⟩
    · refine a_iload_n C dX7_readsDigit_36 rfl rfl ?_
      first | refine b_if_eq (tgt := 44) C dX7_readsDigit_37 (by decide) (fun h_37 => ?_) (fun h_37 => ?_) | refine n_if_eq (tgt := 44) C dX7_readsDigit_37 (by decide) (by first | decide | omega) (fun h_37 => ?_) (fun h_37 => ?_) | refine a_if_eq (tgt := 44) C dX7_readsDigit_37 (by decide) (fun h_37 => ?_) (fun h_37 => ?_)
      · refine a_iconst (v := nI 0) C dX7_readsDigit_44 (by decide) ?_
        refine a_eq rfl (gl1 ?_) rfl zJ45
        · simp [h_37]
      · refine a_iconst (v := nI 1) C dX7_readsDigit_40 (by decide) ?_
        refine a_goto (tgt := 45) C dX7_readsDigit_41 (by decide) ?_
        refine a_eq rfl (gl1 ?_) rfl zJ45
        · simp [h_37]
  · refine a_iload_n C dX7_readsDigit_16 rfl rfl ?_
    first | refine b_if_eq (tgt := 24) C dX7_readsDigit_17 (by decide) (fun h_17 => ?_) (fun h_17 => ?_) | refine n_if_eq (tgt := 24) C dX7_readsDigit_17 (by decide) (by first | decide | omega) (fun h_17 => ?_) (fun h_17 => ?_) | refine a_if_eq (tgt := 24) C dX7_readsDigit_17 (by decide) (fun h_17 => ?_) (fun h_17 => ?_)
    · refine a_aload_n C dX7_readsDigit_24 rfl rfl ?_
      refine a_getf C fX7_165 dX7_readsDigit_25 (show _ < 219 from (by first | decide | omega)) (by first | decide | omega) rfl rfl ?_
      refine a_eq rfl (gl1 ?_) rfl zJ28
      · first | (rw [h_17, if_pos rfl]; exact dg_sub h_17) | (rw [h_17]; rfl)
    · refine a_iload_n C dX7_readsDigit_20 rfl rfl ?_
      refine a_goto (tgt := 28) C dX7_readsDigit_21 (by decide) ?_
      refine a_eq rfl (gl1 ?_) rfl zJ28
      · first | (rw [h_17, if_pos rfl]; exact dg_sub h_17) | (rw [h_17]; rfl)

set_option maxRecDepth 20000 in
set_option maxHeartbeats 4000000 in
theorem K_X7_readsCode {w : Wd} {t : Nat → Nat} {ln p : Nat} (hT : Tm w t ln) (hp : w.1 204 8 = nI p) (hl : p ≤ ln)  : CF yX7_readsCode cX7_readsCode 2 (some .boolean) 2 45 [.ref 204] w (PC7 w (rdC t ln 4 p 0)) := by
  have zq_l := hT.2.1
  refine CF.of ok_X7_readsCode (Nat.le_of_ble_eq_true rfl) (fun ex us G9 p9 l9 e9 s9 m9 ar9 be9 me9 co9 C hr => ?_)
  have ZL7 : ∀ (zd7 : Nat) (k v q : Nat) (z : Wd), 4 + 1 ≤ k + zd7 → k ≤ 4 → z.1 204 8 = nI q → q ≤ ln → rdC t ln (4 - k) q v = rdC t ln 4 p 0 → z.1 204 9 = w.1 204 9 → z.1 204 10 = nI v → O7 w z → WA G9 p9 l9 e9 (RM 2 45) s9 m9 ar9 be9 me9 co9 (QF G9 be9 ar9 s9 w ex us (PC7 w (rdC t ln 4 p 0))) 2 (219 + ex) us 7 [some (.ref 204), some (.int (nI k))] [] (fzM z ex us) := by
    intro zd7
    induction zd7 with
    | zero => intro k v q z zm7 zh_k zh_p zh_l zh_e zh_9 zh_v zh_o; exfalso; omega
    | succ zd7 zih7 =>
      intro k v q z zm7 zh_k zh_p zh_l zh_e zh_9 zh_v zh_o
      refine a_iload_n C dX7_readsCode_7 rfl rfl ?_
      refine a_iconst (v := nI 4) C dX7_readsCode_8 (by decide) ?_
      first | refine n_icmp_ge (tgt := 43) C dX7_readsCode_9 (by decide) (by first | decide | omega) (by first | decide | omega) (fun h_9 => ?_) (fun h_9 => ?_) | refine a_icmp_ge (tgt := 43) C dX7_readsCode_9 (by decide) (fun h_9 => ?_) (fun h_9 => ?_)
      · obtain rfl : k = 4 := by omega
        have zq_r : rdC t ln 4 p 0 = (true, q, v) := zh_e.symm
        refine a_iconst (v := nI 1) C dX7_readsCode_43 (by decide) ?_
        refine f_iret C hr ?_ dX7_readsCode_44 ?_
        · first | exact bI_narrow _ | rfl
        · rw [zq_r]
          exact ⟨rfl, zh_p, fun _ => zh_v, zh_9, zh_o⟩
      · refine a_aload_n C dX7_readsCode_12 rfl rfl ?_
        refine a_iconst (v := nI 2) C dX7_readsCode_13 (by decide) ?_
        refine f_callV C _ _ (K_X7_readsDigit (a := 2) (hT.ot zh_o) zh_p zh_l (by decide)) vX7_171 (by first | decide | omega) rfl rfl dX7_readsCode_14 rfl (Nat.le_of_ble_eq_true rfl) ⟨by decide, by decide⟩ (fun zr14 zw14 zp14 => ?_)
        obtain ⟨rfl, zq_p, zq_n, zq_k, zq_o⟩ := zp14
        first | refine b_if_ne (tgt := 22) C dX7_readsCode_17 (by decide) (fun h_17 => ?_) (fun h_17 => ?_) | refine n_if_ne (tgt := 22) C dX7_readsCode_17 (by decide) (by first | decide | omega) (fun h_17 => ?_) (fun h_17 => ?_) | refine a_if_ne (tgt := 22) C dX7_readsCode_17 (by decide) (fun h_17 => ?_) (fun h_17 => ?_)
        · have h_17 : dgB t ln 3 q = true := h_17
          rw [show dgB t ln (2 + 1) q = true from h_17] at zq_p zq_n
          have zq_n := zq_n rfl
          have zq_p : zw14.1 204 8 = nI (q + 1) := zq_p
          refine a_aload_n C dX7_readsCode_22 rfl rfl ?_
          refine a_iconst (v := nI 3) C dX7_readsCode_23 (by decide) ?_
          refine a_aload_n C dX7_readsCode_24 rfl rfl ?_
          refine a_getf C fX7_168 dX7_readsCode_25 (show _ < 219 from (by first | decide | omega)) (by first | decide | omega) rfl (gl ((zq_k 10 (by decide) (by decide)).trans zh_v)) ?_
          first | refine n_imul C dX7_readsCode_28 ?_ | refine a_imul C dX7_readsCode_28 ?_
          refine a_aload_n C dX7_readsCode_29 rfl rfl ?_
          refine a_getf C fX7_165 dX7_readsCode_30 (show _ < 219 from (by first | decide | omega)) (by first | decide | omega) rfl (gl zq_n) ?_
          first | refine n_iadd C dX7_readsCode_33 ?_ | refine a_iadd C dX7_readsCode_33 ?_
          refine f_putf C fX7_168 dX7_readsCode_34 (by first | decide | omega) rfl rfl rfl (Nat.le_of_ble_eq_true rfl) rfl ?_
          refine n_iinc C dX7_readsCode_37 rfl (by decide) ?_
          refine a_goto (tgt := 7) C dX7_readsCode_40 (by decide) ?_
          have zq_e := isB_at h_17
          refine a_join (aLe_s ?_ (aLe_s ?_ aLe_nil)) rfl rfl (zih7 (k + 1) (3 * v + (t q - 48)) (q + 1) (wSet zw14 204 10 (nI (3 * v + (t q - 48)))) (by omega) (by omega) ((wSet_ne (by decide)).trans zq_p) (by omega) (by rw [← zh_e, show 4 - k = (4 - (k + 1)) + 1 by omega, rdC_t h_17]) ((wSet_ne (by decide)).trans ((zq_k 9 (by decide) (by decide)).trans zh_9)) wSet_at ((zh_o.tr zq_o).set (by decide)))
          · first | with_reducible rfl | exact gl (by first | with_reducible rfl | (refine iF ?_; simp [h_9, h_17]; done) | (refine iT ?_; simp [h_9, h_17]; done) | (refine iB ?_; simp [h_9, h_17]; done) | (simp [h_9, h_17]; done) | (simp [h_9, h_17]; omega) | omega)
          · first | with_reducible rfl | exact gl (by first | with_reducible rfl | (refine iF ?_; simp [h_9, h_17]; done) | (refine iT ?_; simp [h_9, h_17]; done) | (refine iB ?_; simp [h_9, h_17]; done) | (simp [h_9, h_17]; done) | (simp [h_9, h_17]; omega) | omega)
        · have h_17 : dgB t ln 3 q = false := h_17
          rw [show dgB t ln (2 + 1) q = false from h_17] at zq_p
          have zq_p : zw14.1 204 8 = nI q := zq_p
          have zq_r : rdC t ln 4 p 0 = (false, q, v) := by rw [← zh_e, show 4 - k = (4 - (k + 1)) + 1 by omega, rdC_f h_17]
          refine a_iconst (v := nI 0) C dX7_readsCode_20 (by decide) ?_
          refine f_iret C hr ?_ dX7_readsCode_21 ?_
          · first | exact bI_narrow _ | rfl
          · rw [zq_r]
            exact ⟨rfl, zq_p, (fun z => by cases z), (zq_k 9 (by decide) (by decide)).trans zh_9, zh_o.tr zq_o⟩
  refine a_pad 1 ?_
  refine a_eq (L' := [some (.ref 204), none]) rfl rfl rfl ?_
  refine a_aload_n C dX7_readsCode_0 rfl rfl ?_
  refine a_iconst (v := nI 0) C dX7_readsCode_1 (by decide) ?_
  refine f_putf C fX7_168 dX7_readsCode_2 (by first | decide | omega) rfl rfl rfl (Nat.le_of_ble_eq_true rfl) rfl ?_
  refine a_iconst (v := nI 0) C dX7_readsCode_5 (by decide) ?_
  refine a_istore_n C dX7_readsCode_6 rfl (by decide) ?_
  refine a_join (aLe_s ?_ (aLe_s ?_ aLe_nil)) rfl rfl (ZL7 (4 + 1) 0 0 p (wSet w 204 10 (nI 0)) (by omega) (by omega) ((wSet_ne (by decide)).trans hp) hl rfl (wSet_ne (by decide)) wSet_at (O7_refl.set (by decide)))
  · first | with_reducible rfl | exact gl (by first | with_reducible rfl | (refine iF ?_; simp []; done) | (refine iT ?_; simp []; done) | (refine iB ?_; simp []; done) | (simp []; done) | (simp []; omega) | omega | rfl)
  · first | with_reducible rfl | exact gl (by first | with_reducible rfl | (refine iF ?_; simp []; done) | (refine iT ?_; simp []; done) | (refine iB ?_; simp []; done) | (simp []; done) | (simp []; omega) | omega | rfl)

set_option maxRecDepth 20000 in
set_option maxHeartbeats 4000000 in
theorem K_X7_readsKey {w : Wd} {t : Nat → Nat} {ln p : Nat} (hT : Tm w t ln) (hp : w.1 204 8 = nI p) (hl : p ≤ ln)  : CF yX7_readsKey cX7_readsKey 1 (some .boolean) 2 45 [.ref 204] w (PC7 w (rdK t ln p)) := by
  have zq_l := hT.2.1
  refine CF.of ok_X7_readsKey (Nat.le_of_ble_eq_true rfl) (fun ex us G9 p9 l9 e9 s9 m9 ar9 be9 me9 co9 C hr => ?_)
  refine a_aload_n C dX7_readsKey_0 rfl rfl ?_
  refine a_bipush (v := nI 9) C dX7_readsKey_1 (by decide) ?_
  refine f_callV C _ _ (K_X7_readsDigit (a := 9) hT hp hl (by decide)) vX7_171 (by first | decide | omega) rfl rfl dX7_readsKey_3 rfl (Nat.le_of_ble_eq_true rfl) ⟨by decide, by decide⟩ (fun zr3 zw3 zp3 => ?_)
  obtain ⟨rfl, zq_p, zq_n, zq_k, zq_o⟩ := zp3
  first | refine b_if_ne (tgt := 11) C dX7_readsKey_6 (by decide) (fun h_6 => ?_) (fun h_6 => ?_) | refine n_if_ne (tgt := 11) C dX7_readsKey_6 (by decide) (by first | decide | omega) (fun h_6 => ?_) (fun h_6 => ?_) | refine a_if_ne (tgt := 11) C dX7_readsKey_6 (by decide) (fun h_6 => ?_) (fun h_6 => ?_)
  · have h_6 : dgB t ln 10 p = true := h_6
    rw [show dgB t ln (9 + 1) p = true from h_6] at zq_p zq_n
    have zq_n := zq_n rfl
    have zq_p : zw3.1 204 8 = nI (p + 1) := zq_p
    have zq_9 := zq_k 9 (by decide) (by decide)
    have zq_s := isB_at h_6
    have zq_O : O7 w (wSet zw3 204 10 (nI (t p - 48))) := zq_o.set (by decide)
    have zq_P : (wSet zw3 204 10 (nI (t p - 48))).1 204 8 = nI (p + 1) := (wSet_ne (by decide)).trans zq_p
    have zq_V : (wSet zw3 204 10 (nI (t p - 48))).1 204 10 = nI (t p - 48) := wSet_at
    have zq_Q : (wSet zw3 204 10 (nI (t p - 48))).1 204 9 = w.1 204 9 := (wSet_ne (by decide)).trans zq_9
    refine a_aload_n C dX7_readsKey_11 rfl rfl ?_
    refine a_aload_n C dX7_readsKey_12 rfl rfl ?_
    refine a_getf C fX7_165 dX7_readsKey_13 (show _ < 219 from (by first | decide | omega)) (by first | decide | omega) rfl (gl zq_n) ?_
    refine f_putf C fX7_168 dX7_readsKey_16 (by first | decide | omega) rfl rfl rfl (Nat.le_of_ble_eq_true rfl) rfl ?_
    refine a_aload_n C dX7_readsKey_19 rfl rfl ?_
    refine a_getf C fX7_168 dX7_readsKey_20 (show _ < 219 from (by first | decide | omega)) (by first | decide | omega) rfl (gl zq_V) ?_
    refine a_iconst (v := nI 1) C dX7_readsKey_23 (by decide) ?_
    refine n_icmp_ne (tgt := 46) C dX7_readsKey_24 (by decide) (by first | decide | omega) (by first | decide | omega) (fun h_24 => ?_) (fun h_24 => ?_)
    · refine a_iconst (v := nI 1) C dX7_readsKey_46 (by decide) ?_
      refine f_iret C hr ?_ dX7_readsKey_47 ?_
      · first | exact bI_narrow _ | rfl
      · first | (rw [rdK_1 h_6 (fun z => h_24 z.1)]; exact ⟨rfl, zq_P, fun _ => zq_V, zq_Q, zq_O⟩) | (rw [rdK_1 h_6 (fun z => by have := z.2.symm.trans h_32; cases this)]; exact ⟨rfl, zy_p, fun _ => (zy_k 10 (by decide) (by decide)).trans zq_V, (zy_k 9 (by decide) (by decide)).trans zq_Q, zq_O.tr zy_o⟩) | (rw [rdK_2 h_6 h_24 h_32]; exact ⟨rfl, (wSet_ne (by decide)).trans zy_p, fun _ => wSet_at, (wSet_ne (by decide)).trans ((zy_k 9 (by decide) (by decide)).trans zq_Q), (zq_O.tr zy_o).set (by decide)⟩)
    · refine a_aload_n C dX7_readsKey_27 rfl rfl ?_
      refine a_iconst (v := nI 1) C dX7_readsKey_28 (by decide) ?_
      refine f_callV C _ _ (K_X7_readsDigit (a := 1) (hT.ot zq_O) zq_P (by omega) (by decide)) vX7_171 (by first | decide | omega) rfl rfl dX7_readsKey_29 rfl (Nat.le_of_ble_eq_true rfl) ⟨by decide, by decide⟩ (fun zr29 zw29 zp29 => ?_)
      obtain ⟨rfl, zy_p, zy_n, zy_k, zy_o⟩ := zp29
      first | refine b_if_eq (tgt := 46) C dX7_readsKey_32 (by decide) (fun h_32 => ?_) (fun h_32 => ?_) | refine n_if_eq (tgt := 46) C dX7_readsKey_32 (by decide) (by first | decide | omega) (fun h_32 => ?_) (fun h_32 => ?_) | refine a_if_eq (tgt := 46) C dX7_readsKey_32 (by decide) (fun h_32 => ?_) (fun h_32 => ?_)
      · have h_32 : dgB t ln 2 (p + 1) = false := h_32
        rw [show dgB t ln (1 + 1) (p + 1) = false from h_32] at zy_p
        have zy_p : zw29.1 204 8 = nI (p + 1) := zy_p
        refine a_iconst (v := nI 1) C dX7_readsKey_46 (by decide) ?_
        refine f_iret C hr ?_ dX7_readsKey_47 ?_
        · first | exact bI_narrow _ | rfl
        · first | (rw [rdK_1 h_6 (fun z => h_24 z.1)]; exact ⟨rfl, zq_P, fun _ => zq_V, zq_Q, zq_O⟩) | (rw [rdK_1 h_6 (fun z => by have := z.2.symm.trans h_32; cases this)]; exact ⟨rfl, zy_p, fun _ => (zy_k 10 (by decide) (by decide)).trans zq_V, (zy_k 9 (by decide) (by decide)).trans zq_Q, zq_O.tr zy_o⟩) | (rw [rdK_2 h_6 h_24 h_32]; exact ⟨rfl, (wSet_ne (by decide)).trans zy_p, fun _ => wSet_at, (wSet_ne (by decide)).trans ((zy_k 9 (by decide) (by decide)).trans zq_Q), (zq_O.tr zy_o).set (by decide)⟩)
      · have h_32 : dgB t ln 2 (p + 1) = true := h_32
        rw [show dgB t ln (1 + 1) (p + 1) = true from h_32] at zy_p zy_n
        have zy_n := zy_n rfl
        have zy_p : zw29.1 204 8 = nI (p + 2) := zy_p
        refine a_aload_n C dX7_readsKey_35 rfl rfl ?_
        refine a_bipush (v := nI 10) C dX7_readsKey_36 (by decide) ?_
        refine a_aload_n C dX7_readsKey_38 rfl rfl ?_
        refine a_getf C fX7_165 dX7_readsKey_39 (show _ < 219 from (by first | decide | omega)) (by first | decide | omega) rfl (gl zy_n) ?_
        first | refine n_iadd C dX7_readsKey_42 ?_ | refine a_iadd C dX7_readsKey_42 ?_
        refine f_putf C fX7_168 dX7_readsKey_43 (by first | decide | omega) rfl rfl rfl (Nat.le_of_ble_eq_true rfl) rfl ?_
        refine a_iconst (v := nI 1) C dX7_readsKey_46 (by decide) ?_
        refine f_iret C hr ?_ dX7_readsKey_47 ?_
        · first | exact bI_narrow _ | rfl
        · first | (rw [rdK_1 h_6 (fun z => h_24 z.1)]; exact ⟨rfl, zq_P, fun _ => zq_V, zq_Q, zq_O⟩) | (rw [rdK_1 h_6 (fun z => by have := z.2.symm.trans h_32; cases this)]; exact ⟨rfl, zy_p, fun _ => (zy_k 10 (by decide) (by decide)).trans zq_V, (zy_k 9 (by decide) (by decide)).trans zq_Q, zq_O.tr zy_o⟩) | (rw [rdK_2 h_6 h_24 h_32]; exact ⟨rfl, (wSet_ne (by decide)).trans zy_p, fun _ => wSet_at, (wSet_ne (by decide)).trans ((zy_k 9 (by decide) (by decide)).trans zq_Q), (zq_O.tr zy_o).set (by decide)⟩)
  · have h_6 : dgB t ln 10 p = false := h_6
    rw [show dgB t ln (9 + 1) p = false from h_6] at zq_p
    have zq_p : zw3.1 204 8 = nI p := zq_p
    have zq_9 := zq_k 9 (by decide) (by decide)
    refine a_iconst (v := nI 0) C dX7_readsKey_9 (by decide) ?_
    refine f_iret C hr ?_ dX7_readsKey_10 ?_
    · first | exact bI_narrow _ | rfl
    · rw [rdK_0 h_6]
      exact ⟨rfl, zq_p, (fun z => by cases z), zq_9, zq_o⟩

theorem nx_cs (t : Nat → Nat) (ln p : Nat) : nxN t ln p = 99 ∨ nxN t ln p = 100 ∨ nxN t ln p = 116 ∨ nxN t ln p = 108 ∨ nxN t ln p = 102 ∨ (¬ nxN t ln p = 99 ∧ ¬ nxN t ln p = 100 ∧ ¬ nxN t ln p = 116 ∧ ¬ nxN t ln p = 108 ∧ ¬ nxN t ln p = 102) := by omega
theorem nx_df {x : Nat} (hx : x < 128) (h : ¬ x = 99 ∧ ¬ x = 100 ∧ ¬ x = 116 ∧ ¬ x = 108 ∧ ¬ x = 102) : Op.lookupswitch.offset #[((99 : Int), (52 : Int)), (100, 92), (102, 172), (108, 172), (116, 132)].toList 187 (nI x).toInt = 187 := by
  show (if (99 : Int) = (nI x).toInt then (52 : Int) else if (100 : Int) = (nI x).toInt then 92 else if (102 : Int) = (nI x).toInt then 172 else if (108 : Int) = (nI x).toInt then 172 else if (116 : Int) = (nI x).toInt then 132 else 187) = 187
  rw [nI_toInt (by omega), if_neg (by omega), if_neg (by omega), if_neg (by omega), if_neg (by omega), if_neg (by omega)]
set_option maxRecDepth 20000 in
set_option maxHeartbeats 4000000 in
theorem K_X7_readsOrder {w : Wd} {t : Nat → Nat} {ln p : Nat} (hT : Tm w t ln) (hp : w.1 204 8 = nI p) (hl : p ≤ ln)  : CF yX7_readsOrder cX7_readsOrder 1 (some .boolean) 3 66 [.ref 204] w (PO7 w (rdO t ln p)) := by
  have zq_l := hT.2.1
  have zq_n : nxN t ln p < 128 := nx_lt hT
  refine CF.of ok_X7_readsOrder (Nat.le_of_ble_eq_true rfl) (fun ex us G9 p9 l9 e9 s9 m9 ar9 be9 me9 co9 C hr => ?_)
  refine a_aload_n C dX7_readsOrder_0 rfl rfl ?_
  refine a_aload_n C dX7_readsOrder_1 rfl rfl ?_
  refine p_callV C (K_X7_next hT hp hl) vX7_161 rfl (by first | decide | omega) rfl rfl dX7_readsOrder_2 (Nat.le_of_ble_eq_true rfl) ⟨by decide, by decide⟩ ?_
  refine f_putf C fX7_174 dX7_readsOrder_5 (by first | decide | omega) rfl rfl rfl (Nat.le_of_ble_eq_true rfl) rfl ?_
  refine a_aload_n C dX7_readsOrder_8 rfl rfl ?_
  refine a_getf C fX7_174 dX7_readsOrder_9 (show _ < 219 from (by first | decide | omega)) (by first | decide | omega) rfl (gl wSet_at) ?_
  rcases nx_cs t ln p with zl | zl | zl | zl | zl | zl
  · rw [zl]
    refine a_lookup (x := nI 99) (off := 52) (tgt := 64) C dX7_readsOrder_12 (by decide) (by decide) (by decide) ?_
    refine a_aload_n C dX7_readsOrder_64 rfl rfl ?_
    refine a_dup C dX7_readsOrder_65 rfl ?_
    have zs_0 := isB_at (nx_t (show 0 < 99 by decide) zl)
    have zr_0 := rdO_c (nx_t (show 0 < 99 by decide) zl)
    have zO_0 : O7 w (wSet (wSet w 204 9 (nI 99)) 204 8 (nI (p + 1))) := (O7_refl.set (by decide)).set (by decide)
    have z9_0 : (wSet (wSet w 204 9 (nI 99)) 204 8 (nI (p + 1))).1 204 9 = nI 99 := (wSet_ne (by decide)).trans wSet_at
    refine a_getf C fX7_158 dX7_readsOrder_66 (show _ < 219 from (by first | decide | omega)) (by first | decide | omega) rfl (gl ((wSet_ne (by decide)).trans hp)) ?_
    refine a_iconst (v := nI 1) C dX7_readsOrder_69 (by decide) ?_
    first | refine n_iadd C dX7_readsOrder_70 ?_ | refine a_iadd C dX7_readsOrder_70 ?_
    refine f_putf C fX7_158 dX7_readsOrder_71 (by first | decide | omega) rfl rfl rfl (Nat.le_of_ble_eq_true rfl) rfl ?_
    refine a_aload_n C dX7_readsOrder_74 rfl rfl ?_
    refine f_callV C _ _ (K_X7_readsCode (hT.ot zO_0) wSet_at (show p + 1 ≤ ln by omega)) vX7_177 (by first | decide | omega) rfl rfl dX7_readsOrder_75 rfl (Nat.le_of_ble_eq_true rfl) ⟨by decide, by decide⟩ (fun zr75 zw75 zp75 => ?_)
    obtain ⟨rfl, zp_75, zn_75, zk_75, zo_75⟩ := zp75
    have zO75 := zO_0.tr zo_75
    have z9_75 := zk_75.trans z9_0
    first | refine b_if_eq (tgt := 102) C dX7_readsOrder_78 (by decide) (fun h_78 => ?_) (fun h_78 => ?_) | refine n_if_eq (tgt := 102) C dX7_readsOrder_78 (by decide) (by first | decide | omega) (fun h_78 => ?_) (fun h_78 => ?_) | refine a_if_eq (tgt := 102) C dX7_readsOrder_78 (by decide) (fun h_78 => ?_) (fun h_78 => ?_)
    · refine a_iconst (v := nI 0) C dX7_readsOrder_102 (by decide) ?_
      refine f_iret C hr ?_ dX7_readsOrder_103 ?_
      · first | exact bI_narrow _ | rfl
      · first | exact PO7_f (rdC t ln 4 (p + 1) 0).2.1 (by rw [zr_0, rdT_0 h_78]) (by rw [zr_0, rdT_0 h_78]) zp_75 zO75 | exact PO7_f (rdC t ln 4 (p + 1) 0).2.1 (by rw [zr_0, rdT_1 h_78 h_87]) (by rw [zr_0, rdT_1 h_78 h_87]) zp_84 zO84 | exact PO7_f ((rdC t ln 4 (p + 1) 0).2.1 + 1) (by rw [zr_0, rdT_2 h_78 h_87 h_95]) (by rw [zr_0, rdT_2 h_78 h_87 h_95]) zp_92 zO92 | exact PO7_t 99 (rdC t ln 4 (p + 1) 0).2.2 (t ((rdC t ln 4 (p + 1) 0).2.1 + 1) - 48) (by rw [zr_0, rdT_3 h_78 h_87 h_95]) (by rw [zr_0, rdT_3 h_78 h_87 h_95]) (by rw [zr_0, rdT_3 h_78 h_87 h_95]; exact zp_92) ((zk_92 9 (by decide) (by decide)).trans ((zk_84 9 (by decide)).trans z9_75)) ((zk_92 10 (by decide) (by decide)).trans ((zk_84 10 (by decide)).trans zn_75)) (fun _ => zn_92) zO92
    · have zn_75 := zn_75 h_78
      refine a_aload_n C dX7_readsOrder_81 rfl rfl ?_
      refine a_bipush (v := nI 64) C dX7_readsOrder_82 (by decide) ?_
      refine f_callV C _ _ (K_X7_takes (a := 64) (hT.ot zO75) zp_75 ((rdC_le 4 (p + 1) 0 (show p + 1 ≤ ln by omega)).1) (by decide)) vX7_181 (by first | decide | omega) rfl rfl dX7_readsOrder_84 rfl (Nat.le_of_ble_eq_true rfl) ⟨by decide, by decide⟩ (fun zr84 zw84 zp84 => ?_)
      obtain ⟨rfl, zp_84, zk_84, zo_84⟩ := zp84
      have zO84 := zO75.tr zo_84
      first | refine b_if_eq (tgt := 102) C dX7_readsOrder_87 (by decide) (fun h_87 => ?_) (fun h_87 => ?_) | refine n_if_eq (tgt := 102) C dX7_readsOrder_87 (by decide) (by first | decide | omega) (fun h_87 => ?_) (fun h_87 => ?_) | refine a_if_eq (tgt := 102) C dX7_readsOrder_87 (by decide) (fun h_87 => ?_) (fun h_87 => ?_)
      · rw [h_87] at zp_84
        have zp_84 : zw84.1 204 8 = nI (rdC t ln 4 (p + 1) 0).2.1 := zp_84
        refine a_iconst (v := nI 0) C dX7_readsOrder_102 (by decide) ?_
        refine f_iret C hr ?_ dX7_readsOrder_103 ?_
        · first | exact bI_narrow _ | rfl
        · first | exact PO7_f (rdC t ln 4 (p + 1) 0).2.1 (by rw [zr_0, rdT_0 h_78]) (by rw [zr_0, rdT_0 h_78]) zp_75 zO75 | exact PO7_f (rdC t ln 4 (p + 1) 0).2.1 (by rw [zr_0, rdT_1 h_78 h_87]) (by rw [zr_0, rdT_1 h_78 h_87]) zp_84 zO84 | exact PO7_f ((rdC t ln 4 (p + 1) 0).2.1 + 1) (by rw [zr_0, rdT_2 h_78 h_87 h_95]) (by rw [zr_0, rdT_2 h_78 h_87 h_95]) zp_92 zO92 | exact PO7_t 99 (rdC t ln 4 (p + 1) 0).2.2 (t ((rdC t ln 4 (p + 1) 0).2.1 + 1) - 48) (by rw [zr_0, rdT_3 h_78 h_87 h_95]) (by rw [zr_0, rdT_3 h_78 h_87 h_95]) (by rw [zr_0, rdT_3 h_78 h_87 h_95]; exact zp_92) ((zk_92 9 (by decide) (by decide)).trans ((zk_84 9 (by decide)).trans z9_75)) ((zk_92 10 (by decide) (by decide)).trans ((zk_84 10 (by decide)).trans zn_75)) (fun _ => zn_92) zO92
      · rw [h_87] at zp_84
        have zp_84 : zw84.1 204 8 = nI ((rdC t ln 4 (p + 1) 0).2.1 + 1) := zp_84
        have zs_84 := isB_at h_87
        refine a_aload_n C dX7_readsOrder_90 rfl rfl ?_
        refine a_iconst (v := nI 3) C dX7_readsOrder_91 (by decide) ?_
        refine f_callV C _ _ (K_X7_readsDigit (a := 3) (hT.ot zO84) zp_84 (by omega) (by decide)) vX7_171 (by first | decide | omega) rfl rfl dX7_readsOrder_92 rfl (Nat.le_of_ble_eq_true rfl) ⟨by decide, by decide⟩ (fun zr92 zw92 zp92 => ?_)
        obtain ⟨rfl, zp_92, zn_92, zk_92, zo_92⟩ := zp92
        have zO92 := zO84.tr zo_92
        first | refine b_if_eq (tgt := 102) C dX7_readsOrder_95 (by decide) (fun h_95 => ?_) (fun h_95 => ?_) | refine n_if_eq (tgt := 102) C dX7_readsOrder_95 (by decide) (by first | decide | omega) (fun h_95 => ?_) (fun h_95 => ?_) | refine a_if_eq (tgt := 102) C dX7_readsOrder_95 (by decide) (fun h_95 => ?_) (fun h_95 => ?_)
        · have h_95 : dgB t ln 4 ((rdC t ln 4 (p + 1) 0).2.1 + 1) = false := h_95
          rw [show dgB t ln (3 + 1) ((rdC t ln 4 (p + 1) 0).2.1 + 1) = false from h_95] at zp_92
          have zp_92 : zw92.1 204 8 = nI ((rdC t ln 4 (p + 1) 0).2.1 + 1) := zp_92
          refine a_iconst (v := nI 0) C dX7_readsOrder_102 (by decide) ?_
          refine f_iret C hr ?_ dX7_readsOrder_103 ?_
          · first | exact bI_narrow _ | rfl
          · first | exact PO7_f (rdC t ln 4 (p + 1) 0).2.1 (by rw [zr_0, rdT_0 h_78]) (by rw [zr_0, rdT_0 h_78]) zp_75 zO75 | exact PO7_f (rdC t ln 4 (p + 1) 0).2.1 (by rw [zr_0, rdT_1 h_78 h_87]) (by rw [zr_0, rdT_1 h_78 h_87]) zp_84 zO84 | exact PO7_f ((rdC t ln 4 (p + 1) 0).2.1 + 1) (by rw [zr_0, rdT_2 h_78 h_87 h_95]) (by rw [zr_0, rdT_2 h_78 h_87 h_95]) zp_92 zO92 | exact PO7_t 99 (rdC t ln 4 (p + 1) 0).2.2 (t ((rdC t ln 4 (p + 1) 0).2.1 + 1) - 48) (by rw [zr_0, rdT_3 h_78 h_87 h_95]) (by rw [zr_0, rdT_3 h_78 h_87 h_95]) (by rw [zr_0, rdT_3 h_78 h_87 h_95]; exact zp_92) ((zk_92 9 (by decide) (by decide)).trans ((zk_84 9 (by decide)).trans z9_75)) ((zk_92 10 (by decide) (by decide)).trans ((zk_84 10 (by decide)).trans zn_75)) (fun _ => zn_92) zO92
        · have h_95 : dgB t ln 4 ((rdC t ln 4 (p + 1) 0).2.1 + 1) = true := h_95
          rw [show dgB t ln (3 + 1) ((rdC t ln 4 (p + 1) 0).2.1 + 1) = true from h_95] at zp_92 zn_92
          have zp_92 : zw92.1 204 8 = nI ((rdC t ln 4 (p + 1) 0).2.1 + 2) := zp_92
          have zn_92 := zn_92 rfl
          refine a_iconst (v := nI 1) C dX7_readsOrder_98 (by decide) ?_
          refine a_goto (tgt := 103) C dX7_readsOrder_99 (by decide) ?_
          refine f_iret C hr ?_ dX7_readsOrder_103 ?_
          · first | exact bI_narrow _ | rfl
          · first | exact PO7_f (rdC t ln 4 (p + 1) 0).2.1 (by rw [zr_0, rdT_0 h_78]) (by rw [zr_0, rdT_0 h_78]) zp_75 zO75 | exact PO7_f (rdC t ln 4 (p + 1) 0).2.1 (by rw [zr_0, rdT_1 h_78 h_87]) (by rw [zr_0, rdT_1 h_78 h_87]) zp_84 zO84 | exact PO7_f ((rdC t ln 4 (p + 1) 0).2.1 + 1) (by rw [zr_0, rdT_2 h_78 h_87 h_95]) (by rw [zr_0, rdT_2 h_78 h_87 h_95]) zp_92 zO92 | exact PO7_t 99 (rdC t ln 4 (p + 1) 0).2.2 (t ((rdC t ln 4 (p + 1) 0).2.1 + 1) - 48) (by rw [zr_0, rdT_3 h_78 h_87 h_95]) (by rw [zr_0, rdT_3 h_78 h_87 h_95]) (by rw [zr_0, rdT_3 h_78 h_87 h_95]; exact zp_92) ((zk_92 9 (by decide) (by decide)).trans ((zk_84 9 (by decide)).trans z9_75)) ((zk_92 10 (by decide) (by decide)).trans ((zk_84 10 (by decide)).trans zn_75)) (fun _ => zn_92) zO92
  · rw [zl]
    refine a_lookup (x := nI 100) (off := 92) (tgt := 104) C dX7_readsOrder_12 (by decide) (by decide) (by decide) ?_
    refine a_aload_n C dX7_readsOrder_104 rfl rfl ?_
    refine a_dup C dX7_readsOrder_105 rfl ?_
    have zs_0 := isB_at (nx_t (show 0 < 100 by decide) zl)
    have zr_0 := rdO_d (nx_t (show 0 < 100 by decide) zl)
    have zO_0 : O7 w (wSet (wSet w 204 9 (nI 100)) 204 8 (nI (p + 1))) := (O7_refl.set (by decide)).set (by decide)
    have z9_0 : (wSet (wSet w 204 9 (nI 100)) 204 8 (nI (p + 1))).1 204 9 = nI 100 := (wSet_ne (by decide)).trans wSet_at
    refine a_getf C fX7_158 dX7_readsOrder_106 (show _ < 219 from (by first | decide | omega)) (by first | decide | omega) rfl (gl ((wSet_ne (by decide)).trans hp)) ?_
    refine a_iconst (v := nI 1) C dX7_readsOrder_109 (by decide) ?_
    first | refine n_iadd C dX7_readsOrder_110 ?_ | refine a_iadd C dX7_readsOrder_110 ?_
    refine f_putf C fX7_158 dX7_readsOrder_111 (by first | decide | omega) rfl rfl rfl (Nat.le_of_ble_eq_true rfl) rfl ?_
    refine a_aload_n C dX7_readsOrder_114 rfl rfl ?_
    refine f_callV C _ _ (K_X7_readsKey (hT.ot zO_0) wSet_at (show p + 1 ≤ ln by omega)) vX7_184 (by first | decide | omega) rfl rfl dX7_readsOrder_115 rfl (Nat.le_of_ble_eq_true rfl) ⟨by decide, by decide⟩ (fun zr115 zw115 zp115 => ?_)
    obtain ⟨rfl, zp_115, zn_115, zk_115, zo_115⟩ := zp115
    have zO115 := zO_0.tr zo_115
    have z9_115 := zk_115.trans z9_0
    first | refine b_if_eq (tgt := 142) C dX7_readsOrder_118 (by decide) (fun h_118 => ?_) (fun h_118 => ?_) | refine n_if_eq (tgt := 142) C dX7_readsOrder_118 (by decide) (by first | decide | omega) (fun h_118 => ?_) (fun h_118 => ?_) | refine a_if_eq (tgt := 142) C dX7_readsOrder_118 (by decide) (fun h_118 => ?_) (fun h_118 => ?_)
    · refine a_iconst (v := nI 0) C dX7_readsOrder_142 (by decide) ?_
      refine f_iret C hr ?_ dX7_readsOrder_143 ?_
      · first | exact bI_narrow _ | rfl
      · first | exact PO7_f (rdK t ln (p + 1)).2.1 (by rw [zr_0, rdT_0 h_118]) (by rw [zr_0, rdT_0 h_118]) zp_115 zO115 | exact PO7_f (rdK t ln (p + 1)).2.1 (by rw [zr_0, rdT_1 h_118 h_127]) (by rw [zr_0, rdT_1 h_118 h_127]) zp_124 zO124 | exact PO7_f ((rdK t ln (p + 1)).2.1 + 1) (by rw [zr_0, rdT_2 h_118 h_127 h_135]) (by rw [zr_0, rdT_2 h_118 h_127 h_135]) zp_132 zO132 | exact PO7_t 100 (rdK t ln (p + 1)).2.2 (t ((rdK t ln (p + 1)).2.1 + 1) - 48) (by rw [zr_0, rdT_3 h_118 h_127 h_135]) (by rw [zr_0, rdT_3 h_118 h_127 h_135]) (by rw [zr_0, rdT_3 h_118 h_127 h_135]; exact zp_132) ((zk_132 9 (by decide) (by decide)).trans ((zk_124 9 (by decide)).trans z9_115)) ((zk_132 10 (by decide) (by decide)).trans ((zk_124 10 (by decide)).trans zn_115)) (fun _ => zn_132) zO132
    · have zn_115 := zn_115 h_118
      refine a_aload_n C dX7_readsOrder_121 rfl rfl ?_
      refine a_bipush (v := nI 44) C dX7_readsOrder_122 (by decide) ?_
      refine f_callV C _ _ (K_X7_takes (a := 44) (hT.ot zO115) zp_115 ((rdK_le (show p + 1 ≤ ln by omega)).1) (by decide)) vX7_181 (by first | decide | omega) rfl rfl dX7_readsOrder_124 rfl (Nat.le_of_ble_eq_true rfl) ⟨by decide, by decide⟩ (fun zr124 zw124 zp124 => ?_)
      obtain ⟨rfl, zp_124, zk_124, zo_124⟩ := zp124
      have zO124 := zO115.tr zo_124
      first | refine b_if_eq (tgt := 142) C dX7_readsOrder_127 (by decide) (fun h_127 => ?_) (fun h_127 => ?_) | refine n_if_eq (tgt := 142) C dX7_readsOrder_127 (by decide) (by first | decide | omega) (fun h_127 => ?_) (fun h_127 => ?_) | refine a_if_eq (tgt := 142) C dX7_readsOrder_127 (by decide) (fun h_127 => ?_) (fun h_127 => ?_)
      · rw [h_127] at zp_124
        have zp_124 : zw124.1 204 8 = nI (rdK t ln (p + 1)).2.1 := zp_124
        refine a_iconst (v := nI 0) C dX7_readsOrder_142 (by decide) ?_
        refine f_iret C hr ?_ dX7_readsOrder_143 ?_
        · first | exact bI_narrow _ | rfl
        · first | exact PO7_f (rdK t ln (p + 1)).2.1 (by rw [zr_0, rdT_0 h_118]) (by rw [zr_0, rdT_0 h_118]) zp_115 zO115 | exact PO7_f (rdK t ln (p + 1)).2.1 (by rw [zr_0, rdT_1 h_118 h_127]) (by rw [zr_0, rdT_1 h_118 h_127]) zp_124 zO124 | exact PO7_f ((rdK t ln (p + 1)).2.1 + 1) (by rw [zr_0, rdT_2 h_118 h_127 h_135]) (by rw [zr_0, rdT_2 h_118 h_127 h_135]) zp_132 zO132 | exact PO7_t 100 (rdK t ln (p + 1)).2.2 (t ((rdK t ln (p + 1)).2.1 + 1) - 48) (by rw [zr_0, rdT_3 h_118 h_127 h_135]) (by rw [zr_0, rdT_3 h_118 h_127 h_135]) (by rw [zr_0, rdT_3 h_118 h_127 h_135]; exact zp_132) ((zk_132 9 (by decide) (by decide)).trans ((zk_124 9 (by decide)).trans z9_115)) ((zk_132 10 (by decide) (by decide)).trans ((zk_124 10 (by decide)).trans zn_115)) (fun _ => zn_132) zO132
      · rw [h_127] at zp_124
        have zp_124 : zw124.1 204 8 = nI ((rdK t ln (p + 1)).2.1 + 1) := zp_124
        have zs_124 := isB_at h_127
        refine a_aload_n C dX7_readsOrder_130 rfl rfl ?_
        refine a_iconst (v := nI 3) C dX7_readsOrder_131 (by decide) ?_
        refine f_callV C _ _ (K_X7_readsDigit (a := 3) (hT.ot zO124) zp_124 (by omega) (by decide)) vX7_171 (by first | decide | omega) rfl rfl dX7_readsOrder_132 rfl (Nat.le_of_ble_eq_true rfl) ⟨by decide, by decide⟩ (fun zr132 zw132 zp132 => ?_)
        obtain ⟨rfl, zp_132, zn_132, zk_132, zo_132⟩ := zp132
        have zO132 := zO124.tr zo_132
        first | refine b_if_eq (tgt := 142) C dX7_readsOrder_135 (by decide) (fun h_135 => ?_) (fun h_135 => ?_) | refine n_if_eq (tgt := 142) C dX7_readsOrder_135 (by decide) (by first | decide | omega) (fun h_135 => ?_) (fun h_135 => ?_) | refine a_if_eq (tgt := 142) C dX7_readsOrder_135 (by decide) (fun h_135 => ?_) (fun h_135 => ?_)
        · have h_135 : dgB t ln 4 ((rdK t ln (p + 1)).2.1 + 1) = false := h_135
          rw [show dgB t ln (3 + 1) ((rdK t ln (p + 1)).2.1 + 1) = false from h_135] at zp_132
          have zp_132 : zw132.1 204 8 = nI ((rdK t ln (p + 1)).2.1 + 1) := zp_132
          refine a_iconst (v := nI 0) C dX7_readsOrder_142 (by decide) ?_
          refine f_iret C hr ?_ dX7_readsOrder_143 ?_
          · first | exact bI_narrow _ | rfl
          · first | exact PO7_f (rdK t ln (p + 1)).2.1 (by rw [zr_0, rdT_0 h_118]) (by rw [zr_0, rdT_0 h_118]) zp_115 zO115 | exact PO7_f (rdK t ln (p + 1)).2.1 (by rw [zr_0, rdT_1 h_118 h_127]) (by rw [zr_0, rdT_1 h_118 h_127]) zp_124 zO124 | exact PO7_f ((rdK t ln (p + 1)).2.1 + 1) (by rw [zr_0, rdT_2 h_118 h_127 h_135]) (by rw [zr_0, rdT_2 h_118 h_127 h_135]) zp_132 zO132 | exact PO7_t 100 (rdK t ln (p + 1)).2.2 (t ((rdK t ln (p + 1)).2.1 + 1) - 48) (by rw [zr_0, rdT_3 h_118 h_127 h_135]) (by rw [zr_0, rdT_3 h_118 h_127 h_135]) (by rw [zr_0, rdT_3 h_118 h_127 h_135]; exact zp_132) ((zk_132 9 (by decide) (by decide)).trans ((zk_124 9 (by decide)).trans z9_115)) ((zk_132 10 (by decide) (by decide)).trans ((zk_124 10 (by decide)).trans zn_115)) (fun _ => zn_132) zO132
        · have h_135 : dgB t ln 4 ((rdK t ln (p + 1)).2.1 + 1) = true := h_135
          rw [show dgB t ln (3 + 1) ((rdK t ln (p + 1)).2.1 + 1) = true from h_135] at zp_132 zn_132
          have zp_132 : zw132.1 204 8 = nI ((rdK t ln (p + 1)).2.1 + 2) := zp_132
          have zn_132 := zn_132 rfl
          refine a_iconst (v := nI 1) C dX7_readsOrder_138 (by decide) ?_
          refine a_goto (tgt := 143) C dX7_readsOrder_139 (by decide) ?_
          refine f_iret C hr ?_ dX7_readsOrder_143 ?_
          · first | exact bI_narrow _ | rfl
          · first | exact PO7_f (rdK t ln (p + 1)).2.1 (by rw [zr_0, rdT_0 h_118]) (by rw [zr_0, rdT_0 h_118]) zp_115 zO115 | exact PO7_f (rdK t ln (p + 1)).2.1 (by rw [zr_0, rdT_1 h_118 h_127]) (by rw [zr_0, rdT_1 h_118 h_127]) zp_124 zO124 | exact PO7_f ((rdK t ln (p + 1)).2.1 + 1) (by rw [zr_0, rdT_2 h_118 h_127 h_135]) (by rw [zr_0, rdT_2 h_118 h_127 h_135]) zp_132 zO132 | exact PO7_t 100 (rdK t ln (p + 1)).2.2 (t ((rdK t ln (p + 1)).2.1 + 1) - 48) (by rw [zr_0, rdT_3 h_118 h_127 h_135]) (by rw [zr_0, rdT_3 h_118 h_127 h_135]) (by rw [zr_0, rdT_3 h_118 h_127 h_135]; exact zp_132) ((zk_132 9 (by decide) (by decide)).trans ((zk_124 9 (by decide)).trans z9_115)) ((zk_132 10 (by decide) (by decide)).trans ((zk_124 10 (by decide)).trans zn_115)) (fun _ => zn_132) zO132
  · rw [zl]
    refine a_lookup (x := nI 116) (off := 132) (tgt := 144) C dX7_readsOrder_12 (by decide) (by decide) (by decide) ?_
    refine a_aload_n C dX7_readsOrder_144 rfl rfl ?_
    refine a_dup C dX7_readsOrder_145 rfl ?_
    have zs_0 := isB_at (nx_t (show 0 < 116 by decide) zl)
    have zr_0 := rdO_t (nx_t (show 0 < 116 by decide) zl)
    have zO_0 : O7 w (wSet (wSet w 204 9 (nI 116)) 204 8 (nI (p + 1))) := (O7_refl.set (by decide)).set (by decide)
    have z9_0 : (wSet (wSet w 204 9 (nI 116)) 204 8 (nI (p + 1))).1 204 9 = nI 116 := (wSet_ne (by decide)).trans wSet_at
    refine a_getf C fX7_158 dX7_readsOrder_146 (show _ < 219 from (by first | decide | omega)) (by first | decide | omega) rfl (gl ((wSet_ne (by decide)).trans hp)) ?_
    refine a_iconst (v := nI 1) C dX7_readsOrder_149 (by decide) ?_
    first | refine n_iadd C dX7_readsOrder_150 ?_ | refine a_iadd C dX7_readsOrder_150 ?_
    refine f_putf C fX7_158 dX7_readsOrder_151 (by first | decide | omega) rfl rfl rfl (Nat.le_of_ble_eq_true rfl) rfl ?_
    refine a_aload_n C dX7_readsOrder_154 rfl rfl ?_
    refine f_callV C _ _ (K_X7_readsKey (hT.ot zO_0) wSet_at (show p + 1 ≤ ln by omega)) vX7_184 (by first | decide | omega) rfl rfl dX7_readsOrder_155 rfl (Nat.le_of_ble_eq_true rfl) ⟨by decide, by decide⟩ (fun zr155 zw155 zp155 => ?_)
    obtain ⟨rfl, zp_155, zn_155, zk_155, zo_155⟩ := zp155
    have zO155 := zO_0.tr zo_155
    have z9_155 := zk_155.trans z9_0
    first | refine b_if_eq (tgt := 182) C dX7_readsOrder_158 (by decide) (fun h_158 => ?_) (fun h_158 => ?_) | refine n_if_eq (tgt := 182) C dX7_readsOrder_158 (by decide) (by first | decide | omega) (fun h_158 => ?_) (fun h_158 => ?_) | refine a_if_eq (tgt := 182) C dX7_readsOrder_158 (by decide) (fun h_158 => ?_) (fun h_158 => ?_)
    · refine a_iconst (v := nI 0) C dX7_readsOrder_182 (by decide) ?_
      refine f_iret C hr ?_ dX7_readsOrder_183 ?_
      · first | exact bI_narrow _ | rfl
      · first | exact PO7_f (rdK t ln (p + 1)).2.1 (by rw [zr_0, rdT_0 h_158]) (by rw [zr_0, rdT_0 h_158]) zp_155 zO155 | exact PO7_f (rdK t ln (p + 1)).2.1 (by rw [zr_0, rdT_1 h_158 h_167]) (by rw [zr_0, rdT_1 h_158 h_167]) zp_164 zO164 | exact PO7_f ((rdK t ln (p + 1)).2.1 + 1) (by rw [zr_0, rdT_2 h_158 h_167 h_175]) (by rw [zr_0, rdT_2 h_158 h_167 h_175]) zp_172 zO172 | exact PO7_t 116 (rdK t ln (p + 1)).2.2 (t ((rdK t ln (p + 1)).2.1 + 1) - 48) (by rw [zr_0, rdT_3 h_158 h_167 h_175]) (by rw [zr_0, rdT_3 h_158 h_167 h_175]) (by rw [zr_0, rdT_3 h_158 h_167 h_175]; exact zp_172) ((zk_172 9 (by decide) (by decide)).trans ((zk_164 9 (by decide)).trans z9_155)) ((zk_172 10 (by decide) (by decide)).trans ((zk_164 10 (by decide)).trans zn_155)) (fun _ => zn_172) zO172
    · have zn_155 := zn_155 h_158
      refine a_aload_n C dX7_readsOrder_161 rfl rfl ?_
      refine a_bipush (v := nI 44) C dX7_readsOrder_162 (by decide) ?_
      refine f_callV C _ _ (K_X7_takes (a := 44) (hT.ot zO155) zp_155 ((rdK_le (show p + 1 ≤ ln by omega)).1) (by decide)) vX7_181 (by first | decide | omega) rfl rfl dX7_readsOrder_164 rfl (Nat.le_of_ble_eq_true rfl) ⟨by decide, by decide⟩ (fun zr164 zw164 zp164 => ?_)
      obtain ⟨rfl, zp_164, zk_164, zo_164⟩ := zp164
      have zO164 := zO155.tr zo_164
      first | refine b_if_eq (tgt := 182) C dX7_readsOrder_167 (by decide) (fun h_167 => ?_) (fun h_167 => ?_) | refine n_if_eq (tgt := 182) C dX7_readsOrder_167 (by decide) (by first | decide | omega) (fun h_167 => ?_) (fun h_167 => ?_) | refine a_if_eq (tgt := 182) C dX7_readsOrder_167 (by decide) (fun h_167 => ?_) (fun h_167 => ?_)
      · rw [h_167] at zp_164
        have zp_164 : zw164.1 204 8 = nI (rdK t ln (p + 1)).2.1 := zp_164
        refine a_iconst (v := nI 0) C dX7_readsOrder_182 (by decide) ?_
        refine f_iret C hr ?_ dX7_readsOrder_183 ?_
        · first | exact bI_narrow _ | rfl
        · first | exact PO7_f (rdK t ln (p + 1)).2.1 (by rw [zr_0, rdT_0 h_158]) (by rw [zr_0, rdT_0 h_158]) zp_155 zO155 | exact PO7_f (rdK t ln (p + 1)).2.1 (by rw [zr_0, rdT_1 h_158 h_167]) (by rw [zr_0, rdT_1 h_158 h_167]) zp_164 zO164 | exact PO7_f ((rdK t ln (p + 1)).2.1 + 1) (by rw [zr_0, rdT_2 h_158 h_167 h_175]) (by rw [zr_0, rdT_2 h_158 h_167 h_175]) zp_172 zO172 | exact PO7_t 116 (rdK t ln (p + 1)).2.2 (t ((rdK t ln (p + 1)).2.1 + 1) - 48) (by rw [zr_0, rdT_3 h_158 h_167 h_175]) (by rw [zr_0, rdT_3 h_158 h_167 h_175]) (by rw [zr_0, rdT_3 h_158 h_167 h_175]; exact zp_172) ((zk_172 9 (by decide) (by decide)).trans ((zk_164 9 (by decide)).trans z9_155)) ((zk_172 10 (by decide) (by decide)).trans ((zk_164 10 (by decide)).trans zn_155)) (fun _ => zn_172) zO172
      · rw [h_167] at zp_164
        have zp_164 : zw164.1 204 8 = nI ((rdK t ln (p + 1)).2.1 + 1) := zp_164
        have zs_164 := isB_at h_167
        refine a_aload_n C dX7_readsOrder_170 rfl rfl ?_
        refine a_iconst (v := nI 5) C dX7_readsOrder_171 (by decide) ?_
        refine f_callV C _ _ (K_X7_readsDigit (a := 5) (hT.ot zO164) zp_164 (by omega) (by decide)) vX7_171 (by first | decide | omega) rfl rfl dX7_readsOrder_172 rfl (Nat.le_of_ble_eq_true rfl) ⟨by decide, by decide⟩ (fun zr172 zw172 zp172 => ?_)
        obtain ⟨rfl, zp_172, zn_172, zk_172, zo_172⟩ := zp172
        have zO172 := zO164.tr zo_172
        first | refine b_if_eq (tgt := 182) C dX7_readsOrder_175 (by decide) (fun h_175 => ?_) (fun h_175 => ?_) | refine n_if_eq (tgt := 182) C dX7_readsOrder_175 (by decide) (by first | decide | omega) (fun h_175 => ?_) (fun h_175 => ?_) | refine a_if_eq (tgt := 182) C dX7_readsOrder_175 (by decide) (fun h_175 => ?_) (fun h_175 => ?_)
        · have h_175 : dgB t ln 6 ((rdK t ln (p + 1)).2.1 + 1) = false := h_175
          rw [show dgB t ln (5 + 1) ((rdK t ln (p + 1)).2.1 + 1) = false from h_175] at zp_172
          have zp_172 : zw172.1 204 8 = nI ((rdK t ln (p + 1)).2.1 + 1) := zp_172
          refine a_iconst (v := nI 0) C dX7_readsOrder_182 (by decide) ?_
          refine f_iret C hr ?_ dX7_readsOrder_183 ?_
          · first | exact bI_narrow _ | rfl
          · first | exact PO7_f (rdK t ln (p + 1)).2.1 (by rw [zr_0, rdT_0 h_158]) (by rw [zr_0, rdT_0 h_158]) zp_155 zO155 | exact PO7_f (rdK t ln (p + 1)).2.1 (by rw [zr_0, rdT_1 h_158 h_167]) (by rw [zr_0, rdT_1 h_158 h_167]) zp_164 zO164 | exact PO7_f ((rdK t ln (p + 1)).2.1 + 1) (by rw [zr_0, rdT_2 h_158 h_167 h_175]) (by rw [zr_0, rdT_2 h_158 h_167 h_175]) zp_172 zO172 | exact PO7_t 116 (rdK t ln (p + 1)).2.2 (t ((rdK t ln (p + 1)).2.1 + 1) - 48) (by rw [zr_0, rdT_3 h_158 h_167 h_175]) (by rw [zr_0, rdT_3 h_158 h_167 h_175]) (by rw [zr_0, rdT_3 h_158 h_167 h_175]; exact zp_172) ((zk_172 9 (by decide) (by decide)).trans ((zk_164 9 (by decide)).trans z9_155)) ((zk_172 10 (by decide) (by decide)).trans ((zk_164 10 (by decide)).trans zn_155)) (fun _ => zn_172) zO172
        · have h_175 : dgB t ln 6 ((rdK t ln (p + 1)).2.1 + 1) = true := h_175
          rw [show dgB t ln (5 + 1) ((rdK t ln (p + 1)).2.1 + 1) = true from h_175] at zp_172 zn_172
          have zp_172 : zw172.1 204 8 = nI ((rdK t ln (p + 1)).2.1 + 2) := zp_172
          have zn_172 := zn_172 rfl
          refine a_iconst (v := nI 1) C dX7_readsOrder_178 (by decide) ?_
          refine a_goto (tgt := 183) C dX7_readsOrder_179 (by decide) ?_
          refine f_iret C hr ?_ dX7_readsOrder_183 ?_
          · first | exact bI_narrow _ | rfl
          · first | exact PO7_f (rdK t ln (p + 1)).2.1 (by rw [zr_0, rdT_0 h_158]) (by rw [zr_0, rdT_0 h_158]) zp_155 zO155 | exact PO7_f (rdK t ln (p + 1)).2.1 (by rw [zr_0, rdT_1 h_158 h_167]) (by rw [zr_0, rdT_1 h_158 h_167]) zp_164 zO164 | exact PO7_f ((rdK t ln (p + 1)).2.1 + 1) (by rw [zr_0, rdT_2 h_158 h_167 h_175]) (by rw [zr_0, rdT_2 h_158 h_167 h_175]) zp_172 zO172 | exact PO7_t 116 (rdK t ln (p + 1)).2.2 (t ((rdK t ln (p + 1)).2.1 + 1) - 48) (by rw [zr_0, rdT_3 h_158 h_167 h_175]) (by rw [zr_0, rdT_3 h_158 h_167 h_175]) (by rw [zr_0, rdT_3 h_158 h_167 h_175]; exact zp_172) ((zk_172 9 (by decide) (by decide)).trans ((zk_164 9 (by decide)).trans z9_155)) ((zk_172 10 (by decide) (by decide)).trans ((zk_164 10 (by decide)).trans zn_155)) (fun _ => zn_172) zO172
  · rw [zl]
    refine a_lookup (x := nI 108) (off := 172) (tgt := 184) C dX7_readsOrder_12 (by decide) (by decide) (by decide) ?_
    refine a_aload_n C dX7_readsOrder_184 rfl rfl ?_
    refine a_dup C dX7_readsOrder_185 rfl ?_
    first | have zs_0 := isB_at (nx_t (show 0 < 108 by decide) zl) | have zs_0 := isB_at (nx_t (show 0 < 102 by decide) zl)
    have zr_0 := (show True from trivial)
    refine a_getf C fX7_158 dX7_readsOrder_186 (show _ < 219 from (by first | decide | omega)) (by first | decide | omega) rfl (gl ((wSet_ne (by decide)).trans hp)) ?_
    refine a_iconst (v := nI 1) C dX7_readsOrder_189 (by decide) ?_
    first | refine n_iadd C dX7_readsOrder_190 ?_ | refine a_iadd C dX7_readsOrder_190 ?_
    refine f_putf C fX7_158 dX7_readsOrder_191 (by first | decide | omega) rfl rfl rfl (Nat.le_of_ble_eq_true rfl) rfl ?_
    refine a_aload_n C dX7_readsOrder_194 rfl rfl ?_
    refine f_callV C _ _ (K_X7_readsKey (hT.ot ((O7_refl.set (j := 9) (by decide)).set (j := 8) (by decide))) wSet_at (show p + 1 ≤ ln by omega)) vX7_184 (by first | decide | omega) rfl rfl dX7_readsOrder_195 rfl (Nat.le_of_ble_eq_true rfl) ⟨by decide, by decide⟩ (fun zr195 zw195 zp195 => ?_)
    obtain ⟨rfl, zp_195, zn_195, zk_195, zo_195⟩ := zp195
    have zO195 := ((O7_refl.set (by decide)).set (by decide)).tr zo_195
    have z9_195 := zk_195.trans ((wSet_ne (by decide)).trans wSet_at)
    refine f_iret C hr ?_ dX7_readsOrder_198 ?_
    · exact bI_narrow _
    · first | (rw [rdO_l (nx_t (show 0 < 108 by decide) zl)]; exact ⟨rfl, zp_195, fun z => ⟨z9_195, zn_195 z, fun y => by have : (108 : Nat) = 99 ∨ (108 : Nat) = 100 ∨ (108 : Nat) = 116 := y; omega⟩, zO195⟩) | (rw [rdO_f (nx_t (show 0 < 102 by decide) zl)]; exact ⟨rfl, zp_195, fun z => ⟨z9_195, zn_195 z, fun y => by have : (102 : Nat) = 99 ∨ (102 : Nat) = 100 ∨ (102 : Nat) = 116 := y; omega⟩, zO195⟩)
  · rw [zl]
    refine a_lookup (x := nI 102) (off := 172) (tgt := 184) C dX7_readsOrder_12 (by decide) (by decide) (by decide) ?_
    refine a_aload_n C dX7_readsOrder_184 rfl rfl ?_
    refine a_dup C dX7_readsOrder_185 rfl ?_
    first | have zs_0 := isB_at (nx_t (show 0 < 108 by decide) zl) | have zs_0 := isB_at (nx_t (show 0 < 102 by decide) zl)
    have zr_0 := (show True from trivial)
    refine a_getf C fX7_158 dX7_readsOrder_186 (show _ < 219 from (by first | decide | omega)) (by first | decide | omega) rfl (gl ((wSet_ne (by decide)).trans hp)) ?_
    refine a_iconst (v := nI 1) C dX7_readsOrder_189 (by decide) ?_
    first | refine n_iadd C dX7_readsOrder_190 ?_ | refine a_iadd C dX7_readsOrder_190 ?_
    refine f_putf C fX7_158 dX7_readsOrder_191 (by first | decide | omega) rfl rfl rfl (Nat.le_of_ble_eq_true rfl) rfl ?_
    refine a_aload_n C dX7_readsOrder_194 rfl rfl ?_
    refine f_callV C _ _ (K_X7_readsKey (hT.ot ((O7_refl.set (j := 9) (by decide)).set (j := 8) (by decide))) wSet_at (show p + 1 ≤ ln by omega)) vX7_184 (by first | decide | omega) rfl rfl dX7_readsOrder_195 rfl (Nat.le_of_ble_eq_true rfl) ⟨by decide, by decide⟩ (fun zr195 zw195 zp195 => ?_)
    obtain ⟨rfl, zp_195, zn_195, zk_195, zo_195⟩ := zp195
    have zO195 := ((O7_refl.set (by decide)).set (by decide)).tr zo_195
    have z9_195 := zk_195.trans ((wSet_ne (by decide)).trans wSet_at)
    refine f_iret C hr ?_ dX7_readsOrder_198 ?_
    · exact bI_narrow _
    · first | (rw [rdO_l (nx_t (show 0 < 108 by decide) zl)]; exact ⟨rfl, zp_195, fun z => ⟨z9_195, zn_195 z, fun y => by have : (108 : Nat) = 99 ∨ (108 : Nat) = 100 ∨ (108 : Nat) = 116 := y; omega⟩, zO195⟩) | (rw [rdO_f (nx_t (show 0 < 102 by decide) zl)]; exact ⟨rfl, zp_195, fun z => ⟨z9_195, zn_195 z, fun y => by have : (102 : Nat) = 99 ∨ (102 : Nat) = 100 ∨ (102 : Nat) = 116 := y; omega⟩, zO195⟩)
  · have zr_n := rdO_n (nx_f zl.1) (nx_f zl.2.1) (nx_f zl.2.2.1) (nx_f zl.2.2.2.1) (nx_f zl.2.2.2.2)
    refine a_lookup (x := nI (nxN t ln p)) (off := 187) (tgt := 199) C dX7_readsOrder_12 (by decide) (nx_df zq_n zl) (by decide) ?_
    refine a_iconst (v := nI 0) C dX7_readsOrder_199 (by decide) ?_
    refine f_iret C hr ?_ dX7_readsOrder_200 ?_
    · first | exact bI_narrow _ | rfl
    · exact PO7_f p (by rw [zr_n]) (by rw [zr_n]) ((wSet_ne (by decide)).trans hp) (O7_refl.set (by decide))

def PA7 (w : Wd) (q : Bool × Nat) : Option Value → Wd → Prop := fun r w' => r = some (.int (if q.1 = true then -1 else nI q.2)) ∧ w'.1 204 8 = nI q.2 ∧ O7 w w'
set_option maxRecDepth 20000 in
set_option maxHeartbeats 4000000 in
theorem K_X7_findError {w : Wd} {t : Nat → Nat} {ln : Nat} (hT : Tm w t ln)  : CF yX7_findError cX7_findError 1 (some .int) 4 86 [.ref 204] w (PA7 w (rdA t ln 60 0)) := by
  have zq_l := hT.2.1
  refine CF.of ok_X7_findError (Nat.le_of_ble_eq_true rfl) (fun ex us G9 p9 l9 e9 s9 m9 ar9 be9 me9 co9 C hr => ?_)
  have ZL5 : ∀ (zd5 : Nat) (n q : Nat) (z : Wd), n < zd5 → ln < q + 2 * n → z.1 204 8 = nI q → q ≤ ln → rdA t ln n q = rdA t ln 60 0 → O7 w z → WA G9 p9 l9 e9 (RM 4 86) s9 m9 ar9 be9 me9 co9 (QF G9 be9 ar9 s9 w ex us (PA7 w (rdA t ln 60 0))) 1 (219 + ex) us 5 [some (.ref 204)] [] (fzM z ex us) := by
    intro zd5
    induction zd5 with
    | zero => intro n q z zm5 zh_n zh_p zh_l zh_e zh_o; exfalso; omega
    | succ zd5 zih5 =>
      intro n q z zm5 zh_n zh_p zh_l zh_e zh_o
      refine a_aload_n C dX7_findError_5 rfl rfl ?_
      refine f_callV C _ _ (K_X7_readsOrder (hT.ot zh_o) zh_p zh_l) vX7_187 (by first | decide | omega) rfl rfl dX7_findError_6 rfl (Nat.le_of_ble_eq_true rfl) ⟨by decide, by decide⟩ (fun zr6 zw6 zp6 => ?_)
      obtain ⟨rfl, zp_6, zn_6, zo_6⟩ := zp6
      have zO6 := zh_o.tr zo_6
      have zq_q := rdO_le (t := t) zh_l
      first | refine b_if_eq (tgt := 39) C dX7_findError_9 (by decide) (fun h_9 => ?_) (fun h_9 => ?_) | refine n_if_eq (tgt := 39) C dX7_findError_9 (by decide) (by first | decide | omega) (fun h_9 => ?_) (fun h_9 => ?_) | refine a_if_eq (tgt := 39) C dX7_findError_9 (by decide) (fun h_9 => ?_) (fun h_9 => ?_)
      · refine a_aload_n C dX7_findError_39 rfl rfl ?_
        refine a_getf C fX7_158 dX7_findError_40 (show _ < 219 from (by first | decide | omega)) (by first | decide | omega) rfl (gl zp_6) ?_
        refine f_iret C hr ?_ dX7_findError_43 ?_
        · rfl
        · rw [← zh_e, show n = (n - 1) + 1 by omega, rdA_0 h_9]
          exact ⟨rfl, zp_6, zO6⟩
      · have zq_q2 := zq_q.2 h_9
        refine a_aload_n C dX7_findError_12 rfl rfl ?_
        refine a_getf C fX7_158 dX7_findError_13 (show _ < 219 from (by first | decide | omega)) (by first | decide | omega) rfl (gl zp_6) ?_
        refine a_aload_n C dX7_findError_16 rfl rfl ?_
        refine a_getf C fX7_155 dX7_findError_17 (show _ < 219 from (by first | decide | omega)) (by first | decide | omega) rfl (gl (hT.ot zO6).1) ?_
        refine n_icmp_ne (tgt := 25) C dX7_findError_20 (by decide) (by first | decide | omega) (by first | decide | omega) (fun h_20 => ?_) (fun h_20 => ?_)
        · have zq_ne : ¬ (rdO t ln q).2.1 = ln := by omega
          refine a_aload_n C dX7_findError_25 rfl rfl ?_
          refine a_bipush (v := nI 59) C dX7_findError_26 (by decide) ?_
          refine f_callV C _ _ (K_X7_takes (a := 59) (hT.ot zO6) zp_6 zq_q.1 (by decide)) vX7_181 (by first | decide | omega) rfl rfl dX7_findError_28 rfl (Nat.le_of_ble_eq_true rfl) ⟨by decide, by decide⟩ (fun zr28 zw28 zp28 => ?_)
          obtain ⟨rfl, zp_28, zk_28, zo_28⟩ := zp28
          have zO28 := zO6.tr zo_28
          first | refine b_if_ne (tgt := 5) C dX7_findError_31 (by decide) (fun h_31 => ?_) (fun h_31 => ?_) | refine n_if_ne (tgt := 5) C dX7_findError_31 (by decide) (by first | decide | omega) (fun h_31 => ?_) (fun h_31 => ?_) | refine a_if_ne (tgt := 5) C dX7_findError_31 (by decide) (fun h_31 => ?_) (fun h_31 => ?_)
          · rw [h_31] at zp_28
            have zp_28 : zw28.1 204 8 = nI ((rdO t ln q).2.1 + 1) := zp_28
            refine a_join (aLe_s ?_ aLe_nil) rfl rfl (zih5 (n - 1) ((rdO t ln q).2.1 + 1) zw28 (by omega) (by omega) zp_28 (by have := isB_at h_31; omega) (by rw [← zh_e, show n = (n - 1) + 1 by omega, rdA_3 h_9 zq_ne h_31]; rfl) zO28)
            · first | with_reducible rfl | exact gl (by first | with_reducible rfl | (refine iF ?_; simp [h_9, h_20, (beq_eq_false_iff_ne.mpr h_20), (bne_iff_ne.mpr h_20), h_31]; done) | (refine iT ?_; simp [h_9, h_20, (beq_eq_false_iff_ne.mpr h_20), (bne_iff_ne.mpr h_20), h_31]; done) | (refine iB ?_; simp [h_9, h_20, (beq_eq_false_iff_ne.mpr h_20), (bne_iff_ne.mpr h_20), h_31]; done) | (simp [h_9, h_20, (beq_eq_false_iff_ne.mpr h_20), (bne_iff_ne.mpr h_20), h_31]; done) | (simp [h_9, h_20, (beq_eq_false_iff_ne.mpr h_20), (bne_iff_ne.mpr h_20), h_31]; omega) | omega)
          · rw [h_31] at zp_28
            have zp_28 : zw28.1 204 8 = nI (rdO t ln q).2.1 := zp_28
            refine a_aload_n C dX7_findError_34 rfl rfl ?_
            refine a_getf C fX7_158 dX7_findError_35 (show _ < 219 from (by first | decide | omega)) (by first | decide | omega) rfl (gl zp_28) ?_
            refine f_iret C hr ?_ dX7_findError_38 ?_
            · rfl
            · rw [← zh_e, show n = (n - 1) + 1 by omega, rdA_2 h_9 zq_ne h_31]
              exact ⟨rfl, zp_28, zO28⟩
        · have zq_e : (rdO t ln q).2.1 = ln := by omega
          refine a_iconst (v := (-1)) C dX7_findError_23 (by decide) ?_
          refine f_iret C hr ?_ dX7_findError_24 ?_
          · rfl
          · rw [← zh_e, show n = (n - 1) + 1 by omega, rdA_1 h_9 zq_e]
            exact ⟨rfl, by rw [zp_6, zq_e], zO6⟩
  refine a_aload_n C dX7_findError_0 rfl rfl ?_
  refine a_iconst (v := nI 0) C dX7_findError_1 (by decide) ?_
  refine f_putf C fX7_158 dX7_findError_2 (by first | decide | omega) rfl rfl rfl (Nat.le_of_ble_eq_true rfl) rfl ?_
  refine a_join (aLe_s ?_ aLe_nil) rfl rfl (ZL5 (60 + 1) 60 0 (wSet w 204 8 (nI 0)) (by omega) (by omega) wSet_at (by omega) rfl (O7_refl.set (by decide)))
  · first | with_reducible rfl | exact gl (by first | with_reducible rfl | (refine iF ?_; simp []; done) | (refine iT ?_; simp []; done) | (refine iB ?_; simp []; done) | (simp []; done) | (simp []; omega) | omega | rfl)

def O7t (w w' : Wd) : Prop := (∀ a, ¬ a = 204 → w'.1 a = w.1 a) ∧ (∀ j, 0 < j → (j < 8 ∨ 12 ≤ j) → w'.1 204 j = w.1 204 j) ∧ w'.2 = w.2
theorem rdA_pl {t : Nat → Nat} {ln : Nat} : ∀ (n p : Nat), p ≤ ln → (rdA t ln n p).2 ≤ ln ∧ ((rdA t ln n p).1 = true → (rdA t ln n p).2 = ln)
  | 0, p, h => ⟨h, fun z => by cases z⟩
  | n + 1, p, h => by
    have z := rdO_le (t := t) h
    cases e1 : (rdO t ln p).1 with
    | false => rw [rdA_0 e1]; exact ⟨z.1, fun z => by cases z⟩
    | true =>
      by_cases e2 : (rdO t ln p).2.1 = ln
      · rw [rdA_1 e1 e2]; exact ⟨Nat.le_refl _, fun _ => rfl⟩
      · cases e3 : chB t ln 59 (rdO t ln p).2.1 with
        | false => rw [rdA_2 e1 e2 e3]; exact ⟨z.1, fun z => by cases z⟩
        | true => rw [rdA_3 e1 e2 e3]; exact rdA_pl n _ (by have := isB_at e3; omega)
set_option maxRecDepth 20000 in
set_option maxHeartbeats 4000000 in
theorem K_X7_firstError {w : Wd} {t : Nat → Nat} {ln : Nat} (hT : Tm w t ln)  : CF yX7_firstError cX7_firstError 2 (some .int) 5 106 [.ref 204] w (fun r w' => r = some (.int (nI (rdA t ln 60 0).2)) ∧ w'.1 204 0 = nI 0 ∧ O7t w w') := by
  have zq_l := hT.2.1
  have zq_pl := rdA_pl (t := t) (ln := ln) 60 0 (Nat.zero_le _)
  refine CF.of ok_X7_firstError (Nat.le_of_ble_eq_true rfl) (fun ex us G9 p9 l9 e9 s9 m9 ar9 be9 me9 co9 C hr => ?_)
  refine a_pad 1 ?_
  refine a_eq (L' := [some (.ref 204), none]) rfl rfl rfl ?_
  refine a_aload_n C dX7_firstError_0 rfl rfl ?_
  refine a_iconst (v := nI 0) C dX7_firstError_1 (by decide) ?_
  refine f_putf C fX7_53 dX7_firstError_2 (by first | decide | omega) rfl rfl rfl (Nat.le_of_ble_eq_true rfl) rfl ?_
  refine a_aload_n C dX7_firstError_5 rfl rfl ?_
  refine f_callV C _ _ (K_X7_findError (w := wSet w 204 0 (nI 0)) (t := t) (ln := ln) hT) vX7_190 (by first | decide | omega) rfl rfl dX7_firstError_6 rfl (Nat.le_of_ble_eq_true rfl) ⟨by decide, by decide⟩ (fun zr6 zw6 zp6 => ?_)
  obtain ⟨rfl, zp_6, zo_6⟩ := zp6
  refine a_istore_n C dX7_firstError_9 rfl (by decide) ?_
  refine a_via 23 (nI (rdA t ln 60 0).2) ?_ (fun zJ23 => ?_)
  · refine f_iret C hr ?_ dX7_firstError_23 ?_
    · rfl
    · exact ⟨rfl, zo_6.2.1 0 (by decide), ⟨fun a ha => (zo_6.1 a ha).trans (wSet_th ha), fun j j0 hj => (zo_6.2.1 j hj).trans (wSet_ne (by omega)), zo_6.2.2⟩⟩
  · refine a_iload_n C dX7_firstError_10 rfl rfl ?_
    refine a_iconst (v := (-1)) C dX7_firstError_11 (by decide) ?_
    refine a_icmp_ne (tgt := 22) C dX7_firstError_12 (by decide) (fun h_12 => ?_) (fun h_12 => ?_)
    · have zq_b : (rdA t ln 60 0).1 = false := by
        cases e9 : (rdA t ln 60 0).1 with
        | false => rfl
        | true => rw [e9] at h_12; exact absurd rfl h_12
      refine a_iload_n C dX7_firstError_22 rfl rfl ?_
      refine a_eq rfl (gl1 ?_) rfl zJ23
      · first | (rw [zq_b]; rfl) | rw [zq_pl.2 zq_b]
    · have zq_b : (rdA t ln 60 0).1 = true := by
        cases e9 : (rdA t ln 60 0).1 with
        | true => rfl
        | false => rw [e9] at h_12; exact absurd h_12 (nI_m1 (by omega))
      refine a_aload_n C dX7_firstError_15 rfl rfl ?_
      refine a_getf C fX7_155 dX7_firstError_16 (show _ < 219 from (by first | decide | omega)) (by first | decide | omega) rfl (gl ((zo_6.2.1 7 (by decide)).trans hT.1)) ?_
      refine a_goto (tgt := 23) C dX7_firstError_19 (by decide) ?_
      refine a_eq rfl (gl1 ?_) rfl zJ23
      · first | (rw [zq_b]; rfl) | rw [zq_pl.2 zq_b]

end A30

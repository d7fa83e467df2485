section A29
/-! ### the class's reader -/
/-- only what was read is changed -/
def OT (w w' : Wd) : Prop := (∀ a, ¬ a = 1 → w'.1 a = w.1 a) ∧ (∀ j, j < 2 → w'.1 1 j = w.1 1 j) ∧ w'.2 = w.2
theorem OT_refl {w : Wd} : OT w w := ⟨fun _ _ => rfl, fun _ _ => rfl, rfl⟩
theorem OT.tr {w v u : Wd} (h : OT w v) (h2 : OT v u) : OT w u := ⟨fun a ha => (h2.1 a ha).trans (h.1 a ha), fun j hj => (h2.2.1 j hj).trans (h.2.1 j hj), h2.2.2.trans h.2.2⟩
theorem OT.set {w v : Wd} {j : Nat} {x : Int32} (hj : 2 ≤ j) (h : OT w v) : OT w (wSet v 1 j x) := ⟨fun a ha => by rw [wSet_th ha]; exact h.1 a ha, fun k hk => by rw [wSet_ne (by omega)]; exact h.2.1 k hk, h.2.2⟩
/-- the text: ln signs -/
def Tx (w : Wd) (t : Nat → Nat) (ln : Nat) : Prop := w.1 1 1 = nI ln ∧ ln ≤ 60 ∧ ∀ j, j < ln → w.1 2 j = nI (t j) ∧ t j < 128
theorem Tx.ot {w v : Wd} {t : Nat → Nat} {ln : Nat} (h : Tx w t ln) (h2 : OT w v) : Tx v t ln := ⟨(h2.2.1 1 (by decide)).trans h.1, h.2.1, fun j hj => ⟨by rw [h2.1 2 (by decide)]; exact (h.2.2 j hj).1, (h.2.2 j hj).2⟩⟩
def PSk (w : Wd) (b : Bool) (p' : Nat) : Option Value → Wd → Prop := fun r w' => r = some (.int (bI b)) ∧ w'.1 1 2 = nI p' ∧ (∀ j, ¬ j = 2 → w'.1 1 j = w.1 1 j) ∧ OT w w'
def PNu (w : Wd) (b : Bool) (p' v : Nat) : Option Value → Wd → Prop := fun r w' => r = some (.int (bI b)) ∧ w'.1 1 2 = nI p' ∧ (b = true → w'.1 1 6 = nI v) ∧ (∀ j, ¬ j = 2 → ¬ j = 6 → w'.1 1 j = w.1 1 j) ∧ OT w w'
def PCK (w : Wd) (f : Nat) (q : PR) : Option Value → Wd → Prop := fun r w' => r = some (.int (bI q.1)) ∧ w'.1 1 2 = nI q.2.1 ∧ (q.1 = true → w'.1 1 f = nI q.2.2) ∧ w'.1 1 3 = w.1 1 3 ∧ OT w w'
def POr (w : Wd) (q : PO) : Option Value → Wd → Prop := fun r w' => r = some (.int (bI q.1)) ∧ w'.1 1 2 = nI q.2.1 ∧ (q.1 = true → w'.1 1 3 = nI q.2.2.1 ∧ (q.2.2.1 = 99 → w'.1 1 4 = nI q.2.2.2.1) ∧ (¬ q.2.2.1 = 99 → w'.1 1 5 = nI q.2.2.2.1) ∧ (q.2.2.1 = 99 ∨ q.2.2.1 = 100 ∨ q.2.2.1 = 116 → w'.1 1 6 = nI q.2.2.2.2)) ∧ OT w w'
theorem POr_f {w w' : Wd} {q : PO} (p' : Nat) (h : q.1 = false) (h2 : q.2.1 = p') (h3 : w'.1 1 2 = nI p') (ho : OT w w') : POr w q (some (.int (nI 0))) w' := ⟨bI_fal h, by rw [h2]; exact h3, (fun z => by rw [h] at z; cases z), ho⟩
theorem POr_t {w w' : Wd} {q : PO} (k f s : Nat) (h : q.1 = true) (h2 : q.2.2 = (k, f, s)) (h3 : w'.1 1 2 = nI q.2.1) (h4 : w'.1 1 3 = nI k) (h5 : k = 99 → w'.1 1 4 = nI f) (h6 : ¬ k = 99 → w'.1 1 5 = nI f) (h7 : k = 99 ∨ k = 100 ∨ k = 116 → w'.1 1 6 = nI s) (ho : OT w w') : POr w q (some (.int (nI 1))) w' := by
  refine ⟨bI_tru h, h3, fun _ => ?_, ho⟩
  rw [h2]
  exact ⟨h4, h5, h6, h7⟩
theorem nI_c16 {n : Nat} (h : n < 65536) : ((nI n).toUInt32 % 65536).toInt32 = nI n := by
  apply Int32.toBitVec_inj.mp
  show (BitVec.ofNat 32 n) % 65536#32 = BitVec.ofNat 32 n
  apply BitVec.eq_of_toNat_eq
  simp [BitVec.toNat_umod]
  omega
set_option maxRecDepth 20000 in
set_option maxHeartbeats 4000000 in
theorem K_X4_isNext {w : Wd} {t : Nat → Nat} {ln p : Nat} (hT : Tx w t ln) (hp : w.1 1 2 = nI p) (hl : p ≤ ln) {a b : Nat} (ha : a < 65536) (hb : b < 65536) : CP yX4_isNext cX4_isNext 3 (some .boolean) 0 0 [.ref 1, .int (nI a), .int (nI b)] w (.int (bI (isB t ln a b p))) := by
  have zq_l := hT.2.1
  refine CF.of ok_X4_isNext (Nat.le_of_ble_eq_true rfl) (fun ex us G9 p9 l9 e9 s9 m9 ar9 be9 me9 co9 C hr => ?_)
  refine a_aload_n C dX4_isNext_0 rfl rfl ?_
  refine a_getf C fX4_15 dX4_isNext_1 (show _ < 219 from (by first | decide | omega)) (by first | decide | omega) rfl (gl hp) ?_
  refine a_aload_n C dX4_isNext_4 rfl rfl ?_
  refine a_getf C fX4_23 dX4_isNext_5 (show _ < 219 from (by first | decide | omega)) (by first | decide | omega) rfl (gl hT.1) ?_
  first | refine n_icmp_ge (tgt := 50) C dX4_isNext_8 (by decide) (by first | decide | omega) (by first | decide | omega) (fun h_8 => ?_) (fun h_8 => ?_) | refine a_icmp_ge (tgt := 50) C dX4_isNext_8 (by decide) (fun h_8 => ?_) (fun h_8 => ?_)
  · refine a_iconst (v := nI 0) C dX4_isNext_50 (by decide) ?_
    refine f_iret C hr ?_ dX4_isNext_51 ⟨?_, rfl⟩
    · first | exact bI_narrow _ | rfl
    · first | exact gl (dI1 ⟨h_8, by omega, by omega⟩) | exact gl (dI0 (by omega))
  · refine a_aload_n C dX4_isNext_11 rfl rfl ?_
    refine a_getf C fX4_15 dX4_isNext_12 (show _ < 219 from (by first | decide | omega)) (by first | decide | omega) rfl (gl hp) ?_
    refine a_bipush (v := nI 60) C dX4_isNext_15 (by decide) ?_
    have zq_t := (hT.2.2 p h_8).2
    first | refine n_icmp_ge (tgt := 50) C dX4_isNext_17 (by decide) (by first | decide | omega) (by first | decide | omega) (fun h_17 => ?_) (fun h_17 => ?_) | refine a_icmp_ge (tgt := 50) C dX4_isNext_17 (by decide) (fun h_17 => ?_) (fun h_17 => ?_)
    · exfalso; omega
    · refine a_aload_n C dX4_isNext_20 rfl rfl ?_
      refine a_getfF C fX4_9 dX4_isNext_21 (show _ < 219 from (by first | decide | omega)) (by first | decide | omega) rfl rfl ?_
      refine a_aload_n C dX4_isNext_24 rfl rfl ?_
      refine a_getf C fX4_15 dX4_isNext_25 (show _ < 219 from (by first | decide | omega)) (by first | decide | omega) rfl (gl hp) ?_
      refine n_cald C dX4_isNext_28 (show _ < 219 from (by first | decide | omega)) (by first | decide | omega) rfl rfl (by first | decide | omega) (by decide) (hT.2.2 _ (by omega)).1 ?_
      refine a_iload_n C dX4_isNext_29 rfl rfl ?_
      first | refine n_icmp_lt (tgt := 50) C dX4_isNext_30 (by decide) (by first | decide | omega) (by first | decide | omega) (fun h_30 => ?_) (fun h_30 => ?_) | refine a_icmp_lt (tgt := 50) C dX4_isNext_30 (by decide) (fun h_30 => ?_) (fun h_30 => ?_)
      · refine a_iconst (v := nI 0) C dX4_isNext_50 (by decide) ?_
        refine f_iret C hr ?_ dX4_isNext_51 ⟨?_, rfl⟩
        · first | exact bI_narrow _ | rfl
        · first | exact gl (dI1 ⟨h_8, by omega, by omega⟩) | exact gl (dI0 (by omega))
      · refine a_aload_n C dX4_isNext_33 rfl rfl ?_
        refine a_getfF C fX4_9 dX4_isNext_34 (show _ < 219 from (by first | decide | omega)) (by first | decide | omega) rfl rfl ?_
        refine a_aload_n C dX4_isNext_37 rfl rfl ?_
        refine a_getf C fX4_15 dX4_isNext_38 (show _ < 219 from (by first | decide | omega)) (by first | decide | omega) rfl (gl hp) ?_
        refine n_cald C dX4_isNext_41 (show _ < 219 from (by first | decide | omega)) (by first | decide | omega) rfl rfl (by first | decide | omega) (by decide) (hT.2.2 _ (by omega)).1 ?_
        refine a_iload_n C dX4_isNext_42 rfl rfl ?_
        first | refine n_icmp_gt (tgt := 50) C dX4_isNext_43 (by decide) (by first | decide | omega) (by first | decide | omega) (fun h_43 => ?_) (fun h_43 => ?_) | refine a_icmp_gt (tgt := 50) C dX4_isNext_43 (by decide) (fun h_43 => ?_) (fun h_43 => ?_)
        · refine a_iconst (v := nI 0) C dX4_isNext_50 (by decide) ?_
          refine f_iret C hr ?_ dX4_isNext_51 ⟨?_, rfl⟩
          · first | exact bI_narrow _ | rfl
          · first | exact gl (dI1 ⟨h_8, by omega, by omega⟩) | exact gl (dI0 (by omega))
        · refine a_iconst (v := nI 1) C dX4_isNext_46 (by decide) ?_
          refine a_goto (tgt := 51) C dX4_isNext_47 (by decide) ?_
          refine f_iret C hr ?_ dX4_isNext_51 ⟨?_, rfl⟩
          · first | exact bI_narrow _ | rfl
          · first | exact gl (dI1 ⟨h_8, by omega, by omega⟩) | exact gl (dI0 (by omega))

set_option maxRecDepth 20000 in
set_option maxHeartbeats 4000000 in
theorem K_X4_skip {w : Wd} {t : Nat → Nat} {ln p : Nat} (hT : Tx w t ln) (hp : w.1 1 2 = nI p) (hl : p ≤ ln) {a : Nat} (ha : a < 65536) : CF yX4_skip cX4_skip 2 (some .boolean) 1 22 [.ref 1, .int (nI a)] w (PSk w (chB t ln a p) (stp (chB t ln a p) p)) := by
  have zq_l := hT.2.1
  refine CF.of ok_X4_skip (Nat.le_of_ble_eq_true rfl) (fun ex us G9 p9 l9 e9 s9 m9 ar9 be9 me9 co9 C hr => ?_)
  refine a_aload_n C dX4_skip_0 rfl rfl ?_
  refine a_iload_n C dX4_skip_1 rfl rfl ?_
  refine a_iload_n C dX4_skip_2 rfl rfl ?_
  refine p_callV C (K_X4_isNext hT hp hl ha ha) vX4_44 rfl (by first | decide | omega) rfl rfl dX4_skip_3 (Nat.le_of_ble_eq_true rfl) ⟨by decide, by decide⟩ ?_
  first | refine b_if_ne (tgt := 11) C dX4_skip_6 (by decide) (fun h_6 => ?_) (fun h_6 => ?_) | refine n_if_ne (tgt := 11) C dX4_skip_6 (by decide) (by first | decide | omega) (fun h_6 => ?_) (fun h_6 => ?_) | refine a_if_ne (tgt := 11) C dX4_skip_6 (by decide) (fun h_6 => ?_) (fun h_6 => ?_)
  · refine a_aload_n C dX4_skip_11 rfl rfl ?_
    refine a_dup C dX4_skip_12 rfl ?_
    refine a_getf C fX4_15 dX4_skip_13 (show _ < 219 from (by first | decide | omega)) (by first | decide | omega) rfl (gl hp) ?_
    refine a_iconst (v := nI 1) C dX4_skip_16 (by decide) ?_
    first | refine n_iadd C dX4_skip_17 ?_ | refine a_iadd C dX4_skip_17 ?_
    refine f_putf C fX4_15 dX4_skip_18 (by first | decide | omega) rfl rfl rfl (Nat.le_of_ble_eq_true rfl) rfl ?_
    refine a_iconst (v := nI 1) C dX4_skip_21 (by decide) ?_
    refine f_iret C hr ?_ dX4_skip_22 ?_
    · first | exact bI_narrow _ | rfl
    · exact ⟨bI_tru h_6, by rw [show chB t ln a p = true from h_6]; exact wSet_at, fun j hj => wSet_ne (by omega), OT_refl.set (by decide)⟩
  · refine a_iconst (v := nI 0) C dX4_skip_9 (by decide) ?_
    refine f_iret C hr ?_ dX4_skip_10 ?_
    · first | exact bI_narrow _ | rfl
    · exact ⟨bI_fal h_6, by rw [show chB t ln a p = false from h_6]; exact hp, fun _ _ => rfl, OT_refl⟩

set_option maxRecDepth 20000 in
set_option maxHeartbeats 4000000 in
theorem K_X4_readNumber {w : Wd} {t : Nat → Nat} {ln p : Nat} (hT : Tx w t ln) (hp : w.1 1 2 = nI p) (hl : p ≤ ln) {a : Nat} (ha : 1 ≤ a ∧ a ≤ 10) : CF yX4_readNumber cX4_readNumber 2 (some .boolean) 1 22 [.ref 1, .int (nI a)] w (PNu w (dgB t ln a p) (stp (dgB t ln a p) p) (t p - 48)) := by
  have zq_l := hT.2.1
  refine CF.of ok_X4_readNumber (Nat.le_of_ble_eq_true rfl) (fun ex us G9 p9 l9 e9 s9 m9 ar9 be9 me9 co9 C hr => ?_)
  refine a_aload_n C dX4_readNumber_0 rfl rfl ?_
  refine a_bipush (v := nI 48) C dX4_readNumber_1 (by decide) ?_
  refine a_bipush (v := nI 48) C dX4_readNumber_3 (by decide) ?_
  refine a_iload_n C dX4_readNumber_5 rfl rfl ?_
  first | refine n_iadd C dX4_readNumber_6 ?_ | refine a_iadd C dX4_readNumber_6 ?_
  refine a_iconst (v := nI 1) C dX4_readNumber_7 (by decide) ?_
  refine n_isub C dX4_readNumber_8 (by omega) ?_
  refine a_i2c C dX4_readNumber_9 ?_
  rw [nI_c16 (by omega)]
  refine p_callV C (K_X4_isNext hT hp hl (a := 48) (b := 48 + a - 1) (by decide) (by omega)) vX4_44 rfl (by first | decide | omega) rfl rfl dX4_readNumber_10 (Nat.le_of_ble_eq_true rfl) ⟨by decide, by decide⟩ ?_
  first | refine b_if_ne (tgt := 18) C dX4_readNumber_13 (by decide) (fun h_13 => ?_) (fun h_13 => ?_) | refine n_if_ne (tgt := 18) C dX4_readNumber_13 (by decide) (by first | decide | omega) (fun h_13 => ?_) (fun h_13 => ?_) | refine a_if_ne (tgt := 18) C dX4_readNumber_13 (by decide) (fun h_13 => ?_) (fun h_13 => ?_)
  · have zq_s := isB_at h_13
    have zq_b : dgB t ln a p = true := h_13
    refine a_aload_n C dX4_readNumber_18 rfl rfl ?_
    refine a_aload_n C dX4_readNumber_19 rfl rfl ?_
    refine a_getfF C fX4_9 dX4_readNumber_20 (show _ < 219 from (by first | decide | omega)) (by first | decide | omega) rfl rfl ?_
    refine a_aload_n C dX4_readNumber_23 rfl rfl ?_
    refine a_getf C fX4_15 dX4_readNumber_24 (show _ < 219 from (by first | decide | omega)) (by first | decide | omega) rfl (gl hp) ?_
    refine n_cald C dX4_readNumber_27 (show _ < 219 from (by first | decide | omega)) (by first | decide | omega) rfl rfl (by first | decide | omega) (by decide) (hT.2.2 _ (by omega)).1 ?_
    refine a_bipush (v := nI 48) C dX4_readNumber_28 (by decide) ?_
    refine n_isub C dX4_readNumber_30 zq_s.2.1 ?_
    refine f_putf C fX4_48 dX4_readNumber_31 (by first | decide | omega) rfl rfl rfl (Nat.le_of_ble_eq_true rfl) rfl ?_
    refine a_aload_n C dX4_readNumber_34 rfl rfl ?_
    refine a_dup C dX4_readNumber_35 rfl ?_
    refine a_getf C fX4_15 dX4_readNumber_36 (show _ < 219 from (by first | decide | omega)) (by first | decide | omega) rfl (gl (show _ = nI p from by rw [wSet_ne (by decide)]; exact hp)) ?_
    refine a_iconst (v := nI 1) C dX4_readNumber_39 (by decide) ?_
    first | refine n_iadd C dX4_readNumber_40 ?_ | refine a_iadd C dX4_readNumber_40 ?_
    refine f_putf C fX4_15 dX4_readNumber_41 (by first | decide | omega) rfl rfl rfl (Nat.le_of_ble_eq_true rfl) rfl ?_
    refine a_iconst (v := nI 1) C dX4_readNumber_44 (by decide) ?_
    refine f_iret C hr ?_ dX4_readNumber_45 ?_
    · first | exact bI_narrow _ | rfl
    · exact ⟨bI_tru h_13, by rw [zq_b]; exact wSet_at, fun _ => by rw [wSet_ne (by decide)]; exact wSet_at, fun j h2 h6 => by rw [wSet_ne (by omega), wSet_ne (by omega)], (OT_refl.set (by decide)).set (by decide)⟩
  · have zq_b : dgB t ln a p = false := h_13
    refine a_iconst (v := nI 0) C dX4_readNumber_16 (by decide) ?_
    refine f_iret C hr ?_ dX4_readNumber_17 ?_
    · first | exact bI_narrow _ | rfl
    · exact ⟨bI_fal h_13, by rw [zq_b]; exact hp, (fun z => by rw [zq_b] at z; cases z), fun _ _ _ => rfl, OT_refl⟩

set_option maxRecDepth 20000 in
set_option maxHeartbeats 4000000 in
theorem K_X4_readCode {w : Wd} {t : Nat → Nat} {ln p : Nat} (hT : Tx w t ln) (hp : w.1 1 2 = nI p) (hl : p ≤ ln)  : CF yX4_readCode cX4_readCode 3 (some .boolean) 2 43 [.ref 1] w (PCK w 4 (rdC t ln 4 p 0)) := by
  have zq_l := hT.2.1
  refine CF.of ok_X4_readCode (Nat.le_of_ble_eq_true rfl) (fun ex us G9 p9 l9 e9 s9 m9 ar9 be9 me9 co9 C hr => ?_)
  have ZL4 : ∀ (zd4 : Nat) (k v q : Nat) (z : Wd), 4 + 1 ≤ k + zd4 → k ≤ 4 → z.1 1 2 = nI q → q ≤ ln → rdC t ln (4 - k) q v = rdC t ln 4 p 0 → z.1 1 3 = w.1 1 3 → OT w z → WA G9 p9 l9 e9 (RM 2 43) s9 m9 ar9 be9 me9 co9 (QF G9 be9 ar9 s9 w ex us (PCK w 4 (rdC t ln 4 p 0))) 3 (219 + ex) us 4 [some (.ref 1), some (.int (nI v)), some (.int (nI k))] [] (fzM z ex us) := by
    intro zd4
    induction zd4 with
    | zero => intro k v q z zm4 zh_k zh_p zh_l zh_e zh_3 zh_o; exfalso; omega
    | succ zd4 zih4 =>
      intro k v q z zm4 zh_k zh_p zh_l zh_e zh_3 zh_o
      refine a_iload_n C dX4_readCode_4 rfl rfl ?_
      refine a_iconst (v := nI 4) C dX4_readCode_5 (by decide) ?_
      first | refine n_icmp_ge (tgt := 34) C dX4_readCode_6 (by decide) (by first | decide | omega) (by first | decide | omega) (fun h_6 => ?_) (fun h_6 => ?_) | refine a_icmp_ge (tgt := 34) C dX4_readCode_6 (by decide) (fun h_6 => ?_) (fun h_6 => ?_)
      · obtain rfl : k = 4 := by omega
        have zq_r : rdC t ln 4 p 0 = (true, q, v) := zh_e.symm
        refine a_aload_n C dX4_readCode_34 rfl rfl ?_
        refine a_iload_n C dX4_readCode_35 rfl rfl ?_
        refine f_putf C fX4_51 dX4_readCode_36 (by first | decide | omega) rfl rfl rfl (Nat.le_of_ble_eq_true rfl) rfl ?_
        refine a_iconst (v := nI 1) C dX4_readCode_39 (by decide) ?_
        refine f_iret C hr ?_ dX4_readCode_40 ?_
        · first | exact bI_narrow _ | rfl
        · rw [zq_r]
          exact ⟨rfl, (wSet_ne (by decide)).trans zh_p, fun _ => wSet_at, (wSet_ne (by decide)).trans zh_3, zh_o.set (by decide)⟩
      · refine a_aload_n C dX4_readCode_9 rfl rfl ?_
        refine a_iconst (v := nI 3) C dX4_readCode_10 (by decide) ?_
        have zh_T := hT.ot zh_o
        refine f_callV C _ _ (K_X4_readNumber (a := 3) (zh_T) zh_p zh_l (by decide)) vX4_37 (by first | decide | omega) rfl rfl dX4_readCode_11 rfl (Nat.le_of_ble_eq_true rfl) ⟨by decide, by decide⟩ (fun zr11 zw11 zp11 => ?_)
        obtain ⟨rfl, zq_p, zq_n, zq_k, zq_o⟩ := zp11
        first | refine b_if_ne (tgt := 19) C dX4_readCode_14 (by decide) (fun h_14 => ?_) (fun h_14 => ?_) | refine n_if_ne (tgt := 19) C dX4_readCode_14 (by decide) (by first | decide | omega) (fun h_14 => ?_) (fun h_14 => ?_) | refine a_if_ne (tgt := 19) C dX4_readCode_14 (by decide) (fun h_14 => ?_) (fun h_14 => ?_)
        · rw [h_14] at zq_p zq_n
          have zq_n := zq_n rfl
          have zq_p : zw11.1 1 2 = nI (q + 1) := zq_p
          have zq_k := zq_k 3 (by decide) (by decide)
          refine a_iconst (v := nI 3) C dX4_readCode_19 (by decide) ?_
          refine a_iload_n C dX4_readCode_20 rfl rfl ?_
          first | refine n_imul C dX4_readCode_21 ?_ | refine a_imul C dX4_readCode_21 ?_
          refine a_aload_n C dX4_readCode_22 rfl rfl ?_
          refine a_getf C fX4_48 dX4_readCode_23 (show _ < 219 from (by first | decide | omega)) (by first | decide | omega) rfl (gl zq_n) ?_
          first | refine n_iadd C dX4_readCode_26 ?_ | refine a_iadd C dX4_readCode_26 ?_
          refine a_istore_n C dX4_readCode_27 rfl (by decide) ?_
          refine n_iinc C dX4_readCode_28 rfl (by decide) ?_
          refine a_goto (tgt := 4) C dX4_readCode_31 (by decide) ?_
          have zq_e := isB_at h_14
          refine a_join (aLe_s ?_ (aLe_s ?_ (aLe_s ?_ aLe_nil))) rfl rfl (zih4 (k + 1) (3 * v + (t q - 48)) (q + 1) zw11 (by omega) (by omega) zq_p (by omega) (by rw [← zh_e, show 4 - k = (4 - (k + 1)) + 1 by omega, rdC_t h_14]) (zq_k.trans zh_3) (zh_o.tr zq_o))
          · first | with_reducible rfl | exact gl (by first | with_reducible rfl | (refine iF ?_; simp [h_6, h_14]; done) | (refine iT ?_; simp [h_6, h_14]; done) | (refine iB ?_; simp [h_6, h_14]; done) | (simp [h_6, h_14]; done) | (simp [h_6, h_14]; omega) | omega)
          · first | with_reducible rfl | exact gl (by first | with_reducible rfl | (refine iF ?_; simp [h_6, h_14]; done) | (refine iT ?_; simp [h_6, h_14]; done) | (refine iB ?_; simp [h_6, h_14]; done) | (simp [h_6, h_14]; done) | (simp [h_6, h_14]; omega) | omega)
          · first | with_reducible rfl | exact gl (by first | with_reducible rfl | (refine iF ?_; simp [h_6, h_14]; done) | (refine iT ?_; simp [h_6, h_14]; done) | (refine iB ?_; simp [h_6, h_14]; done) | (simp [h_6, h_14]; done) | (simp [h_6, h_14]; omega) | omega)
        · rw [h_14] at zq_p
          have zq_p : zw11.1 1 2 = nI q := zq_p
          have zq_k := zq_k 3 (by decide) (by decide)
          have zq_r : rdC t ln 4 p 0 = (false, q, v) := by rw [← zh_e, show 4 - k = (4 - (k + 1)) + 1 by omega, rdC_f h_14]
          refine a_iconst (v := nI 0) C dX4_readCode_17 (by decide) ?_
          refine f_iret C hr ?_ dX4_readCode_18 ?_
          · first | exact bI_narrow _ | rfl
          · rw [zq_r]
            exact ⟨rfl, zq_p, (fun z => by cases z), zq_k.trans zh_3, zh_o.tr zq_o⟩
  refine a_pad 2 ?_
  refine a_eq (L' := [some (.ref 1), none, none]) rfl rfl rfl ?_
  refine a_iconst (v := nI 0) C dX4_readCode_0 (by decide) ?_
  refine a_istore_n C dX4_readCode_1 rfl (by decide) ?_
  refine a_iconst (v := nI 0) C dX4_readCode_2 (by decide) ?_
  refine a_istore_n C dX4_readCode_3 rfl (by decide) ?_
  refine a_join (aLe_s ?_ (aLe_s ?_ (aLe_s ?_ aLe_nil))) rfl rfl (ZL4 (4 + 1) 0 0 p w (by omega) (by omega) hp hl rfl rfl OT_refl)
  · first | with_reducible rfl | exact gl (by first | with_reducible rfl | (refine iF ?_; simp []; done) | (refine iT ?_; simp []; done) | (refine iB ?_; simp []; done) | (simp []; done) | (simp []; omega) | omega | rfl)
  · first | with_reducible rfl | exact gl (by first | with_reducible rfl | (refine iF ?_; simp []; done) | (refine iT ?_; simp []; done) | (refine iB ?_; simp []; done) | (simp []; done) | (simp []; omega) | omega | rfl)
  · first | with_reducible rfl | exact gl (by first | with_reducible rfl | (refine iF ?_; simp []; done) | (refine iT ?_; simp []; done) | (refine iB ?_; simp []; done) | (simp []; done) | (simp []; omega) | omega | rfl)

set_option maxRecDepth 20000 in
set_option maxHeartbeats 4000000 in
theorem K_X4_readKey {w : Wd} {t : Nat → Nat} {ln p : Nat} (hT : Tx w t ln) (hp : w.1 1 2 = nI p) (hl : p ≤ ln)  : CF yX4_readKey cX4_readKey 1 (some .boolean) 2 43 [.ref 1] w (PCK w 5 (rdK t ln p)) := by
  have zq_l := hT.2.1
  refine CF.of ok_X4_readKey (Nat.le_of_ble_eq_true rfl) (fun ex us G9 p9 l9 e9 s9 m9 ar9 be9 me9 co9 C hr => ?_)
  refine a_aload_n C dX4_readKey_0 rfl rfl ?_
  refine a_bipush (v := nI 10) C dX4_readKey_1 (by decide) ?_
  refine f_callV C _ _ (K_X4_readNumber (a := 10) hT hp hl (by decide)) vX4_37 (by first | decide | omega) rfl rfl dX4_readKey_3 rfl (Nat.le_of_ble_eq_true rfl) ⟨by decide, by decide⟩ (fun zr3 zw3 zp3 => ?_)
  obtain ⟨rfl, zq_p, zq_n, zq_k, zq_o⟩ := zp3
  first | refine b_if_ne (tgt := 11) C dX4_readKey_6 (by decide) (fun h_6 => ?_) (fun h_6 => ?_) | refine n_if_ne (tgt := 11) C dX4_readKey_6 (by decide) (by first | decide | omega) (fun h_6 => ?_) (fun h_6 => ?_) | refine a_if_ne (tgt := 11) C dX4_readKey_6 (by decide) (fun h_6 => ?_) (fun h_6 => ?_)
  · rw [h_6] at zq_p zq_n
    have zq_n := zq_n rfl
    have zq_p : zw3.1 1 2 = nI (p + 1) := zq_p
    have zq_k := zq_k 3 (by decide) (by decide)
    have zq_s := isB_at h_6
    have zq_O : OT w (wSet zw3 1 5 (nI (t p - 48))) := zq_o.set (by decide)
    have zq_P : (wSet zw3 1 5 (nI (t p - 48))).1 1 2 = nI (p + 1) := (wSet_ne (by decide)).trans zq_p
    refine a_aload_n C dX4_readKey_11 rfl rfl ?_
    refine a_aload_n C dX4_readKey_12 rfl rfl ?_
    refine a_getf C fX4_48 dX4_readKey_13 (show _ < 219 from (by first | decide | omega)) (by first | decide | omega) rfl (gl zq_n) ?_
    refine f_putf C fX4_54 dX4_readKey_16 (by first | decide | omega) rfl rfl rfl (Nat.le_of_ble_eq_true rfl) rfl ?_
    refine a_aload_n C dX4_readKey_19 rfl rfl ?_
    refine a_getf C fX4_54 dX4_readKey_20 (show _ < 219 from (by first | decide | omega)) (by first | decide | omega) rfl (gl wSet_at) ?_
    refine a_iconst (v := nI 1) C dX4_readKey_23 (by decide) ?_
    refine n_icmp_ne (tgt := 67) C dX4_readKey_24 (by decide) (by first | decide | omega) (by first | decide | omega) (fun h_24 => ?_) (fun h_24 => ?_)
    · refine a_iconst (v := nI 1) C dX4_readKey_67 (by decide) ?_
      refine f_iret C hr ?_ dX4_readKey_68 ?_
      · first | exact bI_narrow _ | rfl
      · first | (rw [rdK_1 h_6 (fun z => h_24 z.1)]; exact ⟨rfl, zq_P, fun _ => wSet_at, (wSet_ne (by decide)).trans zq_k, zq_O⟩) | (rw [rdK_1 h_6 (fun z => by have := z.2.symm.trans h_35; cases this)]; exact ⟨rfl, zq_P, fun _ => wSet_at, (wSet_ne (by decide)).trans zq_k, zq_O⟩) | (rw [rdK_2 h_6 h_24 h_35]; exact ⟨rfl, wSet_at, fun _ => (wSet_ne (by decide)).trans wSet_at, (wSet_ne (by decide)).trans ((wSet_ne (by decide)).trans ((wSet_ne (by decide)).trans zq_k)), (zq_O.set (by decide)).set (by decide)⟩)
    · refine a_aload_n C dX4_readKey_27 rfl rfl ?_
      refine a_bipush (v := nI 48) C dX4_readKey_28 (by decide) ?_
      refine a_bipush (v := nI 49) C dX4_readKey_30 (by decide) ?_
      refine p_callV C (K_X4_isNext (a := 48) (b := 49) (hT.ot zq_O) zq_P (by omega) (by decide) (by decide)) vX4_44 rfl (by first | decide | omega) rfl rfl dX4_readKey_32 (Nat.le_of_ble_eq_true rfl) ⟨by decide, by decide⟩ ?_
      first | refine b_if_eq (tgt := 67) C dX4_readKey_35 (by decide) (fun h_35 => ?_) (fun h_35 => ?_) | refine n_if_eq (tgt := 67) C dX4_readKey_35 (by decide) (by first | decide | omega) (fun h_35 => ?_) (fun h_35 => ?_) | refine a_if_eq (tgt := 67) C dX4_readKey_35 (by decide) (fun h_35 => ?_) (fun h_35 => ?_)
      · refine a_iconst (v := nI 1) C dX4_readKey_67 (by decide) ?_
        refine f_iret C hr ?_ dX4_readKey_68 ?_
        · first | exact bI_narrow _ | rfl
        · first | (rw [rdK_1 h_6 (fun z => h_24 z.1)]; exact ⟨rfl, zq_P, fun _ => wSet_at, (wSet_ne (by decide)).trans zq_k, zq_O⟩) | (rw [rdK_1 h_6 (fun z => by have := z.2.symm.trans h_35; cases this)]; exact ⟨rfl, zq_P, fun _ => wSet_at, (wSet_ne (by decide)).trans zq_k, zq_O⟩) | (rw [rdK_2 h_6 h_24 h_35]; exact ⟨rfl, wSet_at, fun _ => (wSet_ne (by decide)).trans wSet_at, (wSet_ne (by decide)).trans ((wSet_ne (by decide)).trans ((wSet_ne (by decide)).trans zq_k)), (zq_O.set (by decide)).set (by decide)⟩)
      · have zq_s2 := isB_at h_35
        refine a_aload_n C dX4_readKey_38 rfl rfl ?_
        refine a_bipush (v := nI 10) C dX4_readKey_39 (by decide) ?_
        refine a_aload_n C dX4_readKey_41 rfl rfl ?_
        refine a_getfF C fX4_9 dX4_readKey_42 (show _ < 219 from (by first | decide | omega)) (by first | decide | omega) rfl rfl ?_
        refine a_aload_n C dX4_readKey_45 rfl rfl ?_
        refine a_getf C fX4_15 dX4_readKey_46 (show _ < 219 from (by first | decide | omega)) (by first | decide | omega) rfl (gl zq_P) ?_
        refine n_cald C dX4_readKey_49 (show _ < 219 from (by first | decide | omega)) (by first | decide | omega) rfl rfl (by first | decide | omega) (by decide) ((hT.ot zq_O).2.2 (p + 1) (by omega)).1 ?_
        refine a_bipush (v := nI 48) C dX4_readKey_50 (by decide) ?_
        refine n_isub C dX4_readKey_52 (by omega) ?_
        first | refine n_iadd C dX4_readKey_53 ?_ | refine a_iadd C dX4_readKey_53 ?_
        refine f_putf C fX4_54 dX4_readKey_54 (by first | decide | omega) rfl rfl rfl (Nat.le_of_ble_eq_true rfl) rfl ?_
        refine a_aload_n C dX4_readKey_57 rfl rfl ?_
        refine a_dup C dX4_readKey_58 rfl ?_
        refine a_getf C fX4_15 dX4_readKey_59 (show _ < 219 from (by first | decide | omega)) (by first | decide | omega) rfl (gl (show _ = nI (p + 1) from by rw [wSet_ne (by decide)]; exact zq_P)) ?_
        refine a_iconst (v := nI 1) C dX4_readKey_62 (by decide) ?_
        first | refine n_iadd C dX4_readKey_63 ?_ | refine a_iadd C dX4_readKey_63 ?_
        refine f_putf C fX4_15 dX4_readKey_64 (by first | decide | omega) rfl rfl rfl (Nat.le_of_ble_eq_true rfl) rfl ?_
        refine a_iconst (v := nI 1) C dX4_readKey_67 (by decide) ?_
        refine f_iret C hr ?_ dX4_readKey_68 ?_
        · first | exact bI_narrow _ | rfl
        · first | (rw [rdK_1 h_6 (fun z => h_24 z.1)]; exact ⟨rfl, zq_P, fun _ => wSet_at, (wSet_ne (by decide)).trans zq_k, zq_O⟩) | (rw [rdK_1 h_6 (fun z => by have := z.2.symm.trans h_35; cases this)]; exact ⟨rfl, zq_P, fun _ => wSet_at, (wSet_ne (by decide)).trans zq_k, zq_O⟩) | (rw [rdK_2 h_6 h_24 h_35]; exact ⟨rfl, wSet_at, fun _ => (wSet_ne (by decide)).trans wSet_at, (wSet_ne (by decide)).trans ((wSet_ne (by decide)).trans ((wSet_ne (by decide)).trans zq_k)), (zq_O.set (by decide)).set (by decide)⟩)
  · rw [h_6] at zq_p
    have zq_p : zw3.1 1 2 = nI p := zq_p
    have zq_k := zq_k 3 (by decide) (by decide)
    refine a_iconst (v := nI 0) C dX4_readKey_9 (by decide) ?_
    refine f_iret C hr ?_ dX4_readKey_10 ?_
    · first | exact bI_narrow _ | rfl
    · rw [rdK_0 h_6]
      exact ⟨rfl, zq_p, (fun z => by cases z), zq_k, zq_o⟩

set_option maxRecDepth 20000 in
set_option maxHeartbeats 4000000 in
theorem K_X4_readOrder {w : Wd} {t : Nat → Nat} {ln p : Nat} (hT : Tx w t ln) (hp : w.1 1 2 = nI p) (hl : p ≤ ln)  : CF yX4_readOrder cX4_readOrder 1 (some .boolean) 3 65 [.ref 1] w (POr w (rdO t ln p)) := by
  have zq_l := hT.2.1
  refine CF.of ok_X4_readOrder (Nat.le_of_ble_eq_true rfl) (fun ex us G9 p9 l9 e9 s9 m9 ar9 be9 me9 co9 C hr => ?_)
  refine a_aload_n C dX4_readOrder_0 rfl rfl ?_
  refine a_bipush (v := nI 99) C dX4_readOrder_1 (by decide) ?_
  refine f_callV C _ _ (K_X4_skip (a := 99) hT hp hl (by decide)) vX4_26 (by first | decide | omega) rfl rfl dX4_readOrder_3 rfl (Nat.le_of_ble_eq_true rfl) ⟨by decide, by decide⟩ (fun zr3 zw3 zp3 => ?_)
  obtain ⟨rfl, zp_3, zk_3, zo_3⟩ := zp3
  have zO3 : OT w zw3 := zo_3
  have zT3 := hT.ot zO3
  first | refine b_if_eq (tgt := 45) C dX4_readOrder_6 (by decide) (fun h_6 => ?_) (fun h_6 => ?_) | refine n_if_eq (tgt := 45) C dX4_readOrder_6 (by decide) (by first | decide | omega) (fun h_6 => ?_) (fun h_6 => ?_) | refine a_if_eq (tgt := 45) C dX4_readOrder_6 (by decide) (fun h_6 => ?_) (fun h_6 => ?_)
  · rw [h_6] at zp_3
    have zp_3 : zw3.1 1 2 = nI p := zp_3
    refine a_aload_n C dX4_readOrder_45 rfl rfl ?_
    refine a_bipush (v := nI 100) C dX4_readOrder_46 (by decide) ?_
    refine f_callV C _ _ (K_X4_skip (a := 100) zT3 zp_3 hl (by decide)) vX4_26 (by first | decide | omega) rfl rfl dX4_readOrder_48 rfl (Nat.le_of_ble_eq_true rfl) ⟨by decide, by decide⟩ (fun zr48 zw48 zp48 => ?_)
    obtain ⟨rfl, zp_48, zk_48, zo_48⟩ := zp48
    have zO48 : OT w zw48 := zO3.tr zo_48
    have zT48 := hT.ot zO48
    first | refine b_if_eq (tgt := 90) C dX4_readOrder_51 (by decide) (fun h_51 => ?_) (fun h_51 => ?_) | refine n_if_eq (tgt := 90) C dX4_readOrder_51 (by decide) (by first | decide | omega) (fun h_51 => ?_) (fun h_51 => ?_) | refine a_if_eq (tgt := 90) C dX4_readOrder_51 (by decide) (fun h_51 => ?_) (fun h_51 => ?_)
    · rw [h_51] at zp_48
      have zp_48 : zw48.1 1 2 = nI p := zp_48
      refine a_aload_n C dX4_readOrder_90 rfl rfl ?_
      refine a_bipush (v := nI 116) C dX4_readOrder_91 (by decide) ?_
      refine f_callV C _ _ (K_X4_skip (a := 116) zT48 zp_48 hl (by decide)) vX4_26 (by first | decide | omega) rfl rfl dX4_readOrder_93 rfl (Nat.le_of_ble_eq_true rfl) ⟨by decide, by decide⟩ (fun zr93 zw93 zp93 => ?_)
      obtain ⟨rfl, zp_93, zk_93, zo_93⟩ := zp93
      have zO93 : OT w zw93 := zO48.tr zo_93
      have zT93 := hT.ot zO93
      first | refine b_if_eq (tgt := 136) C dX4_readOrder_96 (by decide) (fun h_96 => ?_) (fun h_96 => ?_) | refine n_if_eq (tgt := 136) C dX4_readOrder_96 (by decide) (by first | decide | omega) (fun h_96 => ?_) (fun h_96 => ?_) | refine a_if_eq (tgt := 136) C dX4_readOrder_96 (by decide) (fun h_96 => ?_) (fun h_96 => ?_)
      · rw [h_96] at zp_93
        have zp_93 : zw93.1 1 2 = nI p := zp_93
        refine a_aload_n C dX4_readOrder_136 rfl rfl ?_
        refine a_bipush (v := nI 108) C dX4_readOrder_137 (by decide) ?_
        refine f_callV C _ _ (K_X4_skip (a := 108) zT93 zp_93 hl (by decide)) vX4_26 (by first | decide | omega) rfl rfl dX4_readOrder_139 rfl (Nat.le_of_ble_eq_true rfl) ⟨by decide, by decide⟩ (fun zr139 zw139 zp139 => ?_)
        obtain ⟨rfl, zp_139, zk_139, zo_139⟩ := zp139
        have zO139 : OT w zw139 := zO93.tr zo_139
        have zT139 := hT.ot zO139
        first | refine b_if_eq (tgt := 156) C dX4_readOrder_142 (by decide) (fun h_142 => ?_) (fun h_142 => ?_) | refine n_if_eq (tgt := 156) C dX4_readOrder_142 (by decide) (by first | decide | omega) (fun h_142 => ?_) (fun h_142 => ?_) | refine a_if_eq (tgt := 156) C dX4_readOrder_142 (by decide) (fun h_142 => ?_) (fun h_142 => ?_)
        · rw [h_142] at zp_139
          have zp_139 : zw139.1 1 2 = nI p := zp_139
          refine a_aload_n C dX4_readOrder_156 rfl rfl ?_
          refine a_bipush (v := nI 102) C dX4_readOrder_157 (by decide) ?_
          refine f_putf C fX4_30 dX4_readOrder_159 (by first | decide | omega) rfl rfl rfl (Nat.le_of_ble_eq_true rfl) rfl ?_
          refine a_aload_n C dX4_readOrder_162 rfl rfl ?_
          refine a_bipush (v := nI 102) C dX4_readOrder_163 (by decide) ?_
          refine f_callV C _ _ (K_X4_skip (a := 102) (hT.ot (zO139.set (j := 3) (by decide))) ((wSet_ne (by decide)).trans zp_139) hl (by decide)) vX4_26 (by first | decide | omega) rfl rfl dX4_readOrder_165 rfl (Nat.le_of_ble_eq_true rfl) ⟨by decide, by decide⟩ (fun zr165 zw165 zp165 => ?_)
          obtain ⟨rfl, zp_165, zk_165, zo_165⟩ := zp165
          have zO165 : OT w zw165 := (zO139.set (by decide)).tr zo_165
          have z3_165 : zw165.1 1 3 = nI 102 := (zk_165 3 (by decide)).trans wSet_at
          first | refine b_if_eq (tgt := 182) C dX4_readOrder_168 (by decide) (fun h_168 => ?_) (fun h_168 => ?_) | refine n_if_eq (tgt := 182) C dX4_readOrder_168 (by decide) (by first | decide | omega) (fun h_168 => ?_) (fun h_168 => ?_) | refine a_if_eq (tgt := 182) C dX4_readOrder_168 (by decide) (fun h_168 => ?_) (fun h_168 => ?_)
          · rw [h_168] at zp_165
            have zp_165 : zw165.1 1 2 = nI p := zp_165
            have zr_0 := rdO_n h_6 h_51 h_96 h_142 h_168
            refine a_iconst (v := nI 0) C dX4_readOrder_182 (by decide) ?_
            refine f_iret C hr ?_ dX4_readOrder_183 ?_
            · first | exact bI_narrow _ | rfl
            · first | exact POr_f p (by rw [zr_0]) (by rw [zr_0]) zp_165 zO165 | exact POr_f (rdK t ln (p + 1)).2.1 (by rw [zr_1]; exact h_175) (by rw [zr_1]; rfl) zp_172 zO172 | exact POr_t 102 (rdK t ln (p + 1)).2.2 0 (by rw [zr_1]; exact h_175) (by rw [zr_1]; rfl) (by rw [zr_1]; exact zp_172) (zk_172.trans z3_165) (fun z => absurd z (by decide)) (fun _ => zn_172 h_175) (fun z => by omega) zO172
          · rw [h_168] at zp_165
            have zp_165 : zw165.1 1 2 = nI (p + 1) := zp_165
            have zs_165 := isB_at h_168
            have zr_1 := rdO_f h_168
            refine a_aload_n C dX4_readOrder_171 rfl rfl ?_
            refine f_callV C _ _ (K_X4_readKey (hT.ot (zO165)) zp_165 (show p + 1 ≤ ln by omega)) vX4_41 (by first | decide | omega) rfl rfl dX4_readOrder_172 rfl (Nat.le_of_ble_eq_true rfl) ⟨by decide, by decide⟩ (fun zr172 zw172 zp172 => ?_)
            obtain ⟨rfl, zp_172, zn_172, zk_172, zo_172⟩ := zp172
            have zO172 : OT w zw172 := (zO165).tr zo_172
            first | refine b_if_eq (tgt := 182) C dX4_readOrder_175 (by decide) (fun h_175 => ?_) (fun h_175 => ?_) | refine n_if_eq (tgt := 182) C dX4_readOrder_175 (by decide) (by first | decide | omega) (fun h_175 => ?_) (fun h_175 => ?_) | refine a_if_eq (tgt := 182) C dX4_readOrder_175 (by decide) (fun h_175 => ?_) (fun h_175 => ?_)
            · refine a_iconst (v := nI 0) C dX4_readOrder_182 (by decide) ?_
              refine f_iret C hr ?_ dX4_readOrder_183 ?_
              · first | exact bI_narrow _ | rfl
              · first | exact POr_f p (by rw [zr_0]) (by rw [zr_0]) zp_165 zO165 | exact POr_f (rdK t ln (p + 1)).2.1 (by rw [zr_1]; exact h_175) (by rw [zr_1]; rfl) zp_172 zO172 | exact POr_t 102 (rdK t ln (p + 1)).2.2 0 (by rw [zr_1]; exact h_175) (by rw [zr_1]; rfl) (by rw [zr_1]; exact zp_172) (zk_172.trans z3_165) (fun z => absurd z (by decide)) (fun _ => zn_172 h_175) (fun z => by omega) zO172
            · refine a_iconst (v := nI 1) C dX4_readOrder_178 (by decide) ?_
              refine a_goto (tgt := 183) C dX4_readOrder_179 (by decide) ?_
              refine f_iret C hr ?_ dX4_readOrder_183 ?_
              · first | exact bI_narrow _ | rfl
              · first | exact POr_f p (by rw [zr_0]) (by rw [zr_0]) zp_165 zO165 | exact POr_f (rdK t ln (p + 1)).2.1 (by rw [zr_1]; exact h_175) (by rw [zr_1]; rfl) zp_172 zO172 | exact POr_t 102 (rdK t ln (p + 1)).2.2 0 (by rw [zr_1]; exact h_175) (by rw [zr_1]; rfl) (by rw [zr_1]; exact zp_172) (zk_172.trans z3_165) (fun z => absurd z (by decide)) (fun _ => zn_172 h_175) (fun z => by omega) zO172
        · rw [h_142] at zp_139
          have zp_139 : zw139.1 1 2 = nI (p + 1) := zp_139
          have zs_139 := isB_at h_142
          refine a_aload_n C dX4_readOrder_145 rfl rfl ?_
          refine a_bipush (v := nI 108) C dX4_readOrder_146 (by decide) ?_
          refine f_putf C fX4_30 dX4_readOrder_148 (by first | decide | omega) rfl rfl rfl (Nat.le_of_ble_eq_true rfl) rfl ?_
          refine a_aload_n C dX4_readOrder_151 rfl rfl ?_
          refine f_callV C _ _ (K_X4_readKey (hT.ot (zO139.set (j := 3) (by decide))) ((wSet_ne (by decide)).trans zp_139) (show p + 1 ≤ ln by omega)) vX4_41 (by first | decide | omega) rfl rfl dX4_readOrder_152 rfl (Nat.le_of_ble_eq_true rfl) ⟨by decide, by decide⟩ (fun zr152 zw152 zp152 => ?_)
          obtain ⟨rfl, zp_152, zn_152, zk_152, zo_152⟩ := zp152
          have zO152 : OT w zw152 := (zO139.set (j := 3) (by decide)).tr zo_152
          refine f_iret C hr ?_ dX4_readOrder_155 ?_
          · exact bI_narrow _
          · rw [rdO_l h_142]
            exact ⟨rfl, zp_152, fun z => ⟨zk_152.trans wSet_at, fun y => absurd y (show ¬ (108 : Nat) = 99 by decide), fun _ => zn_152 z, fun y => by have : (108 : Nat) = 99 ∨ (108 : Nat) = 100 ∨ (108 : Nat) = 116 := y; omega⟩, zO152⟩
      · rw [h_96] at zp_93
        have zp_93 : zw93.1 1 2 = nI (p + 1) := zp_93
        have zs_93 := isB_at h_96
        refine a_aload_n C dX4_readOrder_99 rfl rfl ?_
        refine a_bipush (v := nI 116) C dX4_readOrder_100 (by decide) ?_
        refine f_putf C fX4_30 dX4_readOrder_102 (by first | decide | omega) rfl rfl rfl (Nat.le_of_ble_eq_true rfl) rfl ?_
        refine a_aload_n C dX4_readOrder_105 rfl rfl ?_
        refine f_callV C _ _ (K_X4_readKey (hT.ot (zO93.set (j := 3) (by decide))) ((wSet_ne (by decide)).trans zp_93) (show p + 1 ≤ ln by omega)) vX4_41 (by first | decide | omega) rfl rfl dX4_readOrder_106 rfl (Nat.le_of_ble_eq_true rfl) ⟨by decide, by decide⟩ (fun zr106 zw106 zp106 => ?_)
        obtain ⟨rfl, zp_106, zn_106, zk_106, zo_106⟩ := zp106
        have zO106 : OT w zw106 := (zO93.set (by decide)).tr zo_106
        have zT106 := hT.ot zO106
        have z3_106 : zw106.1 1 3 = nI 116 := zk_106.trans wSet_at
        first | refine b_if_eq (tgt := 134) C dX4_readOrder_109 (by decide) (fun h_109 => ?_) (fun h_109 => ?_) | refine n_if_eq (tgt := 134) C dX4_readOrder_109 (by decide) (by first | decide | omega) (fun h_109 => ?_) (fun h_109 => ?_) | refine a_if_eq (tgt := 134) C dX4_readOrder_109 (by decide) (fun h_109 => ?_) (fun h_109 => ?_)
        · refine a_iconst (v := nI 0) C dX4_readOrder_134 (by decide) ?_
          refine f_iret C hr ?_ dX4_readOrder_135 ?_
          · first | exact bI_narrow _ | rfl
          · first | exact POr_f (rdK t ln (p + 1)).2.1 (by rw [rdO_t h_96, rdT_0 h_109]) (by rw [rdO_t h_96, rdT_0 h_109]) zp_106 zO106 | exact POr_f (rdK t ln (p + 1)).2.1 (by rw [rdO_t h_96, rdT_1 h_109 h_118]) (by rw [rdO_t h_96, rdT_1 h_109 h_118]) zp_115 zO115 | exact POr_f ((rdK t ln (p + 1)).2.1 + 1) (by rw [rdO_t h_96, rdT_2 h_109 h_118 h_127]) (by rw [rdO_t h_96, rdT_2 h_109 h_118 h_127]) zp_124 zO124 | exact POr_t 116 (rdK t ln (p + 1)).2.2 (t ((rdK t ln (p + 1)).2.1 + 1) - 48) (by rw [rdO_t h_96, rdT_3 h_109 h_118 h_127]) (by rw [rdO_t h_96, rdT_3 h_109 h_118 h_127]) (by rw [rdO_t h_96, rdT_3 h_109 h_118 h_127]; exact zp_124) ((zk_124 3 (by decide) (by decide)).trans ((zk_115 3 (by decide)).trans z3_106)) (fun z => absurd z (by decide)) (fun _ => ((zk_124 5 (by decide) (by decide)).trans ((zk_115 5 (by decide)).trans zn_106))) (fun _ => zn_124) zO124
        · have zn_106 := zn_106 h_109
          refine a_aload_n C dX4_readOrder_112 rfl rfl ?_
          refine a_bipush (v := nI 44) C dX4_readOrder_113 (by decide) ?_
          refine f_callV C _ _ (K_X4_skip (a := 44) zT106 zp_106 ((rdK_le (show p + 1 ≤ ln by omega)).1) (by decide)) vX4_26 (by first | decide | omega) rfl rfl dX4_readOrder_115 rfl (Nat.le_of_ble_eq_true rfl) ⟨by decide, by decide⟩ (fun zr115 zw115 zp115 => ?_)
          obtain ⟨rfl, zp_115, zk_115, zo_115⟩ := zp115
          have zO115 := zO106.tr zo_115
          have zT115 := hT.ot zO115
          first | refine b_if_eq (tgt := 134) C dX4_readOrder_118 (by decide) (fun h_118 => ?_) (fun h_118 => ?_) | refine n_if_eq (tgt := 134) C dX4_readOrder_118 (by decide) (by first | decide | omega) (fun h_118 => ?_) (fun h_118 => ?_) | refine a_if_eq (tgt := 134) C dX4_readOrder_118 (by decide) (fun h_118 => ?_) (fun h_118 => ?_)
          · rw [h_118] at zp_115
            have zp_115 : zw115.1 1 2 = nI (rdK t ln (p + 1)).2.1 := zp_115
            refine a_iconst (v := nI 0) C dX4_readOrder_134 (by decide) ?_
            refine f_iret C hr ?_ dX4_readOrder_135 ?_
            · first | exact bI_narrow _ | rfl
            · first | exact POr_f (rdK t ln (p + 1)).2.1 (by rw [rdO_t h_96, rdT_0 h_109]) (by rw [rdO_t h_96, rdT_0 h_109]) zp_106 zO106 | exact POr_f (rdK t ln (p + 1)).2.1 (by rw [rdO_t h_96, rdT_1 h_109 h_118]) (by rw [rdO_t h_96, rdT_1 h_109 h_118]) zp_115 zO115 | exact POr_f ((rdK t ln (p + 1)).2.1 + 1) (by rw [rdO_t h_96, rdT_2 h_109 h_118 h_127]) (by rw [rdO_t h_96, rdT_2 h_109 h_118 h_127]) zp_124 zO124 | exact POr_t 116 (rdK t ln (p + 1)).2.2 (t ((rdK t ln (p + 1)).2.1 + 1) - 48) (by rw [rdO_t h_96, rdT_3 h_109 h_118 h_127]) (by rw [rdO_t h_96, rdT_3 h_109 h_118 h_127]) (by rw [rdO_t h_96, rdT_3 h_109 h_118 h_127]; exact zp_124) ((zk_124 3 (by decide) (by decide)).trans ((zk_115 3 (by decide)).trans z3_106)) (fun z => absurd z (by decide)) (fun _ => ((zk_124 5 (by decide) (by decide)).trans ((zk_115 5 (by decide)).trans zn_106))) (fun _ => zn_124) zO124
          · rw [h_118] at zp_115
            have zp_115 : zw115.1 1 2 = nI ((rdK t ln (p + 1)).2.1 + 1) := zp_115
            have zs_115 := isB_at h_118
            refine a_aload_n C dX4_readOrder_121 rfl rfl ?_
            refine a_bipush (v := nI 6) C dX4_readOrder_122 (by decide) ?_
            refine f_callV C _ _ (K_X4_readNumber (a := 6) zT115 zp_115 (by omega) (by decide)) vX4_37 (by first | decide | omega) rfl rfl dX4_readOrder_124 rfl (Nat.le_of_ble_eq_true rfl) ⟨by decide, by decide⟩ (fun zr124 zw124 zp124 => ?_)
            obtain ⟨rfl, zp_124, zn_124, zk_124, zo_124⟩ := zp124
            have zO124 := zO115.tr zo_124
            first | refine b_if_eq (tgt := 134) C dX4_readOrder_127 (by decide) (fun h_127 => ?_) (fun h_127 => ?_) | refine n_if_eq (tgt := 134) C dX4_readOrder_127 (by decide) (by first | decide | omega) (fun h_127 => ?_) (fun h_127 => ?_) | refine a_if_eq (tgt := 134) C dX4_readOrder_127 (by decide) (fun h_127 => ?_) (fun h_127 => ?_)
            · rw [h_127] at zp_124
              have zp_124 : zw124.1 1 2 = nI ((rdK t ln (p + 1)).2.1 + 1) := zp_124
              refine a_iconst (v := nI 0) C dX4_readOrder_134 (by decide) ?_
              refine f_iret C hr ?_ dX4_readOrder_135 ?_
              · first | exact bI_narrow _ | rfl
              · first | exact POr_f (rdK t ln (p + 1)).2.1 (by rw [rdO_t h_96, rdT_0 h_109]) (by rw [rdO_t h_96, rdT_0 h_109]) zp_106 zO106 | exact POr_f (rdK t ln (p + 1)).2.1 (by rw [rdO_t h_96, rdT_1 h_109 h_118]) (by rw [rdO_t h_96, rdT_1 h_109 h_118]) zp_115 zO115 | exact POr_f ((rdK t ln (p + 1)).2.1 + 1) (by rw [rdO_t h_96, rdT_2 h_109 h_118 h_127]) (by rw [rdO_t h_96, rdT_2 h_109 h_118 h_127]) zp_124 zO124 | exact POr_t 116 (rdK t ln (p + 1)).2.2 (t ((rdK t ln (p + 1)).2.1 + 1) - 48) (by rw [rdO_t h_96, rdT_3 h_109 h_118 h_127]) (by rw [rdO_t h_96, rdT_3 h_109 h_118 h_127]) (by rw [rdO_t h_96, rdT_3 h_109 h_118 h_127]; exact zp_124) ((zk_124 3 (by decide) (by decide)).trans ((zk_115 3 (by decide)).trans z3_106)) (fun z => absurd z (by decide)) (fun _ => ((zk_124 5 (by decide) (by decide)).trans ((zk_115 5 (by decide)).trans zn_106))) (fun _ => zn_124) zO124
            · rw [h_127] at zp_124
              have zp_124 : zw124.1 1 2 = nI ((rdK t ln (p + 1)).2.1 + 2) := zp_124
              have zn_124 := zn_124 h_127
              refine a_iconst (v := nI 1) C dX4_readOrder_130 (by decide) ?_
              refine a_goto (tgt := 135) C dX4_readOrder_131 (by decide) ?_
              refine f_iret C hr ?_ dX4_readOrder_135 ?_
              · first | exact bI_narrow _ | rfl
              · first | exact POr_f (rdK t ln (p + 1)).2.1 (by rw [rdO_t h_96, rdT_0 h_109]) (by rw [rdO_t h_96, rdT_0 h_109]) zp_106 zO106 | exact POr_f (rdK t ln (p + 1)).2.1 (by rw [rdO_t h_96, rdT_1 h_109 h_118]) (by rw [rdO_t h_96, rdT_1 h_109 h_118]) zp_115 zO115 | exact POr_f ((rdK t ln (p + 1)).2.1 + 1) (by rw [rdO_t h_96, rdT_2 h_109 h_118 h_127]) (by rw [rdO_t h_96, rdT_2 h_109 h_118 h_127]) zp_124 zO124 | exact POr_t 116 (rdK t ln (p + 1)).2.2 (t ((rdK t ln (p + 1)).2.1 + 1) - 48) (by rw [rdO_t h_96, rdT_3 h_109 h_118 h_127]) (by rw [rdO_t h_96, rdT_3 h_109 h_118 h_127]) (by rw [rdO_t h_96, rdT_3 h_109 h_118 h_127]; exact zp_124) ((zk_124 3 (by decide) (by decide)).trans ((zk_115 3 (by decide)).trans z3_106)) (fun z => absurd z (by decide)) (fun _ => ((zk_124 5 (by decide) (by decide)).trans ((zk_115 5 (by decide)).trans zn_106))) (fun _ => zn_124) zO124
    · rw [h_51] at zp_48
      have zp_48 : zw48.1 1 2 = nI (p + 1) := zp_48
      have zs_48 := isB_at h_51
      refine a_aload_n C dX4_readOrder_54 rfl rfl ?_
      refine a_bipush (v := nI 100) C dX4_readOrder_55 (by decide) ?_
      refine f_putf C fX4_30 dX4_readOrder_57 (by first | decide | omega) rfl rfl rfl (Nat.le_of_ble_eq_true rfl) rfl ?_
      refine a_aload_n C dX4_readOrder_60 rfl rfl ?_
      refine f_callV C _ _ (K_X4_readKey (hT.ot (zO48.set (j := 3) (by decide))) ((wSet_ne (by decide)).trans zp_48) (show p + 1 ≤ ln by omega)) vX4_41 (by first | decide | omega) rfl rfl dX4_readOrder_61 rfl (Nat.le_of_ble_eq_true rfl) ⟨by decide, by decide⟩ (fun zr61 zw61 zp61 => ?_)
      obtain ⟨rfl, zp_61, zn_61, zk_61, zo_61⟩ := zp61
      have zO61 : OT w zw61 := (zO48.set (by decide)).tr zo_61
      have zT61 := hT.ot zO61
      have z3_61 : zw61.1 1 3 = nI 100 := zk_61.trans wSet_at
      first | refine b_if_eq (tgt := 88) C dX4_readOrder_64 (by decide) (fun h_64 => ?_) (fun h_64 => ?_) | refine n_if_eq (tgt := 88) C dX4_readOrder_64 (by decide) (by first | decide | omega) (fun h_64 => ?_) (fun h_64 => ?_) | refine a_if_eq (tgt := 88) C dX4_readOrder_64 (by decide) (fun h_64 => ?_) (fun h_64 => ?_)
      · refine a_iconst (v := nI 0) C dX4_readOrder_88 (by decide) ?_
        refine f_iret C hr ?_ dX4_readOrder_89 ?_
        · first | exact bI_narrow _ | rfl
        · first | exact POr_f (rdK t ln (p + 1)).2.1 (by rw [rdO_d h_51, rdT_0 h_64]) (by rw [rdO_d h_51, rdT_0 h_64]) zp_61 zO61 | exact POr_f (rdK t ln (p + 1)).2.1 (by rw [rdO_d h_51, rdT_1 h_64 h_73]) (by rw [rdO_d h_51, rdT_1 h_64 h_73]) zp_70 zO70 | exact POr_f ((rdK t ln (p + 1)).2.1 + 1) (by rw [rdO_d h_51, rdT_2 h_64 h_73 h_81]) (by rw [rdO_d h_51, rdT_2 h_64 h_73 h_81]) zp_78 zO78 | exact POr_t 100 (rdK t ln (p + 1)).2.2 (t ((rdK t ln (p + 1)).2.1 + 1) - 48) (by rw [rdO_d h_51, rdT_3 h_64 h_73 h_81]) (by rw [rdO_d h_51, rdT_3 h_64 h_73 h_81]) (by rw [rdO_d h_51, rdT_3 h_64 h_73 h_81]; exact zp_78) ((zk_78 3 (by decide) (by decide)).trans ((zk_70 3 (by decide)).trans z3_61)) (fun z => absurd z (by decide)) (fun _ => ((zk_78 5 (by decide) (by decide)).trans ((zk_70 5 (by decide)).trans zn_61))) (fun _ => zn_78) zO78
      · have zn_61 := zn_61 h_64
        refine a_aload_n C dX4_readOrder_67 rfl rfl ?_
        refine a_bipush (v := nI 44) C dX4_readOrder_68 (by decide) ?_
        refine f_callV C _ _ (K_X4_skip (a := 44) zT61 zp_61 ((rdK_le (show p + 1 ≤ ln by omega)).1) (by decide)) vX4_26 (by first | decide | omega) rfl rfl dX4_readOrder_70 rfl (Nat.le_of_ble_eq_true rfl) ⟨by decide, by decide⟩ (fun zr70 zw70 zp70 => ?_)
        obtain ⟨rfl, zp_70, zk_70, zo_70⟩ := zp70
        have zO70 := zO61.tr zo_70
        have zT70 := hT.ot zO70
        first | refine b_if_eq (tgt := 88) C dX4_readOrder_73 (by decide) (fun h_73 => ?_) (fun h_73 => ?_) | refine n_if_eq (tgt := 88) C dX4_readOrder_73 (by decide) (by first | decide | omega) (fun h_73 => ?_) (fun h_73 => ?_) | refine a_if_eq (tgt := 88) C dX4_readOrder_73 (by decide) (fun h_73 => ?_) (fun h_73 => ?_)
        · rw [h_73] at zp_70
          have zp_70 : zw70.1 1 2 = nI (rdK t ln (p + 1)).2.1 := zp_70
          refine a_iconst (v := nI 0) C dX4_readOrder_88 (by decide) ?_
          refine f_iret C hr ?_ dX4_readOrder_89 ?_
          · first | exact bI_narrow _ | rfl
          · first | exact POr_f (rdK t ln (p + 1)).2.1 (by rw [rdO_d h_51, rdT_0 h_64]) (by rw [rdO_d h_51, rdT_0 h_64]) zp_61 zO61 | exact POr_f (rdK t ln (p + 1)).2.1 (by rw [rdO_d h_51, rdT_1 h_64 h_73]) (by rw [rdO_d h_51, rdT_1 h_64 h_73]) zp_70 zO70 | exact POr_f ((rdK t ln (p + 1)).2.1 + 1) (by rw [rdO_d h_51, rdT_2 h_64 h_73 h_81]) (by rw [rdO_d h_51, rdT_2 h_64 h_73 h_81]) zp_78 zO78 | exact POr_t 100 (rdK t ln (p + 1)).2.2 (t ((rdK t ln (p + 1)).2.1 + 1) - 48) (by rw [rdO_d h_51, rdT_3 h_64 h_73 h_81]) (by rw [rdO_d h_51, rdT_3 h_64 h_73 h_81]) (by rw [rdO_d h_51, rdT_3 h_64 h_73 h_81]; exact zp_78) ((zk_78 3 (by decide) (by decide)).trans ((zk_70 3 (by decide)).trans z3_61)) (fun z => absurd z (by decide)) (fun _ => ((zk_78 5 (by decide) (by decide)).trans ((zk_70 5 (by decide)).trans zn_61))) (fun _ => zn_78) zO78
        · rw [h_73] at zp_70
          have zp_70 : zw70.1 1 2 = nI ((rdK t ln (p + 1)).2.1 + 1) := zp_70
          have zs_70 := isB_at h_73
          refine a_aload_n C dX4_readOrder_76 rfl rfl ?_
          refine a_iconst (v := nI 4) C dX4_readOrder_77 (by decide) ?_
          refine f_callV C _ _ (K_X4_readNumber (a := 4) zT70 zp_70 (by omega) (by decide)) vX4_37 (by first | decide | omega) rfl rfl dX4_readOrder_78 rfl (Nat.le_of_ble_eq_true rfl) ⟨by decide, by decide⟩ (fun zr78 zw78 zp78 => ?_)
          obtain ⟨rfl, zp_78, zn_78, zk_78, zo_78⟩ := zp78
          have zO78 := zO70.tr zo_78
          first | refine b_if_eq (tgt := 88) C dX4_readOrder_81 (by decide) (fun h_81 => ?_) (fun h_81 => ?_) | refine n_if_eq (tgt := 88) C dX4_readOrder_81 (by decide) (by first | decide | omega) (fun h_81 => ?_) (fun h_81 => ?_) | refine a_if_eq (tgt := 88) C dX4_readOrder_81 (by decide) (fun h_81 => ?_) (fun h_81 => ?_)
          · rw [h_81] at zp_78
            have zp_78 : zw78.1 1 2 = nI ((rdK t ln (p + 1)).2.1 + 1) := zp_78
            refine a_iconst (v := nI 0) C dX4_readOrder_88 (by decide) ?_
            refine f_iret C hr ?_ dX4_readOrder_89 ?_
            · first | exact bI_narrow _ | rfl
            · first | exact POr_f (rdK t ln (p + 1)).2.1 (by rw [rdO_d h_51, rdT_0 h_64]) (by rw [rdO_d h_51, rdT_0 h_64]) zp_61 zO61 | exact POr_f (rdK t ln (p + 1)).2.1 (by rw [rdO_d h_51, rdT_1 h_64 h_73]) (by rw [rdO_d h_51, rdT_1 h_64 h_73]) zp_70 zO70 | exact POr_f ((rdK t ln (p + 1)).2.1 + 1) (by rw [rdO_d h_51, rdT_2 h_64 h_73 h_81]) (by rw [rdO_d h_51, rdT_2 h_64 h_73 h_81]) zp_78 zO78 | exact POr_t 100 (rdK t ln (p + 1)).2.2 (t ((rdK t ln (p + 1)).2.1 + 1) - 48) (by rw [rdO_d h_51, rdT_3 h_64 h_73 h_81]) (by rw [rdO_d h_51, rdT_3 h_64 h_73 h_81]) (by rw [rdO_d h_51, rdT_3 h_64 h_73 h_81]; exact zp_78) ((zk_78 3 (by decide) (by decide)).trans ((zk_70 3 (by decide)).trans z3_61)) (fun z => absurd z (by decide)) (fun _ => ((zk_78 5 (by decide) (by decide)).trans ((zk_70 5 (by decide)).trans zn_61))) (fun _ => zn_78) zO78
          · rw [h_81] at zp_78
            have zp_78 : zw78.1 1 2 = nI ((rdK t ln (p + 1)).2.1 + 2) := zp_78
            have zn_78 := zn_78 h_81
            refine a_iconst (v := nI 1) C dX4_readOrder_84 (by decide) ?_
            refine a_goto (tgt := 89) C dX4_readOrder_85 (by decide) ?_
            refine f_iret C hr ?_ dX4_readOrder_89 ?_
            · first | exact bI_narrow _ | rfl
            · first | exact POr_f (rdK t ln (p + 1)).2.1 (by rw [rdO_d h_51, rdT_0 h_64]) (by rw [rdO_d h_51, rdT_0 h_64]) zp_61 zO61 | exact POr_f (rdK t ln (p + 1)).2.1 (by rw [rdO_d h_51, rdT_1 h_64 h_73]) (by rw [rdO_d h_51, rdT_1 h_64 h_73]) zp_70 zO70 | exact POr_f ((rdK t ln (p + 1)).2.1 + 1) (by rw [rdO_d h_51, rdT_2 h_64 h_73 h_81]) (by rw [rdO_d h_51, rdT_2 h_64 h_73 h_81]) zp_78 zO78 | exact POr_t 100 (rdK t ln (p + 1)).2.2 (t ((rdK t ln (p + 1)).2.1 + 1) - 48) (by rw [rdO_d h_51, rdT_3 h_64 h_73 h_81]) (by rw [rdO_d h_51, rdT_3 h_64 h_73 h_81]) (by rw [rdO_d h_51, rdT_3 h_64 h_73 h_81]; exact zp_78) ((zk_78 3 (by decide) (by decide)).trans ((zk_70 3 (by decide)).trans z3_61)) (fun z => absurd z (by decide)) (fun _ => ((zk_78 5 (by decide) (by decide)).trans ((zk_70 5 (by decide)).trans zn_61))) (fun _ => zn_78) zO78
  · rw [h_6] at zp_3
    have zp_3 : zw3.1 1 2 = nI (p + 1) := zp_3
    have zs_3 := isB_at h_6
    refine a_aload_n C dX4_readOrder_9 rfl rfl ?_
    refine a_bipush (v := nI 99) C dX4_readOrder_10 (by decide) ?_
    refine f_putf C fX4_30 dX4_readOrder_12 (by first | decide | omega) rfl rfl rfl (Nat.le_of_ble_eq_true rfl) rfl ?_
    refine a_aload_n C dX4_readOrder_15 rfl rfl ?_
    refine f_callV C _ _ (K_X4_readCode (hT.ot (zO3.set (j := 3) (by decide))) ((wSet_ne (by decide)).trans zp_3) (show p + 1 ≤ ln by omega)) vX4_34 (by first | decide | omega) rfl rfl dX4_readOrder_16 rfl (Nat.le_of_ble_eq_true rfl) ⟨by decide, by decide⟩ (fun zr16 zw16 zp16 => ?_)
    obtain ⟨rfl, zp_16, zn_16, zk_16, zo_16⟩ := zp16
    have zO16 : OT w zw16 := (zO3.set (by decide)).tr zo_16
    have zT16 := hT.ot zO16
    have z3_16 : zw16.1 1 3 = nI 99 := zk_16.trans wSet_at
    first | refine b_if_eq (tgt := 43) C dX4_readOrder_19 (by decide) (fun h_19 => ?_) (fun h_19 => ?_) | refine n_if_eq (tgt := 43) C dX4_readOrder_19 (by decide) (by first | decide | omega) (fun h_19 => ?_) (fun h_19 => ?_) | refine a_if_eq (tgt := 43) C dX4_readOrder_19 (by decide) (fun h_19 => ?_) (fun h_19 => ?_)
    · refine a_iconst (v := nI 0) C dX4_readOrder_43 (by decide) ?_
      refine f_iret C hr ?_ dX4_readOrder_44 ?_
      · first | exact bI_narrow _ | rfl
      · first | exact POr_f (rdC t ln 4 (p + 1) 0).2.1 (by rw [rdO_c h_6, rdT_0 h_19]) (by rw [rdO_c h_6, rdT_0 h_19]) zp_16 zO16 | exact POr_f (rdC t ln 4 (p + 1) 0).2.1 (by rw [rdO_c h_6, rdT_1 h_19 h_28]) (by rw [rdO_c h_6, rdT_1 h_19 h_28]) zp_25 zO25 | exact POr_f ((rdC t ln 4 (p + 1) 0).2.1 + 1) (by rw [rdO_c h_6, rdT_2 h_19 h_28 h_36]) (by rw [rdO_c h_6, rdT_2 h_19 h_28 h_36]) zp_33 zO33 | exact POr_t 99 (rdC t ln 4 (p + 1) 0).2.2 (t ((rdC t ln 4 (p + 1) 0).2.1 + 1) - 48) (by rw [rdO_c h_6, rdT_3 h_19 h_28 h_36]) (by rw [rdO_c h_6, rdT_3 h_19 h_28 h_36]) (by rw [rdO_c h_6, rdT_3 h_19 h_28 h_36]; exact zp_33) ((zk_33 3 (by decide) (by decide)).trans ((zk_25 3 (by decide)).trans z3_16)) (fun _ => ((zk_33 4 (by decide) (by decide)).trans ((zk_25 4 (by decide)).trans zn_16))) (fun z => absurd rfl z) (fun _ => zn_33) zO33
    · have zn_16 := zn_16 h_19
      refine a_aload_n C dX4_readOrder_22 rfl rfl ?_
      refine a_bipush (v := nI 64) C dX4_readOrder_23 (by decide) ?_
      refine f_callV C _ _ (K_X4_skip (a := 64) zT16 zp_16 ((rdC_le 4 (p + 1) 0 (show p + 1 ≤ ln by omega)).1) (by decide)) vX4_26 (by first | decide | omega) rfl rfl dX4_readOrder_25 rfl (Nat.le_of_ble_eq_true rfl) ⟨by decide, by decide⟩ (fun zr25 zw25 zp25 => ?_)
      obtain ⟨rfl, zp_25, zk_25, zo_25⟩ := zp25
      have zO25 := zO16.tr zo_25
      have zT25 := hT.ot zO25
      first | refine b_if_eq (tgt := 43) C dX4_readOrder_28 (by decide) (fun h_28 => ?_) (fun h_28 => ?_) | refine n_if_eq (tgt := 43) C dX4_readOrder_28 (by decide) (by first | decide | omega) (fun h_28 => ?_) (fun h_28 => ?_) | refine a_if_eq (tgt := 43) C dX4_readOrder_28 (by decide) (fun h_28 => ?_) (fun h_28 => ?_)
      · rw [h_28] at zp_25
        have zp_25 : zw25.1 1 2 = nI (rdC t ln 4 (p + 1) 0).2.1 := zp_25
        refine a_iconst (v := nI 0) C dX4_readOrder_43 (by decide) ?_
        refine f_iret C hr ?_ dX4_readOrder_44 ?_
        · first | exact bI_narrow _ | rfl
        · first | exact POr_f (rdC t ln 4 (p + 1) 0).2.1 (by rw [rdO_c h_6, rdT_0 h_19]) (by rw [rdO_c h_6, rdT_0 h_19]) zp_16 zO16 | exact POr_f (rdC t ln 4 (p + 1) 0).2.1 (by rw [rdO_c h_6, rdT_1 h_19 h_28]) (by rw [rdO_c h_6, rdT_1 h_19 h_28]) zp_25 zO25 | exact POr_f ((rdC t ln 4 (p + 1) 0).2.1 + 1) (by rw [rdO_c h_6, rdT_2 h_19 h_28 h_36]) (by rw [rdO_c h_6, rdT_2 h_19 h_28 h_36]) zp_33 zO33 | exact POr_t 99 (rdC t ln 4 (p + 1) 0).2.2 (t ((rdC t ln 4 (p + 1) 0).2.1 + 1) - 48) (by rw [rdO_c h_6, rdT_3 h_19 h_28 h_36]) (by rw [rdO_c h_6, rdT_3 h_19 h_28 h_36]) (by rw [rdO_c h_6, rdT_3 h_19 h_28 h_36]; exact zp_33) ((zk_33 3 (by decide) (by decide)).trans ((zk_25 3 (by decide)).trans z3_16)) (fun _ => ((zk_33 4 (by decide) (by decide)).trans ((zk_25 4 (by decide)).trans zn_16))) (fun z => absurd rfl z) (fun _ => zn_33) zO33
      · rw [h_28] at zp_25
        have zp_25 : zw25.1 1 2 = nI ((rdC t ln 4 (p + 1) 0).2.1 + 1) := zp_25
        have zs_25 := isB_at h_28
        refine a_aload_n C dX4_readOrder_31 rfl rfl ?_
        refine a_iconst (v := nI 4) C dX4_readOrder_32 (by decide) ?_
        refine f_callV C _ _ (K_X4_readNumber (a := 4) zT25 zp_25 (by omega) (by decide)) vX4_37 (by first | decide | omega) rfl rfl dX4_readOrder_33 rfl (Nat.le_of_ble_eq_true rfl) ⟨by decide, by decide⟩ (fun zr33 zw33 zp33 => ?_)
        obtain ⟨rfl, zp_33, zn_33, zk_33, zo_33⟩ := zp33
        have zO33 := zO25.tr zo_33
        first | refine b_if_eq (tgt := 43) C dX4_readOrder_36 (by decide) (fun h_36 => ?_) (fun h_36 => ?_) | refine n_if_eq (tgt := 43) C dX4_readOrder_36 (by decide) (by first | decide | omega) (fun h_36 => ?_) (fun h_36 => ?_) | refine a_if_eq (tgt := 43) C dX4_readOrder_36 (by decide) (fun h_36 => ?_) (fun h_36 => ?_)
        · rw [h_36] at zp_33
          have zp_33 : zw33.1 1 2 = nI ((rdC t ln 4 (p + 1) 0).2.1 + 1) := zp_33
          refine a_iconst (v := nI 0) C dX4_readOrder_43 (by decide) ?_
          refine f_iret C hr ?_ dX4_readOrder_44 ?_
          · first | exact bI_narrow _ | rfl
          · first | exact POr_f (rdC t ln 4 (p + 1) 0).2.1 (by rw [rdO_c h_6, rdT_0 h_19]) (by rw [rdO_c h_6, rdT_0 h_19]) zp_16 zO16 | exact POr_f (rdC t ln 4 (p + 1) 0).2.1 (by rw [rdO_c h_6, rdT_1 h_19 h_28]) (by rw [rdO_c h_6, rdT_1 h_19 h_28]) zp_25 zO25 | exact POr_f ((rdC t ln 4 (p + 1) 0).2.1 + 1) (by rw [rdO_c h_6, rdT_2 h_19 h_28 h_36]) (by rw [rdO_c h_6, rdT_2 h_19 h_28 h_36]) zp_33 zO33 | exact POr_t 99 (rdC t ln 4 (p + 1) 0).2.2 (t ((rdC t ln 4 (p + 1) 0).2.1 + 1) - 48) (by rw [rdO_c h_6, rdT_3 h_19 h_28 h_36]) (by rw [rdO_c h_6, rdT_3 h_19 h_28 h_36]) (by rw [rdO_c h_6, rdT_3 h_19 h_28 h_36]; exact zp_33) ((zk_33 3 (by decide) (by decide)).trans ((zk_25 3 (by decide)).trans z3_16)) (fun _ => ((zk_33 4 (by decide) (by decide)).trans ((zk_25 4 (by decide)).trans zn_16))) (fun z => absurd rfl z) (fun _ => zn_33) zO33
        · rw [h_36] at zp_33
          have zp_33 : zw33.1 1 2 = nI ((rdC t ln 4 (p + 1) 0).2.1 + 2) := zp_33
          have zn_33 := zn_33 h_36
          refine a_iconst (v := nI 1) C dX4_readOrder_39 (by decide) ?_
          refine a_goto (tgt := 44) C dX4_readOrder_40 (by decide) ?_
          refine f_iret C hr ?_ dX4_readOrder_44 ?_
          · first | exact bI_narrow _ | rfl
          · first | exact POr_f (rdC t ln 4 (p + 1) 0).2.1 (by rw [rdO_c h_6, rdT_0 h_19]) (by rw [rdO_c h_6, rdT_0 h_19]) zp_16 zO16 | exact POr_f (rdC t ln 4 (p + 1) 0).2.1 (by rw [rdO_c h_6, rdT_1 h_19 h_28]) (by rw [rdO_c h_6, rdT_1 h_19 h_28]) zp_25 zO25 | exact POr_f ((rdC t ln 4 (p + 1) 0).2.1 + 1) (by rw [rdO_c h_6, rdT_2 h_19 h_28 h_36]) (by rw [rdO_c h_6, rdT_2 h_19 h_28 h_36]) zp_33 zO33 | exact POr_t 99 (rdC t ln 4 (p + 1) 0).2.2 (t ((rdC t ln 4 (p + 1) 0).2.1 + 1) - 48) (by rw [rdO_c h_6, rdT_3 h_19 h_28 h_36]) (by rw [rdO_c h_6, rdT_3 h_19 h_28 h_36]) (by rw [rdO_c h_6, rdT_3 h_19 h_28 h_36]; exact zp_33) ((zk_33 3 (by decide) (by decide)).trans ((zk_25 3 (by decide)).trans z3_16)) (fun _ => ((zk_33 4 (by decide) (by decide)).trans ((zk_25 4 (by decide)).trans zn_16))) (fun z => absurd rfl z) (fun _ => zn_33) zO33

def PAl (w : Wd) (q : Bool × Nat) : Option Value → Wd → Prop := fun r w' => r = some (.int (bI q.1)) ∧ w'.1 1 2 = nI q.2 ∧ OT w w'
theorem rdA_s (n p : Nat) {t : Nat → Nat} {ln : Nat} (h : ln < p + 2 * n) : ∀ m, n ≤ m → rdA t ln m p = rdA t ln n p := by
  induction n generalizing p with
  | zero =>
    intro m _
    cases m with
    | zero => rfl
    | succ m =>
      have e : ∀ c, chB t ln c p = false := fun c => decide_eq_false (fun z => by omega)
      have z := rdO_n (e 99) (e 100) (e 116) (e 108) (e 102)
      rw [rdA_0 (by rw [z]), z]
      rfl
  | succ n ih =>
    intro m hm
    obtain ⟨m, rfl⟩ : ∃ k, m = k + 1 := ⟨m - 1, by omega⟩
    by_cases hp : p ≤ ln
    · cases e1 : (rdO t ln p).1 with
      | false => rw [rdA_0 e1, rdA_0 e1]
      | true =>
        by_cases e2 : (rdO t ln p).2.1 = ln
        · rw [rdA_1 e1 e2, rdA_1 e1 e2]
        · cases e3 : chB t ln 59 (rdO t ln p).2.1 with
          | false => rw [rdA_2 e1 e2 e3, rdA_2 e1 e2 e3]
          | true =>
            have z := (rdO_le hp).2 e1
            rw [rdA_3 e1 e2 e3, rdA_3 e1 e2 e3]
            exact ih _ (by omega) m (by omega)
    · have e : ∀ c, chB t ln c p = false := fun c => decide_eq_false (fun z => by omega)
      have z := rdO_n (e 99) (e 100) (e 116) (e 108) (e 102)
      rw [rdA_0 (by rw [z]), rdA_0 (by rw [z])]
set_option maxRecDepth 20000 in
set_option maxHeartbeats 4000000 in
theorem K_X4_readAll {w : Wd} {t : Nat → Nat} {ln : Nat} (hT : Tx w t ln)  : CF yX4_readAll cX4_readAll 2 (some .boolean) 4 85 [.ref 1] w (PAl w (rdA t ln 60 0)) := by
  have zq_l := hT.2.1
  refine CF.of ok_X4_readAll (Nat.le_of_ble_eq_true rfl) (fun ex us G9 p9 l9 e9 s9 m9 ar9 be9 me9 co9 C hr => ?_)
  have ZL7 : ∀ (zd7 : Nat) (k q : Nat) (z : Wd), 60 + 1 ≤ k + zd7 → k ≤ 60 → z.1 1 2 = nI q → q ≤ ln → rdA t ln (60 - k) q = rdA t ln 60 0 → OT w z → WA G9 p9 l9 e9 (RM 4 85) s9 m9 ar9 be9 me9 co9 (QF G9 be9 ar9 s9 w ex us (PAl w (rdA t ln 60 0))) 2 (219 + ex) us 7 [some (.ref 1), some (.int (nI k))] [] (fzM z ex us) := by
    intro zd7
    induction zd7 with
    | zero => intro k q z zm7 zh_k zh_p zh_l zh_e zh_o; exfalso; omega
    | succ zd7 zih7 =>
      intro k q z zm7 zh_k zh_p zh_l zh_e zh_o
      refine a_iload_n C dX4_readAll_7 rfl rfl ?_
      refine a_bipush (v := nI 60) C dX4_readAll_8 (by decide) ?_
      first | refine n_icmp_ge (tgt := 52) C dX4_readAll_10 (by decide) (by first | decide | omega) (by first | decide | omega) (fun h_10 => ?_) (fun h_10 => ?_) | refine a_icmp_ge (tgt := 52) C dX4_readAll_10 (by decide) (fun h_10 => ?_) (fun h_10 => ?_)
      · obtain rfl : k = 60 := by omega
        refine a_iconst (v := nI 0) C dX4_readAll_52 (by decide) ?_
        refine f_iret C hr ?_ dX4_readAll_53 ?_
        · first | exact bI_narrow _ | rfl
        · rw [← zh_e]
          exact ⟨rfl, zh_p, zh_o⟩
      · refine a_aload_n C dX4_readAll_13 rfl rfl ?_
        refine f_callV C _ _ (K_X4_readOrder (hT.ot zh_o) zh_p zh_l) vX4_19 (by first | decide | omega) rfl rfl dX4_readAll_14 rfl (Nat.le_of_ble_eq_true rfl) ⟨by decide, by decide⟩ (fun zr14 zw14 zp14 => ?_)
        obtain ⟨rfl, zp_14, zn_14, zo_14⟩ := zp14
        have zO14 := zh_o.tr zo_14
        have zq_q := (rdO_le (t := t) zh_l).1
        first | refine b_if_ne (tgt := 22) C dX4_readAll_17 (by decide) (fun h_17 => ?_) (fun h_17 => ?_) | refine n_if_ne (tgt := 22) C dX4_readAll_17 (by decide) (by first | decide | omega) (fun h_17 => ?_) (fun h_17 => ?_) | refine a_if_ne (tgt := 22) C dX4_readAll_17 (by decide) (fun h_17 => ?_) (fun h_17 => ?_)
        · refine a_aload_n C dX4_readAll_22 rfl rfl ?_
          refine a_getf C fX4_15 dX4_readAll_23 (show _ < 219 from (by first | decide | omega)) (by first | decide | omega) rfl (gl zp_14) ?_
          refine a_aload_n C dX4_readAll_26 rfl rfl ?_
          refine a_getf C fX4_23 dX4_readAll_27 (show _ < 219 from (by first | decide | omega)) (by first | decide | omega) rfl (gl (hT.ot zO14).1) ?_
          refine n_icmp_lt (tgt := 35) C dX4_readAll_30 (by decide) (by first | decide | omega) (by first | decide | omega) (fun h_30 => ?_) (fun h_30 => ?_)
          · have zq_ne : ¬ (rdO t ln q).2.1 = ln := by omega
            refine a_aload_n C dX4_readAll_35 rfl rfl ?_
            refine a_bipush (v := nI 59) C dX4_readAll_36 (by decide) ?_
            refine f_callV C _ _ (K_X4_skip (a := 59) (hT.ot zO14) zp_14 zq_q (by decide)) vX4_26 (by first | decide | omega) rfl rfl dX4_readAll_38 rfl (Nat.le_of_ble_eq_true rfl) ⟨by decide, by decide⟩ (fun zr38 zw38 zp38 => ?_)
            obtain ⟨rfl, zp_38, zk_38, zo_38⟩ := zp38
            have zO38 := zO14.tr zo_38
            first | refine b_if_ne (tgt := 46) C dX4_readAll_41 (by decide) (fun h_41 => ?_) (fun h_41 => ?_) | refine n_if_ne (tgt := 46) C dX4_readAll_41 (by decide) (by first | decide | omega) (fun h_41 => ?_) (fun h_41 => ?_) | refine a_if_ne (tgt := 46) C dX4_readAll_41 (by decide) (fun h_41 => ?_) (fun h_41 => ?_)
            · rw [h_41] at zp_38
              have zp_38 : zw38.1 1 2 = nI ((rdO t ln q).2.1 + 1) := zp_38
              refine n_iinc C dX4_readAll_46 rfl (by decide) ?_
              refine a_goto (tgt := 7) C dX4_readAll_49 (by decide) ?_
              refine a_join (aLe_s ?_ (aLe_s ?_ aLe_nil)) rfl rfl (zih7 (k + 1) ((rdO t ln q).2.1 + 1) zw38 (by omega) (by omega) zp_38 (by have := isB_at h_41; omega) (by rw [← zh_e, show 60 - k = (60 - (k + 1)) + 1 by omega, rdA_3 h_17 zq_ne h_41]) zO38)
              · first | with_reducible rfl | exact gl (by first | with_reducible rfl | (refine iF ?_; simp [h_10, h_17, h_30, h_41]; done) | (refine iT ?_; simp [h_10, h_17, h_30, h_41]; done) | (refine iB ?_; simp [h_10, h_17, h_30, h_41]; done) | (simp [h_10, h_17, h_30, h_41]; done) | (simp [h_10, h_17, h_30, h_41]; omega) | omega)
              · first | with_reducible rfl | exact gl (by first | with_reducible rfl | (refine iF ?_; simp [h_10, h_17, h_30, h_41]; done) | (refine iT ?_; simp [h_10, h_17, h_30, h_41]; done) | (refine iB ?_; simp [h_10, h_17, h_30, h_41]; done) | (simp [h_10, h_17, h_30, h_41]; done) | (simp [h_10, h_17, h_30, h_41]; omega) | omega)
            · rw [h_41] at zp_38
              have zp_38 : zw38.1 1 2 = nI (rdO t ln q).2.1 := zp_38
              refine a_iconst (v := nI 0) C dX4_readAll_44 (by decide) ?_
              refine f_iret C hr ?_ dX4_readAll_45 ?_
              · first | exact bI_narrow _ | rfl
              · rw [← zh_e, show 60 - k = (60 - (k + 1)) + 1 by omega, rdA_2 h_17 zq_ne h_41]
                exact ⟨rfl, zp_38, zO38⟩
          · have zq_e : (rdO t ln q).2.1 = ln := by omega
            refine a_iconst (v := nI 1) C dX4_readAll_33 (by decide) ?_
            refine f_iret C hr ?_ dX4_readAll_34 ?_
            · first | exact bI_narrow _ | rfl
            · rw [← zh_e, show 60 - k = (60 - (k + 1)) + 1 by omega, rdA_1 h_17 zq_e]
              exact ⟨rfl, by rw [zp_14, zq_e], zO14⟩
        · refine a_iconst (v := nI 0) C dX4_readAll_20 (by decide) ?_
          refine f_iret C hr ?_ dX4_readAll_21 ?_
          · first | exact bI_narrow _ | rfl
          · rw [← zh_e, show 60 - k = (60 - (k + 1)) + 1 by omega, rdA_0 h_17]
            exact ⟨rfl, zp_14, zO14⟩
  refine a_pad 1 ?_
  refine a_eq (L' := [some (.ref 1), none]) rfl rfl rfl ?_
  refine a_aload_n C dX4_readAll_0 rfl rfl ?_
  refine a_iconst (v := nI 0) C dX4_readAll_1 (by decide) ?_
  refine f_putf C fX4_15 dX4_readAll_2 (by first | decide | omega) rfl rfl rfl (Nat.le_of_ble_eq_true rfl) rfl ?_
  refine a_iconst (v := nI 0) C dX4_readAll_5 (by decide) ?_
  refine a_istore_n C dX4_readAll_6 rfl (by decide) ?_
  refine a_join (aLe_s ?_ (aLe_s ?_ aLe_nil)) rfl rfl (ZL7 (60 + 1) 0 0 (wSet w 1 2 (nI 0)) (by omega) (by omega) wSet_at (by omega) rfl (OT_refl.set (by decide)))
  · first | with_reducible rfl | exact gl (by first | with_reducible rfl | (refine iF ?_; simp []; done) | (refine iT ?_; simp []; done) | (refine iB ?_; simp []; done) | (simp []; done) | (simp []; omega) | omega | rfl)
  · first | with_reducible rfl | exact gl (by first | with_reducible rfl | (refine iF ?_; simp []; done) | (refine iT ?_; simp []; done) | (refine iB ?_; simp []; done) | (simp []; done) | (simp []; omega) | omega | rfl)

end A29

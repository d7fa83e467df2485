section A62
/-! ### the law: the switch, the loop, the start -/
variable {G : aG} {p : Program} {l : Launch} {e : Env} {s : State} {m : MethodId} {below : List Frame} {meth : Method} {c : Code} {Q : State → Prop} {N i ex us : Nat} {xs : Nat → Int32} {w : Wd}
theorem law_switch {args : Array Value} (C : aCtx G p s m args meth c cL_law 9 RL) (hfl : l.flags = flags0) (hX : aScr G s N xs) (hN : N < 2 ^ 31) (hi : i + 2 < N) (I : Inv w) (hb : ex ≤ 2000 ∧ us ≤ 100000) (k : lwK G p l e s m args below meth c Q i ex us) {x : Int32} : WA G p l e room_1 s m args below meth c Q 9 0 0 39 (lwL i) [.int x] (fzM w ex us) := by
  by_cases g1 : x.toInt < 0
  · exact a_tableOut (tgt := 2085) C dL_law_39 (Or.inl g1) (by decide) (k 0 w (Nat.zero_le 1) I)
  by_cases g2 : 34 < x.toInt
  · exact a_tableOut (tgt := 2085) C dL_law_39 (Or.inr g2) (by decide) (k 0 w (Nat.zero_le 1) I)
  obtain ⟨q, hq, e9⟩ : ∃ q : Nat, q ≤ 34 ∧ x.toInt = (q : Int) := ⟨x.toInt.toNat, by omega, by omega⟩
  have e8 : (x.toInt - 0).toNat = q := by omega
  match q, hq, e8 with
  | 0, _, e8 => exact a_tableIn (off := 153) (tgt := 192) C dL_law_39 g1 g2 (by rw [e8]; rfl) (by decide) (lc_cut C hfl hX hN hi I hb k)
  | 1, _, e8 => exact a_tableIn (off := 221) (tgt := 260) C dL_law_39 g1 g2 (by rw [e8]; rfl) (by decide) (lc_deepen C hfl hX hN hi I hb k)
  | 2, _, e8 => exact a_tableIn (off := 289) (tgt := 328) C dL_law_39 g1 g2 (by rw [e8]; rfl) (by decide) (lc_retire C hfl hX hN hi I hb k)
  | 3, _, e8 => exact a_tableIn (off := 345) (tgt := 384) C dL_law_39 g1 g2 (by rw [e8]; rfl) (by decide) (lc_give C hfl hX hN hi I hb k)
  | 4, _, e8 => exact a_tableIn (off := 413) (tgt := 452) C dL_law_39 g1 g2 (by rw [e8]; rfl) (by decide) (lc_lose C hfl hX hN hi I hb k)
  | 5, _, e8 => exact a_tableIn (off := 469) (tgt := 508) C dL_law_39 g1 g2 (by rw [e8]; rfl) (by decide) (lc_find C hfl hX hN hi I hb k)
  | 6, _, e8 => exact a_tableIn (off := 525) (tgt := 564) C dL_law_39 g1 g2 (by rw [e8]; rfl) (by decide) (lc_ward C hfl hX hN hi I hb k)
  | 7, _, e8 => exact a_tableIn (off := 593) (tgt := 632) C dL_law_39 g1 g2 (by rw [e8]; rfl) (by decide) (lc_guest C hfl hX hN hi I hb k)
  | 8, _, e8 => exact a_tableIn (off := 661) (tgt := 700) C dL_law_39 g1 g2 (by rw [e8]; rfl) (by decide) (lc_take C hfl hX hN hi I hb k)
  | 9, _, e8 => exact a_tableIn (off := 717) (tgt := 756) C dL_law_39 g1 g2 (by rw [e8]; rfl) (by decide) (lc_turn C hfl hX hN hi I hb k)
  | 10, _, e8 => exact a_tableIn (off := 785) (tgt := 824) C dL_law_39 g1 g2 (by rw [e8]; rfl) (by decide) (lc_set C hfl hX hN hi I hb k)
  | 11, _, e8 => exact a_tableIn (off := 853) (tgt := 892) C dL_law_39 g1 g2 (by rw [e8]; rfl) (by decide) (lc_append C hfl hX hN hi I hb k)
  | 12, _, e8 => exact a_tableIn (off := 909) (tgt := 948) C dL_law_39 g1 g2 (by rw [e8]; rfl) (by decide) (lc_clearBuffer C hfl hX hN hi I hb k)
  | 13, _, e8 => exact a_tableIn (off := 922) (tgt := 961) C dL_law_39 g1 g2 (by rw [e8]; rfl) (by decide) (lc_firstError C hfl hX hN hi I hb k)
  | 14, _, e8 => exact a_tableIn (off := 935) (tgt := 974) C dL_law_39 g1 g2 (by rw [e8]; rfl) (by decide) (lc_obey C hfl hX hN hi I hb k)
  | 15, _, e8 => exact a_tableIn (off := 979) (tgt := 1018) C dL_law_39 g1 g2 (by rw [e8]; rfl) (by decide) (lc_keep C hfl hX hN hi I hb k)
  | 16, _, e8 => exact a_tableIn (off := 992) (tgt := 1031) C dL_law_39 g1 g2 (by rw [e8]; rfl) (by decide) (lc_goBack C hfl hX hN hi I hb k)
  | 17, _, e8 => exact a_tableIn (off := 1036) (tgt := 1075) C dL_law_39 g1 g2 (by rw [e8]; rfl) (by decide) (lc_undo C hfl hX hN hi I hb k)
  | 18, _, e8 => exact a_tableIn (off := 1080) (tgt := 1119) C dL_law_39 g1 g2 (by rw [e8]; rfl) (by decide) (lc_key C hfl hX hN hi I hb k)
  | 19, _, e8 => exact a_tableIn (off := 1148) (tgt := 1187) C dL_law_39 g1 g2 (by rw [e8]; rfl) (by decide) (lc_lock C hfl hX hN hi I hb k)
  | 20, _, e8 => exact a_tableIn (off := 1216) (tgt := 1255) C dL_law_39 g1 g2 (by rw [e8]; rfl) (by decide) (lc_person C hfl hX hN hi I hb k)
  | 21, _, e8 => exact a_tableIn (off := 1284) (tgt := 1323) C dL_law_39 g1 g2 (by rw [e8]; rfl) (by decide) (lc_code C hfl hX hN hi I hb k)
  | 22, _, e8 => exact a_tableIn (off := 1352) (tgt := 1391) C dL_law_39 g1 g2 (by rw [e8]; rfl) (by decide) (lc_level C hfl hX hN hi I hb k)
  | 23, _, e8 => exact a_tableIn (off := 1420) (tgt := 1459) C dL_law_39 g1 g2 (by rw [e8]; rfl) (by decide) (lc_count C hfl hX hN hi I hb k)
  | 24, _, e8 => exact a_tableIn (off := 1476) (tgt := 1515) C dL_law_39 g1 g2 (by rw [e8]; rfl) (by decide) (lc_setting C hfl hX hN hi I hb k)
  | 25, _, e8 => exact a_tableIn (off := 1532) (tgt := 1571) C dL_law_39 g1 g2 (by rw [e8]; rfl) (by decide) (lc_why C hfl hX hN hi I hb k)
  | 26, _, e8 => exact a_tableIn (off := 1600) (tgt := 1639) C dL_law_39 g1 g2 (by rw [e8]; rfl) (by decide) (lc_stopped C hfl hX hN hi I hb k)
  | 27, _, e8 => exact a_tableIn (off := 1656) (tgt := 1695) C dL_law_39 g1 g2 (by rw [e8]; rfl) (by decide) (lc_most C hfl hX hN hi I hb k)
  | 28, _, e8 => exact a_tableIn (off := 1712) (tgt := 1751) C dL_law_39 g1 g2 (by rw [e8]; rfl) (by decide) (lc_pick C hfl hX hN hi I hb k)
  | 29, _, e8 => exact a_tableIn (off := 1768) (tgt := 1807) C dL_law_39 g1 g2 (by rw [e8]; rfl) (by decide) (lc_opener C hfl hX hN hi I hb k)
  | 30, _, e8 => exact a_tableIn (off := 1824) (tgt := 1863) C dL_law_39 g1 g2 (by rw [e8]; rfl) (by decide) (lc_worn C hfl hX hN hi I hb k)
  | 31, _, e8 => exact a_tableIn (off := 1892) (tgt := 1931) C dL_law_39 g1 g2 (by rw [e8]; rfl) (by decide) (lc_crossedIn C hfl hX hN hi I hb k)
  | 32, _, e8 => exact a_tableIn (off := 1948) (tgt := 1987) C dL_law_39 g1 g2 (by rw [e8]; rfl) (by decide) (lc_freeShare C hfl hX hN hi I hb k)
  | 33, _, e8 => exact a_tableIn (off := 1989) (tgt := 2028) C dL_law_39 g1 g2 (by rw [e8]; rfl) (by decide) (lc_meanLevel C hfl hX hN hi I hb k)
  | 34, _, e8 => exact a_tableIn (off := 2032) (tgt := 2071) C dL_law_39 g1 g2 (by rw [e8]; rfl) (by decide) (lc_digest C hfl hX hN hi I hb k)
  | q + 35, hq, _ => exact absurd hq (by omega)
theorem n3_toInt (hN : N < 2 ^ 20) : (nI N - nI 3).toInt = (N : Int) - 3 := by
  rw [Int32.toInt_sub, nI_toInt (by omega), nI_toInt (by decide)]
  exact Int.bmod_eq_of_le (by omega) (by omega)
/-- the loop: i ints read, ex things thrown -/
theorem law_loop {b : Nat} (C : aCtx G p s m #[Value.ref b] meth c cL_law 9 RL) (hr : meth.sig.returnType = ret) (hs : G.2.1 = s.heap.size) (hfl : l.flags = flags0) (hX : aScr G s N xs) (hN : N ≤ 1536) :
    ∀ (n i ex : Nat) (w : Wd), N + 3 ≤ i + n → i ≤ N + 2 → ex ≤ i → 0 < n → Inv w → WA G p l e room_1 s m #[Value.ref b] below meth c (lw_Z below #[Value.ref b] s) 9 0 0 23 (lwL i) [] (fzM w ex (5149 + 6 * ex)) := by
  intro n
  induction n with
  | zero => intro i ex w h1 h2 h3 h4; exact absurd h4 (by decide)
  | succ n ih =>
    intro i ex w h1 h2 h3 _ I
    refine a_iload C dL_law_23 rfl ?_
    refine a_aload_n C dL_law_25 rfl rfl ?_
    refine a_sln C hX dL_law_26 ?_
    refine a_iconst (v := nI 3) C dL_law_27 (by decide) ?_
    refine a_isub C dL_law_28 ?_
    refine a_icmp_gt (tgt := 2091) C dL_law_29 (by decide) (fun h9 => ?_) (fun h9 => ?_)
    · refine a_iconst (v := 1) C dL_law_2091 (by decide) ?_
      exact law_end C hr hs (by show 219 + ex ≤ 601024; omega) (by show 5149 + 6 * ex ≤ 7293034; omega) dL_law_2092
    · have hi : i + 2 < N := by
        have e1 := n3_toInt (N := N) (by omega)
        have e2 : ¬ (nI N - nI 3).toInt < (nI i).toInt := fun z => h9 (Int32.lt_iff_toInt_lt.mpr z)
        rw [e1, nI_toInt (by omega)] at e2
        omega
      refine a_aload_n C dL_law_32 rfl rfl ?_
      refine a_iload C dL_law_33 rfl ?_
      refine a_scl C hX dL_law_35 rfl (show i < N by omega) (by omega) ?_
      refine a_bipush (v := nI 63) C dL_law_36 (by decide) ?_
      refine a_iand C dL_law_38 ?_
      refine law_switch C hfl hX (by omega) hi I ⟨by omega, by omega⟩ (fun d w2 hd I2 => ?_)
      refine a_iinc C dL_law_2085 rfl (v := nI (i + 3)) (nI_add (a := i) (b := 3)) (by decide) ?_
      refine a_eq (L' := lwL (i + 3)) rfl rfl rfl ?_
      refine a_goto (tgt := 23) C dL_law_2088 (by decide) ?_
      have kk := ih (i + 3) (ex + d) w2 (by omega) (by omega) (by omega) (by omega) I2
      rw [show 5149 + 6 * (ex + d) = 5149 + 6 * ex + 6 * d by omega] at kk
      exact kk
theorem law_start {b : Nat} (C : aCtx G p s m #[Value.ref b] meth c cL_law 9 RL) (hAO : aAO s) (hr : meth.sig.returnType = ret) (hs : G.2.1 = s.heap.size) (hfl : l.flags = flags0) (hX : aScr G s N xs) (hN : N ≤ 1536) {f : Nat → aC} :
    WA G p l e room_1 s m #[Value.ref b] below meth c (lw_Z below #[Value.ref b] s) 9 0 0 0 [some (.ref 1003)] [] (0, 0, 0, f) := by
  refine a_pad 4 ?_
  refine a_eq (L' := [some (.ref 1003), none, none, none, none]) rfl rfl rfl ?_
  refine a_new (ci := 6) (fs := [.null, .null, .null, .null, .null, .int 0, .null, .int 0, .int 0]) C kL_8 inst_6 init_6 rfl (dfv6 G) dL_law_0 (show 0 < 1000 by decide) rfl ⟨Nat.le_of_ble_eq_true rfl, Nat.le_of_ble_eq_true rfl⟩ ?_
  refine a_nw (fun f1 za1 zb1 => ?_)
  refine a_eq (st' := [.ref 0]) (M' := (1, 0, 9, f1)) rfl rfl rfl ?_
  refine a_dup C dL_law_3 rfl ?_
  refine a_callIX C hAO [] (K_X6_init (us := 9) (f := f1) za1) iL_105 dL_law_4 rfl (Nat.le_of_ble_eq_true rfl) ⟨by decide, by decide⟩ ⟨by show 1 + 0 + 203 ≤ 0 + 601024; omega, by show 9 + 2296 ≤ 0 + 7293034; omega⟩ (fun r9 M9 hp9 _ _ => ?_)
  obtain ⟨rfl, F, rfl, hM6, h49, hst⟩ := hp9
  refine a_eq (st' := [.ref 0]) (M' := (204, 0, 2305, F)) rfl rfl rfl ?_
  refine a_astore_n C dL_law_7 rfl (by decide) ?_
  refine a_eq (L' := [some (.ref 1003), some (.ref 0), none, none, none]) rfl rfl rfl ?_
  refine a_new (ci := 7) (fs := [.int 0, .null, .null, .int 0, .null, .int 0, .null, .int 0, .int 0, .int 0, .int 0, .int 0, .null, .null, .null, .null, .null, .null, .null, .null, .null, .int 0, .long 0]) C kL_106 inst_7 init_7 rfl (dfv7 G) dL_law_8 (show 204 < 1000 by decide) rfl ⟨Nat.le_of_ble_eq_true rfl, Nat.le_of_ble_eq_true rfl⟩ ?_
  refine a_nw (fun f2 za2 zb2 => ?_)
  refine a_eq (st' := [.ref 204]) (M' := (205, 0, 2328, f2)) rfl rfl rfl ?_
  refine a_dup C dL_law_11 rfl ?_
  refine a_callI C [] (K_X7_init (us := 2328) (f := f2) za2) iL_108 dL_law_12 rfl (Nat.le_of_ble_eq_true rfl) ⟨by decide, by decide⟩ ⟨by show 205 + 0 + 13 ≤ 0 + 601024; omega, by show 2328 + 2820 ≤ 0 + 7293034; omega⟩ (fun r9 M9 hp9 _ _ => ?_)
  obtain ⟨rfl, go, gc, rfl, hgo, hgc⟩ := hp9
  refine a_eq (st' := [.ref 204]) (M' := (218, 0, 5148, hX7 f2 (stI 6) go gc)) rfl rfl rfl ?_
  refine a_astore_n C dL_law_15 rfl (by decide) ?_
  refine a_eq (L' := [some (.ref 1003), some (.ref 0), some (.ref 204), none, none]) rfl rfl rfl ?_
  refine a_iconst (v := nI 1) C dL_law_16 (by decide) ?_
  refine a_newaL C (N := 1) dL_law_17 rfl (by decide) (show 218 < 1000 by decide) rfl ⟨Nat.le_of_ble_eq_true rfl, Nat.le_of_ble_eq_true rfl⟩ ?_
  refine a_eq (st' := [.ref 218]) (M' := (219, 0, 5149, hL f2 go gc)) rfl rfl rfl ?_
  refine a_astore_n C dL_law_19 rfl (by decide) ?_
  refine a_eq (L' := [some (.ref 1003), some (.ref 0), some (.ref 204), some (.ref 218), none]) rfl rfl rfl ?_
  refine a_iconst (v := nI 0) C dL_law_20 (by decide) ?_
  refine a_istore C dL_law_21 (by decide) ?_
  refine a_eq (L' := lwL 0) rfl rfl rfl ?_
  have h9 : ∀ a, ¬ a = 204 → f2 a = F a := fun a ha => zb2 a ha
  refine a_heap (f2 := fz w0) (hL_sm (hM6.to (fun a ha _ => h9 a (by omega))) ((h9 49 (by decide)).trans h49) (fun q hq x hx => (h9 _ (by omega)).trans (hst q hq x hx)) hgo hgc) ?_
  have kk := law_loop (below := below) (e := e) C hr hs hfl hX hN (N + 3) 0 0 w0 (by omega) (by omega) (by omega) (by omega) ⟨stI 6, fun _ => stI 6, 0, 5, false, stI 6, fun _ => 0, 0, fun _ => false, ⟨st0_ok, w0_dr, w0_sv _, rfl, (fun h => Bool.noConfusion h), w0_tx _, w0_mo⟩, w0_rr, rfl, (fun q hq => absurd hq (Nat.not_lt_zero q)), rfl, (fun h => Bool.noConfusion h), w0_tm _⟩
  exact kk
/-- the law comes to its end with true -/
theorem whole_start {p : Program} {e : Env} {s : State} {m : MethodId} {below : List Frame} {meth : Method} {c : Code} (l : Launch) (hflags : l.flags = flags0) {b L : Nat} {xs : Nat → Int32} (hL : L ≤ 1536) (C0 : lw_At p s m meth c b L xs) : W p l e room_1 s m #[Value.ref b] below meth c s.heap [] 0 0 (lw_Z below #[Value.ref b] s) (entryFrame m ([Value.ref b] : List Value).toArray 9) := by
  obtain ⟨G, C, hAO, hs, hb, hX, hr⟩ := law_ctx C0
  subst hb
  have hl := aEn_entry G [.ref 1003] (n := 9) (by rw [aSz_ok]; decide)
  rw [lg_entry_eq]
  exact law_start (l := l) (e := e) (below := below) C hAO hr hs hflags hX hL (f := fun _ => .inl (8, (0, .inl (fun _ => 0)))) s.heap [] _ 0 0 hl (fun k q h => by simp [aW] at h) (by show s.heap.size = G.2.1 + (0 + 0); omega) va_S.rf rfl rfl
end A62

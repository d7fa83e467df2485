section A31
/-! ### the class's chains -/
def oI (x : Option Nat) : Int32 := match x with
  | none => -1
  | some k => nI k
def RO (f : Nat → Int32) (nx : OM) : Prop := ∀ c, c < 81 → f c = oI (nx c)
def O81 (nx : OM) : Prop := ∀ c k, nx c = some k → k < 81
theorem oI_n {x : Option Nat} (hx : ∀ k, x = some k → k < 81) (h : oI x = -1) : x = none := by
  cases x with
  | none => rfl
  | some k => exact absurd h (nI_m1 (by have := hx k rfl; omega))
theorem oI_s {x : Option Nat} (h : ¬ oI x = -1) : ∃ k, x = some k := by
  cases x with
  | none => exact absurd rfl h
  | some k => exact ⟨k, rfl⟩
theorem RO.set {f : Nat → Int32} {nx : OM} {a : Nat} {x : Option Nat} (h : RO f nx) : RO (upd f a (oI x)) (oS nx a x) := fun c hc => by
  by_cases e : c = a
  · subst e
    rw [upd_at, oS_at]
  · rw [upd_ne e, oS_ne e]
    exact h c hc
def RN (f : Nat → Int32) (q : Nat → Nat) (n : Nat) : Prop := ∀ j, j < n → f j = nI (q j)
theorem RN.push {f : Nat → Int32} {q : Nat → Nat} {n x : Nat} (h : RN f q n) : RN (upd f n (nI x)) (nS q n x) (n + 1) := fun j hj => by
  by_cases e : j = n
  · subst e
    rw [upd_at, nS_at]
  · rw [upd_ne e, nS_ne e]
    exact h j (by omega)
theorem RN.one {f : Nat → Int32} {x : Nat} : RN (upd f 0 (nI x)) (fun _ => x) 1 := fun j hj => by
  obtain rfl : j = 0 := by omega
  exact upd_at
def fil (f : Nat → Int32) (x : Int32) (n : Nat) : Nat → Int32 := fun j => if j < n then x else f j
theorem fil_0 {f : Nat → Int32} {x : Int32} : fil f x 0 = f := funext fun j => if_neg (Nat.not_lt_zero j)
theorem fil_s {f : Nat → Int32} {x : Int32} {n : Nat} : upd (fil f x n) n x = fil f x (n + 1) := funext fun j => by
  by_cases e : j = n
  · subst e
    rw [upd_at]
    exact (if_pos (Nat.lt_succ_self j)).symm
  · rw [upd_ne e]
    unfold fil
    by_cases h : j < n
    · rw [if_pos h, if_pos (by omega)]
    · rw [if_neg h, if_neg (by omega)]
theorem RO.fil {f : Nat → Int32} : RO (fil f (-1) 81) (fun _ => none) := fun c hc => if_pos hc
theorem wSet_row1 {w : Wd} {a k : Nat} {x : Int32} : (wSet w a k x).1 a = upd (w.1 a) k x := by simp [wSet]
/-- only these rows are changed -/
def Frm (K : List Nat) (w w' : Wd) : Prop := (∀ a, ¬ a ∈ K → w'.1 a = w.1 a) ∧ w'.2 = w.2
theorem Frm.rf {K : List Nat} {w : Wd} : Frm K w w := ⟨fun _ _ => rfl, rfl⟩
theorem Frm.tr {K : List Nat} {w v u : Wd} (h : Frm K w v) (h2 : Frm K v u) : Frm K w u := ⟨fun a ha => (h2.1 a ha).trans (h.1 a ha), h2.2.trans h.2⟩
theorem Frm.up {K J : List Nat} {w v : Wd} (h : Frm K w v) (hs : ∀ a, a ∈ K → a ∈ J) : Frm J w v := ⟨fun a ha => h.1 a (fun z => ha (hs a z)), h.2⟩
theorem Frm.set {K : List Nat} {w v : Wd} {a k : Nat} {x : Int32} (h : Frm K w v) (ha : a ∈ K) : Frm K w (wSet v a k x) := ⟨fun b hb => by rw [wSet_th (fun z => hb (by rw [z]; exact ha))]; exact h.1 b hb, h.2⟩
theorem Frm.row {K : List Nat} {w v : Wd} {a : Nat} {f : Nat → Int32} (h : Frm K w v) (ha : a ∈ K) : Frm K w (wRow v a f) := ⟨fun b hb => by rw [wRow_ne (fun z => hb (by rw [z]; exact ha))]; exact h.1 b hb, h.2⟩
theorem Frm.at {K : List Nat} {w v : Wd} (h : Frm K w v) (a : Nat) (ha : ¬ a ∈ K) : v.1 a = w.1 a := h.1 a ha
variable {S T : Nat → Bool} {nx pv : OM}
theorem Mt.o81 (hS : Su S) (h : Mt S nx pv) : O81 nx := fun c k e => hS _ (h.1 c k e).2.2.1
theorem Mt.p81 (hS : Su S) (h : Mt S nx pv) : O81 pv := fun c k e => hS _ (h.1 k c (h.2 k c e)).2.1
/-- a search's end: one more that has a code over it -/
def Dne (S : Nat → Bool) (nx0 : OM) (s : Nat) (ZL ZR : Nat → Bool) (nx pv : OM) : Prop := Mt S nx pv ∧ Cl S pv ZL ZR ∧ ∀ a, (nx a).isSome = ((nx0 a).isSome || a == s)
theorem Wb.go {nx0 pv0 rf : OM} {s n over i : Nat} {q : Nat → Nat} {ZL ZR : Nat → Bool} (hM : Mt S nx0 pv0) (h : Wb S nx0 pv0 nx pv s rf q n ZR over i) (hC : Cl S pv0 ZL ZR) :
    (nx (q i) = none ∧ q i = s ∧ Dne S nx0 s ZL ZR (oS nx (q i) (some over)) (oS pv over (some (q i)))) ∨
    ∃ c i', i' < i ∧ nx (q i) = some c ∧ ¬ q i = s ∧ Wb S nx0 pv0 (oS nx (q i) (some over)) (oS pv over (some (q i))) s rf q n ZR c i' := by
  by_cases e : i = 0
  · subst e
    have z := h.last hC
    exact Or.inl ⟨z.1, h.2.2.2.2.2.2.2.2.2.1, z.2.1, z.2.2.1, z.2.2.2⟩
  · exact Or.inr (h.step hM hC (by omega))
set_option maxRecDepth 20000 in
set_option maxHeartbeats 4000000 in
theorem K_J7_fill_53178 {w : Wd} {a : Nat} (ha : a < 207) (ho : ∀ row lg, fzc a row lg = .inl (8, (81, .inl row))) (x : Int32) : CF yJ7_fill_53178 cJ7_fill_53178 4 none 0 0 [.ref a, .int x] w (fun r w' => r = none ∧ w' = wRow w a (fil (w.1 a) x 81)) := by
  refine CF.of ok_J7_fill_53178 (Nat.le_of_ble_eq_true rfl) (fun ex us G9 p9 l9 e9 s9 m9 ar9 be9 me9 co9 C hr => ?_)
  have ZL5 : ∀ (zd5 : Nat) (k : Nat), 81 + 1 ≤ k + zd5 → k ≤ 81 → WA G9 p9 l9 e9 (RM 0 0) s9 m9 ar9 be9 me9 co9 (QF G9 be9 ar9 s9 w ex us (fun r w' => r = none ∧ w' = wRow w a (fil (w.1 a) x 81))) 4 (207 + ex.1 + ex.2) us 5 [some (.ref a), some (.int x), some (.int (nI k)), some (.int (nI 81))] [] (fzM (wRow w a (fil (w.1 a) x k)) ex us) := by
    intro zd5
    induction zd5 with
    | zero => intro k zm5 zh5_0; exfalso; omega
    | succ zd5 zih5 =>
      intro k zm5 zh5_0
      refine a_iload_n C dJ7_fill_53178_5 rfl rfl ?_
      refine a_iload_n C dJ7_fill_53178_6 rfl rfl ?_
      first | refine n_icmp_ge (tgt := 20) C dJ7_fill_53178_7 (by decide) (by first | decide | omega) (by first | decide | omega) (fun h_7 => ?_) (fun h_7 => ?_) | refine a_icmp_ge (tgt := 20) C dJ7_fill_53178_7 (by decide) (fun h_7 => ?_) (fun h_7 => ?_)
      · refine f_vret C hr dJ7_fill_53178_20 ?_
        obtain rfl : k = 81 := by omega
        exact ⟨rfl, rfl⟩
      · refine a_aload_n C dJ7_fill_53178_10 rfl rfl ?_
        refine a_iload_n C dJ7_fill_53178_11 rfl rfl ?_
        refine a_iload_n C dJ7_fill_53178_12 rfl rfl ?_
        refine f_iast C dJ7_fill_53178_13 ha ((ho _ _).trans (by rw [wRow_at])) rfl (by first | decide | omega) (by decide)  (ho _ _) ?_
        refine a_wd (wSet_row.trans (by rw [fil_s])) ?_
        refine n_iinc C dJ7_fill_53178_14 rfl (by decide) ?_
        refine a_goto (tgt := 5) C dJ7_fill_53178_17 (by decide) ?_
        refine a_join (aLe_s ?_ (aLe_s ?_ (aLe_s ?_ (aLe_s ?_ aLe_nil)))) rfl rfl (zih5 (k + 1) (by omega) (by omega))
        · first | with_reducible rfl | exact gl (by first | with_reducible rfl | (refine iF ?_; simp [h_7]; done) | (refine iT ?_; simp [h_7]; done) | (refine iB ?_; simp [h_7]; done) | (simp [h_7]; done) | (simp [h_7]; omega) | omega)
        · first | with_reducible rfl | exact gl (by first | with_reducible rfl | (refine iF ?_; simp [h_7]; done) | (refine iT ?_; simp [h_7]; done) | (refine iB ?_; simp [h_7]; done) | (simp [h_7]; done) | (simp [h_7]; omega) | omega)
        · first | with_reducible rfl | exact gl (by first | with_reducible rfl | (refine iF ?_; simp [h_7]; done) | (refine iT ?_; simp [h_7]; done) | (refine iB ?_; simp [h_7]; done) | (simp [h_7]; done) | (simp [h_7]; omega) | omega)
        · first | with_reducible rfl | exact gl (by first | with_reducible rfl | (refine iF ?_; simp [h_7]; done) | (refine iT ?_; simp [h_7]; done) | (refine iB ?_; simp [h_7]; done) | (simp [h_7]; done) | (simp [h_7]; omega) | omega)
  refine a_pad 2 ?_
  refine a_eq (L' := [some (.ref a), some (.int x), none, none]) rfl rfl rfl ?_
  refine a_iconst (v := nI 0) C dJ7_fill_53178_0 (by decide) ?_
  refine a_istore_n C dJ7_fill_53178_1 rfl (by decide) ?_
  refine a_wd (show w = wRow w a (fil (w.1 a) x 0) from by rw [fil_0]; exact wRow_self rfl) ?_
  refine a_aload_n C dJ7_fill_53178_2 rfl rfl ?_
  refine a_alen C dJ7_fill_53178_3 (tw (by first | decide | omega)) (by first | decide | omega) (ho _ _) (t0 := 0) rfl (show Int32.ofNat 81 = nI 81 from rfl) ?_
  refine a_istore_n C dJ7_fill_53178_4 rfl (by decide) ?_
  refine a_join (aLe_s ?_ (aLe_s ?_ (aLe_s ?_ (aLe_s ?_ aLe_nil)))) rfl rfl (ZL5 (81 + 1) 0 (by omega) (by omega))
  · first | with_reducible rfl | exact gl (by first | with_reducible rfl | (refine iF ?_; simp []; done) | (refine iT ?_; simp []; done) | (refine iB ?_; simp []; done) | (simp []; done) | (simp []; omega) | omega | rfl)
  · first | with_reducible rfl | exact gl (by first | with_reducible rfl | (refine iF ?_; simp []; done) | (refine iT ?_; simp []; done) | (refine iB ?_; simp []; done) | (simp []; done) | (simp []; omega) | omega | rfl)
  · first | with_reducible rfl | exact gl (by first | with_reducible rfl | (refine iF ?_; simp []; done) | (refine iT ?_; simp []; done) | (refine iB ?_; simp []; done) | (simp []; done) | (simp []; omega) | omega | rfl)
  · first | with_reducible rfl | exact gl (by first | with_reducible rfl | (refine iF ?_; simp []; done) | (refine iT ?_; simp []; done) | (refine iB ?_; simp []; done) | (simp []; done) | (simp []; omega) | omega | rfl)

set_option maxRecDepth 20000 in
set_option maxHeartbeats 4000000 in
theorem K_X0_swapBack {w : Wd} {S ZL ZR : Nat → Bool} {nx pv : OM} (hS : Su S) (hM : Mt S nx pv) {nx1 pv1 rf : OM} {q : Nat → Nat} {s n over ii : Nat} (hn : RO (w.1 58) nx1) (hp : RO (w.1 59) pv1) (hrf : RO (w.1 62) rf) (hC : Cl S pv ZL ZR) (hn81 : n ≤ 81) (hW : Wb S nx pv nx1 pv1 s rf q n ZR over ii) : CF yX0_swapBack cX0_swapBack 6 none 0 0 [.ref 55, .int (nI over)] w (fun r w' => r = none ∧ ∃ nx' pv', RO (w'.1 58) nx' ∧ RO (w'.1 59) pv' ∧ Dne S nx s ZL ZR nx' pv' ∧ Frm [58, 59] w w') := by
  refine CF.of ok_X0_swapBack (Nat.le_of_ble_eq_true rfl) (fun ex us G9 p9 l9 e9 s9 m9 ar9 be9 me9 co9 C hr => ?_)
  have ZL4 : ∀ (zd4 : Nat) (k : Nat) (x : Option Nat) (nx1 pv1 : OM) (z : Wd), 81 + 1 ≤ k + zd4 → k ≤ 81 → RO (z.1 58) nx1 → RO (z.1 59) pv1 → Frm [58, 59] w z → (∀ over, x = some over → ∃ ii, k + ii < 81 ∧ Wb S nx pv nx1 pv1 s rf q n ZR over ii) → (x = none → Dne S nx s ZL ZR nx1 pv1) → WA G9 p9 l9 e9 (RM 0 0) s9 m9 ar9 be9 me9 co9 (QF G9 be9 ar9 s9 w ex us (fun r w' => r = none ∧ ∃ nx' pv', RO (w'.1 58) nx' ∧ RO (w'.1 59) pv' ∧ Dne S nx s ZL ZR nx' pv' ∧ Frm [58, 59] w w')) 6 (207 + ex.1 + ex.2) us 4 [some (.ref 55), none, some (.int (oI x)), some (.int (nI k)), none, none] [] (fzM z ex us) := by
    intro zd4
    induction zd4 with
    | zero => intro k x nx1 pv1 z zm4 zh_k zh_n zh_p zh_F zh_W zh_D; exfalso; omega
    | succ zd4 zih4 =>
      intro k x nx1 pv1 z zm4 zh_k zh_n zh_p zh_F zh_W zh_D
      refine a_iload_n C dX0_swapBack_4 rfl rfl ?_
      refine a_bipush (v := nI 81) C dX0_swapBack_5 (by decide) ?_
      first | refine n_icmp_ge (tgt := 64) C dX0_swapBack_7 (by decide) (by first | decide | omega) (by first | decide | omega) (fun h_7 => ?_) (fun h_7 => ?_) | refine a_icmp_ge (tgt := 64) C dX0_swapBack_7 (by decide) (fun h_7 => ?_) (fun h_7 => ?_)
      · have zq_x : x = none := by
          cases x with
          | none => rfl
          | some c => obtain ⟨i9, g, -⟩ := zh_W c rfl; omega
        refine f_vret C hr dX0_swapBack_64 ?_
        exact ⟨rfl, nx1, pv1, zh_n, zh_p, zh_D zq_x, zh_F⟩
      · refine a_iload_n C dX0_swapBack_10 rfl rfl ?_
        refine a_iconst (v := (-1)) C dX0_swapBack_11 (by decide) ?_
        refine a_icmp_eq (tgt := 64) C dX0_swapBack_12 (by decide) (fun h_12 => ?_) (fun h_12 => ?_)
        · have zq_x : x = none := oI_n (fun c hc => by obtain ⟨i9, -, g⟩ := zh_W c hc; exact hS _ g.1.2.2.1) h_12
          refine f_vret C hr dX0_swapBack_64 ?_
          exact ⟨rfl, nx1, pv1, zh_n, zh_p, zh_D zq_x, zh_F⟩
        · obtain ⟨over, rfl⟩ := oI_s h_12
          obtain ⟨ii, zq_k, zq_W⟩ := zh_W over rfl
          have zq_o := hS _ zq_W.1.2.2.1
          have zq_q := hS _ zq_W.1.2.2.2.1
          have zq_g := zq_W.go hM hC
          refine a_aload_n C dX0_swapBack_15 rfl rfl ?_
          refine a_getfF C fX0_31 dX0_swapBack_16 (tw (by first | decide | omega)) (by first | decide | omega) rfl rfl ?_
          refine a_iload_n C dX0_swapBack_19 rfl rfl ?_
          refine n_iald C dX0_swapBack_20 (tw (by first | decide | omega)) (by first | decide | omega) rfl rfl (by first | decide | omega) (by decide) (show _ = nI (q ii) from by rw [zh_F.at 62 (by decide), hrf over zq_o, zq_W.1.2.1]; rfl) ?_
          refine a_istore C dX0_swapBack_21 (by decide) ?_
          refine a_iload C dX0_swapBack_23 rfl ?_
          refine a_iconst (v := (-1)) C dX0_swapBack_25 (by decide) ?_
          refine a_icmp_ne (tgt := 30) C dX0_swapBack_26 (by decide) (fun h_26 => ?_) (fun h_26 => ?_)
          · refine a_aload_n C dX0_swapBack_30 rfl rfl ?_
            refine a_getfF C fX0_19 dX0_swapBack_31 (tw (by first | decide | omega)) (by first | decide | omega) rfl rfl ?_
            refine a_iload C dX0_swapBack_34 rfl ?_
            refine n_iald C dX0_swapBack_36 (tw (by first | decide | omega)) (by first | decide | omega) rfl rfl (by first | decide | omega) (by decide) (zh_n _ zq_q) ?_
            refine a_istore C dX0_swapBack_37 (by decide) ?_
            refine a_aload_n C dX0_swapBack_39 rfl rfl ?_
            refine a_getfF C fX0_19 dX0_swapBack_40 (tw (by first | decide | omega)) (by first | decide | omega) rfl rfl ?_
            refine a_iload C dX0_swapBack_43 rfl ?_
            refine a_iload_n C dX0_swapBack_45 rfl rfl ?_
            refine f_iast C dX0_swapBack_46 (by first | decide | omega) rfl rfl (by first | decide | omega) (by decide)  rfl ?_
            refine a_aload_n C dX0_swapBack_47 rfl rfl ?_
            refine a_getfF C fX0_22 dX0_swapBack_48 (tw (by first | decide | omega)) (by first | decide | omega) rfl rfl ?_
            refine a_iload_n C dX0_swapBack_51 rfl rfl ?_
            refine a_iload C dX0_swapBack_52 rfl ?_
            refine f_iast C dX0_swapBack_54 (by first | decide | omega) rfl rfl (by first | decide | omega) (by decide)  rfl ?_
            refine a_iload C dX0_swapBack_55 rfl ?_
            refine a_istore_n C dX0_swapBack_57 rfl (by decide) ?_
            refine n_iinc C dX0_swapBack_58 rfl (by decide) ?_
            refine a_goto (tgt := 4) C dX0_swapBack_61 (by decide) ?_
            refine a_join (aLe_s ?_ (aLe_n (aLe_s ?_ (aLe_s ?_ (aLe_n (aLe_n aLe_nil)))))) rfl rfl (zih4 (k + 1) (nx1 (q ii)) (oS nx1 (q ii) (some over)) (oS pv1 over (some (q ii))) _ (by omega) (by omega) (by rw [wSet_th (by decide), wSet_row1]; exact zh_n.set (x := some over)) (by rw [wSet_row1, wSet_th (by decide)]; exact zh_p.set (x := some (q ii))) ((zh_F.set (by decide)).set (by decide)) (fun c hc => by
              rcases zq_g with g | ⟨c9, i9, g1, g2, g3, g4⟩
              · rw [g.1] at hc; cases hc
              · rw [g2] at hc; cases hc; exact ⟨i9, by omega, g4⟩) (fun hc => by
              rcases zq_g with g | ⟨c9, i9, g1, g2, g3, g4⟩
              · exact g.2.2
              · rw [g2] at hc; cases hc))
            · first | with_reducible rfl | exact gl (by first | with_reducible rfl | (refine iF ?_; simp [h_7]; done) | (refine iT ?_; simp [h_7]; done) | (refine iB ?_; simp [h_7]; done) | (simp [h_7]; done) | (simp [h_7]; omega) | omega)
            · first | with_reducible rfl | exact gl (by first | with_reducible rfl | (refine iF ?_; simp [h_7]; done) | (refine iT ?_; simp [h_7]; done) | (refine iB ?_; simp [h_7]; done) | (simp [h_7]; done) | (simp [h_7]; omega) | omega)
            · first | with_reducible rfl | exact gl (by first | with_reducible rfl | (refine iF ?_; simp [h_7]; done) | (refine iT ?_; simp [h_7]; done) | (refine iB ?_; simp [h_7]; done) | (simp [h_7]; done) | (simp [h_7]; omega) | omega)
          · exact absurd h_26 (nI_m1 (by omega))
  refine a_pad 4 ?_
  refine a_eq (L' := [some (.ref 55), some (.int (nI over)), none, none, none, none]) rfl rfl rfl ?_
  refine a_iload_n C dX0_swapBack_0 rfl rfl ?_
  refine a_istore_n C dX0_swapBack_1 rfl (by decide) ?_
  refine a_iconst (v := nI 0) C dX0_swapBack_2 (by decide) ?_
  refine a_istore_n C dX0_swapBack_3 rfl (by decide) ?_
  refine a_join (aLe_s ?_ (aLe_n (aLe_s ?_ (aLe_s ?_ (aLe_n (aLe_n aLe_nil)))))) rfl rfl (ZL4 (81 + 1) 0 (some over) nx1 pv1 w (by omega) (by omega) hn hp Frm.rf (fun c hc => by cases hc; exact ⟨ii, by have := hW.1.1; omega, hW⟩) (fun hc => by cases hc))
  · first | with_reducible rfl | exact gl (by first | with_reducible rfl | (refine iF ?_; simp []; done) | (refine iT ?_; simp []; done) | (refine iB ?_; simp []; done) | (simp []; done) | (simp []; omega) | omega | rfl)
  · first | with_reducible rfl | exact gl (by first | with_reducible rfl | (refine iF ?_; simp []; done) | (refine iT ?_; simp []; done) | (refine iB ?_; simp []; done) | (simp []; done) | (simp []; omega) | omega | rfl)
  · first | with_reducible rfl | exact gl (by first | with_reducible rfl | (refine iF ?_; simp []; done) | (refine iT ?_; simp []; done) | (refine iB ?_; simp []; done) | (simp []; done) | (simp []; omega) | omega | rfl)

/-- what a search leaves -/
def Sea (S : Nat → Bool) (nx : OM) (ZL : Nat → Bool) (s : Nat) (nx' pv' : OM) : Prop := Mt S nx' pv' ∧ (∃ ZL' ZR', Cl S pv' ZL' ZR' ∧ (∀ a, ZL a = true → ZL' a = true) ∧ (nx' s = none → ZL' s = true)) ∧ (∀ a, ¬ a = s → (nx' a).isSome = (nx a).isSome)
theorem Sea.fail {s n : Nat} {rf : OM} {q : Nat → Nat} {ZL ZR : Nat → Bool} (hM : Mt S nx pv) (h : Bf S nx pv s rf q n) (hd : Dn S rf q n) (hC : Cl S pv ZL ZR) : Sea S nx ZL s nx pv :=
  ⟨hM, ⟨_, _, (h.fail hM hd hC).1, fun a ha => by show (ZL a || qB q n a) = true; rw [ha]; rfl, fun _ => by show (ZL s || qB q n s) = true; rw [(h.fail hM hd hC).2, Bool.or_true]⟩, fun _ _ => rfl⟩
theorem Sea.done {s : Nat} {ZL ZR : Nat → Bool} {nx' pv' : OM} (h : Dne S nx s ZL ZR nx' pv') : Sea S nx ZL s nx' pv' := by
  refine ⟨h.1, ⟨ZL, ZR, h.2.1, fun _ z => z, fun z => ?_⟩, fun a ha => ?_⟩
  · have := h.2.2 s
    rw [z, beq_self_eq_true, Bool.or_true] at this
    cases this
  · rw [h.2.2 a, beq_eq_false_iff_ne.mpr ha, Bool.or_false]
theorem Dh.s {rf : OM} {a h : Nat} (hd : Dh S rf a h) (h2 : S h = true → und a h = true → ¬ rf h = none) : Dh S rf a (h + 1) := fun b hb h3 h4 => by
  by_cases e : b = h
  · subst e; exact h2 h3 h4
  · exact hd b (by omega) h3 h4
theorem Dh.push {rf : OM} {a h b y : Nat} (hd : Dh S rf a h) : Dh S (oS rf b (some y)) a h := fun c hc h1 h2 => oS_some (hd c hc h1 h2)
set_option maxRecDepth 20000 in
set_option maxHeartbeats 4000000 in
theorem K_X0_findNext {w : Wd} {S ZL ZR : Nat → Bool} {nx pv : OM} (hS : Su S) (hM : Mt S nx pv) {s : Nat} (hf : ∀ c, c < 81 → w.1 56 c = bI (S c)) (hn : RO (w.1 58) nx) (hp : RO (w.1 59) pv) (hC : Cl S pv ZL ZR) (hs : S s = true) (hsn : nx s = none) : CF yX0_findNext cX0_findNext 6 none 1 25 [.ref 55, .int (nI s)] w (fun r w' => r = none ∧ ∃ nx' pv', RO (w'.1 58) nx' ∧ RO (w'.1 59) pv' ∧ Sea S nx ZL s nx' pv' ∧ Frm [58, 59, 61, 62] w w') := by
  have zq_s81 := hS s hs
  have zq_p81 := hM.p81 hS
  refine CF.of ok_X0_findNext (Nat.le_of_ble_eq_true rfl) (fun ex us G9 p9 l9 e9 s9 m9 ar9 be9 me9 co9 C hr => ?_)
  have ZL19 : ∀ (zd19 : Nat) (k n : Nat) (rf : OM) (q : Nat → Nat) (z : Wd), 81 + 1 ≤ k + zd19 → n ≤ 81 → k ≤ n → Bf S nx pv s rf q n → Dn S rf q k → RN (z.1 61) q n → RO (z.1 62) rf → Frm [61, 62] w z → WA G9 p9 l9 e9 (RM 1 25) s9 m9 ar9 be9 me9 co9 (QF G9 be9 ar9 s9 w ex us (fun r w' => r = none ∧ ∃ nx' pv', RO (w'.1 58) nx' ∧ RO (w'.1 59) pv' ∧ Sea S nx ZL s nx' pv' ∧ Frm [58, 59, 61, 62] w w')) 6 (207 + ex.1 + ex.2) us 19 [some (.ref 55), some (.int (nI s)), some (.int (nI n)), some (.int (nI k)), none, none] [] (fzM z ex us) := by
    intro zd19
    induction zd19 with
    | zero => intro k n rf q z zm19 zq_n81 zh_k zh_B zh_d zh_q zh_r zh_F; exfalso; omega
    | succ zd19 zih19 =>
      intro k n rf q z zm19 zq_n81 zh_k zh_B zh_d zh_q zh_r zh_F
      have ZL44 : ∀ (zd44 : Nat) (h n lw : Nat) (rf : OM) (q : Nat → Nat) (z : Wd), 81 + 1 ≤ h + zd44 → h ≤ 81 → k < n → Bf S nx pv s rf q n → Dn S rf q k → lw = q k → Dh S rf lw h → RN (z.1 61) q n → RO (z.1 62) rf → Frm [61, 62] w z → WA G9 p9 l9 e9 (RM 1 25) s9 m9 ar9 be9 me9 co9 (QF G9 be9 ar9 s9 w ex us (fun r w' => r = none ∧ ∃ nx' pv', RO (w'.1 58) nx' ∧ RO (w'.1 59) pv' ∧ Sea S nx ZL s nx' pv' ∧ Frm [58, 59, 61, 62] w w')) 6 (207 + ex.1 + ex.2) us 44 [some (.ref 55), some (.int (nI s)), some (.int (nI n)), some (.int (nI k)), some (.int (nI lw)), some (.int (nI h))] [] (fzM z ex us) := by
        intro zd44
        induction zd44 with
        | zero => intro h n lw rf q z zm44 zh_h81 zh_k zh_B zh_d zh_l zh_h zh_q zh_r zh_F; exfalso; omega
        | succ zd44 zih44 =>
          intro h n lw rf q z zm44 zh_h81 zh_k zh_B zh_d zh_l zh_h zh_q zh_r zh_F
          have zq_n81 := zh_B.le hS
          have zq_lS : S lw = true := by rw [zh_l]; exact zh_B.qS hM zh_k
          have zq_l81 := hS lw zq_lS
          refine a_iload C dX0_findNext_44 rfl ?_
          refine a_bipush (v := nI 81) C dX0_findNext_46 (by decide) ?_
          first | refine n_icmp_ge (tgt := 141) C dX0_findNext_48 (by decide) (by first | decide | omega) (by first | decide | omega) (fun h_48 => ?_) (fun h_48 => ?_) | refine a_icmp_ge (tgt := 141) C dX0_findNext_48 (by decide) (fun h_48 => ?_) (fun h_48 => ?_)
          · refine n_iinc C dX0_findNext_141 rfl (by decide) ?_
            refine a_goto (tgt := 19) C dX0_findNext_144 (by decide) ?_
            refine a_join (aLe_s ?_ (aLe_s ?_ (aLe_s ?_ (aLe_s ?_ (aLe_n (aLe_n aLe_nil)))))) rfl rfl (zih19 (k + 1) n rf q z (by omega) zq_n81 (by omega) zh_B (zh_d.next (fun b h1 h2 => zh_h b (by have := hS b h1; omega) h1 (by rw [zh_l]; exact h2))) zh_q zh_r zh_F)
            · first | with_reducible rfl | exact gl (by first | with_reducible rfl | (refine iF ?_; simp [h_48]; done) | (refine iT ?_; simp [h_48]; done) | (refine iB ?_; simp [h_48]; done) | (simp [h_48]; done) | (simp [h_48]; omega) | omega)
            · first | with_reducible rfl | exact gl (by first | with_reducible rfl | (refine iF ?_; simp [h_48]; done) | (refine iT ?_; simp [h_48]; done) | (refine iB ?_; simp [h_48]; done) | (simp [h_48]; done) | (simp [h_48]; omega) | omega)
            · first | with_reducible rfl | exact gl (by first | with_reducible rfl | (refine iF ?_; simp [h_48]; done) | (refine iT ?_; simp [h_48]; done) | (refine iB ?_; simp [h_48]; done) | (simp [h_48]; done) | (simp [h_48]; omega) | omega)
            · first | with_reducible rfl | exact gl (by first | with_reducible rfl | (refine iF ?_; simp [h_48]; done) | (refine iT ?_; simp [h_48]; done) | (refine iB ?_; simp [h_48]; done) | (simp [h_48]; done) | (simp [h_48]; omega) | omega)
          · refine a_aload_n C dX0_findNext_51 rfl rfl ?_
            refine a_getfF C fX0_9 dX0_findNext_52 (tw (by first | decide | omega)) (by first | decide | omega) rfl rfl ?_
            refine a_iload C dX0_findNext_55 rfl ?_
            refine n_zald C dX0_findNext_57 (tw (by first | decide | omega)) (by first | decide | omega) rfl rfl (by first | decide | omega) (by decide) (show _ = bI (S h) from by rw [zh_F.at 56 (by decide)]; exact hf h (by omega)) ?_
            first | refine b_if_eq (tgt := 135) C dX0_findNext_58 (by decide) (fun h_58 => ?_) (fun h_58 => ?_) | refine n_if_eq (tgt := 135) C dX0_findNext_58 (by decide) (by first | decide | omega) (fun h_58 => ?_) (fun h_58 => ?_) | refine a_if_eq (tgt := 135) C dX0_findNext_58 (by decide) (fun h_58 => ?_) (fun h_58 => ?_)
            · refine n_iinc C dX0_findNext_135 rfl (by decide) ?_
              refine a_goto (tgt := 44) C dX0_findNext_138 (by decide) ?_
              refine a_join (aLe_s ?_ (aLe_s ?_ (aLe_s ?_ (aLe_s ?_ (aLe_s ?_ (aLe_s ?_ aLe_nil)))))) rfl rfl (zih44 (h + 1) n lw rf q z (by omega) (by omega) zh_k zh_B zh_d zh_l (zh_h.s (fun h1 _ => by rw [h_58] at h1; cases h1)) zh_q zh_r zh_F)
              · first | with_reducible rfl | exact gl (by first | with_reducible rfl | (refine iF ?_; simp [h_48, h_58]; done) | (refine iT ?_; simp [h_48, h_58]; done) | (refine iB ?_; simp [h_48, h_58]; done) | (simp [h_48, h_58]; done) | (simp [h_48, h_58]; omega) | omega)
              · first | with_reducible rfl | exact gl (by first | with_reducible rfl | (refine iF ?_; simp [h_48, h_58]; done) | (refine iT ?_; simp [h_48, h_58]; done) | (refine iB ?_; simp [h_48, h_58]; done) | (simp [h_48, h_58]; done) | (simp [h_48, h_58]; omega) | omega)
              · first | with_reducible rfl | exact gl (by first | with_reducible rfl | (refine iF ?_; simp [h_48, h_58]; done) | (refine iT ?_; simp [h_48, h_58]; done) | (refine iB ?_; simp [h_48, h_58]; done) | (simp [h_48, h_58]; done) | (simp [h_48, h_58]; omega) | omega)
              · first | with_reducible rfl | exact gl (by first | with_reducible rfl | (refine iF ?_; simp [h_48, h_58]; done) | (refine iT ?_; simp [h_48, h_58]; done) | (refine iB ?_; simp [h_48, h_58]; done) | (simp [h_48, h_58]; done) | (simp [h_48, h_58]; omega) | omega)
              · first | with_reducible rfl | exact gl (by first | with_reducible rfl | (refine iF ?_; simp [h_48, h_58]; done) | (refine iT ?_; simp [h_48, h_58]; done) | (refine iB ?_; simp [h_48, h_58]; done) | (simp [h_48, h_58]; done) | (simp [h_48, h_58]; omega) | omega)
              · first | with_reducible rfl | exact gl (by first | with_reducible rfl | (refine iF ?_; simp [h_48, h_58]; done) | (refine iT ?_; simp [h_48, h_58]; done) | (refine iB ?_; simp [h_48, h_58]; done) | (simp [h_48, h_58]; done) | (simp [h_48, h_58]; omega) | omega)
            · refine a_aload_n C dX0_findNext_61 rfl rfl ?_
              refine a_getfF C fX0_31 dX0_findNext_62 (tw (by first | decide | omega)) (by first | decide | omega) rfl rfl ?_
              refine a_iload C dX0_findNext_65 rfl ?_
              refine n_iald C dX0_findNext_67 (tw (by first | decide | omega)) (by first | decide | omega) rfl rfl (by first | decide | omega) (by decide) (zh_r h (by omega)) ?_
              refine a_iconst (v := (-1)) C dX0_findNext_68 (by decide) ?_
              refine a_icmp_ne (tgt := 135) C dX0_findNext_69 (by decide) (fun h_69 => ?_) (fun h_69 => ?_)
              · have zq_r : ¬ rf h = none := fun z9 => h_69 (by rw [z9]; rfl)
                refine n_iinc C dX0_findNext_135 rfl (by decide) ?_
                refine a_goto (tgt := 44) C dX0_findNext_138 (by decide) ?_
                refine a_join (aLe_s ?_ (aLe_s ?_ (aLe_s ?_ (aLe_s ?_ (aLe_s ?_ (aLe_s ?_ aLe_nil)))))) rfl rfl (zih44 (h + 1) n lw rf q z (by omega) (by omega) zh_k zh_B zh_d zh_l (zh_h.s (fun _ _ => zq_r)) zh_q zh_r zh_F)
                · first | with_reducible rfl | exact gl (by first | with_reducible rfl | (refine iF ?_; simp [h_48, h_58]; done) | (refine iT ?_; simp [h_48, h_58]; done) | (refine iB ?_; simp [h_48, h_58]; done) | (simp [h_48, h_58]; done) | (simp [h_48, h_58]; omega) | omega)
                · first | with_reducible rfl | exact gl (by first | with_reducible rfl | (refine iF ?_; simp [h_48, h_58]; done) | (refine iT ?_; simp [h_48, h_58]; done) | (refine iB ?_; simp [h_48, h_58]; done) | (simp [h_48, h_58]; done) | (simp [h_48, h_58]; omega) | omega)
                · first | with_reducible rfl | exact gl (by first | with_reducible rfl | (refine iF ?_; simp [h_48, h_58]; done) | (refine iT ?_; simp [h_48, h_58]; done) | (refine iB ?_; simp [h_48, h_58]; done) | (simp [h_48, h_58]; done) | (simp [h_48, h_58]; omega) | omega)
                · first | with_reducible rfl | exact gl (by first | with_reducible rfl | (refine iF ?_; simp [h_48, h_58]; done) | (refine iT ?_; simp [h_48, h_58]; done) | (refine iB ?_; simp [h_48, h_58]; done) | (simp [h_48, h_58]; done) | (simp [h_48, h_58]; omega) | omega)
                · first | with_reducible rfl | exact gl (by first | with_reducible rfl | (refine iF ?_; simp [h_48, h_58]; done) | (refine iT ?_; simp [h_48, h_58]; done) | (refine iB ?_; simp [h_48, h_58]; done) | (simp [h_48, h_58]; done) | (simp [h_48, h_58]; omega) | omega)
                · first | with_reducible rfl | exact gl (by first | with_reducible rfl | (refine iF ?_; simp [h_48, h_58]; done) | (refine iT ?_; simp [h_48, h_58]; done) | (refine iB ?_; simp [h_48, h_58]; done) | (simp [h_48, h_58]; done) | (simp [h_48, h_58]; omega) | omega)
              · have zq_r := oI_n (fun c hc => hS _ (zh_B.2.2.1 h c hc).2.1) h_69
                refine a_aload_n C dX0_findNext_72 rfl rfl ?_
                refine a_getfF C fX0_43 dX0_findNext_73 (tw (by first | decide | omega)) (by first | decide | omega) rfl rfl ?_
                refine a_iload C dX0_findNext_76 rfl ?_
                refine a_iload C dX0_findNext_78 rfl ?_
                refine p_callV C (K_X1_liesUnder (by first | assumption | decide | omega) (by first | assumption | decide | omega)) vX0_61 rfl (by first | decide | omega) rfl rfl dX0_findNext_80 (Nat.le_of_ble_eq_true rfl) ⟨by decide, by decide⟩ ?_
                first | refine b_if_eq (tgt := 135) C dX0_findNext_83 (by decide) (fun h_83 => ?_) (fun h_83 => ?_) | refine n_if_eq (tgt := 135) C dX0_findNext_83 (by decide) (by first | decide | omega) (fun h_83 => ?_) (fun h_83 => ?_) | refine a_if_eq (tgt := 135) C dX0_findNext_83 (by decide) (fun h_83 => ?_) (fun h_83 => ?_)
                · refine n_iinc C dX0_findNext_135 rfl (by decide) ?_
                  refine a_goto (tgt := 44) C dX0_findNext_138 (by decide) ?_
                  refine a_join (aLe_s ?_ (aLe_s ?_ (aLe_s ?_ (aLe_s ?_ (aLe_s ?_ (aLe_s ?_ aLe_nil)))))) rfl rfl (zih44 (h + 1) n lw rf q z (by omega) (by omega) zh_k zh_B zh_d zh_l (zh_h.s (fun _ h1 => by rw [h_83] at h1; cases h1)) zh_q zh_r zh_F)
                  · first | with_reducible rfl | exact gl (by first | with_reducible rfl | (refine iF ?_; simp [h_48, h_58, h_83]; done) | (refine iT ?_; simp [h_48, h_58, h_83]; done) | (refine iB ?_; simp [h_48, h_58, h_83]; done) | (simp [h_48, h_58, h_83]; done) | (simp [h_48, h_58, h_83]; omega) | omega)
                  · first | with_reducible rfl | exact gl (by first | with_reducible rfl | (refine iF ?_; simp [h_48, h_58, h_83]; done) | (refine iT ?_; simp [h_48, h_58, h_83]; done) | (refine iB ?_; simp [h_48, h_58, h_83]; done) | (simp [h_48, h_58, h_83]; done) | (simp [h_48, h_58, h_83]; omega) | omega)
                  · first | with_reducible rfl | exact gl (by first | with_reducible rfl | (refine iF ?_; simp [h_48, h_58, h_83]; done) | (refine iT ?_; simp [h_48, h_58, h_83]; done) | (refine iB ?_; simp [h_48, h_58, h_83]; done) | (simp [h_48, h_58, h_83]; done) | (simp [h_48, h_58, h_83]; omega) | omega)
                  · first | with_reducible rfl | exact gl (by first | with_reducible rfl | (refine iF ?_; simp [h_48, h_58, h_83]; done) | (refine iT ?_; simp [h_48, h_58, h_83]; done) | (refine iB ?_; simp [h_48, h_58, h_83]; done) | (simp [h_48, h_58, h_83]; done) | (simp [h_48, h_58, h_83]; omega) | omega)
                  · first | with_reducible rfl | exact gl (by first | with_reducible rfl | (refine iF ?_; simp [h_48, h_58, h_83]; done) | (refine iT ?_; simp [h_48, h_58, h_83]; done) | (refine iB ?_; simp [h_48, h_58, h_83]; done) | (simp [h_48, h_58, h_83]; done) | (simp [h_48, h_58, h_83]; omega) | omega)
                  · first | with_reducible rfl | exact gl (by first | with_reducible rfl | (refine iF ?_; simp [h_48, h_58, h_83]; done) | (refine iT ?_; simp [h_48, h_58, h_83]; done) | (refine iB ?_; simp [h_48, h_58, h_83]; done) | (simp [h_48, h_58, h_83]; done) | (simp [h_48, h_58, h_83]; omega) | omega)
                · refine a_aload_n C dX0_findNext_86 rfl rfl ?_
                  refine a_getfF C fX0_31 dX0_findNext_87 (tw (by first | decide | omega)) (by first | decide | omega) rfl rfl ?_
                  refine a_iload C dX0_findNext_90 rfl ?_
                  refine a_iload C dX0_findNext_92 rfl ?_
                  refine f_iast C dX0_findNext_94 (by first | decide | omega) rfl rfl (by first | decide | omega) (by decide)  rfl ?_
                  refine a_aload_n C dX0_findNext_95 rfl rfl ?_
                  refine a_getfF C fX0_22 dX0_findNext_96 (tw (by first | decide | omega)) (by first | decide | omega) rfl rfl ?_
                  refine a_iload C dX0_findNext_99 rfl ?_
                  refine n_iald C dX0_findNext_101 (tw (by first | decide | omega)) (by first | decide | omega) rfl rfl (by first | decide | omega) (by decide) (show _ = oI (pv h) from by rw [wSet_th (by decide), zh_F.at 59 (by decide)]; exact hp h (by omega)) ?_
                  refine a_iconst (v := (-1)) C dX0_findNext_102 (by decide) ?_
                  refine a_icmp_ne (tgt := 113) C dX0_findNext_103 (by decide) (fun h_103 => ?_) (fun h_103 => ?_)
                  · obtain ⟨x9, zq_p⟩ := oI_s h_103
                    have zq_room := zh_B.room hS zq_lS h_58 h_83 zq_r
                    have zq_B := zh_B.push (b := h) hS hM zh_k h_58 (by rw [← zh_l]; exact h_83) zq_r zq_p
                    rw [← zh_l] at zq_B
                    refine a_iload_n C dX0_findNext_113 rfl rfl ?_
                    refine a_bipush (v := nI 81) C dX0_findNext_114 (by decide) ?_
                    first | refine n_icmp_ge (tgt := 135) C dX0_findNext_116 (by decide) (by first | decide | omega) (by first | decide | omega) (fun h_116 => ?_) (fun h_116 => ?_) | refine a_icmp_ge (tgt := 135) C dX0_findNext_116 (by decide) (fun h_116 => ?_) (fun h_116 => ?_)
                    · exfalso; omega
                    · refine a_aload_n C dX0_findNext_119 rfl rfl ?_
                      refine a_getfF C fX0_28 dX0_findNext_120 (tw (by first | decide | omega)) (by first | decide | omega) rfl rfl ?_
                      refine a_iload_n C dX0_findNext_123 rfl rfl ?_
                      refine a_aload_n C dX0_findNext_124 rfl rfl ?_
                      refine a_getfF C fX0_22 dX0_findNext_125 (tw (by first | decide | omega)) (by first | decide | omega) rfl rfl ?_
                      refine a_iload C dX0_findNext_128 rfl ?_
                      refine n_iald C dX0_findNext_130 (tw (by first | decide | omega)) (by first | decide | omega) rfl rfl (by first | decide | omega) (by decide) (show _ = nI x9 from by rw [wSet_th (by decide), zh_F.at 59 (by decide), hp h (by omega), zq_p]; rfl) ?_
                      refine f_iast C dX0_findNext_131 (by first | decide | omega) rfl rfl (by first | decide | omega) (by decide)  rfl ?_
                      refine n_iinc C dX0_findNext_132 rfl (by decide) ?_
                      refine n_iinc C dX0_findNext_135 rfl (by decide) ?_
                      refine a_goto (tgt := 44) C dX0_findNext_138 (by decide) ?_
                      refine a_join (aLe_s ?_ (aLe_s ?_ (aLe_s ?_ (aLe_s ?_ (aLe_s ?_ (aLe_s ?_ aLe_nil)))))) rfl rfl (zih44 (h + 1) (n + 1) lw (oS rf h (some lw)) (nS q n x9) _ (by omega) (by omega) (by omega) zq_B (zh_d.push (by omega)) (by rw [nS_ne (by omega)]; exact zh_l) (zh_h.push.s (fun _ _ => by rw [oS_at]; exact fun z9 => by cases z9)) (by rw [wSet_row1, wSet_th (by decide)]; exact zh_q.push) (by rw [wSet_th (by decide), wSet_row1]; exact zh_r.set (x := some lw)) ((zh_F.set (by decide)).set (by decide)))
                      · first | with_reducible rfl | exact gl (by first | with_reducible rfl | (refine iF ?_; simp [h_48, h_58, h_83, h_116]; done) | (refine iT ?_; simp [h_48, h_58, h_83, h_116]; done) | (refine iB ?_; simp [h_48, h_58, h_83, h_116]; done) | (simp [h_48, h_58, h_83, h_116]; done) | (simp [h_48, h_58, h_83, h_116]; omega) | omega)
                      · first | with_reducible rfl | exact gl (by first | with_reducible rfl | (refine iF ?_; simp [h_48, h_58, h_83, h_116]; done) | (refine iT ?_; simp [h_48, h_58, h_83, h_116]; done) | (refine iB ?_; simp [h_48, h_58, h_83, h_116]; done) | (simp [h_48, h_58, h_83, h_116]; done) | (simp [h_48, h_58, h_83, h_116]; omega) | omega)
                      · first | with_reducible rfl | exact gl (by first | with_reducible rfl | (refine iF ?_; simp [h_48, h_58, h_83, h_116]; done) | (refine iT ?_; simp [h_48, h_58, h_83, h_116]; done) | (refine iB ?_; simp [h_48, h_58, h_83, h_116]; done) | (simp [h_48, h_58, h_83, h_116]; done) | (simp [h_48, h_58, h_83, h_116]; omega) | omega)
                      · first | with_reducible rfl | exact gl (by first | with_reducible rfl | (refine iF ?_; simp [h_48, h_58, h_83, h_116]; done) | (refine iT ?_; simp [h_48, h_58, h_83, h_116]; done) | (refine iB ?_; simp [h_48, h_58, h_83, h_116]; done) | (simp [h_48, h_58, h_83, h_116]; done) | (simp [h_48, h_58, h_83, h_116]; omega) | omega)
                      · first | with_reducible rfl | exact gl (by first | with_reducible rfl | (refine iF ?_; simp [h_48, h_58, h_83, h_116]; done) | (refine iT ?_; simp [h_48, h_58, h_83, h_116]; done) | (refine iB ?_; simp [h_48, h_58, h_83, h_116]; done) | (simp [h_48, h_58, h_83, h_116]; done) | (simp [h_48, h_58, h_83, h_116]; omega) | omega)
                      · first | with_reducible rfl | exact gl (by first | with_reducible rfl | (refine iF ?_; simp [h_48, h_58, h_83, h_116]; done) | (refine iT ?_; simp [h_48, h_58, h_83, h_116]; done) | (refine iB ?_; simp [h_48, h_58, h_83, h_116]; done) | (simp [h_48, h_58, h_83, h_116]; done) | (simp [h_48, h_58, h_83, h_116]; omega) | omega)
                  · have zq_p := oI_n (fun c hc => zq_p81 h c hc) h_103
                    refine a_aload_n C dX0_findNext_106 rfl rfl ?_
                    refine a_iload C dX0_findNext_107 rfl ?_
                    refine f_callV C _ _ (K_X0_swapBack (w := wSet z 62 h (nI lw)) (nx := nx) (pv := pv) (nx1 := nx) (pv1 := pv) (rf := oS rf h (some lw)) (q := q) (s := s) (n := n) (over := h) (ii := k) (ZL := ZL) (ZR := ZR) hS hM (by rw [wSet_th (by decide), zh_F.at 58 (by decide)]; exact hn) (by rw [wSet_th (by decide), zh_F.at 59 (by decide)]; exact hp) (by rw [wSet_row1]; exact zh_r.set (x := some lw)) hC zq_n81 (by have z9 := zh_B.found hM zh_k h_58 (by rw [← zh_l]; exact h_83) zq_r zq_p hC; rw [← zh_l] at z9; exact z9)) vX0_67 (by first | decide | omega) rfl rfl dX0_findNext_109 rfl (Nat.le_of_ble_eq_true rfl) ⟨by decide, by decide⟩ (fun zr109 zw109 zp109 => ?_)
                    obtain ⟨rfl, nx9, pv9, zy_n, zy_p, zy_D, zy_F⟩ := zp109
                    refine f_vret C hr dX0_findNext_112 ?_
                    exact ⟨rfl, nx9, pv9, zy_n, zy_p, Sea.done zy_D, ((zh_F.up (by decide)).set (by decide)).tr (zy_F.up (by decide))⟩
      refine a_iload_n C dX0_findNext_19 rfl rfl ?_
      refine a_iload_n C dX0_findNext_20 rfl rfl ?_
      first | refine n_icmp_ge (tgt := 147) C dX0_findNext_21 (by decide) (by first | decide | omega) (by first | decide | omega) (fun h_21 => ?_) (fun h_21 => ?_) | refine a_icmp_ge (tgt := 147) C dX0_findNext_21 (by decide) (fun h_21 => ?_) (fun h_21 => ?_)
      · refine f_vret C hr dX0_findNext_147 ?_
        obtain rfl : k = n := by omega
        exact ⟨rfl, nx, pv, by rw [zh_F.at 58 (by decide)]; exact hn, by rw [zh_F.at 59 (by decide)]; exact hp, Sea.fail hM zh_B zh_d hC, zh_F.up (by decide)⟩
      · refine a_iload_n C dX0_findNext_24 rfl rfl ?_
        refine a_bipush (v := nI 81) C dX0_findNext_25 (by decide) ?_
        first | refine n_icmp_ge (tgt := 147) C dX0_findNext_27 (by decide) (by first | decide | omega) (by first | decide | omega) (fun h_27 => ?_) (fun h_27 => ?_) | refine a_icmp_ge (tgt := 147) C dX0_findNext_27 (by decide) (fun h_27 => ?_) (fun h_27 => ?_)
        · exfalso; omega
        · refine a_aload_n C dX0_findNext_30 rfl rfl ?_
          refine a_getfF C fX0_28 dX0_findNext_31 (tw (by first | decide | omega)) (by first | decide | omega) rfl rfl ?_
          refine a_iload_n C dX0_findNext_34 rfl rfl ?_
          refine n_iald C dX0_findNext_35 (tw (by first | decide | omega)) (by first | decide | omega) rfl rfl (by first | decide | omega) (by decide) (zh_q k h_21) ?_
          refine a_istore C dX0_findNext_36 (by decide) ?_
          refine a_iload C dX0_findNext_38 rfl ?_
          refine a_iconst (v := nI 1) C dX0_findNext_40 (by decide) ?_
          first | refine n_iadd C dX0_findNext_41 ?_ | refine a_iadd C dX0_findNext_41 ?_
          refine a_istore C dX0_findNext_42 (by decide) ?_
          refine a_join (aLe_s ?_ (aLe_s ?_ (aLe_s ?_ (aLe_s ?_ (aLe_s ?_ (aLe_s ?_ aLe_nil)))))) rfl rfl (ZL44 (81 + 1) (q k + 1) n (q k) rf q z (by omega) (by have := hS _ (zh_B.qS hM h_21); omega) h_21 zh_B zh_d rfl (fun b hb h1 h2 => absurd (und_lt (hS _ (zh_B.qS hM h_21)) (hS b h1) h2) (by omega)) zh_q zh_r zh_F)
          · first | with_reducible rfl | exact gl (by first | with_reducible rfl | (refine iF ?_; simp [h_21, h_27]; done) | (refine iT ?_; simp [h_21, h_27]; done) | (refine iB ?_; simp [h_21, h_27]; done) | (simp [h_21, h_27]; done) | (simp [h_21, h_27]; omega) | omega | rfl)
          · first | with_reducible rfl | exact gl (by first | with_reducible rfl | (refine iF ?_; simp [h_21, h_27]; done) | (refine iT ?_; simp [h_21, h_27]; done) | (refine iB ?_; simp [h_21, h_27]; done) | (simp [h_21, h_27]; done) | (simp [h_21, h_27]; omega) | omega | rfl)
          · first | with_reducible rfl | exact gl (by first | with_reducible rfl | (refine iF ?_; simp [h_21, h_27]; done) | (refine iT ?_; simp [h_21, h_27]; done) | (refine iB ?_; simp [h_21, h_27]; done) | (simp [h_21, h_27]; done) | (simp [h_21, h_27]; omega) | omega | rfl)
          · first | with_reducible rfl | exact gl (by first | with_reducible rfl | (refine iF ?_; simp [h_21, h_27]; done) | (refine iT ?_; simp [h_21, h_27]; done) | (refine iB ?_; simp [h_21, h_27]; done) | (simp [h_21, h_27]; done) | (simp [h_21, h_27]; omega) | omega | rfl)
          · first | with_reducible rfl | exact gl (by first | with_reducible rfl | (refine iF ?_; simp [h_21, h_27]; done) | (refine iT ?_; simp [h_21, h_27]; done) | (refine iB ?_; simp [h_21, h_27]; done) | (simp [h_21, h_27]; done) | (simp [h_21, h_27]; omega) | omega | rfl)
          · first | with_reducible rfl | exact gl (by first | with_reducible rfl | (refine iF ?_; simp [h_21, h_27]; done) | (refine iT ?_; simp [h_21, h_27]; done) | (refine iB ?_; simp [h_21, h_27]; done) | (simp [h_21, h_27]; done) | (simp [h_21, h_27]; omega) | omega | rfl)
  refine a_pad 4 ?_
  refine a_eq (L' := [some (.ref 55), some (.int (nI s)), none, none, none, none]) rfl rfl rfl ?_
  refine a_aload_n C dX0_findNext_0 rfl rfl ?_
  refine a_getfF C fX0_31 dX0_findNext_1 (tw (by first | decide | omega)) (by first | decide | omega) rfl rfl ?_
  refine a_iconst (v := (-1)) C dX0_findNext_4 (by decide) ?_
  refine f_callS C _ (K_J7_fill_53178 (a := 62) (by decide) (fun _ _ => rfl) (-1)) sX0_47 dX0_findNext_5 rfl (Nat.le_of_ble_eq_true rfl) ⟨by decide, by decide⟩ (fun zr5 zw5 zp5 => ?_)
  obtain ⟨rfl, rfl⟩ := zp5
  refine a_aload_n C dX0_findNext_8 rfl rfl ?_
  refine a_getfF C fX0_28 dX0_findNext_9 (tw (by first | decide | omega)) (by first | decide | omega) rfl rfl ?_
  refine a_iconst (v := nI 0) C dX0_findNext_12 (by decide) ?_
  refine a_iload_n C dX0_findNext_13 rfl rfl ?_
  refine f_iast C dX0_findNext_14 (by first | decide | omega) rfl rfl (by first | decide | omega) (by decide)  rfl ?_
  refine a_iconst (v := nI 1) C dX0_findNext_15 (by decide) ?_
  refine a_istore_n C dX0_findNext_16 rfl (by decide) ?_
  refine a_iconst (v := nI 0) C dX0_findNext_17 (by decide) ?_
  refine a_istore_n C dX0_findNext_18 rfl (by decide) ?_
  refine a_join (aLe_s ?_ (aLe_s ?_ (aLe_s ?_ (aLe_s ?_ (aLe_n (aLe_n aLe_nil)))))) rfl rfl (ZL19 (81 + 1) 0 1 (fun _ => none) (fun _ => s) _ (by omega) (by omega) (by omega) (Bf.init hs hsn rfl) (fun i b hi => absurd hi (Nat.not_lt_zero i)) (by rw [wSet_row1]; exact RN.one) (by rw [wSet_th (by decide), wRow_at]; exact RO.fil) ((Frm.rf.row (by decide)).set (by decide)))
  · first | with_reducible rfl | exact gl (by first | with_reducible rfl | (refine iF ?_; simp []; done) | (refine iT ?_; simp []; done) | (refine iB ?_; simp []; done) | (simp []; done) | (simp []; omega) | omega | rfl)
  · first | with_reducible rfl | exact gl (by first | with_reducible rfl | (refine iF ?_; simp []; done) | (refine iT ?_; simp []; done) | (refine iB ?_; simp []; done) | (simp []; done) | (simp []; omega) | omega | rfl)
  · first | with_reducible rfl | exact gl (by first | with_reducible rfl | (refine iF ?_; simp []; done) | (refine iT ?_; simp []; done) | (refine iB ?_; simp []; done) | (simp []; done) | (simp []; omega) | omega | rfl)
  · first | with_reducible rfl | exact gl (by first | with_reducible rfl | (refine iF ?_; simp []; done) | (refine iT ?_; simp []; done) | (refine iB ?_; simp []; done) | (simp []; done) | (simp []; omega) | omega | rfl)

end A31

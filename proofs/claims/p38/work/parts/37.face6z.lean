section A37
theorem SvC.same {w w' : Wd} {S : Nat → St} {sv lt : Nat} (h : SvC w S sv lt) (h0 : ∀ j, 7 ≤ j → w'.1 0 j = w.1 0 j) (hw : ∀ a, 66 ≤ a → a < 204 → w'.1 a = w.1 a) : SvC w' S sv lt := h.fr ⟨h0 8 (by decide), h0 7 (by decide)⟩ hw
def prL (lt : Nat) : Nat := if 0 < lt then lt - 1 else 5
theorem prL_lt {lt : Nat} (h : lt < 6) : prL lt < 6 := by
  unfold prL
  split <;> omega
theorem SvC.pop {w w' : Wd} {S : Nat → St} {sv lt : Nat} (h : SvC w S sv lt) (hz : 0 < sv) (h8 : w'.1 0 8 = nI (sv - 1)) (h7 : w'.1 0 7 = nI (prL lt)) (hw : ∀ a, 66 ≤ a → a < 204 → w'.1 a = w.1 a) : SvC w' (fun q => S (q + 1)) (sv - 1) (prL lt) := by
  refine ⟨⟨h8, by have := h.1.2; omega⟩, ⟨h7, prL_lt h.2.1.2⟩, fun q hq => ?_⟩
  obtain ⟨z1, z2⟩ := h.2.2 (q + 1) (by omega)
  have hl := h.2.1.2
  have hs := h.1.2
  have e : (lt + 6 - (q + 1)) % 6 = (prL lt + 6 - q) % 6 := by
    unfold prL
    split <;> omega
  rw [e] at z2
  exact ⟨z1, z2.same z1 (fun a h1 h2 => hw a (by omega) (by omega))⟩
set_option maxRecDepth 20000 in
set_option maxHeartbeats 4000000 in
theorem K_X6_undo {w : Wd} {A : St} {S : Nat → St} {sv lt : Nat} (hD : DR w 3 A) (hA : AOK A) (hS : SvC w S sv lt) (hz : 0 < sv) : CF yX6_undo cX6_undo 1 (some .int) 6 90 [.ref 0] w (fun r w' => r = some (.int (nI (sv - 1))) ∧ DR w' 3 (S 0) ∧ SvC w' (fun q => S (q + 1)) (sv - 1) (prL lt) ∧ FrS w w') := by
  have zq_s := hS.1.2
  have zq_l := hS.2.1.2
  obtain ⟨zq_0, zq_1⟩ := hS.2.2 0 hz
  rw [show (lt + 6 - 0) % 6 = lt by omega] at zq_1
  have zq_pl := prL_lt zq_l
  refine CF.of ok_X6_undo (Nat.le_of_ble_eq_true rfl) (fun ex us G9 p9 l9 e9 s9 m9 ar9 be9 me9 co9 C hr => ?_)
  refine a_aload_n C dX6_undo_0 rfl rfl ?_
  refine a_getf C fX6_235 dX6_undo_1 (tw (by first | decide | omega)) (by first | decide | omega) rfl (gl hS.1.1) ?_
  refine n_if_gt (tgt := 17) C dX6_undo_4 (by decide) (by first | decide | omega)  (fun h_4 => ?_) (fun h_4 => ?_)
  · refine a_aload_n C dX6_undo_17 rfl rfl ?_
    refine a_getfF C fX6_19 dX6_undo_18 (tw (by first | decide | omega)) (by first | decide | omega) rfl rfl ?_
    refine a_aload_n C dX6_undo_21 rfl rfl ?_
    refine a_getfF C fX6_26 dX6_undo_22 (tw (by first | decide | omega)) (by first | decide | omega) rfl rfl ?_
    refine a_aload_n C dX6_undo_25 rfl rfl ?_
    refine a_getf C fX6_30 dX6_undo_26 (tw (by first | decide | omega)) (by first | decide | omega) rfl (gl hS.2.1.1) ?_
    refine a_aaldS C dX6_undo_29 (tw (by first | decide | omega)) (by first | decide | omega) rfl rfl (by first | decide | omega) (by decide) rfl ?_
    refine f_callV C [.ref (66 + 23 * lt)] _ (K_X5_copyFrom (w := w) (A := S 0) (j := 0) (i := lt + 2) (by decide) (by omega) (by omega) zq_1 zq_0) vX6_227 (show 3 < 207 by decide) (fzc_state (j := 0) (by decide) _ _) rfl dX6_undo_30 rfl (Nat.le_of_ble_eq_true rfl) ⟨by decide, by decide⟩ (fun zr30 zw30 zp30 => ?_)
    obtain ⟨rfl, zq_D, zq_F⟩ := zp30
    have zq_F1 : ∀ a, a < 3 ∨ 26 ≤ a → zw30.1 a = w.1 a := fun a ha => zq_F.1 a ha
    have zq_D1 : DR zw30 3 (S 0) := zq_D
    refine a_aload_n C dX6_undo_33 rfl rfl ?_
    refine a_via 51 (nI (prL lt)) ?_ (fun zJ51 => ?_)
    · refine f_putf C fX6_30 dX6_undo_51 (by first | decide | omega) rfl rfl rfl (Nat.le_of_ble_eq_true rfl) rfl ?_
      refine a_aload_n C dX6_undo_54 rfl rfl ?_
      refine a_dup C dX6_undo_55 rfl ?_
      refine a_getf C fX6_235 dX6_undo_56 (tw (by first | decide | omega)) (by first | decide | omega) rfl (gl (show _ = nI sv from by rw [wSet_ne (by decide), zq_F1 0 (by omega)]; exact hS.1.1)) ?_
      refine a_iconst (v := nI 1) C dX6_undo_59 (by decide) ?_
      refine n_isub C dX6_undo_60 (by first | decide | omega) ?_
      refine f_putf C fX6_235 dX6_undo_61 (by first | decide | omega) rfl rfl rfl (Nat.le_of_ble_eq_true rfl) rfl ?_
      refine a_aload_n C dX6_undo_64 rfl rfl ?_
      refine a_getf C fX6_235 dX6_undo_65 (tw (by first | decide | omega)) (by first | decide | omega) rfl (gl wSet_at) ?_
      refine f_iret C hr ?_ dX6_undo_68 ?_
      · rfl
      · exact ⟨rfl, zq_D1.same zq_0 (fun a h1 h2 => by rw [wSet_th (by omega), wSet_th (by omega)]), hS.pop hz wSet_at ((wSet_ne (by decide)).trans wSet_at) (fun a h1 h2 => by rw [wSet_th (by omega), wSet_th (by omega)]; exact zq_F1 a (by omega)), fun a a0 ha => by rw [wSet_th a0, wSet_th a0]; exact zq_F1 a (by omega), fun j j7 j8 => by rw [wSet_ne (by omega), wSet_ne (by omega), zq_F1 0 (by omega)], zq_F.2⟩
    · refine a_aload_n C dX6_undo_34 rfl rfl ?_
      refine a_getf C fX6_30 dX6_undo_35 (tw (by first | decide | omega)) (by first | decide | omega) rfl (gl (show _ = nI lt from by rw [zq_F1 0 (by omega)]; exact hS.2.1.1)) ?_
      refine n_if_le (tgt := 50) C dX6_undo_38 (by decide) (by first | decide | omega)  (fun h_38 => ?_) (fun h_38 => ?_)
      · refine a_iconst (v := nI 5) C dX6_undo_50 (by decide) ?_
        refine a_eq rfl (gl1 ?_) rfl zJ51
        · (unfold prL; first | rw [if_pos (by omega)] | rw [if_neg (by omega)])
      · refine a_aload_n C dX6_undo_41 rfl rfl ?_
        refine a_getf C fX6_30 dX6_undo_42 (tw (by first | decide | omega)) (by first | decide | omega) rfl (gl (show _ = nI lt from by rw [zq_F1 0 (by omega)]; exact hS.2.1.1)) ?_
        refine a_iconst (v := nI 1) C dX6_undo_45 (by decide) ?_
        refine n_isub C dX6_undo_46 (by first | decide | omega) ?_
        refine a_goto (tgt := 51) C dX6_undo_47 (by decide) ?_
        refine a_eq rfl (gl1 ?_) rfl zJ51
        · (unfold prL; first | rw [if_pos (by omega)] | rw [if_neg (by omega)])
  · exfalso; omega

end A37

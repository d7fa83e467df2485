section A42
/-! ### what is made: rows over abstract heaps -/
variable {G : aG} {p : Program} {l : Launch} {e : Env} {R : Room} {s : State} {m : MethodId} {args : Array Value} {below : List Frame} {meth : Method} {c : Code} {Q : State → Prop} {n k0 u0 pc : Nat} {cc : ByteArray} {own : String} {L : aL} {st : List Value} {M : aH}
/-- one thing more -/
def aNew (M : aH) (x : aC) (sl : Nat) : aH := (M.1 + 1, M.2.1, M.2.2.1 + sl, aUp M.2.2.2 M.1 x)
theorem aW_new {G : aG} {M : aH} {x : aC} {sl : Nat} : aW G (aNew M x sl) = aW G M ++ [(aX G M.1, aE G x)] := by
  show (List.range (M.1 + 1)).map (fun i => (aX G i, aE G (aUp M.2.2.2 M.1 x i))) = _
  rw [List.range_succ, List.map_append]
  congr 1
  · refine List.map_congr_left fun i hi => ?_
    have z := List.mem_range.mp hi
    have z2 : ¬ i = M.1 := by omega
    show (aX G i, aE G (aUp M.2.2.2 M.1 x i)) = (aX G i, aE G (M.2.2.2 i))
    unfold aUp
    rw [if_neg z2]
  · show [(aX G M.1, aE G (aUp M.2.2.2 M.1 x M.1))] = _
    unfold aUp
    rw [if_pos rfl]
theorem aNew_at {M : aH} {x : aC} {sl : Nat} : (aNew M x sl).2.2.2 M.1 = x := if_pos rfl
theorem aNew_ne {M : aH} {x : aC} {sl a : Nat} (h : ¬ a = M.1) : (aNew M x sl).2.2.2 a = M.2.2.2 a := if_neg h
theorem aPut_at {M : aH} {a : Nat} {x : aC} : (aPut M a x).2.2.2 a = x := if_pos rfl
theorem aPut_ne {M : aH} {a b : Nat} {x : aC} (h : ¬ b = a) : (aPut M a x).2.2.2 b = M.2.2.2 b := if_neg h
/-- the heap behind one thing more -/
theorem aNew_P {x : aC} {sl : Nat} {H H1 : Heap} (h2 : va_P G.1 vwCl (aW G M) H) (hq : H.size = aX G M.1) (hx : va_at G.1 vwCl (H.size, aE G x) H1) (o1 : ∀ q : Nat, q < H.size → H1[q]? = H[q]?) : va_P G.1 vwCl (aW G (aNew M x sl)) H1 := by
  rw [aW_new]
  have hk : ∀ (k : Nat) (y : Nat × va_E), (aW G M)[k]? = some y → H1[y.1]? = H[y.1]? := fun k y hy => o1 y.1 ((h2 k y hy).lt)
  refine (h2.kept hk).app (fun k y hy => ?_)
  have hz : k < 1 := (List.getElem?_eq_some_iff.mp hy).1
  rw [show k = 0 by omega] at hy
  cases hy
  rw [← hq]
  exact hx
theorem aAd_new (hlim : M.1 < 207) {H : Heap} (hq : H.size = G.2.1 + M.1) : aV G (.ref M.1) = .ref H.size := by
  show Value.ref (aAd G M.1) = _
  rw [aAd_lt (by omega), aX_lo hlim, hq]
theorem a_new (C : aCtx G p s m args meth c cc n own) {index ci N : Nat} {T : u_T} {C9 : String} {fs : List Value} (hcl : Cond.classLink own index C9 ∈ GW) (hinst : Cond.instantiable C9 N ∈ GW) (hini : Cond.initialized C9 ∈ GW) (hc : vwCl[ci]? = some (C9, T, N)) (hfs : ∀ j, j < N → defaultValue (tyC ci j) = vp_V (fs.map (aV G)) j) (hd : decode cc pc = .ok (.new index, 3)) (hlim : M.1 < 207) (h0 : M.2.1 = 0) (hbud : M.1 + 1 ≤ k0 + R.cells ∧ M.2.2.1 + N ≤ u0 + R.slots)
    (k : WA G p l e R s m args below meth c Q n k0 u0 (pc + 3) L (.ref M.1 :: st) (aNew M (.inr (ci, fs)) N)) : WA G p l e R s m args below meth c Q n k0 u0 pc L st M := by
  intro H locs ls cells slots h1 h2 h3 h4 h5 h6
  obtain ⟨hin, hty, hnm⟩ := cl_ok hc
  have hts := C.2.2.2.2.1
  have hKn := C.2.2.2.2.2.1.1.1 ci _ hc
  have hq : H.size = G.2.1 + M.1 := by omega
  refine W.newcK C.1 C.2.1 C.2.2.2.1 (hts _ hcl) (hts _ hinst) (hts _ hini) rfl hd (by omega) (by omega) hKn.2.1 rfl fun H1 kC hkC e1 z1 o1 => ?_
  have kk := k H1 locs ls (cells + 1) (slots + N) h1 (aNew_P h2 (hq.trans (aX_lo hlim).symm) ⟨_, hc, (u_born (tyC ci) hts hin hKn hkC e1 hty).to hfs⟩ o1) (by show H1.size = G.2.1 + (M.1 + 1 + M.2.1); omega) ⟨Nat.le_trans h4.1 (by omega), fun x q1 q2 => (o1 x (Nat.lt_of_lt_of_le q1 h4.1)).trans (h4.2.1 x q1 q2), h4.2.2⟩ (by show cells + 1 + k0 = M.1 + 1 + M.2.1; omega) (by show slots + N + u0 = M.2.2.1 + N; omega)
  rw [List.map_cons, aAd_new hlim hq] at kk
  exact kk
theorem ga_I : Cond.arrayClass .int ∈ GW := gw_in (List.mem_of_getElem? (i := 126) (by decide +kernel)) rfl
theorem a_newaI (C : aCtx G p s m args meth c cc n own) {N : Nat} {x : Int32} (hd : decode cc pc = .ok (.newarray .int, 2)) (hx : x = nI N) (hN : N < 2 ^ 20) (hlim : M.1 < 207) (h0 : M.2.1 = 0) (hbud : M.1 + 1 ≤ k0 + R.cells ∧ M.2.2.1 + N ≤ u0 + R.slots)
    (k : WA G p l e R s m args below meth c Q n k0 u0 (pc + 2) L (.ref M.1 :: st) (aNew M (.inl (8, (N, .inl (fun _ => 0)))) N)) : WA G p l e R s m args below meth c Q n k0 u0 pc L (.int x :: st) M := by
  intro H locs ls cells slots h1 h2 h3 h4 h5 h6
  subst hx
  have hq : H.size = G.2.1 + M.1 := by omega
  have hcl : (nI N).toNatClampNeg = N := nI_clamp (by omega)
  refine va_newaK C.1 C.2.1 (atype := .int) (C.2.2.2.2.1 _ ga_I) rfl hd rfl (nI_pos (by omega)) hcl (Nat.le_trans (Nat.mul_le_mul_left N (show componentBytes .int ≤ 8 by decide)) (by omega)) (by omega) (by omega) rfl (fun H1 cA e1 z1 o1 hAr hNm => ?_)
  have hc : cA = G.2.2.1 8 := Option.some.inj (hNm.symm.trans (C.2.2.2.2.2.1.1.2 0 _ rfl).2)
  subst hc
  have kk := k H1 locs ls (cells + 1) (slots + N) h1 (aNew_P h2 (hq.trans (aX_lo hlim).symm) (by show H1[H.size]? = some (vp_cell _ _); rw [e1]; rfl) o1) (by show H1.size = G.2.1 + (M.1 + 1 + M.2.1); omega) ⟨Nat.le_trans h4.1 (by omega), fun x q1 q2 => (o1 x (Nat.lt_of_lt_of_le q1 h4.1)).trans (h4.2.1 x q1 q2), h4.2.2⟩ (by show cells + 1 + k0 = M.1 + 1 + M.2.1; omega) (by show slots + N + u0 = M.2.2.1 + N; omega)
  rw [List.map_cons, aAd_new hlim hq] at kk
  exact kk
theorem ga_Z : Cond.arrayClass .boolean ∈ GW := gw_in (List.mem_of_getElem? (i := 283) (by decide +kernel)) rfl
theorem a_newaZ (C : aCtx G p s m args meth c cc n own) {N : Nat} {x : Int32} (hd : decode cc pc = .ok (.newarray .boolean, 2)) (hx : x = nI N) (hN : N < 2 ^ 20) (hlim : M.1 < 207) (h0 : M.2.1 = 0) (hbud : M.1 + 1 ≤ k0 + R.cells ∧ M.2.2.1 + N ≤ u0 + R.slots)
    (k : WA G p l e R s m args below meth c Q n k0 u0 (pc + 2) L (.ref M.1 :: st) (aNew M (.inl (9, (N, .inl (fun _ => 0)))) N)) : WA G p l e R s m args below meth c Q n k0 u0 pc L (.int x :: st) M := by
  intro H locs ls cells slots h1 h2 h3 h4 h5 h6
  subst hx
  have hq : H.size = G.2.1 + M.1 := by omega
  have hcl : (nI N).toNatClampNeg = N := nI_clamp (by omega)
  refine va_newaK C.1 C.2.1 (atype := .boolean) (C.2.2.2.2.1 _ ga_Z) rfl hd rfl (nI_pos (by omega)) hcl (Nat.le_trans (Nat.mul_le_mul_left N (show componentBytes .boolean ≤ 8 by decide)) (by omega)) (by omega) (by omega) rfl (fun H1 cA e1 z1 o1 hAr hNm => ?_)
  have hc : cA = G.2.2.1 9 := Option.some.inj (hNm.symm.trans (C.2.2.2.2.2.1.1.2 1 _ rfl).2)
  subst hc
  have kk := k H1 locs ls (cells + 1) (slots + N) h1 (aNew_P h2 (hq.trans (aX_lo hlim).symm) (by show H1[H.size]? = some (vp_cell _ _); rw [e1]; rfl) o1) (by show H1.size = G.2.1 + (M.1 + 1 + M.2.1); omega) ⟨Nat.le_trans h4.1 (by omega), fun x q1 q2 => (o1 x (Nat.lt_of_lt_of_le q1 h4.1)).trans (h4.2.1 x q1 q2), h4.2.2⟩ (by show cells + 1 + k0 = M.1 + 1 + M.2.1; omega) (by show slots + N + u0 = M.2.2.1 + N; omega)
  rw [List.map_cons, aAd_new hlim hq] at kk
  exact kk
theorem ga_C : Cond.arrayClass .char ∈ GW := gw_in (List.mem_of_getElem? (i := 85) (by decide +kernel)) rfl
theorem a_newaC (C : aCtx G p s m args meth c cc n own) {N : Nat} {x : Int32} (hd : decode cc pc = .ok (.newarray .char, 2)) (hx : x = nI N) (hN : N < 2 ^ 20) (hlim : M.1 < 207) (h0 : M.2.1 = 0) (hbud : M.1 + 1 ≤ k0 + R.cells ∧ M.2.2.1 + N ≤ u0 + R.slots)
    (k : WA G p l e R s m args below meth c Q n k0 u0 (pc + 2) L (.ref M.1 :: st) (aNew M (.inl (10, (N, .inl (fun _ => 0)))) N)) : WA G p l e R s m args below meth c Q n k0 u0 pc L (.int x :: st) M := by
  intro H locs ls cells slots h1 h2 h3 h4 h5 h6
  subst hx
  have hq : H.size = G.2.1 + M.1 := by omega
  have hcl : (nI N).toNatClampNeg = N := nI_clamp (by omega)
  refine va_newaK C.1 C.2.1 (atype := .char) (C.2.2.2.2.1 _ ga_C) rfl hd rfl (nI_pos (by omega)) hcl (Nat.le_trans (Nat.mul_le_mul_left N (show componentBytes .char ≤ 8 by decide)) (by omega)) (by omega) (by omega) rfl (fun H1 cA e1 z1 o1 hAr hNm => ?_)
  have hc : cA = G.2.2.1 10 := Option.some.inj (hNm.symm.trans (C.2.2.2.2.2.1.1.2 2 _ rfl).2)
  subst hc
  have kk := k H1 locs ls (cells + 1) (slots + N) h1 (aNew_P h2 (hq.trans (aX_lo hlim).symm) (by show H1[H.size]? = some (vp_cell _ _); rw [e1]; rfl) o1) (by show H1.size = G.2.1 + (M.1 + 1 + M.2.1); omega) ⟨Nat.le_trans h4.1 (by omega), fun x q1 q2 => (o1 x (Nat.lt_of_lt_of_le q1 h4.1)).trans (h4.2.1 x q1 q2), h4.2.2⟩ (by show cells + 1 + k0 = M.1 + 1 + M.2.1; omega) (by show slots + N + u0 = M.2.2.1 + N; omega)
  rw [List.map_cons, aAd_new hlim hq] at kk
  exact kk
theorem a_newqK (C : aCtx G p s m args meth c cc n own) (hAO : va_AO RX2 s) {index N : Nat} {x : Int32} (hcl : Cond.classLink own index RX2 ∈ GW) (hd : decode cc pc = .ok (.anewarray index, 3)) (hx : x = nI N) (hN : N < 2 ^ 20) (hlim : M.1 < 207) (h0 : M.2.1 = 0) (hbud : M.1 + 1 ≤ k0 + R.cells ∧ M.2.2.1 + N ≤ u0 + R.slots)
    (k : WA G p l e R s m args below meth c Q n k0 u0 (pc + 3) L (.ref M.1 :: st) (aNew M (.inl (12, (N, .inr (.inr (.inr (.inr (fun _ => none))))))) N)) : WA G p l e R s m args below meth c Q n k0 u0 pc L (.int x :: st) M := by
  intro H locs ls cells slots h1 h2 h3 h4 h5 h6
  subst hx
  have hq : H.size = G.2.1 + M.1 := by omega
  have hclp : (nI N).toNatClampNeg = N := nI_clamp (by omega)
  refine W.anew C.1 C.2.1 C.2.2.2.1 (C.2.2.2.2.1 _ hcl) (va_AO.use hAO) rfl hd rfl (nI_pos (by omega)) (by rw [hclp]; omega) (by omega) (by rw [hclp]; omega) fun cA kA comp f1 f2 f3 f4 => ?_
  rw [hclp]
  generalize hH1 : H.push ({ cls := cA, slots := Array.replicate N .null, vm := .none } : Cell) = H1
  have z1 : H1.size = H.size + 1 := by rw [← hH1, Array.size_push]
  have e1 : H1[H.size]? = some (arrV cA N (fun _ => .null)) := by rw [← hH1, Array.getElem?_push_size, ← arrV_new]
  have o1 : ∀ q : Nat, q < H.size → H1[q]? = H[q]? := fun q hq => by rw [← hH1, Array.getElem?_push, if_neg (Nat.ne_of_lt hq)]
  have hc : cA = G.2.2.1 12 := by
    obtain ⟨_, _, _, _, _, _, g4⟩ := C.2.2.2.2.2.1.1.2 4 _ rfl
    exact Option.some.inj (f1.symm.trans g4)
  subst hc
  have kk := k H1 locs ls (cells + 1) (slots + N) h1 (aNew_P h2 (hq.trans (aX_lo hlim).symm) (by show H1[H.size]? = some (vp_cell _ _); rw [e1]; rfl) o1) (by show H1.size = G.2.1 + (M.1 + 1 + M.2.1); omega) ⟨Nat.le_trans h4.1 (by omega), fun x q1 q2 => (o1 x (Nat.lt_of_lt_of_le q1 h4.1)).trans (h4.2.1 x q1 q2), h4.2.2⟩ (by show cells + 1 + k0 = M.1 + 1 + M.2.1; omega) (by show slots + N + u0 = M.2.2.1 + N; omega)
  rw [List.map_cons, aAd_new hlim hq] at kk
  exact kk
theorem a_astqK (C : aCtx G p s m args meth c cc n own) {a b len j : Nat} {f : Nat → Option Nat} {i : Int32} {vs : List Value} (hd : decode cc pc = .ok (.aastore, 1)) (ha : a < M.1) (ha2 : a < 1000) (hM : M.2.2.2 a = .inl (12, (len, .inr (.inr (.inr (.inr f)))))) (hb : b < M.1) (hb2 : b < 1000) (hbM : M.2.2.2 b = .inr (2, vs)) (hi : i = nI j) (hj : j < len) (hlen : len < 2 ^ 31)
    (k : WA G p l e R s m args below meth c Q n k0 u0 (pc + 1) L st (aPut M a (.inl (12, (len, .inr (.inr (.inr (.inr (va_up f j (some b)))))))))) : WA G p l e R s m args below meth c Q n k0 u0 pc L (.ref b :: .int i :: .ref a :: st) M := by
  intro H locs ls cells slots h1 h2 h3 h4 h5 h6
  subst hi
  have he : (aW G M)[a]? = some (aAd G a, .inl (G.2.2.1 12, (len, .inr (.inr (.inr (.inr (fun j => (f j).map (aAd G)))))))) := by rw [aAd_lt ha2]; exact aW_at ha hM
  have hv : (aW G M)[b]? = some (aAd G b, .inr (2, vs.map (aV G))) := by rw [aAd_lt hb2]; exact aW_at hb hbM
  have hK := C.2.2.2.2.2.1.1
  obtain ⟨r9, hr9, cellV, g1, g2, g3, -⟩ := h2 b _ hv
  have hcls := (hK.1 2 _ rfl).2
  obtain ⟨kA, comp, k1, k2, k3, -⟩ := (hK.2 4 _ rfl).2
  have hcomp : comp = G.1.1 2 := Option.some.inj (k3.symm.trans hcls.1)
  subst hcomp
  obtain ⟨kC, hkC, -⟩ := hcls.2
  have hin : vp_in (nI j) len := vp_in_nI hj hlen
  have hup : (fun q => (va_up f j (some b) q).map (aAd G)) = va_up (fun q => (f q).map (aAd G)) j (some (aAd G b)) := by
    funext q
    unfold va_up
    by_cases z : q = j <;> simp [z]
  refine W.aast C.1 C.2.1 (h2 a _ he) (fun q h => by cases h) (fun h => by cases h) k1 k2 rfl hkC ⟨fun q => hin (Or.inl q), by show _ < (arrV _ _ _).slots.size; rw [arrV_size]; exact Nat.not_le.mp fun q => hin (Or.inr q)⟩ g1 (fun q h => by rw [g3] at h; cases h) (by rw [g2]; exact hkC) (by rw [g2]; exact va_assign hcls) rfl rfl hd fun H1 e z oq => ?_
  rw [nI_clamp (by omega)] at e ⊢
  refine k H1 _ ls cells slots h1 ?_ (z.trans h3) (h4.put z oq (by show G.2.1 ≤ _; rw [aAd_lt ha2]; exact aX_le _ _)) h5 h6
  have h := h2.set (aW_D G M) he (e := .inl (G.2.2.1 12, (len, .inr (.inr (.inr (.inr (fun q => (va_up f j (some b) q).map (aAd G)))))))) (by
    show H1[aAd G a]? = some (vp_cell _ _)
    rw [e, hup]
    rw [vp_cell_q, vp_cell_q, arrV_store]
    congr 2
    funext q
    by_cases hq : q = j
    · subst hq
      simp [updV, va_up, va_rf]
    · simp [updV, va_up, hq]) oq
  rw [aAd_lt ha2] at h
  rw [← aW_set]
  exact h
theorem a_newqL (C : aCtx G p s m args meth c cc n own) (hAO : va_AO RX3 s) {index N : Nat} {x : Int32} (hcl : Cond.classLink own index RX3 ∈ GW) (hd : decode cc pc = .ok (.anewarray index, 3)) (hx : x = nI N) (hN : N < 2 ^ 20) (hlim : M.1 < 207) (h0 : M.2.1 = 0) (hbud : M.1 + 1 ≤ k0 + R.cells ∧ M.2.2.1 + N ≤ u0 + R.slots)
    (k : WA G p l e R s m args below meth c Q n k0 u0 (pc + 3) L (.ref M.1 :: st) (aNew M (.inl (13, (N, .inr (.inr (.inr (.inr (fun _ => none))))))) N)) : WA G p l e R s m args below meth c Q n k0 u0 pc L (.int x :: st) M := by
  intro H locs ls cells slots h1 h2 h3 h4 h5 h6
  subst hx
  have hq : H.size = G.2.1 + M.1 := by omega
  have hclp : (nI N).toNatClampNeg = N := nI_clamp (by omega)
  refine W.anew C.1 C.2.1 C.2.2.2.1 (C.2.2.2.2.1 _ hcl) (va_AO.use hAO) rfl hd rfl (nI_pos (by omega)) (by rw [hclp]; omega) (by omega) (by rw [hclp]; omega) fun cA kA comp f1 f2 f3 f4 => ?_
  rw [hclp]
  generalize hH1 : H.push ({ cls := cA, slots := Array.replicate N .null, vm := .none } : Cell) = H1
  have z1 : H1.size = H.size + 1 := by rw [← hH1, Array.size_push]
  have e1 : H1[H.size]? = some (arrV cA N (fun _ => .null)) := by rw [← hH1, Array.getElem?_push_size, ← arrV_new]
  have o1 : ∀ q : Nat, q < H.size → H1[q]? = H[q]? := fun q hq => by rw [← hH1, Array.getElem?_push, if_neg (Nat.ne_of_lt hq)]
  have hc : cA = G.2.2.1 13 := by
    obtain ⟨_, _, _, _, _, _, g4⟩ := C.2.2.2.2.2.1.1.2 5 _ rfl
    exact Option.some.inj (f1.symm.trans g4)
  subst hc
  have kk := k H1 locs ls (cells + 1) (slots + N) h1 (aNew_P h2 (hq.trans (aX_lo hlim).symm) (by show H1[H.size]? = some (vp_cell _ _); rw [e1]; rfl) o1) (by show H1.size = G.2.1 + (M.1 + 1 + M.2.1); omega) ⟨Nat.le_trans h4.1 (by omega), fun x q1 q2 => (o1 x (Nat.lt_of_lt_of_le q1 h4.1)).trans (h4.2.1 x q1 q2), h4.2.2⟩ (by show cells + 1 + k0 = M.1 + 1 + M.2.1; omega) (by show slots + N + u0 = M.2.2.1 + N; omega)
  rw [List.map_cons, aAd_new hlim hq] at kk
  exact kk
theorem a_astqL (C : aCtx G p s m args meth c cc n own) {a b len j : Nat} {f : Nat → Option Nat} {i : Int32} {vs : List Value} (hd : decode cc pc = .ok (.aastore, 1)) (ha : a < M.1) (ha2 : a < 1000) (hM : M.2.2.2 a = .inl (13, (len, .inr (.inr (.inr (.inr f)))))) (hb : b < M.1) (hb2 : b < 1000) (hbM : M.2.2.2 b = .inr (3, vs)) (hi : i = nI j) (hj : j < len) (hlen : len < 2 ^ 31)
    (k : WA G p l e R s m args below meth c Q n k0 u0 (pc + 1) L st (aPut M a (.inl (13, (len, .inr (.inr (.inr (.inr (va_up f j (some b)))))))))) : WA G p l e R s m args below meth c Q n k0 u0 pc L (.ref b :: .int i :: .ref a :: st) M := by
  intro H locs ls cells slots h1 h2 h3 h4 h5 h6
  subst hi
  have he : (aW G M)[a]? = some (aAd G a, .inl (G.2.2.1 13, (len, .inr (.inr (.inr (.inr (fun j => (f j).map (aAd G)))))))) := by rw [aAd_lt ha2]; exact aW_at ha hM
  have hv : (aW G M)[b]? = some (aAd G b, .inr (3, vs.map (aV G))) := by rw [aAd_lt hb2]; exact aW_at hb hbM
  have hK := C.2.2.2.2.2.1.1
  obtain ⟨r9, hr9, cellV, g1, g2, g3, -⟩ := h2 b _ hv
  have hcls := (hK.1 3 _ rfl).2
  obtain ⟨kA, comp, k1, k2, k3, -⟩ := (hK.2 5 _ rfl).2
  have hcomp : comp = G.1.1 3 := Option.some.inj (k3.symm.trans hcls.1)
  subst hcomp
  obtain ⟨kC, hkC, -⟩ := hcls.2
  have hin : vp_in (nI j) len := vp_in_nI hj hlen
  have hup : (fun q => (va_up f j (some b) q).map (aAd G)) = va_up (fun q => (f q).map (aAd G)) j (some (aAd G b)) := by
    funext q
    unfold va_up
    by_cases z : q = j <;> simp [z]
  refine W.aast C.1 C.2.1 (h2 a _ he) (fun q h => by cases h) (fun h => by cases h) k1 k2 rfl hkC ⟨fun q => hin (Or.inl q), by show _ < (arrV _ _ _).slots.size; rw [arrV_size]; exact Nat.not_le.mp fun q => hin (Or.inr q)⟩ g1 (fun q h => by rw [g3] at h; cases h) (by rw [g2]; exact hkC) (by rw [g2]; exact va_assign hcls) rfl rfl hd fun H1 e z oq => ?_
  rw [nI_clamp (by omega)] at e ⊢
  refine k H1 _ ls cells slots h1 ?_ (z.trans h3) (h4.put z oq (by show G.2.1 ≤ _; rw [aAd_lt ha2]; exact aX_le _ _)) h5 h6
  have h := h2.set (aW_D G M) he (e := .inl (G.2.2.1 13, (len, .inr (.inr (.inr (.inr (fun q => (va_up f j (some b) q).map (aAd G)))))))) (by
    show H1[aAd G a]? = some (vp_cell _ _)
    rw [e, hup]
    rw [vp_cell_q, vp_cell_q, arrV_store]
    congr 2
    funext q
    by_cases hq : q = j
    · subst hq
      simp [updV, va_up, va_rf]
    · simp [updV, va_up, hq]) oq
  rw [aAd_lt ha2] at h
  rw [← aW_set]
  exact h
theorem a_newqS (C : aCtx G p s m args meth c cc n own) (hAO : va_AO RX5 s) {index N : Nat} {x : Int32} (hcl : Cond.classLink own index RX5 ∈ GW) (hd : decode cc pc = .ok (.anewarray index, 3)) (hx : x = nI N) (hN : N < 2 ^ 20) (hlim : M.1 < 207) (h0 : M.2.1 = 0) (hbud : M.1 + 1 ≤ k0 + R.cells ∧ M.2.2.1 + N ≤ u0 + R.slots)
    (k : WA G p l e R s m args below meth c Q n k0 u0 (pc + 3) L (.ref M.1 :: st) (aNew M (.inl (14, (N, .inr (.inr (.inr (.inr (fun _ => none))))))) N)) : WA G p l e R s m args below meth c Q n k0 u0 pc L (.int x :: st) M := by
  intro H locs ls cells slots h1 h2 h3 h4 h5 h6
  subst hx
  have hq : H.size = G.2.1 + M.1 := by omega
  have hclp : (nI N).toNatClampNeg = N := nI_clamp (by omega)
  refine W.anew C.1 C.2.1 C.2.2.2.1 (C.2.2.2.2.1 _ hcl) (va_AO.use hAO) rfl hd rfl (nI_pos (by omega)) (by rw [hclp]; omega) (by omega) (by rw [hclp]; omega) fun cA kA comp f1 f2 f3 f4 => ?_
  rw [hclp]
  generalize hH1 : H.push ({ cls := cA, slots := Array.replicate N .null, vm := .none } : Cell) = H1
  have z1 : H1.size = H.size + 1 := by rw [← hH1, Array.size_push]
  have e1 : H1[H.size]? = some (arrV cA N (fun _ => .null)) := by rw [← hH1, Array.getElem?_push_size, ← arrV_new]
  have o1 : ∀ q : Nat, q < H.size → H1[q]? = H[q]? := fun q hq => by rw [← hH1, Array.getElem?_push, if_neg (Nat.ne_of_lt hq)]
  have hc : cA = G.2.2.1 14 := by
    obtain ⟨_, _, _, _, _, _, g4⟩ := C.2.2.2.2.2.1.1.2 6 _ rfl
    exact Option.some.inj (f1.symm.trans g4)
  subst hc
  have kk := k H1 locs ls (cells + 1) (slots + N) h1 (aNew_P h2 (hq.trans (aX_lo hlim).symm) (by show H1[H.size]? = some (vp_cell _ _); rw [e1]; rfl) o1) (by show H1.size = G.2.1 + (M.1 + 1 + M.2.1); omega) ⟨Nat.le_trans h4.1 (by omega), fun x q1 q2 => (o1 x (Nat.lt_of_lt_of_le q1 h4.1)).trans (h4.2.1 x q1 q2), h4.2.2⟩ (by show cells + 1 + k0 = M.1 + 1 + M.2.1; omega) (by show slots + N + u0 = M.2.2.1 + N; omega)
  rw [List.map_cons, aAd_new hlim hq] at kk
  exact kk
theorem a_astqS (C : aCtx G p s m args meth c cc n own) {a b len j : Nat} {f : Nat → Option Nat} {i : Int32} {vs : List Value} (hd : decode cc pc = .ok (.aastore, 1)) (ha : a < M.1) (ha2 : a < 1000) (hM : M.2.2.2 a = .inl (14, (len, .inr (.inr (.inr (.inr f)))))) (hb : b < M.1) (hb2 : b < 1000) (hbM : M.2.2.2 b = .inr (5, vs)) (hi : i = nI j) (hj : j < len) (hlen : len < 2 ^ 31)
    (k : WA G p l e R s m args below meth c Q n k0 u0 (pc + 1) L st (aPut M a (.inl (14, (len, .inr (.inr (.inr (.inr (va_up f j (some b)))))))))) : WA G p l e R s m args below meth c Q n k0 u0 pc L (.ref b :: .int i :: .ref a :: st) M := by
  intro H locs ls cells slots h1 h2 h3 h4 h5 h6
  subst hi
  have he : (aW G M)[a]? = some (aAd G a, .inl (G.2.2.1 14, (len, .inr (.inr (.inr (.inr (fun j => (f j).map (aAd G)))))))) := by rw [aAd_lt ha2]; exact aW_at ha hM
  have hv : (aW G M)[b]? = some (aAd G b, .inr (5, vs.map (aV G))) := by rw [aAd_lt hb2]; exact aW_at hb hbM
  have hK := C.2.2.2.2.2.1.1
  obtain ⟨r9, hr9, cellV, g1, g2, g3, -⟩ := h2 b _ hv
  have hcls := (hK.1 5 _ rfl).2
  obtain ⟨kA, comp, k1, k2, k3, -⟩ := (hK.2 6 _ rfl).2
  have hcomp : comp = G.1.1 5 := Option.some.inj (k3.symm.trans hcls.1)
  subst hcomp
  obtain ⟨kC, hkC, -⟩ := hcls.2
  have hin : vp_in (nI j) len := vp_in_nI hj hlen
  have hup : (fun q => (va_up f j (some b) q).map (aAd G)) = va_up (fun q => (f q).map (aAd G)) j (some (aAd G b)) := by
    funext q
    unfold va_up
    by_cases z : q = j <;> simp [z]
  refine W.aast C.1 C.2.1 (h2 a _ he) (fun q h => by cases h) (fun h => by cases h) k1 k2 rfl hkC ⟨fun q => hin (Or.inl q), by show _ < (arrV _ _ _).slots.size; rw [arrV_size]; exact Nat.not_le.mp fun q => hin (Or.inr q)⟩ g1 (fun q h => by rw [g3] at h; cases h) (by rw [g2]; exact hkC) (by rw [g2]; exact va_assign hcls) rfl rfl hd fun H1 e z oq => ?_
  rw [nI_clamp (by omega)] at e ⊢
  refine k H1 _ ls cells slots h1 ?_ (z.trans h3) (h4.put z oq (by show G.2.1 ≤ _; rw [aAd_lt ha2]; exact aX_le _ _)) h5 h6
  have h := h2.set (aW_D G M) he (e := .inl (G.2.2.1 14, (len, .inr (.inr (.inr (.inr (fun q => (va_up f j (some b) q).map (aAd G)))))))) (by
    show H1[aAd G a]? = some (vp_cell _ _)
    rw [e, hup]
    rw [vp_cell_q, vp_cell_q, arrV_store]
    congr 2
    funext q
    by_cases hq : q = j
    · subst hq
      simp [updV, va_up, va_rf]
    · simp [updV, va_up, hq]) oq
  rw [aAd_lt ha2] at h
  rw [← aW_set]
  exact h
theorem a_objI (C : aCtx G p s m args meth c cc n own) {index b : Nat} (hlink : Cond.methodLink own index Lib.objectInit ∈ GW) (hinst : Cond.instanceMethod Lib.objectInit ∈ GW) (hcode : Cond.code Lib.objectInit ⟨#[0xb1]⟩ 1 none ∈ GW) (hd : decode cc pc = .ok (.invokespecial index, 3)) (hR : 1 ≤ R.frames ∧ (st.map fun v => v.category).sum + 12 ≤ R.locals)
    (k : WA G p l e R s m args below meth c Q n k0 u0 (pc + 3) L st M) : WA G p l e R s m args below meth c Q n k0 u0 pc L (.ref b :: st) M := by
  intro H locs ls cells slots h1 h2 h3 h4 h5 h6
  exact W.objInit C.1 C.2.1 C.2.2.2.1 (C.2.2.2.2.1 _ hlink) (C.2.2.2.2.1 _ hinst) (C.2.2.2.2.1 _ hcode) rfl (h1.1.trans C.2.2.1.symm) rfl hd hR.1 (by show 2 * 0 + _ + 12 ≤ _; rw [aCat]; omega) (k H locs ls cells slots h1 h2 h3 h4 h5 h6)
/-! ### contracts of what makes rows of references: the tables' words of these rows come along -/
def aAO (U : State) : Prop := va_AO RX2 U ∧ va_AO RX3 U ∧ va_AO RX5 U
theorem aAO.moved {u U : State} (hvm : u.vm.Alike U.vm) (h : aAO u) : aAO U := ⟨va_AO.moved hvm h.1, va_AO.moved hvm h.2.1, va_AO.moved hvm h.2.2⟩
def aPx (G : aG) (av : List Value) (M : aH) : Array Value → State → Prop := fun v U => aPc G av M v U ∧ aAO U
theorem aPx_blind (G : aG) (av : List Value) (M : aH) : FrameBlind (aPx G av M) := by
  intro a U g mk q
  exact ⟨aPc_blind G av M a U g mk q.1, q.2.moved (u := U) (U := U.calling g mk a) (Vm.Alike.refl U.vm)⟩
def CY (y : MethodName) (cc : ByteArray) (n : Nat) (ret : Option FieldType) (fr lo : Nat) (av : List Value) (M : aH) (mc ms : Nat) (post : Option Value → aH → Prop) : Prop :=
  ∀ (G : aG) (l : Launch), Met l y (Cond.code y cc n ret :: GW) { frames := fr, cells := mc, slots := ms, locals := lo } (aPx G av M) (aQc G M mc ms post) mc ms (aOld G)
theorem CY.of {y : MethodName} {cc : ByteArray} {n : Nat} {ret : Option FieldType} {fr lo : Nat} {av : List Value} {M : aH} {mc ms : Nat} {post : Option Value → aH → Prop} (hW : aCode y cc n ret) (hn : aSz av ≤ n)
    (body : ∀ (G : aG) (p : Program) (l : Launch) (e : Env) (s : State) (m : MethodId) (args : Array Value) (below : List Frame) (meth : Method) (c : Code), aCtx G p s m args meth c cc n y.cls → meth.sig.returnType = ret → meth.name = y.name → aAO s →
      WA G p l e { frames := fr, cells := mc, slots := ms, locals := lo } s m args below meth c (MQ below (aQc G M mc ms post) args s mc ms (aOld G)) n (M.1 + M.2.1) M.2.2.1 0 (aEn av) [] M) : CY y cc n ret fr lo av M mc ms post := by
  intro G l
  refine MetFree.of_bodySF (code := cc) (maxLocals := n) (ret := ret) hW.2.2.2.2 ?_ ?_
  · intro args s m h hn
    obtain ⟨meth, c, h1, h2, h3, h4, h5, h6, -, -⟩ := Cond.code_spec hn (atoms_spec (ws := Cond.code y cc n ret :: GW) h _ List.mem_cons_self)
    exact ⟨meth, c, h1, h2, h3, h4, h5, h6⟩
  intro p e s m args below meth c s₁ B hml hv _
  have hh0 : s₁.heap = s.heap := by rw [B.state]; rfl
  obtain ⟨⟨rfl, hP, hsz, hT, hS⟩, hO⟩ := hv
  have hts : ∀ w ∈ GW, w.before (av.map (aV G)).toArray s = true := fun w h => atoms_spec (ws := Cond.code y cc n ret :: GW) B.pre w (List.mem_cons_of_mem _ h)
  have hown : s.vm.findClass y.cls = some m.cls := findClass_of_methodNamed B.named
  have hin : meth.name = y.name := (name_of_methodNamed B.named B.method).1
  have hl := aEn_entry G av (n := n) (by rw [aSz_ok]; exact hn)
  have K := body G p l e s m _ below meth c ⟨B.exec, B.bytes, hml, hown, hts, hT, hS, by rw [hsz]; omega, B.notSynchronized⟩ B.returns hin hO s.heap [] _ 0 0 hl hP hsz va_S.rf (by omega) (by omega)
  rw [lg_entry_eq]
  obtain ⟨t, a1, o, b1, b2, b3⟩ := K s₁ hh0 (Stand.of_body B)
  exact ⟨t, o, a1, b1, b2, ⟨b3.1, b3.2⟩⟩
theorem a_callIX (C : aCtx G p s m args meth c cc n own) (hAO : aAO s) {post : Option Value → aH → Prop} {index : Nat} {y : MethodName} {bytes : ByteArray} {maxL fr lo mc ms : Nat} (As : List Value) {b : Nat} {rest st0 : List Value}
    (hM : CY y bytes maxL none fr lo (.ref b :: As) M mc ms post) (hw : aCi own index y bytes maxL As.length) (hd : decode cc pc = .ok (.invokespecial index, 3)) (hst : st0 = As.reverse ++ .ref b :: rest) (h8 : (rest.map fun v => v.category).sum ≤ 8)
    (hR : fr + 1 ≤ R.frames ∧ 8 + (maxL + 11) + lo ≤ R.locals) (hbud : M.1 + M.2.1 + mc ≤ k0 + R.cells ∧ M.2.2.1 + ms ≤ u0 + R.slots)
    (k : ∀ (r : Option Value) (M' : aH), post r M' → M'.1 + M'.2.1 = M.1 + M.2.1 + mc → M'.2.2.1 = M.2.2.1 + ms → WA G p l e R s m args below meth c Q n k0 u0 (pc + 3) L (r.toList ++ rest) M') : WA G p l e R s m args below meth c Q n k0 u0 pc L st0 M := by
  intro H locs ls cells slots h1 h2 h3 h4 h5 h6
  subst hst
  rw [aRev]
  refine a_back (mc := mc) (ms := ms) (rest := rest) (y := y) (bytes := bytes) (maxL := maxL) (ret := none) h4 h1 h5 h6 (va_runI (As := As.map (aV G)) (rest := rest.map (aV G)) (b := aAd G b) ⟨C.1, C.2.1, C.2.2.1, C.2.2.2.1, C.2.2.2.2.1⟩ (hM G l) ⟨aCallB C hw.1 hw.2.1 hw.2.2.2.2 hR, hw.2.2.2.1, C.2.2.2.2.1 _ hw.2.2.1⟩ ⟨aPx_blind G _ M, fun U hU hW => ⟨aPre C h2 h3 h4 (.ref b :: As) U hU hW, hAO.moved hW.alike⟩⟩ rfl (by rw [List.length_map]) h1.1 rfl (lv_room (by rw [aCat]; exact h8)) hd ⟨by omega, by omega⟩) k
/-- a nest mate's constructor -/
theorem a_callIN (C : aCtx G p s m args meth c cc n own) {post : Option Value → aH → Prop} {index : Nat} {y : MethodName} {bytes : ByteArray} {maxL fr lo mc ms : Nat} {host : String} (As : List Value) {b : Nat} {rest st0 : List Value}
    (hM : CM y bytes maxL none fr lo (.ref b :: As) M mc ms post) (hw : aCode y bytes maxL none) (hl : va_Nw (.methodLinkNest own index y host) s) (hi : Cond.instanceMethod y ∈ GW) (hin : y.name = "<init>") (hna : (parseMethodDescriptor y.desc).map (fun d => d.parameters.length) = some As.length) (hd : decode cc pc = .ok (.invokespecial index, 3)) (hst : st0 = As.reverse ++ .ref b :: rest) (h8 : (rest.map fun v => v.category).sum ≤ 8)
    (hR : fr + 1 ≤ R.frames ∧ 8 + (maxL + 11) + lo ≤ R.locals) (hbud : M.1 + M.2.1 + mc ≤ k0 + R.cells ∧ M.2.2.1 + ms ≤ u0 + R.slots)
    (k : ∀ (r : Option Value) (M' : aH), post r M' → M'.1 + M'.2.1 = M.1 + M.2.1 + mc → M'.2.2.1 = M.2.2.1 + ms → WA G p l e R s m args below meth c Q n k0 u0 (pc + 3) L (r.toList ++ rest) M') : WA G p l e R s m args below meth c Q n k0 u0 pc L st0 M := by
  intro H locs ls cells slots h1 h2 h3 h4 h5 h6
  subst hst
  rw [aRev]
  refine a_back (mc := mc) (ms := ms) (rest := rest) (y := y) (bytes := bytes) (maxL := maxL) (ret := none) h4 h1 h5 h6 (va_runIN (As := As.map (aV G)) (rest := rest.map (aV G)) (b := aAd G b) ⟨C.1, C.2.1, C.2.2.1, C.2.2.2.1, C.2.2.2.2.1⟩ (hM G l) ⟨va_cnB As.length C.2.2.2.2.1 (aCode_good hw) rfl rfl rfl hl (C.2.2.2.2.1 _ hw.2.1) ⟨hw.2.2.1, hw.2.2.2.1, hna⟩ hR, hin, C.2.2.2.2.1 _ hi⟩ ⟨aPc_blind G _ M, aPre C h2 h3 h4 (.ref b :: As)⟩ rfl (by rw [List.length_map]) h1.1 rfl (lv_room (by rw [aCat]; exact h8)) hd ⟨by omega, by omega⟩) k
end A42

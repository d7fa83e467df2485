section A55
/-! ### a row of longs -/
variable {G : aG} {p : Program} {l : Launch} {e : Env} {R : Room} {s : State} {m : MethodId} {args : Array Value} {below : List Frame} {meth : Method} {c : Code} {Q : State → Prop} {n k0 u0 pc : Nat} {cc : ByteArray} {own : String} {L : aL} {st : List Value} {M : aH}
theorem ga_L : Cond.arrayClass .long ∈ GW := gw_in (List.mem_of_getElem? (i := 1628) (by decide +kernel)) rfl
theorem a_newaL (C : aCtx G p s m args meth c cc n own) {N : Nat} {x : Int32} (hd : decode cc pc = .ok (.newarray .long, 2)) (hx : x = nI N) (hN : N < 2 ^ 20) (hlim : M.1 < 1000) (h0 : M.2.1 = 0) (hbud : M.1 + 1 ≤ k0 + R.cells ∧ M.2.2.1 + N ≤ u0 + R.slots)
    (k : WA G p l e R s m args below meth c Q n k0 u0 (pc + 2) L (.ref M.1 :: st) (aNew M (.inl (11, (N, .inr (.inl (fun _ => 0))))) N)) : WA G p l e R s m args below meth c Q n k0 u0 pc L (.int x :: st) M := by
  intro H locs ls cells slots h1 h2 h3 h4 h5 h6
  subst hx
  have hq : H.size = G.2.1 + M.1 := by omega
  have hcl : (nI N).toNatClampNeg = N := nI_clamp (by omega)
  refine va_newaK C.1 C.2.1 (atype := .long) (C.2.2.2.2.1 _ ga_L) rfl hd rfl (nI_pos (by omega)) hcl (Nat.le_trans (Nat.mul_le_mul_left N (show componentBytes .long ≤ 8 by decide)) (by omega)) (by omega) (by omega) rfl (fun H1 cA e1 z1 o1 hAr hNm => ?_)
  have hc : cA = G.2.2.1 11 := Option.some.inj (hNm.symm.trans (C.2.2.2.2.2.1.1.2 3 _ rfl).2)
  subst hc
  have kk := k H1 locs ls (cells + 1) (slots + N) h1 (aNew_P h2 hq (by show H1[H.size]? = some (vp_cell _ _); rw [e1]; rfl) o1) (by show H1.size = G.2.1 + (M.1 + 1 + M.2.1); omega) ⟨Nat.le_trans h4.1 (by omega), fun x q1 q2 => (o1 x (Nat.lt_of_lt_of_le q1 h4.1)).trans (h4.2.1 x q1 q2), h4.2.2⟩ (by show cells + 1 + k0 = M.1 + 1 + M.2.1; omega) (by show slots + N + u0 = M.2.2.1 + N; omega)
  rw [List.map_cons, aAd_new hlim hq] at kk
  exact kk
end A55

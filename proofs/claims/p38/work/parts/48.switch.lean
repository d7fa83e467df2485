section A48
/-! ### two heaps that no walk can tell apart -/
theorem arrV_ext {c : ClassId} {n : Nat} {f g : Nat → Value} (h : ∀ j, j < n → f j = g j) : arrV c n f = arrV c n g := by
  unfold arrV
  have e : (fun j : Fin n => f j.val) = (fun j : Fin n => g j.val) := funext fun j => h j.val j.isLt
  rw [e]
def aSm (x y : aC) : Prop := x = y ∨ (∃ (k n : Nat) (f g : Nat → Int32), x = .inl (k, (n, .inl f)) ∧ y = .inl (k, (n, .inl g)) ∧ ∀ j, j < n → f j = g j) ∨ (∃ (k n : Nat) (f g : Nat → Option Nat), x = .inl (k, (n, .inr (.inr (.inr (.inr f))))) ∧ y = .inl (k, (n, .inr (.inr (.inr (.inr g))))) ∧ ∀ j, j < n → f j = g j) ∨ (∃ (k n : Nat) (f g : Nat → Int64), x = .inl (k, (n, .inr (.inl f))) ∧ y = .inl (k, (n, .inr (.inl g))) ∧ ∀ j, j < n → f j = g j)
theorem aSm.rfl' {x : aC} : aSm x x := Or.inl rfl
theorem aSm.i {k n : Nat} {f g : Nat → Int32} (h : ∀ j, j < n → f j = g j) : aSm (.inl (k, (n, .inl f))) (.inl (k, (n, .inl g))) := Or.inr (Or.inl ⟨k, n, f, g, rfl, rfl, h⟩)
theorem aSm.r {k n : Nat} {f g : Nat → Option Nat} (h : ∀ j, j < n → f j = g j) : aSm (.inl (k, (n, .inr (.inr (.inr (.inr f)))))) (.inl (k, (n, .inr (.inr (.inr (.inr g)))))) := Or.inr (Or.inr (Or.inl ⟨k, n, f, g, rfl, rfl, h⟩))
theorem aSm.l {k n : Nat} {f g : Nat → Int64} (h : ∀ j, j < n → f j = g j) : aSm (.inl (k, (n, .inr (.inl f)))) (.inl (k, (n, .inr (.inl g)))) := Or.inr (Or.inr (Or.inr ⟨k, n, f, g, rfl, rfl, h⟩))
theorem aSm.at {G : aG} {x y : aC} {q : Nat} {H : Heap} (h : aSm x y) (ha : va_at G.1 vwCl (q, aE G x) H) : va_at G.1 vwCl (q, aE G y) H := by
  rcases h with rfl | ⟨k, n, f, g, rfl, rfl, e⟩ | ⟨k, n, f, g, rfl, rfl, e⟩ | ⟨k, n, f, g, rfl, rfl, e⟩
  · exact ha
  · have z : H[q]? = some (arrV (G.2.2.1 k) n (fun j => .int (f j))) := ha
    show H[q]? = some (arrV (G.2.2.1 k) n (fun j => .int (g j)))
    rw [z, arrV_ext (fun j hj => by rw [e j hj])]
  · have z : H[q]? = some (arrV (G.2.2.1 k) n (fun j => va_rf ((f j).map (aAd G)))) := ha
    show H[q]? = some (arrV (G.2.2.1 k) n (fun j => va_rf ((g j).map (aAd G))))
    rw [z, arrV_ext (fun j hj => by rw [e j hj])]
  · have z : H[q]? = some (arrV (G.2.2.1 k) n (fun j => .long (f j))) := ha
    show H[q]? = some (arrV (G.2.2.1 k) n (fun j => .long (g j)))
    rw [z, arrV_ext (fun j hj => by rw [e j hj])]
variable {G : aG} {p : Program} {l : Launch} {e : Env} {R : Room} {s : State} {m : MethodId} {args : Array Value} {below : List Frame} {meth : Method} {c : Code} {Q : State → Prop} {n k0 u0 pc : Nat} {cc : ByteArray} {own : String} {L : aL} {st : List Value}
theorem a_heap {N z u : Nat} {f1 f2 : Nat → aC} (h : ∀ a, a < N → aSm (f1 a) (f2 a)) (k : WA G p l e R s m args below meth c Q n k0 u0 pc L st (N, z, u, f2)) : WA G p l e R s m args below meth c Q n k0 u0 pc L st (N, z, u, f1) := by
  intro H locs ls cells slots h1 h2 h3 h4 h5 h6
  refine k H locs ls cells slots h1 (fun i q hi => ?_) h3 h4 h5 h6
  have hN : i < N := by
    have := (List.getElem?_eq_some_iff.mp hi).1
    rw [aW_len] at this
    exact this
  rw [aW_get (M := (N, z, u, f2)) hN] at hi
  have hq := Option.some.inj hi
  subst hq
  exact (h i hN).at (h2 i _ (aW_get (M := (N, z, u, f1)) hN))
end A48

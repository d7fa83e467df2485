section A62
/-! ### the helpers over a world that holds A, and the law's sum of all that it tells -/
abbrev PA (w : Wd) (v : Int32) : Option Value → Wd → Prop := fun r w' => r = some (.int v) ∧ w' = w
theorem PA_ok {w : Wd} {v : Int32} : ∀ (r : Option Value) (w' : Wd), (fun (r' : Option Value) (w' : Wd) => r' = some (.int v) ∧ w' = w) r w' → ∃ v, r = some (.int v) := fun r w' h => ⟨v, h.1⟩
theorem tn_sv {A : St} {x y : Int32} {j : Nat} (hj : j < 11) : tnA A x j = tnA A y j := by
  match j, hj with
  | 0, _ => rfl
  | 1, _ => rfl
  | 2, _ => rfl
  | 3, _ => rfl
  | 4, _ => rfl
  | 5, _ => rfl
  | 6, _ => rfl
  | 7, _ => rfl
  | 8, _ => rfl
  | 9, _ => rfl
  | 10, _ => rfl
  | k + 11, h => exact absurd h (by omega)
theorem HA_count {w : Wd} {A : St} (hD : DR w 3 A) (hA : AOK A) {j : Nat} (hj : j < 11) : CLW yL_count cL_count 3 [(0, 5, 6, 16)] 7 114 [.ref 0, .int (nI j)] w 0 0 (PA w (tnA A 0 j)) := by
  rw [tn_sv (y := w.1 0 8) hj]
  exact H_count (fr := 6) (lo := 93) (K_X6_count hD hA (by omega)) PA_ok
theorem HA_key {w : Wd} {A : St} (hD : DR w 3 A) (hA : AOK A) {k j : Nat} (hk : k < kN A) (hj : j < 10) : CLW yL_key cL_key 4 [(0, 6, 7, 23), (0, 6, 11, 16)] 7 113 [.ref 0, .int (nI k), .int (nI j)] w 0 0 (PA w (tkA A k j)) := by
  exact H_key (fr := 6) (lo := 90) (K_X6_key hD hA hk hj) PA_ok
theorem HA_lock {w : Wd} {A : St} (hD : DR w 3 A) (hA : AOK A) {p j : Nat} (hp : p < 6) (hj : j < 6) : CLW yL_lock cL_lock 4 [(0, 6, 7, 23), (0, 6, 11, 16)] 7 113 [.ref 0, .int (nI p), .int (nI j)] w 0 0 (PA w (tlA A p j)) := by
  exact H_lock (fr := 6) (lo := 90) (K_X6_lock hD hA hp hj) PA_ok
theorem HA_person {w : Wd} {A : St} (hD : DR w 3 A) (hA : AOK A) {q j : Nat} (hq : q < 4) (hj : j < 3) : CLW yL_person cL_person 4 [(0, 6, 7, 23), (0, 6, 11, 16)] 7 113 [.ref 0, .int (nI q), .int (nI j)] w 0 0 (PA w (tpA A q j)) := by
  exact H_person (fr := 6) (lo := 91) (K_X6_person hD hA hq hj) PA_ok
theorem HA_code {w : Wd} {A : St} (hD : DR w 3 A) (hA : AOK A) {c j : Nat} (hc : c < 81) (hj : j < 6) : CLW yL_code cL_code 4 [(0, 6, 7, 16)] 7 112 [.ref 0, .int (nI c), .int (nI j)] w 0 0 (PA w (tcA A c j)) := by
  exact H_code (fr := 6) (lo := 90) (K_X6_code hD hA hc hj) PA_ok
theorem HA_why {w : Wd} {A : St} (hD : DR w 3 A) (hA : AOK A) {k j : Nat} (hk : k < kN A) (hj : j < 4) : CLW yL_why cL_why 4 [(0, 6, 7, 23)] 7 112 [.ref 0, .int (nI k), .int (nI j)] w 0 0 (PA w (nI (wndA A k j))) := by
  exact H_why (fr := 6) (lo := 90) (K_X6_why hD hA hk hj) PA_ok
def kyV (A : St) (k j : Nat) : Int32 := if k < kN A then tkA A k j else -101
/-- how many calls of key() with this number throw -/
def dkA (A : St) (k : Nat) : Nat := if k < kN A then 0 else 1
theorem dk_s (A : St) (k : Nat) : k + 1 - kN A = (k - kN A) + dkA A k := by
  unfold dkA
  split <;> omega
theorem HX_key {w : Wd} {A : St} (hD : DR w 3 A) (hA : AOK A) {k j : Nat} (hk : k < 12) (hj : j < 10) : CLW yL_key cL_key 4 [(0, 6, 7, 23), (0, 6, 11, 16)] 7 113 [.ref 0, .int (nI k), .int (nI j)] w (dkA A k) (6 * dkA A k) (PA w (kyV A k j)) := by
  unfold dkA kyV
  by_cases h : k < kN A
  · rw [if_pos h, if_pos h]
    exact HA_key hD hA h hj
  · rw [if_neg h, if_neg h]
    exact T_key_0 (fr := 6) (lo := 90) (K_X6_key_0 hD hA (nI k) (by rw [inR_nI (by omega)]; exact decide_eq_false h) (nI j))
def stC (v : Int64) (x : Int32) : Int64 := 31 * v + x.toInt64
def stK (v : Int64) (k0 k2 k4 k5 k3 k9 : Int32) : Int64 := 31 * (31 * (31 * v + k0.toInt64) + 100 * k2.toInt64 + 10 * k4.toInt64 + k5.toInt64) + 10 * k3.toInt64 + k9.toInt64
def stL (v : Int64) (l0 l1 l3 l4 : Int32) : Int64 := 31 * (31 * v + 100 * l0.toInt64 + l1.toInt64) + 10 * l3.toInt64 + l4.toInt64
def stP (v : Int64) (p0 p1 p2 : Int32) : Int64 := 31 * v + 100 * p0.toInt64 + 10 * p1.toInt64 + p2.toInt64
def tdC (A : St) : Nat → Int64
  | 0 => 37
  | n + 1 => stC (tdC A n) (tnA A 0 n)
def tdK (A : St) : Nat → Int64
  | 0 => tdC A 9
  | k + 1 => stK (tdK A k) (kyV A k 0) (kyV A k 2) (kyV A k 4) (kyV A k 5) (kyV A k 3) (kyV A k 9)
def tdL (A : St) : Nat → Int64
  | 0 => tdK A 12
  | p + 1 => stL (tdL A p) (tlA A p 0) (tlA A p 1) (tlA A p 3) (tlA A p 4)
def tldA (A : St) : Int64 := stP (tdL A 6) (tpA A 0 2) (tpA A 1 2) (tpA A 2 2)
theorem tdC_s {A : St} {n : Nat} : tdC A (n + 1) = stC (tdC A n) (tnA A 0 n) := rfl
theorem tdK_s {A : St} {k : Nat} : tdK A (k + 1) = stK (tdK A k) (kyV A k 0) (kyV A k 2) (kyV A k 4) (kyV A k 5) (kyV A k 3) (kyV A k 9) := rfl
theorem tdL_s {A : St} {p : Nat} : tdL A (p + 1) = stL (tdL A p) (tlA A p 0) (tlA A p 1) (tlA A p 3) (tlA A p 4) := rfl
theorem gll {x y : Int64} (h : x = y) : some (Value.long x) = some (Value.long y) := by rw [h]
theorem fz_eq {w : Wd} {x a b u v : Nat} (h1 : a = b) (h2 : u = v) : fzM w (x, a) u = fzM w (x, b) v := by rw [h1, h2]
set_option maxRecDepth 20000 in
set_option maxHeartbeats 4000000 in
theorem K_L_told {w : Wd} {A : St} (hD : DR w 3 A) (hA : AOK A)  : CL yL_told cL_told 4 (some .long) 8 136 [.ref 0] w (6 * (12 - kN A)) (36 * (12 - kN A)) (fun r w' => r = some (.long (tldA A)) ∧ w' = w) := by
  have zq_n := hA.n12
  refine CL.of ok_L_told (Nat.le_of_ble_eq_true rfl) (fun ex us G9 p9 l9 e9 s9 m9 ar9 be9 me9 co9 C hfl hr => ?_)
  have ZL126 : ∀ (zd126 : Nat) (p : Nat), 6 + 1 ≤ p + zd126 → p ≤ 6 → WA G9 p9 l9 e9 (RL9 8 136 (6 * (12 - kN A)) (36 * (12 - kN A))) s9 m9 ar9 be9 me9 co9 (QL G9 be9 ar9 s9 w ex us (6 * (12 - kN A)) (36 * (12 - kN A)) (fun r w' => r = some (.long (tldA A)) ∧ w' = w)) 4 (207 + ex.1 + ex.2) us 126 [some (.ref 0), some (.long (tdL A p)), none, some (.int (nI p))] [] (fzM w (ex.1, ex.2 + 6 * (12 - kN A)) (us + 36 * (12 - kN A))) := by
    intro zd126
    induction zd126 with
    | zero => intro p zm126 zh126_0; exfalso; omega
    | succ zd126 zih126 =>
      intro p zm126 zh126_0
      refine a_iload_n C dL_told_126 rfl rfl ?_
      refine a_bipush (v := nI 6) C dL_told_127 (by decide) ?_
      first | refine n_icmp_ge (tgt := 190) C dL_told_129 (by decide) (by first | decide | omega) (by first | decide | omega) (fun h_129 => ?_) (fun h_129 => ?_) | refine a_icmp_ge (tgt := 190) C dL_told_129 (by decide) (fun h_129 => ?_) (fun h_129 => ?_)
      · obtain rfl : p = 6 := by omega
        refine a_ldcl C dL_told_190 wL_112 ?_
        refine a_lload_n C dL_told_193 rfl rfl ?_
        refine a_lmul C dL_told_194 ?_
        refine a_ldcl C dL_told_195 wL_120 ?_
        refine a_aload_n C dL_told_198 rfl rfl ?_
        refine a_iconst (v := nI 0) C dL_told_199 (by decide) ?_
        refine a_iconst (v := nI 2) C dL_told_200 (by decide) ?_
        refine l0_callSW C hfl _ (HA_person hD hA (by first | assumption | decide | omega) (by first | assumption | decide | omega)) sW_126 dL_told_201 rfl (Nat.le_of_ble_eq_true rfl) ⟨Nat.le_of_ble_eq_true rfl, Nat.le_of_ble_eq_true rfl⟩ ⟨by dsimp only; omega, by dsimp only; omega⟩ (fun zr201 zw201 zp201 => ?_)
        obtain ⟨rfl, rfl⟩ := zp201
        refine a_i2l C dL_told_204 ?_
        refine a_lmul C dL_told_205 ?_
        refine a_ladd C dL_told_206 ?_
        refine a_ldcl C dL_told_207 wL_122 ?_
        refine a_aload_n C dL_told_210 rfl rfl ?_
        refine a_iconst (v := nI 1) C dL_told_211 (by decide) ?_
        refine a_iconst (v := nI 2) C dL_told_212 (by decide) ?_
        refine l0_callSW C hfl _ (HA_person hD hA (by first | assumption | decide | omega) (by first | assumption | decide | omega)) sW_126 dL_told_213 rfl (Nat.le_of_ble_eq_true rfl) ⟨Nat.le_of_ble_eq_true rfl, Nat.le_of_ble_eq_true rfl⟩ ⟨by dsimp only; omega, by dsimp only; omega⟩ (fun zr213 zw213 zp213 => ?_)
        obtain ⟨rfl, rfl⟩ := zp213
        refine a_i2l C dL_told_216 ?_
        refine a_lmul C dL_told_217 ?_
        refine a_ladd C dL_told_218 ?_
        refine a_aload_n C dL_told_219 rfl rfl ?_
        refine a_iconst (v := nI 2) C dL_told_220 (by decide) ?_
        refine a_iconst (v := nI 2) C dL_told_221 (by decide) ?_
        refine l0_callSW C hfl _ (HA_person hD hA (by first | assumption | decide | omega) (by first | assumption | decide | omega)) sW_126 dL_told_222 rfl (Nat.le_of_ble_eq_true rfl) ⟨Nat.le_of_ble_eq_true rfl, Nat.le_of_ble_eq_true rfl⟩ ⟨by dsimp only; omega, by dsimp only; omega⟩ (fun zr222 zw222 zp222 => ?_)
        obtain ⟨rfl, rfl⟩ := zp222
        refine a_i2l C dL_told_225 ?_
        refine a_ladd C dL_told_226 ?_
        refine l_lret C hr dL_told_227 ⟨?_, rfl⟩
        · rfl
      · refine a_ldcl C dL_told_132 wL_112 ?_
        refine a_lload_n C dL_told_135 rfl rfl ?_
        refine a_lmul C dL_told_136 ?_
        refine a_ldcl C dL_told_137 wL_120 ?_
        refine a_aload_n C dL_told_140 rfl rfl ?_
        refine a_iload_n C dL_told_141 rfl rfl ?_
        refine a_iconst (v := nI 0) C dL_told_142 (by decide) ?_
        refine l0_callSW C hfl _ (HA_lock hD hA (by first | assumption | decide | omega) (by first | assumption | decide | omega)) sW_124 dL_told_143 rfl (Nat.le_of_ble_eq_true rfl) ⟨Nat.le_of_ble_eq_true rfl, Nat.le_of_ble_eq_true rfl⟩ ⟨by dsimp only; omega, by dsimp only; omega⟩ (fun zr143 zw143 zp143 => ?_)
        obtain ⟨rfl, rfl⟩ := zp143
        refine a_i2l C dL_told_146 ?_
        refine a_lmul C dL_told_147 ?_
        refine a_ladd C dL_told_148 ?_
        refine a_aload_n C dL_told_149 rfl rfl ?_
        refine a_iload_n C dL_told_150 rfl rfl ?_
        refine a_iconst (v := nI 1) C dL_told_151 (by decide) ?_
        refine l0_callSW C hfl _ (HA_lock hD hA (by first | assumption | decide | omega) (by first | assumption | decide | omega)) sW_124 dL_told_152 rfl (Nat.le_of_ble_eq_true rfl) ⟨Nat.le_of_ble_eq_true rfl, Nat.le_of_ble_eq_true rfl⟩ ⟨by dsimp only; omega, by dsimp only; omega⟩ (fun zr152 zw152 zp152 => ?_)
        obtain ⟨rfl, rfl⟩ := zp152
        refine a_i2l C dL_told_155 ?_
        refine a_ladd C dL_told_156 ?_
        refine a_lstore_n C dL_told_157 rfl (by decide) ?_
        refine a_ldcl C dL_told_158 wL_112 ?_
        refine a_lload_n C dL_told_161 rfl rfl ?_
        refine a_lmul C dL_told_162 ?_
        refine a_ldcl C dL_told_163 wL_122 ?_
        refine a_aload_n C dL_told_166 rfl rfl ?_
        refine a_iload_n C dL_told_167 rfl rfl ?_
        refine a_iconst (v := nI 3) C dL_told_168 (by decide) ?_
        refine l0_callSW C hfl _ (HA_lock hD hA (by first | assumption | decide | omega) (by first | assumption | decide | omega)) sW_124 dL_told_169 rfl (Nat.le_of_ble_eq_true rfl) ⟨Nat.le_of_ble_eq_true rfl, Nat.le_of_ble_eq_true rfl⟩ ⟨by dsimp only; omega, by dsimp only; omega⟩ (fun zr169 zw169 zp169 => ?_)
        obtain ⟨rfl, rfl⟩ := zp169
        refine a_i2l C dL_told_172 ?_
        refine a_lmul C dL_told_173 ?_
        refine a_ladd C dL_told_174 ?_
        refine a_aload_n C dL_told_175 rfl rfl ?_
        refine a_iload_n C dL_told_176 rfl rfl ?_
        refine a_iconst (v := nI 4) C dL_told_177 (by decide) ?_
        refine l0_callSW C hfl _ (HA_lock hD hA (by first | assumption | decide | omega) (by first | assumption | decide | omega)) sW_124 dL_told_178 rfl (Nat.le_of_ble_eq_true rfl) ⟨Nat.le_of_ble_eq_true rfl, Nat.le_of_ble_eq_true rfl⟩ ⟨by dsimp only; omega, by dsimp only; omega⟩ (fun zr178 zw178 zp178 => ?_)
        obtain ⟨rfl, rfl⟩ := zp178
        refine a_i2l C dL_told_181 ?_
        refine a_ladd C dL_told_182 ?_
        refine a_lstore_n C dL_told_183 rfl (by decide) ?_
        refine n_iinc C dL_told_184 rfl (by decide) ?_
        refine a_goto (tgt := 126) C dL_told_187 (by decide) ?_
        refine a_join (aLe_s ?_ (aLe_s ?_ (aLe_n (aLe_s ?_ aLe_nil)))) rfl rfl (zih126 (p + 1) (by omega) (by omega))
        · first | with_reducible rfl | exact gl (by first | with_reducible rfl | (refine iF ?_; simp [h_129]; done) | (refine iT ?_; simp [h_129]; done) | (refine iB ?_; simp [h_129]; done) | (simp [h_129]; done) | (simp [h_129]; omega) | omega)
        · exact gll tdL_s.symm
        · first | with_reducible rfl | exact gl (by first | with_reducible rfl | (refine iF ?_; simp [h_129]; done) | (refine iT ?_; simp [h_129]; done) | (refine iB ?_; simp [h_129]; done) | (simp [h_129]; done) | (simp [h_129]; omega) | omega)
  have ZL33 : ∀ (zd33 : Nat) (k : Nat), 12 + 1 ≤ k + zd33 → k ≤ 12 → WA G9 p9 l9 e9 (RL9 8 136 (6 * (12 - kN A)) (36 * (12 - kN A))) s9 m9 ar9 be9 me9 co9 (QL G9 be9 ar9 s9 w ex us (6 * (12 - kN A)) (36 * (12 - kN A)) (fun r w' => r = some (.long (tldA A)) ∧ w' = w)) 4 (207 + ex.1 + ex.2) us 33 [some (.ref 0), some (.long (tdK A k)), none, some (.int (nI k))] [] (fzM w (ex.1, ex.2 + 6 * (k - kN A)) (us + 36 * (k - kN A))) := by
    intro zd33
    induction zd33 with
    | zero => intro k zm33 zh33_0; exfalso; omega
    | succ zd33 zih33 =>
      intro k zm33 zh33_0
      refine a_iload_n C dL_told_33 rfl rfl ?_
      refine a_bipush (v := nI 12) C dL_told_34 (by decide) ?_
      first | refine n_icmp_ge (tgt := 124) C dL_told_36 (by decide) (by first | decide | omega) (by first | decide | omega) (fun h_36 => ?_) (fun h_36 => ?_) | refine a_icmp_ge (tgt := 124) C dL_told_36 (by decide) (fun h_36 => ?_) (fun h_36 => ?_)
      · obtain rfl : k = 12 := by omega
        refine a_iconst (v := nI 0) C dL_told_124 (by decide) ?_
        refine a_istore_n C dL_told_125 rfl (by decide) ?_
        refine a_join (aLe_s ?_ (aLe_s ?_ (aLe_n (aLe_s ?_ aLe_nil)))) rfl rfl (ZL126 (6 + 1) 0 (by omega) (by omega))
        · first | with_reducible rfl | exact gl (by first | with_reducible rfl | (refine iF ?_; simp [h_36]; done) | (refine iT ?_; simp [h_36]; done) | (refine iB ?_; simp [h_36]; done) | (simp [h_36]; done) | (simp [h_36]; omega) | omega | rfl)
        · rfl
        · first | with_reducible rfl | exact gl (by first | with_reducible rfl | (refine iF ?_; simp [h_36]; done) | (refine iT ?_; simp [h_36]; done) | (refine iB ?_; simp [h_36]; done) | (simp [h_36]; done) | (simp [h_36]; omega) | omega | rfl)
      · refine a_ldcl C dL_told_39 wL_112 ?_
        refine a_lload_n C dL_told_42 rfl rfl ?_
        refine a_lmul C dL_told_43 ?_
        refine a_aload_n C dL_told_44 rfl rfl ?_
        refine a_iload_n C dL_told_45 rfl rfl ?_
        refine a_iconst (v := nI 0) C dL_told_46 (by decide) ?_
        refine l_callSW C hfl _ (HX_key hD hA (by first | assumption | decide | omega) (by first | assumption | decide | omega)) sW_117 dL_told_47 rfl (Nat.le_of_ble_eq_true rfl) ⟨Nat.le_of_ble_eq_true rfl, Nat.le_of_ble_eq_true rfl⟩ ⟨by have zt := dk_s A k; dsimp only; omega, by have zt := dk_s A k; dsimp only; omega⟩ (fun zr47 zw47 zp47 => ?_)
        obtain ⟨rfl, rfl⟩ := zp47
        refine a_i2l C dL_told_50 ?_
        refine a_ladd C dL_told_51 ?_
        refine a_lstore_n C dL_told_52 rfl (by decide) ?_
        refine a_ldcl C dL_told_53 wL_112 ?_
        refine a_lload_n C dL_told_56 rfl rfl ?_
        refine a_lmul C dL_told_57 ?_
        refine a_ldcl C dL_told_58 wL_120 ?_
        refine a_aload_n C dL_told_61 rfl rfl ?_
        refine a_iload_n C dL_told_62 rfl rfl ?_
        refine a_iconst (v := nI 2) C dL_told_63 (by decide) ?_
        refine l_callSW C hfl _ (HX_key hD hA (by first | assumption | decide | omega) (by first | assumption | decide | omega)) sW_117 dL_told_64 rfl (Nat.le_of_ble_eq_true rfl) ⟨Nat.le_of_ble_eq_true rfl, Nat.le_of_ble_eq_true rfl⟩ ⟨by have zt := dk_s A k; dsimp only; omega, by have zt := dk_s A k; dsimp only; omega⟩ (fun zr64 zw64 zp64 => ?_)
        obtain ⟨rfl, rfl⟩ := zp64
        refine a_i2l C dL_told_67 ?_
        refine a_lmul C dL_told_68 ?_
        refine a_ladd C dL_told_69 ?_
        refine a_ldcl C dL_told_70 wL_122 ?_
        refine a_aload_n C dL_told_73 rfl rfl ?_
        refine a_iload_n C dL_told_74 rfl rfl ?_
        refine a_iconst (v := nI 4) C dL_told_75 (by decide) ?_
        refine l_callSW C hfl _ (HX_key hD hA (by first | assumption | decide | omega) (by first | assumption | decide | omega)) sW_117 dL_told_76 rfl (Nat.le_of_ble_eq_true rfl) ⟨Nat.le_of_ble_eq_true rfl, Nat.le_of_ble_eq_true rfl⟩ ⟨by have zt := dk_s A k; dsimp only; omega, by have zt := dk_s A k; dsimp only; omega⟩ (fun zr76 zw76 zp76 => ?_)
        obtain ⟨rfl, rfl⟩ := zp76
        refine a_i2l C dL_told_79 ?_
        refine a_lmul C dL_told_80 ?_
        refine a_ladd C dL_told_81 ?_
        refine a_aload_n C dL_told_82 rfl rfl ?_
        refine a_iload_n C dL_told_83 rfl rfl ?_
        refine a_iconst (v := nI 5) C dL_told_84 (by decide) ?_
        refine l_callSW C hfl _ (HX_key hD hA (by first | assumption | decide | omega) (by first | assumption | decide | omega)) sW_117 dL_told_85 rfl (Nat.le_of_ble_eq_true rfl) ⟨Nat.le_of_ble_eq_true rfl, Nat.le_of_ble_eq_true rfl⟩ ⟨by have zt := dk_s A k; dsimp only; omega, by have zt := dk_s A k; dsimp only; omega⟩ (fun zr85 zw85 zp85 => ?_)
        obtain ⟨rfl, rfl⟩ := zp85
        refine a_i2l C dL_told_88 ?_
        refine a_ladd C dL_told_89 ?_
        refine a_lstore_n C dL_told_90 rfl (by decide) ?_
        refine a_ldcl C dL_told_91 wL_112 ?_
        refine a_lload_n C dL_told_94 rfl rfl ?_
        refine a_lmul C dL_told_95 ?_
        refine a_ldcl C dL_told_96 wL_122 ?_
        refine a_aload_n C dL_told_99 rfl rfl ?_
        refine a_iload_n C dL_told_100 rfl rfl ?_
        refine a_iconst (v := nI 3) C dL_told_101 (by decide) ?_
        refine l_callSW C hfl _ (HX_key hD hA (by first | assumption | decide | omega) (by first | assumption | decide | omega)) sW_117 dL_told_102 rfl (Nat.le_of_ble_eq_true rfl) ⟨Nat.le_of_ble_eq_true rfl, Nat.le_of_ble_eq_true rfl⟩ ⟨by have zt := dk_s A k; dsimp only; omega, by have zt := dk_s A k; dsimp only; omega⟩ (fun zr102 zw102 zp102 => ?_)
        obtain ⟨rfl, rfl⟩ := zp102
        refine a_i2l C dL_told_105 ?_
        refine a_lmul C dL_told_106 ?_
        refine a_ladd C dL_told_107 ?_
        refine a_aload_n C dL_told_108 rfl rfl ?_
        refine a_iload_n C dL_told_109 rfl rfl ?_
        refine a_bipush (v := nI 9) C dL_told_110 (by decide) ?_
        refine l_callSW C hfl _ (HX_key hD hA (by first | assumption | decide | omega) (by first | assumption | decide | omega)) sW_117 dL_told_112 rfl (Nat.le_of_ble_eq_true rfl) ⟨Nat.le_of_ble_eq_true rfl, Nat.le_of_ble_eq_true rfl⟩ ⟨by have zt := dk_s A k; dsimp only; omega, by have zt := dk_s A k; dsimp only; omega⟩ (fun zr112 zw112 zp112 => ?_)
        obtain ⟨rfl, rfl⟩ := zp112
        refine a_i2l C dL_told_115 ?_
        refine a_ladd C dL_told_116 ?_
        refine a_lstore_n C dL_told_117 rfl (by decide) ?_
        refine n_iinc C dL_told_118 rfl (by decide) ?_
        refine a_goto (tgt := 33) C dL_told_121 (by decide) ?_
        refine a_join (aLe_s ?_ (aLe_s ?_ (aLe_n (aLe_s ?_ aLe_nil)))) rfl (by have zt := dk_s A k; exact fz_eq (by first | omega | (dsimp only; omega)) (by first | omega | (dsimp only; omega))) (zih33 (k + 1) (by omega) (by omega))
        · first | with_reducible rfl | exact gl (by first | with_reducible rfl | (refine iF ?_; simp [h_36]; done) | (refine iT ?_; simp [h_36]; done) | (refine iB ?_; simp [h_36]; done) | (simp [h_36]; done) | (simp [h_36]; omega) | omega)
        · exact gll tdK_s.symm
        · first | with_reducible rfl | exact gl (by first | with_reducible rfl | (refine iF ?_; simp [h_36]; done) | (refine iT ?_; simp [h_36]; done) | (refine iB ?_; simp [h_36]; done) | (simp [h_36]; done) | (simp [h_36]; omega) | omega)
  have ZL6 : ∀ (zd6 : Nat) (n : Nat), 9 + 1 ≤ n + zd6 → n ≤ 9 → WA G9 p9 l9 e9 (RL9 8 136 (6 * (12 - kN A)) (36 * (12 - kN A))) s9 m9 ar9 be9 me9 co9 (QL G9 be9 ar9 s9 w ex us (6 * (12 - kN A)) (36 * (12 - kN A)) (fun r w' => r = some (.long (tldA A)) ∧ w' = w)) 4 (207 + ex.1 + ex.2) us 6 [some (.ref 0), some (.long (tdC A n)), none, some (.int (nI n))] [] (fzM w ex us) := by
    intro zd6
    induction zd6 with
    | zero => intro n zm6 zh6_0; exfalso; omega
    | succ zd6 zih6 =>
      intro n zm6 zh6_0
      refine a_iload_n C dL_told_6 rfl rfl ?_
      refine a_bipush (v := nI 9) C dL_told_7 (by decide) ?_
      first | refine n_icmp_ge (tgt := 31) C dL_told_9 (by decide) (by first | decide | omega) (by first | decide | omega) (fun h_9 => ?_) (fun h_9 => ?_) | refine a_icmp_ge (tgt := 31) C dL_told_9 (by decide) (fun h_9 => ?_) (fun h_9 => ?_)
      · obtain rfl : n = 9 := by omega
        refine a_iconst (v := nI 0) C dL_told_31 (by decide) ?_
        refine a_istore_n C dL_told_32 rfl (by decide) ?_
        refine a_join (aLe_s ?_ (aLe_s ?_ (aLe_n (aLe_s ?_ aLe_nil)))) rfl (by rw [show 0 - kN A = 0 by omega]; rfl) (ZL33 (12 + 1) 0 (by omega) (by omega))
        · first | with_reducible rfl | exact gl (by first | with_reducible rfl | (refine iF ?_; simp [h_9]; done) | (refine iT ?_; simp [h_9]; done) | (refine iB ?_; simp [h_9]; done) | (simp [h_9]; done) | (simp [h_9]; omega) | omega | rfl)
        · rfl
        · first | with_reducible rfl | exact gl (by first | with_reducible rfl | (refine iF ?_; simp [h_9]; done) | (refine iT ?_; simp [h_9]; done) | (refine iB ?_; simp [h_9]; done) | (simp [h_9]; done) | (simp [h_9]; omega) | omega | rfl)
      · refine a_ldcl C dL_told_12 wL_112 ?_
        refine a_lload_n C dL_told_15 rfl rfl ?_
        refine a_lmul C dL_told_16 ?_
        refine a_aload_n C dL_told_17 rfl rfl ?_
        refine a_iload_n C dL_told_18 rfl rfl ?_
        refine l0_callSW C hfl _ (HA_count hD hA (by first | assumption | decide | omega)) sW_114 dL_told_19 rfl (Nat.le_of_ble_eq_true rfl) ⟨Nat.le_of_ble_eq_true rfl, Nat.le_of_ble_eq_true rfl⟩ ⟨Nat.le_add_right _ _, Nat.le_add_right _ _⟩ (fun zr19 zw19 zp19 => ?_)
        obtain ⟨rfl, rfl⟩ := zp19
        refine a_i2l C dL_told_22 ?_
        refine a_ladd C dL_told_23 ?_
        refine a_lstore_n C dL_told_24 rfl (by decide) ?_
        refine n_iinc C dL_told_25 rfl (by decide) ?_
        refine a_goto (tgt := 6) C dL_told_28 (by decide) ?_
        refine a_join (aLe_s ?_ (aLe_s ?_ (aLe_n (aLe_s ?_ aLe_nil)))) rfl rfl (zih6 (n + 1) (by omega) (by omega))
        · first | with_reducible rfl | exact gl (by first | with_reducible rfl | (refine iF ?_; simp [h_9]; done) | (refine iT ?_; simp [h_9]; done) | (refine iB ?_; simp [h_9]; done) | (simp [h_9]; done) | (simp [h_9]; omega) | omega)
        · exact gll tdC_s.symm
        · first | with_reducible rfl | exact gl (by first | with_reducible rfl | (refine iF ?_; simp [h_9]; done) | (refine iT ?_; simp [h_9]; done) | (refine iB ?_; simp [h_9]; done) | (simp [h_9]; done) | (simp [h_9]; omega) | omega)
  refine a_pad 3 ?_
  refine a_eq (L' := [some (.ref 0), none, none, none]) rfl rfl rfl ?_
  refine a_ldcl C dL_told_0 wL_110 ?_
  refine a_lstore_n C dL_told_3 rfl (by decide) ?_
  refine a_iconst (v := nI 0) C dL_told_4 (by decide) ?_
  refine a_istore_n C dL_told_5 rfl (by decide) ?_
  refine a_join (aLe_s ?_ (aLe_s ?_ (aLe_n (aLe_s ?_ aLe_nil)))) rfl rfl (ZL6 (9 + 1) 0 (by omega) (by omega))
  · first | with_reducible rfl | exact gl (by first | with_reducible rfl | (refine iF ?_; simp []; done) | (refine iT ?_; simp []; done) | (refine iB ?_; simp []; done) | (simp []; done) | (simp []; omega) | omega | rfl)
  · rfl
  · first | with_reducible rfl | exact gl (by first | with_reducible rfl | (refine iF ?_; simp []; done) | (refine iT ?_; simp []; done) | (refine iB ?_; simp []; done) | (simp []; done) | (simp []; omega) | omega | rfl)

end A62

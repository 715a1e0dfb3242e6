/-! Acts of the reference: what is kept. -/
theorem mv0 {I : Nat → Nat → Int32} {p : Nat} (h1 : I 123 53 = nI 0) (h2 : I 123 52 = nI p) (hp : p < 3640) (v : Int32) : mX12_moves I v = some (v, xu (xu I 162 p v) 123 52 (nI (p + 1))) := by
  unfold mX12_moves mX12_moves_20
  simp (disch := omega) only [↓reduceIte, Option.bind_some, Option.some.injEq, Prod.mk.injEq, and_self, and_true, true_and, eq_self, reduceCtorEq, not_false_eq_true, not_true_eq_false, or_true, true_or, or_false, false_or, bft, nAdd, nMul, nSub, nDiv, nRem, nAm1, nIx, nIn, bI_z, bI_o, ite_b1, ite_b0, zI_add, zI_sub, li0, li1, li2, li3, li4, li5, li6, li7, li8, li9, li10, li11, li12, li13, li14, li15, li16, li17, li18, li19, li20, li21, li22, li23, li24, li25, li26, li27, li28, li29, li30, li31, li32, li33, li34, li35, li36, li37, li40, li42, li43, li45, li47, li48, li57, li59, li60, li61, li62, li64, li80, li91, li93, li97, li99, li100, li122, li182, li199, li255, li300, li380, li400, li999, li1000, li3640, li4100, li65536, li99999, ln1, ln2, ln3, ln100, ln100000, tLe, fLe, tLt, fLt, tEq, fEq, zLe_t, zLe_f, zLt_t, zLt_f, zEq_t, zEq_f, nzLe_t, nzLe_f, znLe_t, znLe_f, nzLt_t, nzLt_f, znLt_t, znLt_f, nzEq_t, nzEq_f, znEq_t, znEq_f, xu_s, xu_r, xu_c, xrow_at, xrow_r, h1, h2]
theorem mv1 {I : Nat → Nat → Int32} {p : Nat} (h1 : I 123 53 = nI 1) (h2 : I 123 52 = nI p) (hp : p < 3640) (v : Int32) : mX12_moves I v = some (I 162 p, xu (xu I 162 p (I 162 p)) 123 52 (nI (p + 1))) := by
  unfold mX12_moves mX12_moves_20
  simp (disch := omega) only [↓reduceIte, Option.bind_some, Option.some.injEq, Prod.mk.injEq, and_self, and_true, true_and, eq_self, reduceCtorEq, not_false_eq_true, not_true_eq_false, or_true, true_or, or_false, false_or, bft, nAdd, nMul, nSub, nDiv, nRem, nAm1, nIx, nIn, bI_z, bI_o, ite_b1, ite_b0, zI_add, zI_sub, li0, li1, li2, li3, li4, li5, li6, li7, li8, li9, li10, li11, li12, li13, li14, li15, li16, li17, li18, li19, li20, li21, li22, li23, li24, li25, li26, li27, li28, li29, li30, li31, li32, li33, li34, li35, li36, li37, li40, li42, li43, li45, li47, li48, li57, li59, li60, li61, li62, li64, li80, li91, li93, li97, li99, li100, li122, li182, li199, li255, li300, li380, li400, li999, li1000, li3640, li4100, li65536, li99999, ln1, ln2, ln3, ln100, ln100000, tLe, fLe, tLt, fLt, tEq, fEq, zLe_t, zLe_f, zLt_t, zLt_f, zEq_t, zEq_f, nzLe_t, nzLe_f, znLe_t, znLe_f, nzLt_t, nzLt_f, znLt_t, znLt_f, nzEq_t, nzEq_f, znEq_t, znEq_f, xu_s, xu_r, xu_c, xrow_at, xrow_r, h1, h2]
theorem xu_self {f : Nat → Nat → Int32} {a k b j : Nat} : xu f a k (f a k) b j = f b j := by
  by_cases h : b = a ∧ j = k
  · rw [h.1, h.2, xu_s]
  · exact xu_off (by omega)
theorem mrow0_go {r z : Nat} (hr : r ≠ 162) (hr2 : r ≠ 123) (hz : z < 1000) : ∀ (f m k p : Nat) (I : Nat → Nat → Int32), m < f → m + k = z → I 123 53 = nI 0 → I 123 52 = nI p → p + m ≤ 3640 → ∃ J, mX12_movesRow_2 f I r z (nI k) = some J ∧ J 123 52 = nI (p + m) ∧ (∀ i, i < m → J 162 (p + i) = I r (k + i)) ∧ (∀ j, j < p ∨ p + m ≤ j → J 162 j = I 162 j) ∧ ∀ b i, b ≠ 162 → b ≠ 123 ∨ i ≠ 52 → J b i = I b i
  | 0, m, k, p, I, h1, _, _, _, _ => absurd h1 (by omega)
  | f + 1, m, k, p, I, h1, h2, h3, h4, h5 => by
    rw [mX12_movesRow_2]
    cases m with
    | zero =>
      refine ⟨I, ?_, h4, fun i hi => absurd hi (by omega), fun _ _ => rfl, fun _ _ _ _ => rfl⟩
      simp (disch := omega) only [↓reduceIte, Option.bind_some, Option.some.injEq, Prod.mk.injEq, and_self, and_true, true_and, eq_self, reduceCtorEq, not_false_eq_true, not_true_eq_false, or_true, true_or, or_false, false_or, bft, nAdd, nMul, nSub, nDiv, nRem, nAm1, nIx, nIn, bI_z, bI_o, ite_b1, ite_b0, zI_add, zI_sub, li0, li1, li2, li3, li4, li5, li6, li7, li8, li9, li10, li11, li12, li13, li14, li15, li16, li17, li18, li19, li20, li21, li22, li23, li24, li25, li26, li27, li28, li29, li30, li31, li32, li33, li34, li35, li36, li37, li40, li42, li43, li45, li47, li48, li57, li59, li60, li61, li62, li64, li80, li91, li93, li97, li99, li100, li122, li182, li199, li255, li300, li380, li400, li999, li1000, li3640, li4100, li65536, li99999, ln1, ln2, ln3, ln100, ln100000, tLe, fLe, tLt, fLt, tEq, fEq, zLe_t, zLe_f, zLt_t, zLt_f, zEq_t, zEq_f, nzLe_t, nzLe_f, znLe_t, znLe_f, nzLt_t, nzLt_f, znLt_t, znLt_f, nzEq_t, nzEq_f, znEq_t, znEq_f]
    | succ m =>
      have e := mv0 h3 h4 (by omega) (I r k)
      obtain ⟨J, j1, j2, j3, j4, j5⟩ := mrow0_go (r := r) hr hr2 hz f m (k + 1) (p + 1) (xu (xu (xu I 162 p (I r k)) 123 52 (nI (p + 1))) r k (I r k)) (by omega) (by omega) (by rw [xu_r (by omega), xu_c (by decide), xu_r (by decide)]; exact h3) (by rw [xu_r (by omega), xu_s]) (by omega)
      refine ⟨J, ?_, by rw [j2]; congr 1; omega, fun i hi => ?_, fun j hj => ?_, fun b i hb hi => ?_⟩
      · simp (disch := omega) only [↓reduceIte, Option.bind_some, Option.some.injEq, Prod.mk.injEq, and_self, and_true, true_and, eq_self, reduceCtorEq, not_false_eq_true, not_true_eq_false, or_true, true_or, or_false, false_or, bft, nAdd, nMul, nSub, nDiv, nRem, nAm1, nIx, nIn, bI_z, bI_o, ite_b1, ite_b0, zI_add, zI_sub, li0, li1, li2, li3, li4, li5, li6, li7, li8, li9, li10, li11, li12, li13, li14, li15, li16, li17, li18, li19, li20, li21, li22, li23, li24, li25, li26, li27, li28, li29, li30, li31, li32, li33, li34, li35, li36, li37, li40, li42, li43, li45, li47, li48, li57, li59, li60, li61, li62, li64, li80, li91, li93, li97, li99, li100, li122, li182, li199, li255, li300, li380, li400, li999, li1000, li3640, li4100, li65536, li99999, ln1, ln2, ln3, ln100, ln100000, tLe, fLe, tLt, fLt, tEq, fEq, zLe_t, zLe_f, zLt_t, zLt_f, zEq_t, zEq_f, nzLe_t, nzLe_f, znLe_t, znLe_f, nzLt_t, nzLt_f, znLt_t, znLt_f, nzEq_t, nzEq_f, znEq_t, znEq_f, e]
        exact j1
      · cases i with
        | zero =>
          rw [Nat.add_zero, j4 p (by omega), xu_r (by omega), xu_r (by decide), xu_s, Nat.add_zero]
        | succ i =>
          have := j3 i (by omega)
          rw [show p + (i + 1) = p + 1 + i by omega, this, show k + (i + 1) = k + 1 + i by omega, xu_c (by omega), xu_r hr2, xu_r hr]
      · rw [j4 j (by omega), xu_r (by omega), xu_r (by decide), xu_c (by omega)]
      · rw [j5 b i hb hi]
        by_cases w : b = r ∧ i = k
        · rw [w.1, w.2, xu_s]
        · rw [xu_off (by omega), xu_off (by omega), xu_r hb]
theorem mrow1_go {r z : Nat} (hr : r ≠ 162) (hr2 : r ≠ 123) (hz : z < 1000) : ∀ (f m k p : Nat) (I : Nat → Nat → Int32), m < f → m + k = z → I 123 53 = nI 1 → I 123 52 = nI p → p + m ≤ 3640 → ∃ J, mX12_movesRow_2 f I r z (nI k) = some J ∧ J 123 52 = nI (p + m) ∧ (∀ i, i < m → J r (k + i) = I 162 (p + i)) ∧ (∀ j, j < k ∨ k + m ≤ j → J r j = I r j) ∧ ∀ b i, b ≠ r → b ≠ 123 ∨ i ≠ 52 → J b i = I b i
  | 0, m, k, p, I, h1, _, _, _, _ => absurd h1 (by omega)
  | f + 1, m, k, p, I, h1, h2, h3, h4, h5 => by
    rw [mX12_movesRow_2]
    cases m with
    | zero =>
      refine ⟨I, ?_, h4, fun i hi => absurd hi (by omega), fun _ _ => rfl, fun _ _ _ _ => rfl⟩
      simp (disch := omega) only [↓reduceIte, Option.bind_some, Option.some.injEq, Prod.mk.injEq, and_self, and_true, true_and, eq_self, reduceCtorEq, not_false_eq_true, not_true_eq_false, or_true, true_or, or_false, false_or, bft, nAdd, nMul, nSub, nDiv, nRem, nAm1, nIx, nIn, bI_z, bI_o, ite_b1, ite_b0, zI_add, zI_sub, li0, li1, li2, li3, li4, li5, li6, li7, li8, li9, li10, li11, li12, li13, li14, li15, li16, li17, li18, li19, li20, li21, li22, li23, li24, li25, li26, li27, li28, li29, li30, li31, li32, li33, li34, li35, li36, li37, li40, li42, li43, li45, li47, li48, li57, li59, li60, li61, li62, li64, li80, li91, li93, li97, li99, li100, li122, li182, li199, li255, li300, li380, li400, li999, li1000, li3640, li4100, li65536, li99999, ln1, ln2, ln3, ln100, ln100000, tLe, fLe, tLt, fLt, tEq, fEq, zLe_t, zLe_f, zLt_t, zLt_f, zEq_t, zEq_f, nzLe_t, nzLe_f, znLe_t, znLe_f, nzLt_t, nzLt_f, znLt_t, znLt_f, nzEq_t, nzEq_f, znEq_t, znEq_f]
    | succ m =>
      have e := mv1 h3 h4 (by omega) (I r k)
      obtain ⟨J, j1, j2, j3, j4, j5⟩ := mrow1_go (r := r) hr hr2 hz f m (k + 1) (p + 1) (xu (xu (xu I 162 p (I 162 p)) 123 52 (nI (p + 1))) r k (I 162 p)) (by omega) (by omega) (by rw [xu_r (by omega), xu_c (by decide), xu_r (by decide)]; exact h3) (by rw [xu_r (by omega), xu_s]) (by omega)
      refine ⟨J, ?_, by rw [j2]; congr 1; omega, fun i hi => ?_, fun j hj => ?_, fun b i hb hi => ?_⟩
      · simp (disch := omega) only [↓reduceIte, Option.bind_some, Option.some.injEq, Prod.mk.injEq, and_self, and_true, true_and, eq_self, reduceCtorEq, not_false_eq_true, not_true_eq_false, or_true, true_or, or_false, false_or, bft, nAdd, nMul, nSub, nDiv, nRem, nAm1, nIx, nIn, bI_z, bI_o, ite_b1, ite_b0, zI_add, zI_sub, li0, li1, li2, li3, li4, li5, li6, li7, li8, li9, li10, li11, li12, li13, li14, li15, li16, li17, li18, li19, li20, li21, li22, li23, li24, li25, li26, li27, li28, li29, li30, li31, li32, li33, li34, li35, li36, li37, li40, li42, li43, li45, li47, li48, li57, li59, li60, li61, li62, li64, li80, li91, li93, li97, li99, li100, li122, li182, li199, li255, li300, li380, li400, li999, li1000, li3640, li4100, li65536, li99999, ln1, ln2, ln3, ln100, ln100000, tLe, fLe, tLt, fLt, tEq, fEq, zLe_t, zLe_f, zLt_t, zLt_f, zEq_t, zEq_f, nzLe_t, nzLe_f, znLe_t, znLe_f, nzLt_t, nzLt_f, znLt_t, znLt_f, nzEq_t, nzEq_f, znEq_t, znEq_f, e]
        exact j1
      · cases i with
        | zero =>
          rw [Nat.add_zero, j4 k (by omega), xu_s, Nat.add_zero]
        | succ i =>
          have := j3 i (by omega)
          rw [show k + (i + 1) = k + 1 + i by omega, this, show p + (i + 1) = p + 1 + i by omega, xu_r (by omega), xu_r (by decide), xu_self]
      · rw [j4 j (by omega), xu_c (by omega), xu_r (by omega), xu_r (by omega)]
      · rw [j5 b i hb hi, xu_r hb, xu_off (by omega), xu_self]
theorem mrow0 {r z p : Nat} {I : Nat → Nat → Int32} (hr : r ≠ 162) (hr2 : r ≠ 123) (hz : z < 1000) (h3 : I 123 53 = nI 0) (h4 : I 123 52 = nI p) (h5 : p + z ≤ 3640) : ∃ J, mX12_movesRow I r z = some J ∧ J 123 52 = nI (p + z) ∧ (∀ i, i < z → J 162 (p + i) = I r i) ∧ (∀ j, j < p ∨ p + z ≤ j → J 162 j = I 162 j) ∧ ∀ b i, b ≠ 162 → b ≠ 123 ∨ i ≠ 52 → J b i = I b i := by
  obtain ⟨J, j1, j2, j3, j4, j5⟩ := mrow0_go (r := r) hr hr2 hz xf z 0 p I (by unfold xf; omega) (by omega) h3 h4 h5
  exact ⟨J, j1, j2, fun i hi => by rw [j3 i hi, Nat.zero_add], j4, j5⟩
theorem mrow1 {r z p : Nat} {I : Nat → Nat → Int32} (hr : r ≠ 162) (hr2 : r ≠ 123) (hz : z < 1000) (h3 : I 123 53 = nI 1) (h4 : I 123 52 = nI p) (h5 : p + z ≤ 3640) : ∃ J, mX12_movesRow I r z = some J ∧ J 123 52 = nI (p + z) ∧ (∀ i, i < z → J r i = I 162 (p + i)) ∧ (∀ j, z ≤ j → J r j = I r j) ∧ ∀ b i, b ≠ r → b ≠ 123 ∨ i ≠ 52 → J b i = I b i := by
  obtain ⟨J, j1, j2, j3, j4, j5⟩ := mrow1_go (r := r) hr hr2 hz xf z 0 p I (by unfold xf; omega) (by omega) h3 h4 h5
  exact ⟨J, j1, j2, fun i hi => by have := j3 i hi; rwa [Nat.zero_add] at this, fun j hj => j4 j (Or.inr (by omega)), j5⟩
section
variable {S : sT} {A : aT} {I : Nat → Nat → Int32}
theorem movesAll0 (O : okS S) (hA : okA S A) {m : Nat} (hm : m < 20) (RA : rAn I S A) : ∃ J, mX12_movesAll I (nI m) (nI 0) = some J ∧ rPa (J 162) m S A ∧ (∀ j, j < 182 * m ∨ 182 * m + 182 ≤ j → J 162 j = I 162 j) ∧ ∀ b i, b ≠ 162 → b ≠ 123 ∨ (i ≠ 52 ∧ i ≠ 53) → J b i = I b i := by
  let I0 := xu (xu I 123 52 (nI (182 * m))) 123 53 (nI 0)
  have a1 : I0 123 53 = nI 0 := xu_s
  have a2 : I0 123 52 = nI (182 * m) := by show xu _ _ _ _ _ _ = _; rw [xu_c (by decide), xu_s]
  have a3 : ∀ b i, b ≠ 123 ∨ (i ≠ 52 ∧ i ≠ 53) → I0 b i = I b i := fun b i h => by show xu _ _ _ _ _ _ = _; rw [xu_off (by omega), xu_off (by omega)]
  have m1 := mv0 a1 a2 (by omega) (I0 124 8)
  let I1 := xu (xu (xu I0 162 (182 * m) (I0 124 8)) 123 52 (nI (182 * m + 1))) 124 8 (I0 124 8)
  have b1 : I1 123 53 = nI 0 := by show xu _ _ _ _ _ _ = _; rw [xu_r (by decide), xu_c (by decide), xu_r (by decide)]; exact a1
  have b2 : I1 123 52 = nI (182 * m + 1) := by show xu _ _ _ _ _ _ = _; rw [xu_r (by decide), xu_s]
  have b3 : ∀ b i, b ≠ 162 → b ≠ 123 ∨ (i ≠ 52 ∧ i ≠ 53) → I1 b i = I b i := fun b i h1 h2 => by
    rw [← a3 b i h2]
    show xu _ _ _ _ _ _ = _
    by_cases w : b = 124 ∧ i = 8
    · rw [w.1, w.2, xu_s]
    · rw [xu_off (by omega), xu_off (by omega), xu_r h1]
  have b4 : I1 162 (182 * m) = I 124 8 := by show xu _ _ _ _ _ _ = _; rw [xu_r (by decide), xu_r (by decide), xu_s, a3 _ _ (by omega)]
  have b5 : ∀ j, j ≠ 182 * m → I1 162 j = I 162 j := fun j hj => by show xu _ _ _ _ _ _ = _; rw [xu_r (by decide), xu_r (by decide), xu_c hj, a3 _ _ (by omega)]
  have m2 := mv0 b1 b2 (by omega) (I1 124 9)
  let I2 := xu (xu (xu I1 162 (182 * m + 1) (I1 124 9)) 123 52 (nI (182 * m + 2))) 124 9 (I1 124 9)
  have c1 : I2 123 53 = nI 0 := by show xu _ _ _ _ _ _ = _; rw [xu_r (by decide), xu_c (by decide), xu_r (by decide)]; exact b1
  have c2 : I2 123 52 = nI (182 * m + 2) := by show xu _ _ _ _ _ _ = _; rw [xu_r (by decide), xu_s]
  have c3 : ∀ b i, b ≠ 162 → b ≠ 123 ∨ (i ≠ 52 ∧ i ≠ 53) → I2 b i = I b i := fun b i h1 h2 => by
    rw [← b3 b i h1 h2]
    show xu _ _ _ _ _ _ = _
    by_cases w : b = 124 ∧ i = 9
    · rw [w.1, w.2, xu_s]
    · rw [xu_off (by omega), xu_off (by omega), xu_r h1]
  have c4 : I2 162 (182 * m + 1) = I 124 9 := by show xu _ _ _ _ _ _ = _; rw [xu_r (by decide), xu_r (by decide), xu_s, b3 _ _ (by omega) (by omega)]
  have c5 : ∀ j, j ≠ 182 * m + 1 → I2 162 j = I1 162 j := fun j hj => by show xu _ _ _ _ _ _ = _; rw [xu_r (by decide), xu_r (by decide), xu_c hj]
  obtain ⟨J3, d1, d2, d3, d4, d5⟩ := mrow0 (r := 128) (z := 4) (by decide) (by decide) (by decide) c1 c2 (by omega)
  have d6 : ∀ b i, b ≠ 162 → b ≠ 123 ∨ (i ≠ 52 ∧ i ≠ 53) → J3 b i = I b i := fun b i h1 h2 => (d5 b i h1 (by omega)).trans (c3 b i h1 h2)
  obtain ⟨J4, e1, e2, e3, e4, e5⟩ := mrow0 (r := 131) (z := 16) (by decide) (by decide) (by decide) ((d5 123 53 (by decide) (by decide)).trans c1) d2 (by omega)
  have e6 : ∀ b i, b ≠ 162 → b ≠ 123 ∨ (i ≠ 52 ∧ i ≠ 53) → J4 b i = I b i := fun b i h1 h2 => (e5 b i h1 (by omega)).trans (d6 b i h1 h2)
  have e7 : J4 123 53 = nI 0 := (e5 123 53 (by decide) (by decide)).trans ((d5 123 53 (by decide) (by decide)).trans c1)
  obtain ⟨J5, f1, f2, f3, f4, f5⟩ := mrow0 (r := 132) (z := 80) (by decide) (by decide) (by decide) e7 e2 (by omega)
  have f6 : ∀ b i, b ≠ 162 → b ≠ 123 ∨ (i ≠ 52 ∧ i ≠ 53) → J5 b i = I b i := fun b i h1 h2 => (f5 b i h1 (by omega)).trans (e6 b i h1 h2)
  obtain ⟨J, g1, g2, g3, g4, g5⟩ := mrow0 (r := 133) (z := 80) (by decide) (by decide) (by decide) ((f5 123 53 (by decide) (by decide)).trans e7) f2 (by omega)
  refine ⟨J, ?_, ?_, fun j hj => ?_, fun b i h1 h2 => (g5 b i h1 (by omega)).trans (f6 b i h1 h2)⟩
  · unfold mX12_movesAll
    rw [if_pos (show nI 0 = 0 ∨ nI 0 = 1 from Or.inl rfl), li182, nMul, show (xu (xu I 123 52 (nI (182 * m))) 123 53 (nI 0)) = I0 from rfl, m1, Option.bind_some]
    show Option.bind (mX12_moves I1 (I1 124 9)) _ = _
    rw [m2, Option.bind_some]
    show Option.bind (mX12_movesRow I2 128 4) _ = _
    rw [d1, Option.bind_some, e1, Option.bind_some, f1, Option.bind_some, g1, Option.bind_some]
  · refine rA_congr O hA ?_ ?_ (fun q hq => ?_) (fun c hc => ?_) (fun i hi => ?_) (fun i hi => ?_) RA
    · show J 162 (182 * m + (8 - 8)) = _
      rw [g4 _ (by omega), f4 _ (by omega), e4 _ (by omega), d4 _ (by omega), c5 _ (by omega)]
      exact b4
    · show J 162 (182 * m + (9 - 8)) = _
      rw [g4 _ (by omega), f4 _ (by omega), e4 _ (by omega), d4 _ (by omega)]
      exact c4
    · show J 162 (182 * m + 2 + q) = _
      rw [g4 _ (by omega), f4 _ (by omega), e4 _ (by omega), d3 q hq, c3 _ _ (by omega) (by omega)]
    · show J 162 (182 * m + 6 + c) = _
      rw [g4 _ (by omega), f4 _ (by omega), show 182 * m + 6 + c = 182 * m + 2 + 4 + c by omega, e3 c hc, d6 _ _ (by omega) (by omega)]
    · show J 162 (182 * m + 22 + i) = _
      rw [g4 _ (by omega), show 182 * m + 22 + i = 182 * m + 2 + 4 + 16 + i by omega, f3 i hi, e6 _ _ (by omega) (by omega)]
    · show J 162 (182 * m + 102 + i) = _
      rw [show 182 * m + 102 + i = 182 * m + 2 + 4 + 16 + 80 + i by omega, g3 i hi, f6 _ _ (by omega) (by omega)]
  · rw [g4 _ (by omega), f4 _ (by omega), e4 _ (by omega), d4 _ (by omega), c5 _ (by omega), b5 _ (by omega)]
theorem movesAll1 {B : aT} (O : okS S) (hB : okA S B) {m : Nat} (hm : m < 20) (R : rPa (I 162) m S B) : ∃ J, mX12_movesAll I (nI m) (nI 1) = some J ∧ rAn J S B ∧ (∀ i, i ≠ 8 → i ≠ 9 → J 124 i = I 124 i) ∧ ∀ b i, b ≠ 124 → b ≠ 128 → b ≠ 131 → b ≠ 132 → b ≠ 133 → b ≠ 123 ∨ (i ≠ 52 ∧ i ≠ 53) → J b i = I b i := by
  let I0 := xu (xu I 123 52 (nI (182 * m))) 123 53 (nI 1)
  have a1 : I0 123 53 = nI 1 := xu_s
  have a2 : I0 123 52 = nI (182 * m) := by show xu _ _ _ _ _ _ = _; rw [xu_c (by decide), xu_s]
  have a3 : ∀ b i, b ≠ 123 ∨ (i ≠ 52 ∧ i ≠ 53) → I0 b i = I b i := fun b i h => by show xu _ _ _ _ _ _ = _; rw [xu_off (by omega), xu_off (by omega)]
  have m1 := mv1 a1 a2 (by omega) (I0 124 8)
  let I1 := xu (xu (xu I0 162 (182 * m) (I0 162 (182 * m))) 123 52 (nI (182 * m + 1))) 124 8 (I0 162 (182 * m))
  have b1 : I1 123 53 = nI 1 := by show xu _ _ _ _ _ _ = _; rw [xu_r (by decide), xu_c (by decide), xu_r (by decide)]; exact a1
  have b2 : I1 123 52 = nI (182 * m + 1) := by show xu _ _ _ _ _ _ = _; rw [xu_r (by decide), xu_s]
  have b3 : ∀ b i, b ≠ 124 ∨ i ≠ 8 → b ≠ 123 ∨ (i ≠ 52 ∧ i ≠ 53) → I1 b i = I b i := fun b i h1 h2 => by
    rw [← a3 b i h2]
    show xu _ _ _ _ _ _ = _
    rw [xu_off h1, xu_off (by omega), xu_self]
  have b4 : I1 124 8 = I 162 (182 * m) := by show xu _ _ _ _ _ _ = _; rw [xu_s, a3 _ _ (by omega)]
  have m2 := mv1 b1 b2 (by omega) (I1 124 9)
  let I2 := xu (xu (xu I1 162 (182 * m + 1) (I1 162 (182 * m + 1))) 123 52 (nI (182 * m + 2))) 124 9 (I1 162 (182 * m + 1))
  have c1 : I2 123 53 = nI 1 := by show xu _ _ _ _ _ _ = _; rw [xu_r (by decide), xu_c (by decide), xu_r (by decide)]; exact b1
  have c2 : I2 123 52 = nI (182 * m + 2) := by show xu _ _ _ _ _ _ = _; rw [xu_r (by decide), xu_s]
  have c3 : ∀ b i, b ≠ 124 ∨ (i ≠ 8 ∧ i ≠ 9) → b ≠ 123 ∨ (i ≠ 52 ∧ i ≠ 53) → I2 b i = I b i := fun b i h1 h2 => by
    rw [← b3 b i (by omega) h2]
    show xu _ _ _ _ _ _ = _
    rw [xu_off (by omega), xu_off (by omega), xu_self]
  have c4 : I2 124 9 = I 162 (182 * m + 1) := by show xu _ _ _ _ _ _ = _; rw [xu_s, b3 _ _ (by omega) (by omega)]
  have c5 : I2 124 8 = I 162 (182 * m) := by show xu _ _ _ _ _ _ = _; rw [xu_c (by decide), xu_off (by omega), xu_self]; exact b4
  obtain ⟨J3, d1, d2, d3, d4, d5⟩ := mrow1 (r := 128) (z := 4) (by decide) (by decide) (by decide) c1 c2 (by omega)
  obtain ⟨J4, e1, e2, e3, e4, e5⟩ := mrow1 (r := 131) (z := 16) (by decide) (by decide) (by decide) ((d5 123 53 (by decide) (by decide)).trans c1) d2 (by omega)
  have e7 : J4 123 53 = nI 1 := (e5 123 53 (by decide) (by decide)).trans ((d5 123 53 (by decide) (by decide)).trans c1)
  obtain ⟨J5, f1, f2, f3, f4, f5⟩ := mrow1 (r := 132) (z := 80) (by decide) (by decide) (by decide) e7 e2 (by omega)
  obtain ⟨J, g1, g2, g3, g4, g5⟩ := mrow1 (r := 133) (z := 80) (by decide) (by decide) (by decide) ((f5 123 53 (by decide) (by decide)).trans e7) f2 (by omega)
  have s162 : ∀ j, J3 162 j = I 162 j ∧ J4 162 j = I 162 j ∧ J5 162 j = I 162 j := fun j => by
    have q1 : J3 162 j = I 162 j := (d5 162 j (by decide) (by omega)).trans (c3 162 j (by omega) (by omega))
    have q2 : J4 162 j = I 162 j := (e5 162 j (by decide) (by omega)).trans q1
    exact ⟨q1, q2, (f5 162 j (by decide) (by omega)).trans q2⟩
  have s124 : ∀ i, J 124 i = I2 124 i := fun i => by rw [g5 _ _ (by decide) (by omega), f5 _ _ (by decide) (by omega), e5 _ _ (by decide) (by omega), d5 _ _ (by decide) (by omega)]
  refine ⟨J, ?_, ?_, fun i h1 h2 => by rw [s124, c3 _ _ (by omega) (by omega)], fun b i q1 q2 q3 q4 q5 q6 => by rw [g5 b i q5 (by omega), f5 b i q4 (by omega), e5 b i q3 (by omega), d5 b i q2 (by omega), c3 b i (by omega) q6]⟩
  · unfold mX12_movesAll
    rw [if_pos (show nI 1 = 0 ∨ nI 1 = 1 from Or.inr rfl), li182, nMul, show (xu (xu I 123 52 (nI (182 * m))) 123 53 (nI 1)) = I0 from rfl, m1, Option.bind_some]
    show Option.bind (mX12_moves I1 (I1 124 9)) _ = _
    rw [m2, Option.bind_some]
    show Option.bind (mX12_movesRow I2 128 4) _ = _
    rw [d1, Option.bind_some, e1, Option.bind_some, f1, Option.bind_some, g1, Option.bind_some]
  · refine rA_congr O hB ?_ ?_ (fun q hq => ?_) (fun c hc => ?_) (fun i hi => ?_) (fun i hi => ?_) R
    · rw [s124, c5]; rfl
    · rw [s124, c4]
    · rw [g5 _ _ (by decide) (by omega), f5 _ _ (by decide) (by omega), e5 _ _ (by decide) (by omega), d3 q hq, c3 _ _ (by omega) (by omega)]
    · show _ = I 162 (182 * m + 6 + c)
      rw [g5 _ _ (by decide) (by omega), f5 _ _ (by decide) (by omega), e3 c hc, (s162 _).1]
    · show _ = I 162 (182 * m + 22 + i)
      rw [g5 _ _ (by decide) (by omega), f3 i hi, (s162 _).2.1]
    · show _ = I 162 (182 * m + 102 + i)
      rw [g3 i hi, (s162 _).2.2]
end

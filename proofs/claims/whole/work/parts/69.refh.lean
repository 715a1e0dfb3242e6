/-! Hours of the reference: owners of things, a coat. -/
def fR (I J : Nat → Nat → Int32) : Prop := (∀ i, i ≠ 9 → J 124 i = I 124 i) ∧ ∀ b, b ≠ 124 → b ≠ 128 → b ≠ 131 → b ≠ 132 → b ≠ 133 → b ≠ 160 → b ≠ 161 → J b = I b
theorem fR_refl (I : Nat → Nat → Int32) : fR I I := ⟨fun _ _ => rfl, fun _ _ _ _ _ _ _ _ => rfl⟩
theorem fR_trans {I J H : Nat → Nat → Int32} (h1 : fR I J) (h2 : fR J H) : fR I H := ⟨fun i hi => (h2.1 i hi).trans (h1.1 i hi), fun b q1 q2 q3 q4 q5 q6 q7 => (h2.2 b q1 q2 q3 q4 q5 q6 q7).trans (h1.2 b q1 q2 q3 q4 q5 q6 q7)⟩
theorem fR_of {I J : Nat → Nat → Int32} (h : ∀ b, b ≠ 128 → b ≠ 131 → b ≠ 132 → b ≠ 133 → b ≠ 160 → b ≠ 161 → J b = I b) : fR I J := ⟨fun i _ => by rw [h 124 (by decide) (by decide) (by decide) (by decide) (by decide) (by decide)], fun b _ q2 q3 q4 q5 q6 q7 => h b q2 q3 q4 q5 q6 q7⟩
theorem rSn_f {I J : Nat → Nat → Int32} {S : sT} (F : fR I J) (R : rSn I S) : rSn J S := by
  unfold rSn
  rw [F.2 125 (by decide) (by decide) (by decide) (by decide) (by decide) (by decide) (by decide), F.2 126 (by decide) (by decide) (by decide) (by decide) (by decide) (by decide) (by decide), F.2 127 (by decide) (by decide) (by decide) (by decide) (by decide) (by decide) (by decide), F.2 129 (by decide) (by decide) (by decide) (by decide) (by decide) (by decide) (by decide), F.2 130 (by decide) (by decide) (by decide) (by decide) (by decide) (by decide) (by decide)]
  exact ⟨fun i hi => (F.1 i (by omega)).trans (R.1 i hi), R.2⟩
theorem rA_ext {sc pu ma b w : Nat → Int32} {S : sT} {A B : aT} (h1 : ∀ c, c < sCe S → B.1 c = A.1 c) (h2 : ∀ q, q < sPa S → B.2.1 q = A.2.1 q) (h3 : B.2.2 = A.2.2) (R : rA sc pu ma b w S A) : rA sc pu ma b w S B := by
  refine ⟨by rw [h3]; exact R.1, by rw [h3]; exact R.2.1, fun q hq => by rw [h2 q hq]; exact R.2.2.1 q hq, fun c hc => ?_⟩
  rw [h1 c hc]
  exact R.2.2.2 c hc
theorem cntV_zero {S : sT} {A : aT} (O : okS S) (hA : okA S A) {t : Nat} (ht : t < sTh S) {ah : Bool} {hr q : Nat} (hq : sPa S ≤ q) : cntV S A ah hr t q = 0 := by
  have ot := O.2.1.2.2 t ht
  refine cntF_zero2 _ _ (fun j h3 h4 => ?_)
  rcases ownV_rng hA ah hr (show j < sCe S by omega) with h | ⟨p, h5, h6⟩
  · rw [h]; omega
  · rw [h6]; omega
theorem cntV_le {S : sT} {A : aT} (O : okS S) {t : Nat} (ht : t < sTh S) (ah : Bool) (hr q : Nat) : cntV S A ah hr t q ≤ 6 := Nat.le_trans (cntF_le _ _ _ _) (by have ot := O.2.1.2.2 t ht; omega)
section
variable {S : sT} {A : aT} {I : Nat → Nat → Int32}
theorem rThingOwner_ok (O : okS S) (hA : okA S A) (hh : A.2.2.1 < 100000) {t : Nat} (ht : t < sTh S) (R : rSn I S) (RA : rAn I S A) : ∃ J, mX12_thingOwner I (nI t) = some (zI (ownT S A t (sPart S)), J) ∧ ∀ b, b ≠ 160 → J b = I b := by
  have o1 := O.1
  have ot := O.2.1.2.2 t ht
  have eb := rIsBare_ok (t := t) RA.1 (by have := hA.2.2.1; omega) (by omega)
  unfold mX12_thingOwner
  cases hb : A.2.2.2.testBit t with
  | true =>
    rw [hb] at eb
    refine ⟨I, ?_, fun _ _ => rfl⟩
    rw [ownT_bare hA ht hb]
    simp (disch := omega) only [↓reduceIte, Option.bind_some, Option.some.injEq, Prod.mk.injEq, and_self, and_true, true_and, eq_self, reduceCtorEq, nAdd, nMul, nSub, nDiv, nRem, nAm1, nIx, nIn, bI_z, bI_o, ite_b1, ite_b0, zI_add, zI_sub, li0, li1, li2, li3, li4, li5, li6, li7, li8, li9, li10, li11, li12, li13, li14, li15, li16, li17, li18, li19, li20, li21, li22, li23, li24, li25, li26, li27, li28, li29, li30, li31, li32, li33, li34, li35, li36, li37, li40, li42, li43, li45, li47, li48, li57, li59, li60, li61, li62, li64, li80, li91, li93, li97, li99, li100, li122, li182, li199, li255, li300, li380, li400, li999, li1000, li3640, li4100, li65536, li99999, ln1, ln2, ln3, ln100, ln100000, tLe, fLe, tLt, fLt, tEq, fEq, zLe_t, zLe_f, zLt_t, zLt_f, zEq_t, zEq_f, nzLe_t, nzLe_f, znLe_t, znLe_f, nzLt_t, nzLt_f, znLt_t, znLt_f, nzEq_t, nzEq_f, znEq_t, znEq_f, eb]
  | false =>
    rw [hb] at eb
    obtain ⟨J, j1, j2, j3⟩ := rCountsCells_ok O hA hh ht false R RA
    have RJ : rSn J S := rSn_congr j2 R
    have e1 := rCellsIn_ok RJ O ht
    have e2 := rOwnerByCells_ok (part := sPart S) (cells := sFi S (t + 1) - sFi S t) RJ O j3 (fun q => Nat.le_trans (cntV_le O ht _ _ _) (by decide)) (fun q h1 h2 => cntV_zero O hA ht h1) (by omega) (by omega)
    refine ⟨J, ?_, j2⟩
    change mX12_countsCells I (nI t) (nI A.2.2.1) (nI 0) = some J at j1
    simp (disch := omega) only [↓reduceIte, Option.bind_some, Option.some.injEq, Prod.mk.injEq, and_self, and_true, true_and, eq_self, reduceCtorEq, nAdd, nMul, nSub, nDiv, nRem, nAm1, nIx, nIn, bI_z, bI_o, ite_b1, ite_b0, zI_add, zI_sub, li0, li1, li2, li3, li4, li5, li6, li7, li8, li9, li10, li11, li12, li13, li14, li15, li16, li17, li18, li19, li20, li21, li22, li23, li24, li25, li26, li27, li28, li29, li30, li31, li32, li33, li34, li35, li36, li37, li40, li42, li43, li45, li47, li48, li57, li59, li60, li61, li62, li64, li80, li91, li93, li97, li99, li100, li122, li182, li199, li255, li300, li380, li400, li999, li1000, li3640, li4100, li65536, li99999, ln1, ln2, ln3, ln100, ln100000, tLe, fLe, tLt, fLt, tEq, fEq, zLe_t, zLe_f, zLt_t, zLt_f, zEq_t, zEq_f, nzLe_t, nzLe_f, znLe_t, znLe_f, nzLt_t, nzLt_f, znLt_t, znLt_f, nzEq_t, nzEq_f, znEq_t, znEq_f, eb, RA.2.1, j1, e1, rSn_part RJ, e2]
    rfl
theorem rCanPaint_ok (O : okS S) (hA : okA S A) {c q : Nat} (hc : c < sCe S) (hq : q < sPa S) (R : rSn I S) (RA : rAn I S A) : mX12_canPaint I (nI c) (nI q) = some (bI (!A.2.2.2.testBit (thOf S c) && decide (sCost S ≤ A.2.1 q))) := by
  have o1 := O.1
  obtain ⟨t1, t2, t3⟩ := thOf_ok O hc
  have eb := rIsBare_ok (t := thOf S c) RA.1 (by have := hA.2.2.1; omega) (by omega)
  have hp := hA.2.1 q hq
  unfold mX12_canPaint
  rw [rThingOf_ok R O hc]
  simp (disch := omega) only [↓reduceIte, Option.bind_some, Option.some.injEq, Prod.mk.injEq, and_self, and_true, true_and, eq_self, reduceCtorEq, nAdd, nMul, nSub, nDiv, nRem, nAm1, nIx, nIn, bI_z, bI_o, ite_b1, ite_b0, zI_add, zI_sub, li0, li1, li2, li3, li4, li5, li6, li7, li8, li9, li10, li11, li12, li13, li14, li15, li16, li17, li18, li19, li20, li21, li22, li23, li24, li25, li26, li27, li28, li29, li30, li31, li32, li33, li34, li35, li36, li37, li40, li42, li43, li45, li47, li48, li57, li59, li60, li61, li62, li64, li80, li91, li93, li97, li99, li100, li122, li182, li199, li255, li300, li380, li400, li999, li1000, li3640, li4100, li65536, li99999, ln1, ln2, ln3, ln100, ln100000, tLe, fLe, tLt, fLt, tEq, fEq, zLe_t, zLe_f, zLt_t, zLt_f, zEq_t, zEq_f, nzLe_t, nzLe_f, znLe_t, znLe_f, nzLt_t, nzLt_f, znLt_t, znLt_f, nzEq_t, nzEq_f, znEq_t, znEq_f, eb, RA.2.2.1 q hq, rSn_cost R]
  cases A.2.2.2.testBit (thOf S c) with
  | true => simp (disch := omega) only [↓reduceIte, Option.bind_some, Option.some.injEq, Prod.mk.injEq, and_self, and_true, true_and, eq_self, reduceCtorEq, nAdd, nMul, nSub, nDiv, nRem, nAm1, nIx, nIn, bI_z, bI_o, ite_b1, ite_b0, zI_add, zI_sub, li0, li1, li2, li3, li4, li5, li6, li7, li8, li9, li10, li11, li12, li13, li14, li15, li16, li17, li18, li19, li20, li21, li22, li23, li24, li25, li26, li27, li28, li29, li30, li31, li32, li33, li34, li35, li36, li37, li40, li42, li43, li45, li47, li48, li57, li59, li60, li61, li62, li64, li80, li91, li93, li97, li99, li100, li122, li182, li199, li255, li300, li380, li400, li999, li1000, li3640, li4100, li65536, li99999, ln1, ln2, ln3, ln100, ln100000, tLe, fLe, tLt, fLt, tEq, fEq, zLe_t, zLe_f, zLt_t, zLt_f, zEq_t, zEq_f, nzLe_t, nzLe_f, znLe_t, znLe_f, nzLt_t, nzLt_f, znLt_t, znLt_f, nzEq_t, nzEq_f, znEq_t, znEq_f]; rfl
  | false =>
    by_cases h : sCost S ≤ A.2.1 q
    · simp (disch := omega) only [↓reduceIte, Option.bind_some, Option.some.injEq, Prod.mk.injEq, and_self, and_true, true_and, eq_self, reduceCtorEq, nAdd, nMul, nSub, nDiv, nRem, nAm1, nIx, nIn, bI_z, bI_o, ite_b1, ite_b0, zI_add, zI_sub, li0, li1, li2, li3, li4, li5, li6, li7, li8, li9, li10, li11, li12, li13, li14, li15, li16, li17, li18, li19, li20, li21, li22, li23, li24, li25, li26, li27, li28, li29, li30, li31, li32, li33, li34, li35, li36, li37, li40, li42, li43, li45, li47, li48, li57, li59, li60, li61, li62, li64, li80, li91, li93, li97, li99, li100, li122, li182, li199, li255, li300, li380, li400, li999, li1000, li3640, li4100, li65536, li99999, ln1, ln2, ln3, ln100, ln100000, tLe, fLe, tLt, fLt, tEq, fEq, zLe_t, zLe_f, zLt_t, zLt_f, zEq_t, zEq_f, nzLe_t, nzLe_f, znLe_t, znLe_f, nzLt_t, nzLt_f, znLt_t, znLt_f, nzEq_t, nzEq_f, znEq_t, znEq_f, decide_eq_true h]; rfl
    · simp (disch := omega) only [↓reduceIte, Option.bind_some, Option.some.injEq, Prod.mk.injEq, and_self, and_true, true_and, eq_self, reduceCtorEq, nAdd, nMul, nSub, nDiv, nRem, nAm1, nIx, nIn, bI_z, bI_o, ite_b1, ite_b0, zI_add, zI_sub, li0, li1, li2, li3, li4, li5, li6, li7, li8, li9, li10, li11, li12, li13, li14, li15, li16, li17, li18, li19, li20, li21, li22, li23, li24, li25, li26, li27, li28, li29, li30, li31, li32, li33, li34, li35, li36, li37, li40, li42, li43, li45, li47, li48, li57, li59, li60, li61, li62, li64, li80, li91, li93, li97, li99, li100, li122, li182, li199, li255, li300, li380, li400, li999, li1000, li3640, li4100, li65536, li99999, ln1, ln2, ln3, ln100, ln100000, tLe, fLe, tLt, fLt, tEq, fEq, zLe_t, zLe_f, zLt_t, zLt_f, zEq_t, zEq_f, nzLe_t, nzLe_f, znLe_t, znLe_f, nzLt_t, nzLt_f, znLt_t, znLt_f, nzEq_t, nzEq_f, znEq_t, znEq_f, decide_eq_false h]; rfl
theorem rowB_congr2 {l : List Nat} {b w b2 w2 : Nat → Int32} (h : ∀ i, i < l.length → b2 i = b i ∧ w2 i = w i) (R : rowB l b w) : rowB l b2 w2 := fun i x hx => by
  have hi := (List.getElem?_eq_some_iff.mp hx).1
  rw [List.length_reverse] at hi
  rw [(h i hi).1, (h i hi).2]
  exact R i x hx
theorem rowB_congr {l : List Nat} {b w b2 w2 : Nat → Int32} (hl : l.length ≤ 5) (h : ∀ i, i < 5 → b2 i = b i ∧ w2 i = w i) (R : rowB l b w) : rowB l b2 w2 := fun i x hx => by
  have hi := (List.getElem?_eq_some_iff.mp hx).1
  rw [List.length_reverse] at hi
  rw [(h i (by omega)).1, (h i (by omega)).2]
  exact R i x hx
theorem rowB_take4 {x4 x3 x2 x1 x0 : Nat} {b w : Nat → Int32} (R : rowB [x4, x3, x2, x1, x0] b w) : rowB [x4, x3, x2, x1] (fun i => b (i + 1)) (fun i => w (i + 1)) := by
  simp only [rowB_cons, List.length_cons, List.length_nil] at R ⊢
  exact ⟨R.1, R.2.1, R.2.2.1, R.2.2.2.1, rowB_nil⟩
theorem shift_go {e59 : (Nat → Nat → Int32) → Int32 → Int32 → Option (Nat → Nat → Int32)} {c : Nat} {q : Int32} (hc : c < 16) : ∀ (f n k : Nat) (I : Nat → Nat → Int32), n < f → n + k = 5 * c + 5 → 5 * c < k → ∃ J, mX12_paints_16 e59 f I (nI c) q (nI k) = e59 J (nI c) q ∧ (∀ b, b ≠ 132 → b ≠ 133 → J b = I b) ∧ (∀ i, i < 80 → J 132 i = if k ≤ i + 1 ∧ i < 5 * c + 4 then I 132 (i + 1) else I 132 i) ∧ ∀ i, i < 80 → J 133 i = if k ≤ i + 1 ∧ i < 5 * c + 4 then I 133 (i + 1) else I 133 i
  | 0, n, k, I, h1, _, _ => absurd h1 (by omega)
  | f + 1, n, k, I, h1, h2, h3 => by
    rw [mX12_paints_16]
    cases n with
    | zero =>
      refine ⟨I, ?_, fun _ _ _ => rfl, fun i _ => by rw [if_neg (by omega)], fun i _ => by rw [if_neg (by omega)]⟩
      simp (disch := omega) only [↓reduceIte, Option.bind_some, Option.some.injEq, Prod.mk.injEq, and_self, and_true, true_and, eq_self, reduceCtorEq, nAdd, nMul, nSub, nDiv, nRem, nAm1, nIx, nIn, bI_z, bI_o, ite_b1, ite_b0, zI_add, zI_sub, li0, li1, li2, li3, li4, li5, li6, li7, li8, li9, li10, li11, li12, li13, li14, li15, li16, li17, li18, li19, li20, li21, li22, li23, li24, li25, li26, li27, li28, li29, li30, li31, li32, li33, li34, li35, li36, li37, li40, li42, li43, li45, li47, li48, li57, li59, li60, li61, li62, li64, li80, li91, li93, li97, li99, li100, li122, li182, li199, li255, li300, li380, li400, li999, li1000, li3640, li4100, li65536, li99999, ln1, ln2, ln3, ln100, ln100000, tLe, fLe, tLt, fLt, tEq, fEq, zLe_t, zLe_f, zLt_t, zLt_f, zEq_t, zEq_f, nzLe_t, nzLe_f, znLe_t, znLe_f, nzLt_t, nzLt_f, znLt_t, znLt_f, nzEq_t, nzEq_f, znEq_t, znEq_f]
    | succ n =>
      obtain ⟨J, j1, j2, j3, j4⟩ := shift_go (e59 := e59) (q := q) hc f n (k + 1) (xu (xu I 132 (k - 1) (I 132 k)) 133 (k - 1) (I 133 k)) (by omega) (by omega) (by omega)
      refine ⟨J, ?_, fun b h4 h5 => by rw [j2 b h4 h5, xu_r h5, xu_r h4], fun i hi => ?_, fun i hi => ?_⟩
      · simp (disch := omega) only [↓reduceIte, Option.bind_some, Option.some.injEq, Prod.mk.injEq, and_self, and_true, true_and, eq_self, reduceCtorEq, nAdd, nMul, nSub, nDiv, nRem, nAm1, nIx, nIn, bI_z, bI_o, ite_b1, ite_b0, zI_add, zI_sub, li0, li1, li2, li3, li4, li5, li6, li7, li8, li9, li10, li11, li12, li13, li14, li15, li16, li17, li18, li19, li20, li21, li22, li23, li24, li25, li26, li27, li28, li29, li30, li31, li32, li33, li34, li35, li36, li37, li40, li42, li43, li45, li47, li48, li57, li59, li60, li61, li62, li64, li80, li91, li93, li97, li99, li100, li122, li182, li199, li255, li300, li380, li400, li999, li1000, li3640, li4100, li65536, li99999, ln1, ln2, ln3, ln100, ln100000, tLe, fLe, tLt, fLt, tEq, fEq, zLe_t, zLe_f, zLt_t, zLt_f, zEq_t, zEq_f, nzLe_t, nzLe_f, znLe_t, znLe_f, nzLt_t, nzLt_f, znLt_t, znLt_f, nzEq_t, nzEq_f, znEq_t, znEq_f, xu_s, xu_r, xu_c, xrow_at, xrow_r]
        exact j1
      · rw [j3 i hi, xu_r (by decide)]
        by_cases z : k + 1 ≤ i + 1 ∧ i < 5 * c + 4
        · rw [if_pos z, if_pos (by omega), xu_c (by omega)]
        · rw [if_neg z]
          by_cases w : i = k - 1
          · rw [if_pos (by omega), w, xu_s, show k - 1 + 1 = k by omega]
          · rw [if_neg (by omega), xu_c w]
      · rw [j4 i hi]
        by_cases z : k + 1 ≤ i + 1 ∧ i < 5 * c + 4
        · rw [if_pos z, if_pos (by omega), xu_c (by omega), xu_r (by decide)]
        · rw [if_neg z]
          by_cases w : i = k - 1
          · rw [if_pos (by omega), w, xu_s, show k - 1 + 1 = k by omega]
          · rw [if_neg (by omega), xu_c w, xu_r (by decide)]
/-- one coat more on cells that have room -/
theorem paints69_ok {l : List Nat} {c q hr : Nat} (hc : c < 16) (hl : l.length < 5) (hm : I 131 c = nI l.length) (hh : I 124 9 = nI hr) : ∃ J, mX12_paints_69 I (nI c) (nI q) = some J ∧ J = xu (xu (xu I 132 (5 * c + l.length) (nI q)) 133 (5 * c + l.length) (nI hr)) 131 c (nI (l.length + 1)) := by
  refine ⟨_, ?_, rfl⟩
  unfold mX12_paints_69
  simp (disch := omega) only [↓reduceIte, Option.bind_some, Option.some.injEq, Prod.mk.injEq, and_self, and_true, true_and, eq_self, reduceCtorEq, nAdd, nMul, nSub, nDiv, nRem, nAm1, nIx, nIn, bI_z, bI_o, ite_b1, ite_b0, zI_add, zI_sub, li0, li1, li2, li3, li4, li5, li6, li7, li8, li9, li10, li11, li12, li13, li14, li15, li16, li17, li18, li19, li20, li21, li22, li23, li24, li25, li26, li27, li28, li29, li30, li31, li32, li33, li34, li35, li36, li37, li40, li42, li43, li45, li47, li48, li57, li59, li60, li61, li62, li64, li80, li91, li93, li97, li99, li100, li122, li182, li199, li255, li300, li380, li400, li999, li1000, li3640, li4100, li65536, li99999, ln1, ln2, ln3, ln100, ln100000, tLe, fLe, tLt, fLt, tEq, fEq, zLe_t, zLe_f, zLt_t, zLt_f, zEq_t, zEq_f, nzLe_t, nzLe_f, znLe_t, znLe_f, nzLt_t, nzLt_f, znLt_t, znLt_f, nzEq_t, nzEq_f, znEq_t, znEq_f, xu_s, xu_r, xu_c, xrow_at, xrow_r, hm, hh]
theorem rA_put {J : Nat → Nat → Int32} {c : Nat} {l : List Nat} (RA : rAn I S A) (hA : okA S A) (h124 : J 124 = I 124) (h128 : J 128 = I 128) (hm : J 131 c = nI l.length) (hm2 : ∀ d, d ≠ c → J 131 d = I 131 d) (hb : rowB l (fun i => J 132 (5 * c + i)) (fun i => J 133 (5 * c + i))) (h2 : ∀ d i, d < 16 → d ≠ c → i < 5 → J 132 (5 * d + i) = I 132 (5 * d + i) ∧ J 133 (5 * d + i) = I 133 (5 * d + i)) (O : okS S) : rAn J S (coA A c l) := by
  have o1 := O.1
  unfold rAn
  rw [h124, h128]
  refine ⟨RA.1, RA.2.1, RA.2.2.1, fun d hd => ?_⟩
  show J 131 d = nI (updF A.1 c l d).length ∧ rowB (updF A.1 c l d) _ _
  by_cases w : d = c
  · subst w
    rw [updF_s]
    exact ⟨hm, hb⟩
  · rw [updF_n w, hm2 d w]
    exact ⟨(RA.2.2.2 d hd).1, rowB_congr (hA.1 d hd).1.1 (fun i hi => h2 d i (by omega) w hi) (RA.2.2.2 d hd).2⟩
theorem rPaints_ok (O : okS S) (hA : okA S A) (hh : A.2.2.1 < 1000) {c q : Nat} (hc : c < sCe S) (hq : q < 4) (RA : rAn I S A) : ∃ J, mX12_paints I (nI c) (nI q) = some J ∧ rAn J S (coA A c (putC (A.1 c) q A.2.2.1)) ∧ ∀ b, b ≠ 131 → b ≠ 132 → b ≠ 133 → J b = I b := by
  have o1 := O.1
  have hl := (hA.1 c hc).1
  have r := RA.2.2.2 c hc
  have hq1 : nI q = nI ((4 * (A.2.2.1 + 2) + q) % 4) := by rw [show (4 * (A.2.2.1 + 2) + q) % 4 = q by omega]
  have hq2 : nI A.2.2.1 = zI (((4 * (A.2.2.1 + 2) + q) / 4 : Nat) - 2) := by rw [show (4 * (A.2.2.1 + 2) + q) / 4 = A.2.2.1 + 2 by omega, nz]; congr 1; omega
  unfold mX12_paints
  by_cases h5 : (A.1 c).length = 5
  · obtain ⟨x4, x3, x2, x1, x0, e⟩ : ∃ x4 x3 x2 x1 x0, A.1 c = [x4, x3, x2, x1, x0] := by
      match A.1 c, h5 with
      | [x4, x3, x2, x1, x0], _ => exact ⟨x4, x3, x2, x1, x0, rfl⟩
    obtain ⟨J1, j1, j2, j3, j4⟩ := shift_go (q := nI q) (e59 := fun I_14 a1_14 a2_14 => (if inb a1_14 16 = true then (if inb a1_14 16 = true then (mX12_paints_69 (xu I_14 131 (ix a1_14) ((I_14 131 (ix a1_14)) - (1 : Int32))) a1_14 a2_14) else none) else none)) (show c < 16 by omega) xf 4 (5 * c + 1) I (by unfold xf; omega) (by omega) (by omega)
    have m1 : J1 131 c = nI 5 := by rw [j2 131 (by decide) (by decide), r.1, h5]
    obtain ⟨J, k1, k2⟩ := paints69_ok (I := xu J1 131 c (nI 4)) (l := [x4, x3, x2, x1]) (q := q) (hr := A.2.2.1) (show c < 16 by omega) (by simp) (by rw [xu_s]; rfl) (by rw [xu_r (by decide), j2 124 (by decide) (by decide)]; exact RA.2.1)
    have ep : putC (A.1 c) q A.2.2.1 = [4 * (A.2.2.1 + 2) + q, x4, x3, x2, x1] := by rw [e]; rfl
    have r2 := r.2
    rw [e] at r2
    have r3 := rowB_take4 r2
    refine ⟨J, ?_, ?_, fun b h1 h2 h3 => ?_⟩
    · rw [← k1]
      simp (disch := omega) only [↓reduceIte, Option.bind_some, Option.some.injEq, Prod.mk.injEq, and_self, and_true, true_and, eq_self, reduceCtorEq, nAdd, nMul, nSub, nDiv, nRem, nAm1, nIx, nIn, bI_z, bI_o, ite_b1, ite_b0, zI_add, zI_sub, li0, li1, li2, li3, li4, li5, li6, li7, li8, li9, li10, li11, li12, li13, li14, li15, li16, li17, li18, li19, li20, li21, li22, li23, li24, li25, li26, li27, li28, li29, li30, li31, li32, li33, li34, li35, li36, li37, li40, li42, li43, li45, li47, li48, li57, li59, li60, li61, li62, li64, li80, li91, li93, li97, li99, li100, li122, li182, li199, li255, li300, li380, li400, li999, li1000, li3640, li4100, li65536, li99999, ln1, ln2, ln3, ln100, ln100000, tLe, fLe, tLt, fLt, tEq, fEq, zLe_t, zLe_f, zLt_t, zLt_f, zEq_t, zEq_f, nzLe_t, nzLe_f, znLe_t, znLe_f, nzLt_t, nzLt_f, znLt_t, znLt_f, nzEq_t, nzEq_f, znEq_t, znEq_f, r.1, h5]
      simp (disch := omega) only [↓reduceIte, Option.bind_some, Option.some.injEq, Prod.mk.injEq, and_self, and_true, true_and, eq_self, reduceCtorEq, nAdd, nMul, nSub, nDiv, nRem, nAm1, nIx, nIn, bI_z, bI_o, ite_b1, ite_b0, zI_add, zI_sub, li0, li1, li2, li3, li4, li5, li6, li7, li8, li9, li10, li11, li12, li13, li14, li15, li16, li17, li18, li19, li20, li21, li22, li23, li24, li25, li26, li27, li28, li29, li30, li31, li32, li33, li34, li35, li36, li37, li40, li42, li43, li45, li47, li48, li57, li59, li60, li61, li62, li64, li80, li91, li93, li97, li99, li100, li122, li182, li199, li255, li300, li380, li400, li999, li1000, li3640, li4100, li65536, li99999, ln1, ln2, ln3, ln100, ln100000, tLe, fLe, tLt, fLt, tEq, fEq, zLe_t, zLe_f, zLt_t, zLt_f, zEq_t, zEq_f, nzLe_t, nzLe_f, znLe_t, znLe_f, nzLt_t, nzLt_f, znLt_t, znLt_f, nzEq_t, nzEq_f, znEq_t, znEq_f] at j1
      rw [j1]
      simp (disch := omega) only [↓reduceIte, Option.bind_some, Option.some.injEq, Prod.mk.injEq, and_self, and_true, true_and, eq_self, reduceCtorEq, nAdd, nMul, nSub, nDiv, nRem, nAm1, nIx, nIn, bI_z, bI_o, ite_b1, ite_b0, zI_add, zI_sub, li0, li1, li2, li3, li4, li5, li6, li7, li8, li9, li10, li11, li12, li13, li14, li15, li16, li17, li18, li19, li20, li21, li22, li23, li24, li25, li26, li27, li28, li29, li30, li31, li32, li33, li34, li35, li36, li37, li40, li42, li43, li45, li47, li48, li57, li59, li60, li61, li62, li64, li80, li91, li93, li97, li99, li100, li122, li182, li199, li255, li300, li380, li400, li999, li1000, li3640, li4100, li65536, li99999, ln1, ln2, ln3, ln100, ln100000, tLe, fLe, tLt, fLt, tEq, fEq, zLe_t, zLe_f, zLt_t, zLt_f, zEq_t, zEq_f, nzLe_t, nzLe_f, znLe_t, znLe_f, nzLt_t, nzLt_f, znLt_t, znLt_f, nzEq_t, nzEq_f, znEq_t, znEq_f, m1]
    · rw [ep]
      refine rA_put RA hA ?_ ?_ ?_ (fun d hd => ?_) ?_ (fun d i h1 h2 h3 => ?_) O
      · rw [k2]; simp (disch := omega) only [↓reduceIte, Option.bind_some, Option.some.injEq, Prod.mk.injEq, and_self, and_true, true_and, eq_self, reduceCtorEq, nAdd, nMul, nSub, nDiv, nRem, nAm1, nIx, nIn, bI_z, bI_o, ite_b1, ite_b0, zI_add, zI_sub, li0, li1, li2, li3, li4, li5, li6, li7, li8, li9, li10, li11, li12, li13, li14, li15, li16, li17, li18, li19, li20, li21, li22, li23, li24, li25, li26, li27, li28, li29, li30, li31, li32, li33, li34, li35, li36, li37, li40, li42, li43, li45, li47, li48, li57, li59, li60, li61, li62, li64, li80, li91, li93, li97, li99, li100, li122, li182, li199, li255, li300, li380, li400, li999, li1000, li3640, li4100, li65536, li99999, ln1, ln2, ln3, ln100, ln100000, tLe, fLe, tLt, fLt, tEq, fEq, zLe_t, zLe_f, zLt_t, zLt_f, zEq_t, zEq_f, nzLe_t, nzLe_f, znLe_t, znLe_f, nzLt_t, nzLt_f, znLt_t, znLt_f, nzEq_t, nzEq_f, znEq_t, znEq_f, xu_s, xu_r, xu_c, xrow_at, xrow_r]; exact j2 124 (by decide) (by decide)
      · rw [k2]; simp (disch := omega) only [↓reduceIte, Option.bind_some, Option.some.injEq, Prod.mk.injEq, and_self, and_true, true_and, eq_self, reduceCtorEq, nAdd, nMul, nSub, nDiv, nRem, nAm1, nIx, nIn, bI_z, bI_o, ite_b1, ite_b0, zI_add, zI_sub, li0, li1, li2, li3, li4, li5, li6, li7, li8, li9, li10, li11, li12, li13, li14, li15, li16, li17, li18, li19, li20, li21, li22, li23, li24, li25, li26, li27, li28, li29, li30, li31, li32, li33, li34, li35, li36, li37, li40, li42, li43, li45, li47, li48, li57, li59, li60, li61, li62, li64, li80, li91, li93, li97, li99, li100, li122, li182, li199, li255, li300, li380, li400, li999, li1000, li3640, li4100, li65536, li99999, ln1, ln2, ln3, ln100, ln100000, tLe, fLe, tLt, fLt, tEq, fEq, zLe_t, zLe_f, zLt_t, zLt_f, zEq_t, zEq_f, nzLe_t, nzLe_f, znLe_t, znLe_f, nzLt_t, nzLt_f, znLt_t, znLt_f, nzEq_t, nzEq_f, znEq_t, znEq_f, xu_s, xu_r, xu_c, xrow_at, xrow_r]; exact j2 128 (by decide) (by decide)
      · rw [k2, xu_s]; rfl
      · rw [k2]; simp (disch := omega) only [↓reduceIte, Option.bind_some, Option.some.injEq, Prod.mk.injEq, and_self, and_true, true_and, eq_self, reduceCtorEq, nAdd, nMul, nSub, nDiv, nRem, nAm1, nIx, nIn, bI_z, bI_o, ite_b1, ite_b0, zI_add, zI_sub, li0, li1, li2, li3, li4, li5, li6, li7, li8, li9, li10, li11, li12, li13, li14, li15, li16, li17, li18, li19, li20, li21, li22, li23, li24, li25, li26, li27, li28, li29, li30, li31, li32, li33, li34, li35, li36, li37, li40, li42, li43, li45, li47, li48, li57, li59, li60, li61, li62, li64, li80, li91, li93, li97, li99, li100, li122, li182, li199, li255, li300, li380, li400, li999, li1000, li3640, li4100, li65536, li99999, ln1, ln2, ln3, ln100, ln100000, tLe, fLe, tLt, fLt, tEq, fEq, zLe_t, zLe_f, zLt_t, zLt_f, zEq_t, zEq_f, nzLe_t, nzLe_f, znLe_t, znLe_f, nzLt_t, nzLt_f, znLt_t, znLt_f, nzEq_t, nzEq_f, znEq_t, znEq_f, xu_s, xu_r, xu_c, xrow_at, xrow_r]; rw [j2 131 (by decide) (by decide)]
      · rw [rowB_cons]
        refine ⟨⟨?_, ?_⟩, rowB_congr2 (fun i hi => ?_) r3⟩
        · rw [k2]; simp only [List.length_cons, List.length_nil]; simp (disch := omega) only [↓reduceIte, Option.bind_some, Option.some.injEq, Prod.mk.injEq, and_self, and_true, true_and, eq_self, reduceCtorEq, nAdd, nMul, nSub, nDiv, nRem, nAm1, nIx, nIn, bI_z, bI_o, ite_b1, ite_b0, zI_add, zI_sub, li0, li1, li2, li3, li4, li5, li6, li7, li8, li9, li10, li11, li12, li13, li14, li15, li16, li17, li18, li19, li20, li21, li22, li23, li24, li25, li26, li27, li28, li29, li30, li31, li32, li33, li34, li35, li36, li37, li40, li42, li43, li45, li47, li48, li57, li59, li60, li61, li62, li64, li80, li91, li93, li97, li99, li100, li122, li182, li199, li255, li300, li380, li400, li999, li1000, li3640, li4100, li65536, li99999, ln1, ln2, ln3, ln100, ln100000, tLe, fLe, tLt, fLt, tEq, fEq, zLe_t, zLe_f, zLt_t, zLt_f, zEq_t, zEq_f, nzLe_t, nzLe_f, znLe_t, znLe_f, nzLt_t, nzLt_f, znLt_t, znLt_f, nzEq_t, nzEq_f, znEq_t, znEq_f, xu_s, xu_r, xu_c, xrow_at, xrow_r]; try exact hq1
        · rw [k2]; simp only [List.length_cons, List.length_nil]; simp (disch := omega) only [↓reduceIte, Option.bind_some, Option.some.injEq, Prod.mk.injEq, and_self, and_true, true_and, eq_self, reduceCtorEq, nAdd, nMul, nSub, nDiv, nRem, nAm1, nIx, nIn, bI_z, bI_o, ite_b1, ite_b0, zI_add, zI_sub, li0, li1, li2, li3, li4, li5, li6, li7, li8, li9, li10, li11, li12, li13, li14, li15, li16, li17, li18, li19, li20, li21, li22, li23, li24, li25, li26, li27, li28, li29, li30, li31, li32, li33, li34, li35, li36, li37, li40, li42, li43, li45, li47, li48, li57, li59, li60, li61, li62, li64, li80, li91, li93, li97, li99, li100, li122, li182, li199, li255, li300, li380, li400, li999, li1000, li3640, li4100, li65536, li99999, ln1, ln2, ln3, ln100, ln100000, tLe, fLe, tLt, fLt, tEq, fEq, zLe_t, zLe_f, zLt_t, zLt_f, zEq_t, zEq_f, nzLe_t, nzLe_f, znLe_t, znLe_f, nzLt_t, nzLt_f, znLt_t, znLt_f, nzEq_t, nzEq_f, znEq_t, znEq_f, xu_s, xu_r, xu_c, xrow_at, xrow_r]; try exact hq2
        · simp only [List.length_cons, List.length_nil] at hi
          rw [k2]
          simp only [List.length_cons, List.length_nil]
          simp (disch := omega) only [↓reduceIte, Option.bind_some, Option.some.injEq, Prod.mk.injEq, and_self, and_true, true_and, eq_self, reduceCtorEq, nAdd, nMul, nSub, nDiv, nRem, nAm1, nIx, nIn, bI_z, bI_o, ite_b1, ite_b0, zI_add, zI_sub, li0, li1, li2, li3, li4, li5, li6, li7, li8, li9, li10, li11, li12, li13, li14, li15, li16, li17, li18, li19, li20, li21, li22, li23, li24, li25, li26, li27, li28, li29, li30, li31, li32, li33, li34, li35, li36, li37, li40, li42, li43, li45, li47, li48, li57, li59, li60, li61, li62, li64, li80, li91, li93, li97, li99, li100, li122, li182, li199, li255, li300, li380, li400, li999, li1000, li3640, li4100, li65536, li99999, ln1, ln2, ln3, ln100, ln100000, tLe, fLe, tLt, fLt, tEq, fEq, zLe_t, zLe_f, zLt_t, zLt_f, zEq_t, zEq_f, nzLe_t, nzLe_f, znLe_t, znLe_f, nzLt_t, nzLt_f, znLt_t, znLt_f, nzEq_t, nzEq_f, znEq_t, znEq_f, xu_s, xu_r, xu_c, xrow_at, xrow_r]
          rw [j3 _ (by omega), j4 _ (by omega), if_pos (by omega), if_pos (by omega), Nat.add_assoc]
          exact ⟨rfl, rfl⟩
      · rw [k2]
        simp only [List.length_cons, List.length_nil]
        simp (disch := omega) only [↓reduceIte, Option.bind_some, Option.some.injEq, Prod.mk.injEq, and_self, and_true, true_and, eq_self, reduceCtorEq, nAdd, nMul, nSub, nDiv, nRem, nAm1, nIx, nIn, bI_z, bI_o, ite_b1, ite_b0, zI_add, zI_sub, li0, li1, li2, li3, li4, li5, li6, li7, li8, li9, li10, li11, li12, li13, li14, li15, li16, li17, li18, li19, li20, li21, li22, li23, li24, li25, li26, li27, li28, li29, li30, li31, li32, li33, li34, li35, li36, li37, li40, li42, li43, li45, li47, li48, li57, li59, li60, li61, li62, li64, li80, li91, li93, li97, li99, li100, li122, li182, li199, li255, li300, li380, li400, li999, li1000, li3640, li4100, li65536, li99999, ln1, ln2, ln3, ln100, ln100000, tLe, fLe, tLt, fLt, tEq, fEq, zLe_t, zLe_f, zLt_t, zLt_f, zEq_t, zEq_f, nzLe_t, nzLe_f, znLe_t, znLe_f, nzLt_t, nzLt_f, znLt_t, znLt_f, nzEq_t, nzEq_f, znEq_t, znEq_f, xu_s, xu_r, xu_c, xrow_at, xrow_r]
        rw [j3 _ (by omega), j4 _ (by omega), if_neg (by omega), if_neg (by omega)]
        exact ⟨rfl, rfl⟩
    · rw [k2, xu_r h1, xu_r h3, xu_r h2, xu_r h1, j2 b h2 h3]
  · have h5' := hl.1
    obtain ⟨J, k1, k2⟩ := paints69_ok (I := I) (l := A.1 c) (q := q) (hr := A.2.2.1) (show c < 16 by omega) (by omega) r.1 RA.2.1
    have ep : putC (A.1 c) q A.2.2.1 = (4 * (A.2.2.1 + 2) + q) :: A.1 c := by
      unfold putC
      exact List.take_of_length_le (by simp only [List.length_cons]; omega)
    refine ⟨J, ?_, ?_, fun b h1 h2 h3 => ?_⟩
    · rw [← k1]
      simp (disch := omega) only [↓reduceIte, Option.bind_some, Option.some.injEq, Prod.mk.injEq, and_self, and_true, true_and, eq_self, reduceCtorEq, nAdd, nMul, nSub, nDiv, nRem, nAm1, nIx, nIn, bI_z, bI_o, ite_b1, ite_b0, zI_add, zI_sub, li0, li1, li2, li3, li4, li5, li6, li7, li8, li9, li10, li11, li12, li13, li14, li15, li16, li17, li18, li19, li20, li21, li22, li23, li24, li25, li26, li27, li28, li29, li30, li31, li32, li33, li34, li35, li36, li37, li40, li42, li43, li45, li47, li48, li57, li59, li60, li61, li62, li64, li80, li91, li93, li97, li99, li100, li122, li182, li199, li255, li300, li380, li400, li999, li1000, li3640, li4100, li65536, li99999, ln1, ln2, ln3, ln100, ln100000, tLe, fLe, tLt, fLt, tEq, fEq, zLe_t, zLe_f, zLt_t, zLt_f, zEq_t, zEq_f, nzLe_t, nzLe_f, znLe_t, znLe_f, nzLt_t, nzLt_f, znLt_t, znLt_f, nzEq_t, nzEq_f, znEq_t, znEq_f, r.1]
    · rw [ep]
      refine rA_put RA hA ?_ ?_ ?_ (fun d hd => ?_) ?_ (fun d i h1 h2 h3 => ?_) O
      · rw [k2]; simp (disch := omega) only [↓reduceIte, Option.bind_some, Option.some.injEq, Prod.mk.injEq, and_self, and_true, true_and, eq_self, reduceCtorEq, nAdd, nMul, nSub, nDiv, nRem, nAm1, nIx, nIn, bI_z, bI_o, ite_b1, ite_b0, zI_add, zI_sub, li0, li1, li2, li3, li4, li5, li6, li7, li8, li9, li10, li11, li12, li13, li14, li15, li16, li17, li18, li19, li20, li21, li22, li23, li24, li25, li26, li27, li28, li29, li30, li31, li32, li33, li34, li35, li36, li37, li40, li42, li43, li45, li47, li48, li57, li59, li60, li61, li62, li64, li80, li91, li93, li97, li99, li100, li122, li182, li199, li255, li300, li380, li400, li999, li1000, li3640, li4100, li65536, li99999, ln1, ln2, ln3, ln100, ln100000, tLe, fLe, tLt, fLt, tEq, fEq, zLe_t, zLe_f, zLt_t, zLt_f, zEq_t, zEq_f, nzLe_t, nzLe_f, znLe_t, znLe_f, nzLt_t, nzLt_f, znLt_t, znLt_f, nzEq_t, nzEq_f, znEq_t, znEq_f, xu_s, xu_r, xu_c, xrow_at, xrow_r]
      · rw [k2]; simp (disch := omega) only [↓reduceIte, Option.bind_some, Option.some.injEq, Prod.mk.injEq, and_self, and_true, true_and, eq_self, reduceCtorEq, nAdd, nMul, nSub, nDiv, nRem, nAm1, nIx, nIn, bI_z, bI_o, ite_b1, ite_b0, zI_add, zI_sub, li0, li1, li2, li3, li4, li5, li6, li7, li8, li9, li10, li11, li12, li13, li14, li15, li16, li17, li18, li19, li20, li21, li22, li23, li24, li25, li26, li27, li28, li29, li30, li31, li32, li33, li34, li35, li36, li37, li40, li42, li43, li45, li47, li48, li57, li59, li60, li61, li62, li64, li80, li91, li93, li97, li99, li100, li122, li182, li199, li255, li300, li380, li400, li999, li1000, li3640, li4100, li65536, li99999, ln1, ln2, ln3, ln100, ln100000, tLe, fLe, tLt, fLt, tEq, fEq, zLe_t, zLe_f, zLt_t, zLt_f, zEq_t, zEq_f, nzLe_t, nzLe_f, znLe_t, znLe_f, nzLt_t, nzLt_f, znLt_t, znLt_f, nzEq_t, nzEq_f, znEq_t, znEq_f, xu_s, xu_r, xu_c, xrow_at, xrow_r]
      · rw [k2, xu_s]; rfl
      · rw [k2]; simp (disch := omega) only [↓reduceIte, Option.bind_some, Option.some.injEq, Prod.mk.injEq, and_self, and_true, true_and, eq_self, reduceCtorEq, nAdd, nMul, nSub, nDiv, nRem, nAm1, nIx, nIn, bI_z, bI_o, ite_b1, ite_b0, zI_add, zI_sub, li0, li1, li2, li3, li4, li5, li6, li7, li8, li9, li10, li11, li12, li13, li14, li15, li16, li17, li18, li19, li20, li21, li22, li23, li24, li25, li26, li27, li28, li29, li30, li31, li32, li33, li34, li35, li36, li37, li40, li42, li43, li45, li47, li48, li57, li59, li60, li61, li62, li64, li80, li91, li93, li97, li99, li100, li122, li182, li199, li255, li300, li380, li400, li999, li1000, li3640, li4100, li65536, li99999, ln1, ln2, ln3, ln100, ln100000, tLe, fLe, tLt, fLt, tEq, fEq, zLe_t, zLe_f, zLt_t, zLt_f, zEq_t, zEq_f, nzLe_t, nzLe_f, znLe_t, znLe_f, nzLt_t, nzLt_f, znLt_t, znLt_f, nzEq_t, nzEq_f, znEq_t, znEq_f, xu_s, xu_r, xu_c, xrow_at, xrow_r]
      · rw [rowB_cons]
        refine ⟨⟨?_, ?_⟩, fun i x hx => ?_⟩
        · rw [k2]; simp (disch := omega) only [↓reduceIte, Option.bind_some, Option.some.injEq, Prod.mk.injEq, and_self, and_true, true_and, eq_self, reduceCtorEq, nAdd, nMul, nSub, nDiv, nRem, nAm1, nIx, nIn, bI_z, bI_o, ite_b1, ite_b0, zI_add, zI_sub, li0, li1, li2, li3, li4, li5, li6, li7, li8, li9, li10, li11, li12, li13, li14, li15, li16, li17, li18, li19, li20, li21, li22, li23, li24, li25, li26, li27, li28, li29, li30, li31, li32, li33, li34, li35, li36, li37, li40, li42, li43, li45, li47, li48, li57, li59, li60, li61, li62, li64, li80, li91, li93, li97, li99, li100, li122, li182, li199, li255, li300, li380, li400, li999, li1000, li3640, li4100, li65536, li99999, ln1, ln2, ln3, ln100, ln100000, tLe, fLe, tLt, fLt, tEq, fEq, zLe_t, zLe_f, zLt_t, zLt_f, zEq_t, zEq_f, nzLe_t, nzLe_f, znLe_t, znLe_f, nzLt_t, nzLt_f, znLt_t, znLt_f, nzEq_t, nzEq_f, znEq_t, znEq_f, xu_s, xu_r, xu_c, xrow_at, xrow_r]; try exact hq1
        · rw [k2]; simp (disch := omega) only [↓reduceIte, Option.bind_some, Option.some.injEq, Prod.mk.injEq, and_self, and_true, true_and, eq_self, reduceCtorEq, nAdd, nMul, nSub, nDiv, nRem, nAm1, nIx, nIn, bI_z, bI_o, ite_b1, ite_b0, zI_add, zI_sub, li0, li1, li2, li3, li4, li5, li6, li7, li8, li9, li10, li11, li12, li13, li14, li15, li16, li17, li18, li19, li20, li21, li22, li23, li24, li25, li26, li27, li28, li29, li30, li31, li32, li33, li34, li35, li36, li37, li40, li42, li43, li45, li47, li48, li57, li59, li60, li61, li62, li64, li80, li91, li93, li97, li99, li100, li122, li182, li199, li255, li300, li380, li400, li999, li1000, li3640, li4100, li65536, li99999, ln1, ln2, ln3, ln100, ln100000, tLe, fLe, tLt, fLt, tEq, fEq, zLe_t, zLe_f, zLt_t, zLt_f, zEq_t, zEq_f, nzLe_t, nzLe_f, znLe_t, znLe_f, nzLt_t, nzLt_f, znLt_t, znLt_f, nzEq_t, nzEq_f, znEq_t, znEq_f, xu_s, xu_r, xu_c, xrow_at, xrow_r]; try exact hq2
        · have hi := (List.getElem?_eq_some_iff.mp hx).1
          rw [List.length_reverse] at hi
          rw [k2]
          simp (disch := omega) only [↓reduceIte, Option.bind_some, Option.some.injEq, Prod.mk.injEq, and_self, and_true, true_and, eq_self, reduceCtorEq, nAdd, nMul, nSub, nDiv, nRem, nAm1, nIx, nIn, bI_z, bI_o, ite_b1, ite_b0, zI_add, zI_sub, li0, li1, li2, li3, li4, li5, li6, li7, li8, li9, li10, li11, li12, li13, li14, li15, li16, li17, li18, li19, li20, li21, li22, li23, li24, li25, li26, li27, li28, li29, li30, li31, li32, li33, li34, li35, li36, li37, li40, li42, li43, li45, li47, li48, li57, li59, li60, li61, li62, li64, li80, li91, li93, li97, li99, li100, li122, li182, li199, li255, li300, li380, li400, li999, li1000, li3640, li4100, li65536, li99999, ln1, ln2, ln3, ln100, ln100000, tLe, fLe, tLt, fLt, tEq, fEq, zLe_t, zLe_f, zLt_t, zLt_f, zEq_t, zEq_f, nzLe_t, nzLe_f, znLe_t, znLe_f, nzLt_t, nzLt_f, znLt_t, znLt_f, nzEq_t, nzEq_f, znEq_t, znEq_f, xu_s, xu_r, xu_c, xrow_at, xrow_r]
          exact r.2 i x hx
      · rw [k2]
        have := hl.1
        simp (disch := omega) only [↓reduceIte, Option.bind_some, Option.some.injEq, Prod.mk.injEq, and_self, and_true, true_and, eq_self, reduceCtorEq, nAdd, nMul, nSub, nDiv, nRem, nAm1, nIx, nIn, bI_z, bI_o, ite_b1, ite_b0, zI_add, zI_sub, li0, li1, li2, li3, li4, li5, li6, li7, li8, li9, li10, li11, li12, li13, li14, li15, li16, li17, li18, li19, li20, li21, li22, li23, li24, li25, li26, li27, li28, li29, li30, li31, li32, li33, li34, li35, li36, li37, li40, li42, li43, li45, li47, li48, li57, li59, li60, li61, li62, li64, li80, li91, li93, li97, li99, li100, li122, li182, li199, li255, li300, li380, li400, li999, li1000, li3640, li4100, li65536, li99999, ln1, ln2, ln3, ln100, ln100000, tLe, fLe, tLt, fLt, tEq, fEq, zLe_t, zLe_f, zLt_t, zLt_f, zEq_t, zEq_f, nzLe_t, nzLe_f, znLe_t, znLe_f, nzLt_t, nzLt_f, znLt_t, znLt_f, nzEq_t, nzEq_f, znEq_t, znEq_f, xu_s, xu_r, xu_c, xrow_at, xrow_r]
    · rw [k2, xu_r h1, xu_r h3, xu_r h2]
end

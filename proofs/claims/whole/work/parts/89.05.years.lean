/-! years. -/
def nxX (x : Nat) : Nat := (x * 1103515245 + 12345) % 2147483648
theorem nxX_lt (x : Nat) : nxX x < 2147483648 := Nat.mod_lt _ (by decide)
def dq (S : sT) (x : Nat) : Nat := nxX x / 65536 % sPa S
def dx (x : Nat) : Nat := nxX (nxX x)
def dc (S : sT) (x : Nat) : Nat := dx x / 65536 % sCe S
theorem dq_def (S : sT) (x : Nat) : nxX x / 65536 % sPa S = dq S x := rfl
theorem dx_def (x : Nat) : nxX (nxX x) = dx x := rfl
theorem dc_def (S : sT) (x : Nat) : dx x / 65536 % sCe S = dc S x := rfl
def dCoat (S : sT) (A : aT) (x : Nat) : (aT × Nat) × Nat := if sPa S = 0 ∨ sCe S = 0 then ((A, x), 0) else if (!A.2.2.2.testBit (thOf S (dc S x)) && decide (sCost S ≤ A.2.1 (dq S x))) = true then ((putA S A (dc S x) (dq S x), dx x), 1) else ((A, dx x), 0)
def dHr (S : sT) (B : aT × (Nat → Nat)) (x : Nat) : ((aT × (Nat → Nat)) × Nat) × Nat := ((endsA S (dCoat S B.1 x).1.1 B.2, (dCoat S B.1 x).1.2), (dCoat S B.1 x).2)
def dYr (S : sT) : Nat → aT × (Nat → Nat) → Nat → Nat → ((aT × (Nat → Nat)) × Nat) × Nat
  | 0, B, x, m => ((B, x), m)
  | n + 1, B, x, m => dYr S n (dHr S B x).1.1 (dHr S B x).1.2 (m + (dHr S B x).2)
def dYs (S : sT) (A : aT) (N : Nat) : Nat → (Nat → Nat) → Nat → Nat → (Nat → Nat) × Nat
  | 0, g, _, m => (g, m)
  | y + 1, g, x, m => dYs S A N y (dYr S N (A, g) x m).1.1.2 (dYr S N (A, g) x m).1.2 (dYr S N (A, g) x m).2
theorem dCoat_0 {S : sT} {A : aT} {x : Nat} (h : sPa S = 0 ∨ sCe S = 0) : dCoat S A x = ((A, x), 0) := by unfold dCoat; rw [if_pos h]
theorem dCoat_t {S : sT} {A : aT} {x : Nat} (h : ¬ (sPa S = 0 ∨ sCe S = 0)) (h2 : (!A.2.2.2.testBit (thOf S (dc S x)) && decide (sCost S ≤ A.2.1 (dq S x))) = true) : dCoat S A x = ((putA S A (dc S x) (dq S x), dx x), 1) := by unfold dCoat; rw [if_neg h, if_pos h2]
theorem dCoat_f {S : sT} {A : aT} {x : Nat} (h : ¬ (sPa S = 0 ∨ sCe S = 0)) (h2 : (!A.2.2.2.testBit (thOf S (dc S x)) && decide (sCost S ≤ A.2.1 (dq S x))) = false) : dCoat S A x = ((A, dx x), 0) := by unfold dCoat; rw [if_neg h, if_neg (by rw [h2]; decide)]
theorem dq_lt {S : sT} (x : Nat) (h : ¬ (sPa S = 0 ∨ sCe S = 0)) : dq S x < sPa S := Nat.mod_lt _ (by omega)
theorem dc_lt {S : sT} (x : Nat) (h : ¬ (sPa S = 0 ∨ sCe S = 0)) : dc S x < sCe S := Nat.mod_lt _ (by omega)
theorem dCoat_ok {S : sT} {A : aT} {x : Nat} (O : okS S) (hA : okA S A) (hh : A.2.2.1 < 1000) (hx : x < 2147483648) : okA S (dCoat S A x).1.1 ∧ (dCoat S A x).1.1.2.2.1 = A.2.2.1 ∧ (dCoat S A x).1.2 < 2147483648 := by
  by_cases h : sPa S = 0 ∨ sCe S = 0
  · rw [dCoat_0 h]; exact ⟨hA, rfl, hx⟩
  · cases h2 : (!A.2.2.2.testBit (thOf S (dc S x)) && decide (sCost S ≤ A.2.1 (dq S x))) with
    | true =>
      rw [dCoat_t h h2]
      rw [Bool.and_eq_true, Bool.not_eq_true'] at h2
      exact ⟨okA_put O hA (dc_lt x h) (dq_lt x h) hh h2.1, rfl, nxX_lt _⟩
    | false => rw [dCoat_f h h2]; exact ⟨hA, rfl, nxX_lt _⟩
theorem dHr_ok {S : sT} {B : aT × (Nat → Nat)} {x : Nat} (O : okS S) (hA : okA S B.1) (hh : B.1.2.2.1 < 1000) (hx : x < 2147483648) : okA S (dHr S B x).1.1.1 ∧ (dHr S B x).1.1.1.2.2.1 = B.1.2.2.1 + 1 ∧ (dHr S B x).1.2 < 2147483648 := by
  obtain ⟨h1, h2, h3⟩ := dCoat_ok O hA hh hx
  refine ⟨okA_ends h1 _, ?_, h3⟩
  show (endsA S _ _).1.2.2.1 = _
  rw [endsA_hr, h2]
theorem nx_l (x : Nat) (hx : x < 2147483648) : xlrem (lN x * (1103515245 : Int64) + (12345 : Int64)) (2147483648 : Int64) = lN (nxX x) := by
  rw [show (1103515245 : Int64) = lN 1103515245 from rfl, show (12345 : Int64) = lN 12345 from rfl, show (2147483648 : Int64) = lN 2147483648 from rfl, lN_mul, lN_add]
  exact pk_lRem (by omega) (by decide) (by decide)
theorem div_l {x : Nat} (hx : x < 2147483648) : lN x / (65536 : Int64) = lN (x / 65536) := by
  rw [show (65536 : Int64) = lN 65536 from rfl]
  exact pk_lDiv (by omega) (by decide) (by decide)
theorem drawBelow_ok {L : Nat → Nat → Int64} {x b : Nat} (hx : x < 2147483648) (h6 : L 95 6 = lN x) (hb : 0 < b) (hb2 : b < 1000) : mX2_drawBelow L (nI b) = some (nI (nxX x / 65536 % b), xu L 95 6 (lN (nxX x))) := by
  have hn := nxX_lt x
  unfold mX2_drawBelow
  rw [h6, nx_l x hx, xu_s, div_l hn, lN_i]
  simp (disch := omega) only [↓reduceIte, Option.bind_some, Option.some.injEq, Prod.mk.injEq, and_self, and_true, true_and, eq_self, reduceCtorEq, not_false_eq_true, not_true_eq_false, or_true, true_or, or_false, false_or, bft, nAdd, nMul, nSub, nDiv, nRem, nAm1, nIx, nIn, bI_z, bI_o, ite_b1, ite_b0, zI_add, zI_sub, li0, li1, li2, li3, li4, li5, li6, li7, li8, li9, li10, li11, li12, li13, li14, li15, li16, li17, li18, li19, li20, li21, li22, li23, li24, li25, li26, li27, li28, li29, li30, li31, li32, li33, li34, li35, li36, li37, li40, li42, li43, li45, li47, li48, li57, li59, li60, li61, li62, li64, li80, li91, li93, li97, li99, li100, li122, li182, li199, li255, li300, li380, li400, li999, li1000, li3640, li4100, li65536, li99999, ln1, ln2, ln3, ln100, ln100000, tLe, fLe, tLt, fLt, tEq, fEq, zLe_t, zLe_f, zLt_t, zLt_f, zEq_t, zEq_f, nzLe_t, nzLe_f, znLe_t, znLe_f, nzLt_t, nzLt_f, znLt_t, znLt_f, nzEq_t, nzEq_f, znEq_t, znEq_f]
theorem draws_ok {I : Nat → Nat → Int32} {x b : Nat} (hx : x < 2147483648) (h6 : I 124 11 = nI x) (hb : 0 < b) (hb2 : b < 1000) : mX12_draws I (nI b) = some (nI (nxX x / 65536 % b), xu I 124 11 (nI (nxX x))) := by
  have hn := nxX_lt x
  unfold mX12_draws
  rw [h6, nI_l (by omega), nx_l x hx, lN_i, xu_s]
  simp (disch := omega) only [↓reduceIte, Option.bind_some, Option.some.injEq, Prod.mk.injEq, and_self, and_true, true_and, eq_self, reduceCtorEq, not_false_eq_true, not_true_eq_false, or_true, true_or, or_false, false_or, bft, nAdd, nMul, nSub, nDiv, nRem, nAm1, nIx, nIn, bI_z, bI_o, ite_b1, ite_b0, zI_add, zI_sub, li0, li1, li2, li3, li4, li5, li6, li7, li8, li9, li10, li11, li12, li13, li14, li15, li16, li17, li18, li19, li20, li21, li22, li23, li24, li25, li26, li27, li28, li29, li30, li31, li32, li33, li34, li35, li36, li37, li40, li42, li43, li45, li47, li48, li57, li59, li60, li61, li62, li64, li80, li91, li93, li97, li99, li100, li122, li182, li199, li255, li300, li380, li400, li999, li1000, li3640, li4100, li65536, li99999, ln1, ln2, ln3, ln100, ln100000, tLe, fLe, tLt, fLt, tEq, fEq, zLe_t, zLe_f, zLt_t, zLt_f, zEq_t, zEq_f, nzLe_t, nzLe_f, znLe_t, znLe_f, nzLt_t, nzLt_f, znLt_t, znLt_f, nzEq_t, nzEq_f, znEq_t, znEq_f]
section
variable {P : Nat → Nat → Nat} {S : sT}
theorem passDrawn_t {I : Nat → Nat → Int32} {L L1 L2 : Nat → Nat → Int64} {s x2 c q : Nat} {A : aT} {g : Nat → Nat} (O : okS S) (hA : okA S A) (hh : A.2.2.1 < 990) (ps : s = 13 ∨ 171 < s) (C : cS I s S) (hC : cA I L 92 S A) (hg : gotR 101 I g) (hc : c < sCe S) (hq : q < sPa S) (d1 : mX2_drawBelow L (nI (sPa S)) = some (nI q, L1)) (d2 : mX2_drawBelow L1 (nI (sCe S)) = some (nI c, L2)) (h6 : L2 95 6 = lN x2) (hL : ∀ b, b ≠ 95 → L2 b = L b) (hb : A.2.2.2.testBit (thOf S c) = false) (hp : sCost S ≤ A.2.1 q) : ∃ J M, mX2_passDrawn I L s 92 = some (nI 1, J, M) ∧ cA J M 92 S (endsA S (putA S A c q) g).1 ∧ gotR 101 J (endsA S (putA S A c q) g).2 ∧ M 95 6 = lN x2 ∧ ∀ b, b < 92 ∨ 101 < b → J b = I b ∧ M b = L b := by
  have o1 := O.1
  have hC1 : cA I L2 92 S A := cA_congr rfl rfl (hL _ (by decide)) hC
  have cp := canPaint_ok (a := 92) O hA C hC1 hc hq
  rw [hb, decide_eq_true hp] at cp
  obtain ⟨J1, M1, p1, p2, p3, p4⟩ := putCoat_ok O hA (by omega) hc hq hp C hC1
  obtain ⟨J, M, q1, q2, q3, q4, q5⟩ := close_ok (g := g) O (okA_put O hA hc hq (by omega) hb) (show A.2.2.1 < 990 by omega) ps (Or.inr rfl) (cS_congr (fun b h1 h2 => p3 b (by omega)) C) p2 (fun u hu => by rw [p3 101 (by decide)]; exact hg u hu)
  refine ⟨J, M, ?_, q2, q3, ?_, fun b hb => ⟨by rw [q4 b (by omega) (by omega) (by omega), p3 b (by omega)], by rw [q5 b (by omega), p4 b (by omega), hL b (by omega)]⟩⟩
  · unfold mX2_passDrawn
    simp (disch := omega) only [↓reduceIte, Option.bind_some, Option.some.injEq, Prod.mk.injEq, and_self, and_true, true_and, eq_self, reduceCtorEq, not_false_eq_true, not_true_eq_false, or_true, true_or, or_false, false_or, bft, nAdd, nMul, nSub, nDiv, nRem, nAm1, nIx, nIn, bI_z, bI_o, ite_b1, ite_b0, zI_add, zI_sub, li0, li1, li2, li3, li4, li5, li6, li7, li8, li9, li10, li11, li12, li13, li14, li15, li16, li17, li18, li19, li20, li21, li22, li23, li24, li25, li26, li27, li28, li29, li30, li31, li32, li33, li34, li35, li36, li37, li40, li42, li43, li45, li47, li48, li57, li59, li60, li61, li62, li64, li80, li91, li93, li97, li99, li100, li122, li182, li199, li255, li300, li380, li400, li999, li1000, li3640, li4100, li65536, li99999, ln1, ln2, ln3, ln100, ln100000, tLe, fLe, tLt, fLt, tEq, fEq, zLe_t, zLe_f, zLt_t, zLt_f, zEq_t, zEq_f, nzLe_t, nzLe_f, znLe_t, znLe_f, nzLt_t, nzLt_f, znLt_t, znLt_f, nzEq_t, nzEq_f, znEq_t, znEq_f, cS_npa C, d1, cS_nce C, d2, cp, p1, mX2_passDrawn_42, q1, Bool.not_false, Bool.and_self]
  · rw [q5 95 (by decide), p4 95 (by decide)]; exact h6
theorem passDrawn_f {I : Nat → Nat → Int32} {L L1 L2 : Nat → Nat → Int64} {s x2 c q : Nat} {A : aT} {g : Nat → Nat} (O : okS S) (hA : okA S A) (hh : A.2.2.1 < 990) (ps : s = 13 ∨ 171 < s) (C : cS I s S) (hC : cA I L 92 S A) (hg : gotR 101 I g) (hc : c < sCe S) (hq : q < sPa S) (d1 : mX2_drawBelow L (nI (sPa S)) = some (nI q, L1)) (d2 : mX2_drawBelow L1 (nI (sCe S)) = some (nI c, L2)) (h6 : L2 95 6 = lN x2) (hL : ∀ b, b ≠ 95 → L2 b = L b) (hb : (!A.2.2.2.testBit (thOf S c) && decide (sCost S ≤ A.2.1 q)) = false) : ∃ J M, mX2_passDrawn I L s 92 = some (nI 0, J, M) ∧ cA J M 92 S (endsA S A g).1 ∧ gotR 101 J (endsA S A g).2 ∧ M 95 6 = lN x2 ∧ ∀ b, b < 92 ∨ 101 < b → J b = I b ∧ M b = L b := by
  have o1 := O.1
  have hC1 : cA I L2 92 S A := cA_congr rfl rfl (hL _ (by decide)) hC
  have cp := canPaint_ok (a := 92) O hA C hC1 hc hq
  rw [hb] at cp
  obtain ⟨J, M, q1, q2, q3, q4, q5⟩ := close_ok (g := g) O hA hh ps (Or.inr rfl) C hC1 hg
  refine ⟨J, M, ?_, q2, q3, ?_, fun b hb => ⟨by rw [q4 b (by omega) (by omega) (by omega)], by rw [q5 b (by omega), hL b (by omega)]⟩⟩
  · unfold mX2_passDrawn
    simp (disch := omega) only [↓reduceIte, Option.bind_some, Option.some.injEq, Prod.mk.injEq, and_self, and_true, true_and, eq_self, reduceCtorEq, not_false_eq_true, not_true_eq_false, or_true, true_or, or_false, false_or, bft, nAdd, nMul, nSub, nDiv, nRem, nAm1, nIx, nIn, bI_z, bI_o, ite_b1, ite_b0, zI_add, zI_sub, li0, li1, li2, li3, li4, li5, li6, li7, li8, li9, li10, li11, li12, li13, li14, li15, li16, li17, li18, li19, li20, li21, li22, li23, li24, li25, li26, li27, li28, li29, li30, li31, li32, li33, li34, li35, li36, li37, li40, li42, li43, li45, li47, li48, li57, li59, li60, li61, li62, li64, li80, li91, li93, li97, li99, li100, li122, li182, li199, li255, li300, li380, li400, li999, li1000, li3640, li4100, li65536, li99999, ln1, ln2, ln3, ln100, ln100000, tLe, fLe, tLt, fLt, tEq, fEq, zLe_t, zLe_f, zLt_t, zLt_f, zEq_t, zEq_f, nzLe_t, nzLe_f, znLe_t, znLe_f, nzLt_t, nzLt_f, znLt_t, znLt_f, nzEq_t, nzEq_f, znEq_t, znEq_f, cS_npa C, d1, cS_nce C, d2, cp, mX2_passDrawn_42, q1]
  · rw [q5 95 (by decide)]; exact h6
theorem passDrawn_ok {I : Nat → Nat → Int32} {L : Nat → Nat → Int64} {s x : Nat} {B : aT × (Nat → Nat)} (O : okS S) (hz : ¬ (sPa S = 0 ∨ sCe S = 0)) (hA : okA S B.1) (hh : B.1.2.2.1 < 990) (hx : x < 2147483648) (ps : s = 13 ∨ 171 < s) (C : cS I s S) (hC : cA I L 92 S B.1) (hg : gotR 101 I B.2) (h6 : L 95 6 = lN x) : ∃ J M, mX2_passDrawn I L s 92 = some (nI (dHr S B x).2, J, M) ∧ cA J M 92 S (dHr S B x).1.1.1 ∧ gotR 101 J (dHr S B x).1.1.2 ∧ M 95 6 = lN (dHr S B x).1.2 ∧ ∀ b, b < 92 ∨ 101 < b → J b = I b ∧ M b = L b := by
  have o1 := O.1
  have d1 := drawBelow_ok (b := sPa S) hx h6 (by omega) (by omega)
  have d2 := drawBelow_ok (L := xu L 95 6 (lN (nxX x))) (b := sCe S) (nxX_lt x) xu_s (by omega) (by omega)
  have hc := dc_lt x hz
  have hq := dq_lt x hz
  rw [dq_def] at d1
  rw [dx_def, dc_def] at d2
  generalize h2 : (!B.1.2.2.2.testBit (thOf S (dc S x)) && decide (sCost S ≤ B.1.2.1 (dq S x))) = v
  cases v with
  | true =>
    have e := dCoat_t (A := B.1) hz h2
    rw [Bool.and_eq_true, Bool.not_eq_true', decide_eq_true_eq] at h2
    have := passDrawn_t (x2 := dx x) O hA hh ps C hC hg hc hq d1 d2 xu_s (fun b hb => by rw [xu_r hb, xu_r hb]) h2.1 h2.2
    unfold dHr
    rw [e]
    exact this
  | false =>
    have e := dCoat_f (A := B.1) hz h2
    have := passDrawn_f (x2 := dx x) O hA hh ps C hC hg hc hq d1 d2 xu_s (fun b hb => by rw [xu_r hb, xu_r hb]) h2
    unfold dHr
    rw [e]
    exact this
theorem cYr_go {e159 : (Nat → Nat → Int32) → (Nat → Nat → Int64) → Int32 → Int32 → Int32 → Int32 → Int32 → Option (Int32 × (Nat → Nat → Int32) × (Nat → Nat → Int64))} {a1 a3 a5 : Int32} (O : okS S) (hz : ¬ (sPa S = 0 ∨ sCe S = 0)) (ps : P 12 0 = 13 ∨ 171 < P 12 0) {N : Nat} (hN : N < 1000) : ∀ (f n k : Nat) (B : aT × (Nat → Nat)) (x m : Nat) (I : Nat → Nat → Int32) (L : Nat → Nat → Int64), n < f → n + k = N → okA S B.1 → B.1.2.2.1 + n < 990 → x < 2147483648 → cS I (P 12 0) S → cA I L 92 S B.1 → gotR 101 I B.2 → L 95 6 = lN x → ∃ J M, mX11_years_124 P e159 f I L a1 (nI N) a3 (nI m) a5 (nI k) = e159 J M a1 (nI N) a3 (nI (dYr S n B x m).2) a5 ∧ gotR 101 J (dYr S n B x m).1.1.2 ∧ M 95 6 = lN (dYr S n B x m).1.2 ∧ (dYr S n B x m).1.2 < 2147483648 ∧ ∀ b, b < 92 ∨ 101 < b → J b = I b ∧ M b = L b
  | 0, n, k, B, x, m, I, L, h1, _, _, _, _, _, _, _, _ => absurd h1 (by omega)
  | f + 1, n, k, B, x, m, I, L, h1, h2, hA, hh, hx, C, hC, hg, h6 => by
    rw [mX11_years_124]
    cases n with
    | zero =>
      refine ⟨I, L, ?_, hg, h6, hx, fun _ _ => ⟨rfl, rfl⟩⟩
      simp (disch := omega) only [↓reduceIte, Option.bind_some, Option.some.injEq, Prod.mk.injEq, and_self, and_true, true_and, eq_self, reduceCtorEq, not_false_eq_true, not_true_eq_false, or_true, true_or, or_false, false_or, bft, nAdd, nMul, nSub, nDiv, nRem, nAm1, nIx, nIn, bI_z, bI_o, ite_b1, ite_b0, zI_add, zI_sub, li0, li1, li2, li3, li4, li5, li6, li7, li8, li9, li10, li11, li12, li13, li14, li15, li16, li17, li18, li19, li20, li21, li22, li23, li24, li25, li26, li27, li28, li29, li30, li31, li32, li33, li34, li35, li36, li37, li40, li42, li43, li45, li47, li48, li57, li59, li60, li61, li62, li64, li80, li91, li93, li97, li99, li100, li122, li182, li199, li255, li300, li380, li400, li999, li1000, li3640, li4100, li65536, li99999, ln1, ln2, ln3, ln100, ln100000, tLe, fLe, tLt, fLt, tEq, fEq, zLe_t, zLe_f, zLt_t, zLt_f, zEq_t, zEq_f, nzLe_t, nzLe_f, znLe_t, znLe_f, nzLt_t, nzLt_f, znLt_t, znLt_f, nzEq_t, nzEq_f, znEq_t, znEq_f]
      rfl
    | succ n =>
      obtain ⟨J1, M1, p1, p2, p3, p4, p5⟩ := passDrawn_ok O hz hA (by omega) hx ps C hC hg h6
      obtain ⟨d1, d2, d3⟩ := dHr_ok O hA (by omega) hx
      obtain ⟨J, M, q1, q2, q3, q4, q5⟩ := cYr_go (e159 := e159) (a1 := a1) (a3 := a3) (a5 := a5) O hz ps hN f n (k + 1) (dHr S B x).1.1 (dHr S B x).1.2 (m + (dHr S B x).2) J1 M1 (by omega) (by omega) d1 (by omega) d3 (cS_congr (fun b h3 h4 => (p5 b (by omega)).1) C) p2 p3 p4
      refine ⟨J, M, ?_, q2, q3, q4, fun b hb => ⟨((q5 b hb).1).trans (p5 b hb).1, ((q5 b hb).2).trans (p5 b hb).2⟩⟩
      simp (disch := omega) only [↓reduceIte, Option.bind_some, Option.some.injEq, Prod.mk.injEq, and_self, and_true, true_and, eq_self, reduceCtorEq, not_false_eq_true, not_true_eq_false, or_true, true_or, or_false, false_or, bft, nAdd, nMul, nSub, nDiv, nRem, nAm1, nIx, nIn, bI_z, bI_o, ite_b1, ite_b0, zI_add, zI_sub, li0, li1, li2, li3, li4, li5, li6, li7, li8, li9, li10, li11, li12, li13, li14, li15, li16, li17, li18, li19, li20, li21, li22, li23, li24, li25, li26, li27, li28, li29, li30, li31, li32, li33, li34, li35, li36, li37, li40, li42, li43, li45, li47, li48, li57, li59, li60, li61, li62, li64, li80, li91, li93, li97, li99, li100, li122, li182, li199, li255, li300, li380, li400, li999, li1000, li3640, li4100, li65536, li99999, ln1, ln2, ln3, ln100, ln100000, tLe, fLe, tLt, fLt, tEq, fEq, zLe_t, zLe_f, zLt_t, zLt_f, zEq_t, zEq_f, nzLe_t, nzLe_f, znLe_t, znLe_f, nzLt_t, nzLt_f, znLt_t, znLt_f, nzEq_t, nzEq_f, znEq_t, znEq_f, p1]
      exact q1
def sum4 (g : Nat → Nat) : Nat := g 0 + g 1 + g 2 + g 3
theorem gotAll_ok {I : Nat → Nat → Int32} {g : Nat → Nat} (hg : gotR 101 I g) : mX2_gotByAll I = some (nI (sum4 g)) := by
  unfold mX2_gotByAll
  rw [xf_s, mX2_gotByAll_4, mX2_gotByAll_4, mX2_gotByAll_4, mX2_gotByAll_4, mX2_gotByAll_4]
  simp (disch := omega) only [↓reduceIte, Option.bind_some, Option.some.injEq, Prod.mk.injEq, and_self, and_true, true_and, eq_self, reduceCtorEq, not_false_eq_true, not_true_eq_false, or_true, true_or, or_false, false_or, bft, nAdd, nMul, nSub, nDiv, nRem, nAm1, nIx, nIn, bI_z, bI_o, ite_b1, ite_b0, zI_add, zI_sub, li0, li1, li2, li3, li4, li5, li6, li7, li8, li9, li10, li11, li12, li13, li14, li15, li16, li17, li18, li19, li20, li21, li22, li23, li24, li25, li26, li27, li28, li29, li30, li31, li32, li33, li34, li35, li36, li37, li40, li42, li43, li45, li47, li48, li57, li59, li60, li61, li62, li64, li80, li91, li93, li97, li99, li100, li122, li182, li199, li255, li300, li380, li400, li999, li1000, li3640, li4100, li65536, li99999, ln1, ln2, ln3, ln100, ln100000, tLe, fLe, tLt, fLt, tEq, fEq, zLe_t, zLe_f, zLt_t, zLt_f, zEq_t, zEq_f, nzLe_t, nzLe_f, znLe_t, znLe_f, nzLt_t, nzLt_f, znLt_t, znLt_f, nzEq_t, nzEq_f, znEq_t, znEq_f, hg 0 (by decide), hg 1 (by decide), hg 2 (by decide), hg 3 (by decide), Nat.zero_add]
  rfl
theorem cYs_go {A : aT} (O : okS S) (hz : ¬ (sPa S = 0 ∨ sCe S = 0)) (ps : P 12 0 = 13 ∨ 171 < P 12 0) (hA : okA S A) {N Y p : Nat} (hN : N ≤ 100) (hY : Y < 1000) (hh : A.2.2.1 + N < 990) (hp : p ≤ 1) : ∀ (f n k : Nat) (g : Nat → Nat) (x m : Nat) (I : Nat → Nat → Int32) (L : Nat → Nat → Int64), n < f → n + k = Y → x < 2147483648 → cS I (P 12 0) S → cA I L 24 S A → gotR 101 I g → L 95 6 = lN x → ∃ J M, mX11_years_101 P f I L (nI Y) (nI N) (nI p) (nI m) (nI k) = some (if p = 0 then nI (dYs S A N n g x m).2 else nI (sum4 (dYs S A N n g x m).1), J, M) ∧ ∀ b, b < 92 ∨ 101 < b → J b = I b ∧ M b = L b
  | 0, n, k, g, x, m, I, L, h1, _, _, _, _, _, _ => absurd h1 (by omega)
  | f + 1, n, k, g, x, m, I, L, h1, h2, hx, C, hC, hg, h6 => by
    rw [mX11_years_101]
    cases n with
    | zero =>
      refine ⟨I, L, ?_, fun _ _ => ⟨rfl, rfl⟩⟩
      rcases (show p = 0 ∨ p = 1 by omega) with rfl | rfl
      · simp (disch := omega) only [↓reduceIte, Option.bind_some, Option.some.injEq, Prod.mk.injEq, and_self, and_true, true_and, eq_self, reduceCtorEq, not_false_eq_true, not_true_eq_false, or_true, true_or, or_false, false_or, bft, nAdd, nMul, nSub, nDiv, nRem, nAm1, nIx, nIn, bI_z, bI_o, ite_b1, ite_b0, zI_add, zI_sub, li0, li1, li2, li3, li4, li5, li6, li7, li8, li9, li10, li11, li12, li13, li14, li15, li16, li17, li18, li19, li20, li21, li22, li23, li24, li25, li26, li27, li28, li29, li30, li31, li32, li33, li34, li35, li36, li37, li40, li42, li43, li45, li47, li48, li57, li59, li60, li61, li62, li64, li80, li91, li93, li97, li99, li100, li122, li182, li199, li255, li300, li380, li400, li999, li1000, li3640, li4100, li65536, li99999, ln1, ln2, ln3, ln100, ln100000, tLe, fLe, tLt, fLt, tEq, fEq, zLe_t, zLe_f, zLt_t, zLt_f, zEq_t, zEq_f, nzLe_t, nzLe_f, znLe_t, znLe_f, nzLt_t, nzLt_f, znLt_t, znLt_f, nzEq_t, nzEq_f, znEq_t, znEq_f]
        rfl
      · simp (disch := omega) only [↓reduceIte, Option.bind_some, Option.some.injEq, Prod.mk.injEq, and_self, and_true, true_and, eq_self, reduceCtorEq, not_false_eq_true, not_true_eq_false, or_true, true_or, or_false, false_or, bft, nAdd, nMul, nSub, nDiv, nRem, nAm1, nIx, nIn, bI_z, bI_o, ite_b1, ite_b0, zI_add, zI_sub, li0, li1, li2, li3, li4, li5, li6, li7, li8, li9, li10, li11, li12, li13, li14, li15, li16, li17, li18, li19, li20, li21, li22, li23, li24, li25, li26, li27, li28, li29, li30, li31, li32, li33, li34, li35, li36, li37, li40, li42, li43, li45, li47, li48, li57, li59, li60, li61, li62, li64, li80, li91, li93, li97, li99, li100, li122, li182, li199, li255, li300, li380, li400, li999, li1000, li3640, li4100, li65536, li99999, ln1, ln2, ln3, ln100, ln100000, tLe, fLe, tLt, fLt, tEq, fEq, zLe_t, zLe_f, zLt_t, zLt_f, zEq_t, zEq_f, nzLe_t, nzLe_f, znLe_t, znLe_f, nzLt_t, nzLt_f, znLt_t, znLt_f, nzEq_t, nzEq_f, znEq_t, znEq_f, gotAll_ok hg]
        rfl
    | succ n =>
      obtain ⟨I1, L1, i1, i2, i3, i4⟩ := copyState_ok (I := I) (L := L) (a0 := 92) (a1 := 24) O (by decide) hC
      obtain ⟨J1, M1, q1, q2, q3, q4, q5⟩ := cYr_go (P := P) (e159 := fun I_26 L_26 a1_26 a2_26 a3_26 a4_26 a5_26 => (mX11_years_101 P f I_26 L_26 a1_26 a2_26 a3_26 a4_26 (a5_26 + 1))) (a1 := nI Y) (a3 := nI p) (a5 := nI k) O hz ps (show N < 1000 by omega) xf N 0 (A, g) x m I1 L1 (by unfold xf; omega) (by omega) hA hh hx (cS_congr (fun b h3 h4 => i3 b (by omega) (by omega)) C) i2 (fun u hu => by rw [i3 101 (by decide) (by decide)]; exact hg u hu) (by rw [i4 95 (by decide)]; exact h6)
      have fr : ∀ b, b < 92 ∨ 101 < b → J1 b = I b ∧ M1 b = L b := fun b hb => ⟨((q5 b hb).1).trans (i3 b (by omega) (by omega)), ((q5 b hb).2).trans (i4 b (by omega))⟩
      obtain ⟨J, M, r1, r2⟩ := cYs_go O hz ps hA hN hY hh hp f n (k + 1) (dYr S N (A, g) x m).1.1.2 (dYr S N (A, g) x m).1.2 (dYr S N (A, g) x m).2 J1 M1 (by omega) (by omega) q4 (cS_congr (fun b h3 h4 => (fr b (by omega)).1) C) (cA_congr (fr 24 (by omega)).1 (fr 26 (by omega)).1 (fr 25 (by omega)).2 hC) q2 q3
      refine ⟨J, M, ?_, fun b hb => ⟨((r2 b hb).1).trans (fr b hb).1, ((r2 b hb).2).trans (fr b hb).2⟩⟩
      rw [if_neg (fun z => absurd ((nLe (by omega) (by omega)).mp z) (by omega)), i1, Option.bind_some]
      change mX11_years_124 _ _ _ _ _ _ _ _ _ _ (nI 0) = _
      rw [q1, nI_1]
      exact r1
end

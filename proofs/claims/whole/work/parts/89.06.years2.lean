/-! years: the reference. -/
def fD (I J : Nat → Nat → Int32) : Prop := (∀ i, i ≠ 9 → i ≠ 11 → J 124 i = I 124 i) ∧ ∀ b, b ≠ 124 → b ≠ 128 → b ≠ 131 → b ≠ 132 → b ≠ 133 → b ≠ 160 → b ≠ 161 → J b = I b
theorem fD_refl (I : Nat → Nat → Int32) : fD I I := ⟨fun _ _ _ => rfl, fun _ _ _ _ _ _ _ _ => rfl⟩
theorem fD_trans {I J H : Nat → Nat → Int32} (h1 : fD I J) (h2 : fD J H) : fD I H := ⟨fun i hi hj => (h2.1 i hi hj).trans (h1.1 i hi hj), fun b q1 q2 q3 q4 q5 q6 q7 => (h2.2 b q1 q2 q3 q4 q5 q6 q7).trans (h1.2 b q1 q2 q3 q4 q5 q6 q7)⟩
theorem fD_f {I J : Nat → Nat → Int32} (F : fR I J) : fD I J := ⟨fun i hi _ => F.1 i hi, F.2⟩
theorem fD_11 (I : Nat → Nat → Int32) (v : Int32) : fD I (xu I 124 11 v) := ⟨fun i _ hi => xu_c hi, fun b h _ _ _ _ _ _ => xu_r h⟩
theorem rSn_fD {I J : Nat → Nat → Int32} {S : sT} (F : fD I J) (R : rSn I S) : rSn J S := by
  unfold rSn
  rw [F.2 125 (by decide) (by decide) (by decide) (by decide) (by decide) (by decide) (by decide), F.2 126 (by decide) (by decide) (by decide) (by decide) (by decide) (by decide) (by decide), F.2 127 (by decide) (by decide) (by decide) (by decide) (by decide) (by decide) (by decide), F.2 129 (by decide) (by decide) (by decide) (by decide) (by decide) (by decide) (by decide), F.2 130 (by decide) (by decide) (by decide) (by decide) (by decide) (by decide) (by decide)]
  exact ⟨fun i hi => (F.1 i (by omega) (by omega)).trans (R.1 i hi), R.2⟩
theorem aR_fD {I J : Nat → Nat → Int32} (F : fD I J) : aR I J := ⟨fun b i h1 _ h3 _ => by
  unfold fv at h1
  rw [F.2 b (by omega) (by omega) (by omega) (by omega) (by omega) (by omega) (by omega)], fun j _ => by rw [F.2 170 (by decide) (by decide) (by decide) (by decide) (by decide) (by decide) (by decide)]⟩
theorem sv_fD {I J H : Nat → Nat → Int32} (F : fD J H) (s : sv I J) : sv I H := fun r i h1 h2 => by
  rw [F.2 170 (by decide) (by decide) (by decide) (by decide) (by decide) (by decide) (by decide)]
  exact s r i h1 h2
section
variable {S : sT} {A : aT}
theorem rAn_11 {I : Nat → Nat → Int32} {v : Int32} (R : rAn I S A) : rAn (xu I 124 11 v) S A := by
  refine ⟨?_, ?_, fun q hq => ?_, fun c hc => ?_⟩
  · rw [xu_c (by decide)]; exact R.1
  · rw [xu_c (by decide)]; exact R.2.1
  · rw [xu_r (by decide)]; exact R.2.2.1 q hq
  · rw [xu_r (b := 131) (by decide), xu_r (b := 132) (by decide), xu_r (b := 133) (by decide)]; exact R.2.2.2 c hc
theorem drawsCoat_t {I I1 I2 : Nat → Nat → Int32} {c q x2 : Nat} (O : okS S) (hA : okA S A) (hh : A.2.2.1 < 1000) (hz : ¬ (sPa S = 0 ∨ sCe S = 0)) (R : rSn I S) (hc : c < sCe S) (hq : q < sPa S) (d1 : mX12_draws I (nI (sPa S)) = some (nI q, I1)) (d2 : mX12_draws I1 (nI (sCe S)) = some (nI c, I2)) (F1 : fD I I1) (F2 : fD I I2) (RA2 : rAn I2 S A) (h11 : I2 124 11 = nI x2) (h161 : I2 161 = I 161) (hb : A.2.2.2.testBit (thOf S c) = false) (hp : sCost S ≤ A.2.1 q) : ∃ J, mX12_drawsCoat I = some (nI 1, J) ∧ rAn J S (putA S A c q) ∧ J 124 11 = nI x2 ∧ fD I J ∧ J 161 = I 161 := by
  have o1 := O.1
  have R1 := rSn_fD F1 R
  have R2 := rSn_fD F2 R
  have cp := rCanPaint_ok O hA hc hq R2 RA2
  rw [hb, decide_eq_true hp] at cp
  obtain ⟨J1, p1, p2, p3, p4, -, p5, p6⟩ := rPut_ok (c := c) (q := q) O hA hh hc hq hp R2 RA2
  have hcost : J1 124 2 = nI (sCost S) := by rw [p3]; exact rSn_cost R2
  have F3 : fR I2 (xu J1 128 q (nI (A.2.1 q - sCost S))) := fR_of (fun b h1 h2 h3 h4 _ _ => p6 b h1 h2 h3 h4)
  refine ⟨xu J1 128 q (nI (A.2.1 q - sCost S)), ?_, p4, by rw [F3.1 11 (by decide)]; exact h11, fD_trans F2 (fD_f F3), by rw [p6 161 (by decide) (by decide) (by decide) (by decide)]; exact h161⟩
  unfold mX12_drawsCoat
  simp (disch := omega) only [↓reduceIte, Option.bind_some, Option.some.injEq, Prod.mk.injEq, and_self, and_true, true_and, eq_self, reduceCtorEq, not_false_eq_true, not_true_eq_false, or_true, true_or, or_false, false_or, bft, nAdd, nMul, nSub, nDiv, nRem, nAm1, nIx, nIn, bI_z, bI_o, ite_b1, ite_b0, zI_add, zI_sub, li0, li1, li2, li3, li4, li5, li6, li7, li8, li9, li10, li11, li12, li13, li14, li15, li16, li17, li18, li19, li20, li21, li22, li23, li24, li25, li26, li27, li28, li29, li30, li31, li32, li33, li34, li35, li36, li37, li40, li42, li43, li45, li47, li48, li57, li59, li60, li61, li62, li64, li80, li91, li93, li97, li99, li100, li122, li182, li199, li255, li300, li380, li400, li999, li1000, li3640, li4100, li65536, li99999, ln1, ln2, ln3, ln100, ln100000, tLe, fLe, tLt, fLt, tEq, fEq, zLe_t, zLe_f, zLt_t, zLt_f, zEq_t, zEq_f, nzLe_t, nzLe_f, znLe_t, znLe_f, nzLt_t, nzLt_f, znLt_t, znLt_f, nzEq_t, nzEq_f, znEq_t, znEq_f, rSn_pa R, rSn_ce R, d1, rSn_ce R1, d2, cp, p1, p2, hcost, Bool.not_false, Bool.and_self]
theorem drawsCoat_f {I I1 I2 : Nat → Nat → Int32} {c q x2 : Nat} (O : okS S) (hA : okA S A) (hz : ¬ (sPa S = 0 ∨ sCe S = 0)) (R : rSn I S) (hc : c < sCe S) (hq : q < sPa S) (d1 : mX12_draws I (nI (sPa S)) = some (nI q, I1)) (d2 : mX12_draws I1 (nI (sCe S)) = some (nI c, I2)) (F1 : fD I I1) (F2 : fD I I2) (RA2 : rAn I2 S A) (h11 : I2 124 11 = nI x2) (h161 : I2 161 = I 161) (hb : (!A.2.2.2.testBit (thOf S c) && decide (sCost S ≤ A.2.1 q)) = false) : ∃ J, mX12_drawsCoat I = some (nI 0, J) ∧ rAn J S A ∧ J 124 11 = nI x2 ∧ fD I J ∧ J 161 = I 161 := by
  have o1 := O.1
  have R1 := rSn_fD F1 R
  have R2 := rSn_fD F2 R
  have cp := rCanPaint_ok O hA hc hq R2 RA2
  rw [hb] at cp
  refine ⟨I2, ?_, RA2, h11, F2, h161⟩
  unfold mX12_drawsCoat
  simp (disch := omega) only [↓reduceIte, Option.bind_some, Option.some.injEq, Prod.mk.injEq, and_self, and_true, true_and, eq_self, reduceCtorEq, not_false_eq_true, not_true_eq_false, or_true, true_or, or_false, false_or, bft, nAdd, nMul, nSub, nDiv, nRem, nAm1, nIx, nIn, bI_z, bI_o, ite_b1, ite_b0, zI_add, zI_sub, li0, li1, li2, li3, li4, li5, li6, li7, li8, li9, li10, li11, li12, li13, li14, li15, li16, li17, li18, li19, li20, li21, li22, li23, li24, li25, li26, li27, li28, li29, li30, li31, li32, li33, li34, li35, li36, li37, li40, li42, li43, li45, li47, li48, li57, li59, li60, li61, li62, li64, li80, li91, li93, li97, li99, li100, li122, li182, li199, li255, li300, li380, li400, li999, li1000, li3640, li4100, li65536, li99999, ln1, ln2, ln3, ln100, ln100000, tLe, fLe, tLt, fLt, tEq, fEq, zLe_t, zLe_f, zLt_t, zLt_f, zEq_t, zEq_f, nzLe_t, nzLe_f, znLe_t, znLe_f, nzLt_t, nzLt_f, znLt_t, znLt_f, nzEq_t, nzEq_f, znEq_t, znEq_f, rSn_pa R, rSn_ce R, d1, rSn_ce R1, d2, cp]
theorem drawsCoat_ok {I : Nat → Nat → Int32} {x : Nat} (O : okS S) (hA : okA S A) (hh : A.2.2.1 < 1000) (hx : x < 2147483648) (R : rSn I S) (RA : rAn I S A) (h11 : I 124 11 = nI x) : ∃ J, mX12_drawsCoat I = some (nI (dCoat S A x).2, J) ∧ rAn J S (dCoat S A x).1.1 ∧ J 124 11 = nI (dCoat S A x).1.2 ∧ fD I J ∧ J 161 = I 161 := by
  have o1 := O.1
  by_cases hz : sPa S = 0 ∨ sCe S = 0
  · rw [dCoat_0 hz]
    refine ⟨I, ?_, RA, h11, fD_refl I, rfl⟩
    unfold mX12_drawsCoat
    by_cases h0 : sPa S = 0
    · simp (disch := omega) only [↓reduceIte, Option.bind_some, Option.some.injEq, Prod.mk.injEq, and_self, and_true, true_and, eq_self, reduceCtorEq, not_false_eq_true, not_true_eq_false, or_true, true_or, or_false, false_or, bft, nAdd, nMul, nSub, nDiv, nRem, nAm1, nIx, nIn, bI_z, bI_o, ite_b1, ite_b0, zI_add, zI_sub, li0, li1, li2, li3, li4, li5, li6, li7, li8, li9, li10, li11, li12, li13, li14, li15, li16, li17, li18, li19, li20, li21, li22, li23, li24, li25, li26, li27, li28, li29, li30, li31, li32, li33, li34, li35, li36, li37, li40, li42, li43, li45, li47, li48, li57, li59, li60, li61, li62, li64, li80, li91, li93, li97, li99, li100, li122, li182, li199, li255, li300, li380, li400, li999, li1000, li3640, li4100, li65536, li99999, ln1, ln2, ln3, ln100, ln100000, tLe, fLe, tLt, fLt, tEq, fEq, zLe_t, zLe_f, zLt_t, zLt_f, zEq_t, zEq_f, nzLe_t, nzLe_f, znLe_t, znLe_f, nzLt_t, nzLt_f, znLt_t, znLt_f, nzEq_t, nzEq_f, znEq_t, znEq_f, rSn_pa R]
    · simp (disch := omega) only [↓reduceIte, Option.bind_some, Option.some.injEq, Prod.mk.injEq, and_self, and_true, true_and, eq_self, reduceCtorEq, not_false_eq_true, not_true_eq_false, or_true, true_or, or_false, false_or, bft, nAdd, nMul, nSub, nDiv, nRem, nAm1, nIx, nIn, bI_z, bI_o, ite_b1, ite_b0, zI_add, zI_sub, li0, li1, li2, li3, li4, li5, li6, li7, li8, li9, li10, li11, li12, li13, li14, li15, li16, li17, li18, li19, li20, li21, li22, li23, li24, li25, li26, li27, li28, li29, li30, li31, li32, li33, li34, li35, li36, li37, li40, li42, li43, li45, li47, li48, li57, li59, li60, li61, li62, li64, li80, li91, li93, li97, li99, li100, li122, li182, li199, li255, li300, li380, li400, li999, li1000, li3640, li4100, li65536, li99999, ln1, ln2, ln3, ln100, ln100000, tLe, fLe, tLt, fLt, tEq, fEq, zLe_t, zLe_f, zLt_t, zLt_f, zEq_t, zEq_f, nzLe_t, nzLe_f, znLe_t, znLe_f, nzLt_t, nzLt_f, znLt_t, znLt_f, nzEq_t, nzEq_f, znEq_t, znEq_f, rSn_pa R, rSn_ce R]
  · have d1 := draws_ok (b := sPa S) hx h11 (by omega) (by omega)
    have d2 := draws_ok (I := xu I 124 11 (nI (nxX x))) (b := sCe S) (nxX_lt x) xu_s (by omega) (by omega)
    rw [dq_def] at d1
    rw [dx_def, dc_def] at d2
    generalize h2 : (!A.2.2.2.testBit (thOf S (dc S x)) && decide (sCost S ≤ A.2.1 (dq S x))) = v
    cases v with
    | true =>
      have e := dCoat_t (A := A) hz h2
      rw [Bool.and_eq_true, Bool.not_eq_true', decide_eq_true_eq] at h2
      have := drawsCoat_t (x2 := dx x) O hA hh hz R (dc_lt x hz) (dq_lt x hz) d1 d2 (fD_11 I _) (fD_trans (fD_11 I _) (fD_11 _ _)) (rAn_11 (rAn_11 RA)) xu_s (by rw [xu_r (by decide), xu_r (by decide)]) h2.1 h2.2
      rw [e]
      exact this
    | false =>
      have e := dCoat_f (A := A) hz h2
      have := drawsCoat_f (x2 := dx x) O hA hz R (dc_lt x hz) (dq_lt x hz) d1 d2 (fD_11 I _) (fD_trans (fD_11 I _) (fD_11 _ _)) (rAn_11 (rAn_11 RA)) xu_s (by rw [xu_r (by decide), xu_r (by decide)]) h2
      rw [e]
      exact this
theorem rYr_go {e109 : (Nat → Nat → Int32) → Int32 → Int32 → Int32 → Int32 → Int32 → Int32 → Option (Int32 × (Nat → Nat → Int32))} {a1 a3 a4 a7 : Int32} (O : okS S) {N : Nat} (hN : N < 1000) : ∀ (f n k : Nat) (B : aT × (Nat → Nat)) (x m : Nat) (I : Nat → Nat → Int32), n < f → n + k = N → okA S B.1 → B.1.2.2.1 + n < 990 → x < 2147483648 → rSn I S → rAn I S B.1 → gotR 161 I B.2 → I 124 11 = nI x → ∃ J, mX12_years_84 e109 f I a1 (nI N) a3 a4 (nI m) a7 (nI k) = e109 J a1 (nI N) a3 a4 (nI (dYr S n B x m).2) a7 ∧ gotR 161 J (dYr S n B x m).1.1.2 ∧ J 124 11 = nI (dYr S n B x m).1.2 ∧ (dYr S n B x m).1.2 < 2147483648 ∧ fD I J
  | 0, n, k, B, x, m, I, h1, _, _, _, _, _, _, _, _ => absurd h1 (by omega)
  | f + 1, n, k, B, x, m, I, h1, h2, hA, hh, hx, R, RA, hg, h11 => by
    rw [mX12_years_84]
    cases n with
    | zero =>
      refine ⟨I, ?_, hg, h11, hx, fD_refl I⟩
      simp (disch := omega) only [↓reduceIte, Option.bind_some, Option.some.injEq, Prod.mk.injEq, and_self, and_true, true_and, eq_self, reduceCtorEq, not_false_eq_true, not_true_eq_false, or_true, true_or, or_false, false_or, bft, nAdd, nMul, nSub, nDiv, nRem, nAm1, nIx, nIn, bI_z, bI_o, ite_b1, ite_b0, zI_add, zI_sub, li0, li1, li2, li3, li4, li5, li6, li7, li8, li9, li10, li11, li12, li13, li14, li15, li16, li17, li18, li19, li20, li21, li22, li23, li24, li25, li26, li27, li28, li29, li30, li31, li32, li33, li34, li35, li36, li37, li40, li42, li43, li45, li47, li48, li57, li59, li60, li61, li62, li64, li80, li91, li93, li97, li99, li100, li122, li182, li199, li255, li300, li380, li400, li999, li1000, li3640, li4100, li65536, li99999, ln1, ln2, ln3, ln100, ln100000, tLe, fLe, tLt, fLt, tEq, fEq, zLe_t, zLe_f, zLt_t, zLt_f, zEq_t, zEq_f, nzLe_t, nzLe_f, znLe_t, znLe_f, nzLt_t, nzLt_f, znLt_t, znLt_f, nzEq_t, nzEq_f, znEq_t, znEq_f]
      rfl
    | succ n =>
      obtain ⟨J1, p1, p2, p3, p4, p5⟩ := drawsCoat_ok O hA (by omega) hx R RA h11
      obtain ⟨c1, c2, c3⟩ := dCoat_ok O hA (by omega) hx
      obtain ⟨J2, q1, q2, q3, q4⟩ := rEnds_ok (g := B.2) O c1 (by omega) (rSn_fD p4 R) p2 (fun u hu => by rw [p5]; exact hg u hu)
      obtain ⟨d1, d2, d3⟩ := dHr_ok O hA (by omega) hx
      obtain ⟨J, r1, r2, r3, r4, r5⟩ := rYr_go (e109 := e109) (a1 := a1) (a3 := a3) (a4 := a4) (a7 := a7) O hN f n (k + 1) (dHr S B x).1.1 (dHr S B x).1.2 (m + (dHr S B x).2) J2 (by omega) (by omega) d1 (by omega) d3 (rSn_fD (fD_trans p4 (fD_f q4)) R) q2 q3 ((q4.1 11 (by decide)).trans p3)
      refine ⟨J, ?_, r2, r3, r4, fD_trans (fD_trans p4 (fD_f q4)) r5⟩
      simp (disch := omega) only [↓reduceIte, Option.bind_some, Option.some.injEq, Prod.mk.injEq, and_self, and_true, true_and, eq_self, reduceCtorEq, not_false_eq_true, not_true_eq_false, or_true, true_or, or_false, false_or, bft, nAdd, nMul, nSub, nDiv, nRem, nAm1, nIx, nIn, bI_z, bI_o, ite_b1, ite_b0, zI_add, zI_sub, li0, li1, li2, li3, li4, li5, li6, li7, li8, li9, li10, li11, li12, li13, li14, li15, li16, li17, li18, li19, li20, li21, li22, li23, li24, li25, li26, li27, li28, li29, li30, li31, li32, li33, li34, li35, li36, li37, li40, li42, li43, li45, li47, li48, li57, li59, li60, li61, li62, li64, li80, li91, li93, li97, li99, li100, li122, li182, li199, li255, li300, li380, li400, li999, li1000, li3640, li4100, li65536, li99999, ln1, ln2, ln3, ln100, ln100000, tLe, fLe, tLt, fLt, tEq, fEq, zLe_t, zLe_f, zLt_t, zLt_f, zEq_t, zEq_f, nzLe_t, nzLe_f, znLe_t, znLe_f, nzLt_t, nzLt_f, znLt_t, znLt_f, nzEq_t, nzEq_f, znEq_t, znEq_f, p1, q1]
      exact r1
theorem rYs_go {I0 : Nat → Nat → Int32} {e128 : (Nat → Nat → Int32) → Int32 → Int32 → Int32 → Option (Int32 × (Nat → Nat → Int32))} {a3 a4 : Int32} (O : okS S) (hA : okA S A) {N Y : Nat} (hN : N ≤ 100) (hY : Y < 1000) (hh : A.2.2.1 + N < 990) (R0 : rSn I0 S) (RA0 : rAn I0 S A) : ∀ (f n k : Nat) (g : Nat → Nat) (x m : Nat) (I : Nat → Nat → Int32), n < f → n + k = Y → x < 2147483648 → f5 I0 I → aR I0 I → sv I0 I → gotR 161 I g → ∃ H, mX12_years_66 e128 f I (nI Y) (nI N) a3 a4 (nI x) (nI m) (nI k) = e128 H a3 a4 (nI (dYs S A N n g x m).2) ∧ gotR 161 H (dYs S A N n g x m).1 ∧ f5 I0 H ∧ aR I0 H
  | 0, n, k, g, x, m, I, h1, _, _, _, _, _, _ => absurd h1 (by omega)
  | f + 1, n, k, g, x, m, I, h1, h2, hx, hf, ha, hs, hg => by
    rw [mX12_years_66]
    cases n with
    | zero =>
      refine ⟨I, ?_, hg, hf, ha⟩
      simp (disch := omega) only [↓reduceIte, Option.bind_some, Option.some.injEq, Prod.mk.injEq, and_self, and_true, true_and, eq_self, reduceCtorEq, not_false_eq_true, not_true_eq_false, or_true, true_or, or_false, false_or, bft, nAdd, nMul, nSub, nDiv, nRem, nAm1, nIx, nIn, bI_z, bI_o, ite_b1, ite_b0, zI_add, zI_sub, li0, li1, li2, li3, li4, li5, li6, li7, li8, li9, li10, li11, li12, li13, li14, li15, li16, li17, li18, li19, li20, li21, li22, li23, li24, li25, li26, li27, li28, li29, li30, li31, li32, li33, li34, li35, li36, li37, li40, li42, li43, li45, li47, li48, li57, li59, li60, li61, li62, li64, li80, li91, li93, li97, li99, li100, li122, li182, li199, li255, li300, li380, li400, li999, li1000, li3640, li4100, li65536, li99999, ln1, ln2, ln3, ln100, ln100000, tLe, fLe, tLt, fLt, tEq, fEq, zLe_t, zLe_f, zLt_t, zLt_f, zEq_t, zEq_f, nzLe_t, nzLe_f, znLe_t, znLe_f, nzLt_t, nzLt_f, znLt_t, znLt_f, nzEq_t, nzEq_f, znEq_t, znEq_f]
      rfl
    | succ n =>
      have R1 : rSn I S := rS_congr O (fun i hi => hf 124 i (Or.inl rfl) (show i < 13 by omega)) (fun i _ => ha.1 125 i (by unfold fv; decide) (by decide) (by decide) (Or.inl (by decide))) (fun i _ => ha.1 126 i (by unfold fv; decide) (by decide) (by decide) (Or.inl (by decide))) (fun i _ => ha.1 127 i (by unfold fv; decide) (by decide) (by decide) (Or.inl (by decide))) (fun i _ => ha.1 129 i (by unfold fv; decide) (by decide) (by decide) (Or.inl (by decide))) (fun i _ => ha.1 130 i (by unfold fv; decide) (by decide) (by decide) (Or.inl (by decide))) R0
      have RA1 : rAn I S A := rA_congr O hA (hf 124 8 (by unfold fv; decide) (show 8 < 13 by decide)) (hf 124 9 (by unfold fv; decide) (show 9 < 13 by decide)) (fun i hi => hf 128 i (by unfold fv; decide) hi) (fun i hi => hf 131 i (by unfold fv; decide) hi) (fun i hi => hf 132 i (by unfold fv; decide) hi) (fun i hi => hf 133 i (by unfold fv; decide) hi) RA0
      have F1 := fD_11 I (nI x)
      obtain ⟨J, p1, p2, p3, p4, p5⟩ := rYr_go (e109 := fun I_21 a1_21 a2_21 a3_21 a4_21 a6_21 a7_21 => (Option.bind (mX12_laysBack I_21) (fun q22 => (mX12_years_66 e128 f q22 a1_21 a2_21 a3_21 a4_21 (I_21 124 11) a6_21 (a7_21 + 1))))) (a1 := nI Y) (a3 := a3) (a4 := a4) (a7 := nI k) O (show N < 1000 by omega) xf N 0 (A, g) x m (xu I 124 11 (nI x)) (by unfold xf; omega) (by omega) hA hh hx (rSn_fD F1 R1) (rAn_11 RA1) (fun u hu => by rw [xu_r (by decide)]; exact hg u hu) xu_s
      have F2 := fD_trans F1 p5
      obtain ⟨H1, l1, l2, l3, l4⟩ := laysBack_ok (sv_fD F2 hs)
      have s1 : sv I0 H1 := fun r i q1 q2 => (l4 170 _ (by unfold fv; decide) (Or.inl (by decide))).trans (sv_fD F2 hs r i q1 q2)
      obtain ⟨H, r1, r2, r3, r4⟩ := rYs_go (e128 := e128) (a3 := a3) (a4 := a4) O hA hN hY hh R0 RA0 f n (k + 1) (dYr S N (A, g) x m).1.1.2 (dYr S N (A, g) x m).1.2 (dYr S N (A, g) x m).2 H1 (by omega) (by omega) p4 l2 (aR_trans (aR_trans ha (aR_fD F2)) l3) s1 (fun u hu => (l4 161 u (by unfold fv; decide) (Or.inl (by decide))).trans (p2 u hu))
      refine ⟨H, ?_, r2, r3, r4⟩
      rw [if_neg (fun z => absurd ((nLe (by omega) (by omega)).mp z) (by omega))]
      change mX12_years_84 _ _ _ _ _ _ _ _ _ (nI 0) = _
      rw [p1, l1, Option.bind_some, p3, nI_1]
      exact r1
theorem payF_none {own : Nat → Int} : ∀ (n t : Nat) (p g : Nat → Nat), (∀ u, t ≤ u → u < t + n → own u = -1) → payF S own n t p g = (p, g)
  | 0, _, _, _, _ => rfl
  | n + 1, t, p, g, h => by
    rw [payF_no (h t (by omega) (by omega))]
    exact payF_none n (t + 1) p g (fun u h1 h2 => h u (by omega) (by omega))
theorem endsA_0 (O : okS S) (hA : okA S A) (hz : sPa S = 0 ∨ sCe S = 0) (g : Nat → Nat) : (endsA S A g).2 = g := by
  unfold endsA
  split
  · rw [payF_none]
    intro t _ ht
    have ht2 : t < sTh S := by omega
    rcases hz with h | h
    · rcases ownT_rng O (okA_dry hA) ht2 (sPart S) with e | ⟨q, hq, -⟩
      · exact e
      · omega
    · have := (O.2.1.2.2 t ht2)
      omega
  · rfl
theorem dYr_0 (O : okS S) (hz : sPa S = 0 ∨ sCe S = 0) : ∀ (n : Nat) (B : aT × (Nat → Nat)) (x m : Nat), okA S B.1 → (dYr S n B x m).1.1.2 = B.2 ∧ (dYr S n B x m).1.2 = x ∧ (dYr S n B x m).2 = m
  | 0, _, _, _, _ => ⟨rfl, rfl, rfl⟩
  | n + 1, B, x, m, hA => by
    have e : dHr S B x = ((endsA S B.1 B.2, x), 0) := by unfold dHr; rw [dCoat_0 hz]
    rw [dYr, e]
    have := dYr_0 O hz n (endsA S B.1 B.2) x (m + 0) (okA_ends hA _)
    rw [endsA_0 O hA hz] at this
    exact this
theorem dYs_0 (O : okS S) (hA : okA S A) (hz : sPa S = 0 ∨ sCe S = 0) (N : Nat) : ∀ (n : Nat) (g : Nat → Nat) (x m : Nat), dYs S A N n g x m = (g, m)
  | 0, _, _, _ => rfl
  | n + 1, g, x, m => by
    obtain ⟨h1, h2, h3⟩ := dYr_0 O hz N (A, g) x m hA
    rw [dYs, h1, h2, h3]
    exact dYs_0 O hA hz N n g x m
end
theorem rYsum {I : Nat → Nat → Int32} {g : Nat → Nat} {p m : Nat} (hp : p ≤ 1) (hg : gotR 161 I g) : mX12_years_143 xf I (nI p) (nI m) (nI 0) (nI 0) = some (if p = 0 then nI m else nI (sum4 g), I) := by
  rw [xf_s, mX12_years_143, mX12_years_143, mX12_years_143, mX12_years_143, mX12_years_143]
  rcases (show p = 0 ∨ p = 1 by omega) with rfl | rfl
  · simp (disch := omega) only [↓reduceIte, Option.bind_some, Option.some.injEq, Prod.mk.injEq, and_self, and_true, true_and, eq_self, reduceCtorEq, not_false_eq_true, not_true_eq_false, or_true, true_or, or_false, false_or, bft, nAdd, nMul, nSub, nDiv, nRem, nAm1, nIx, nIn, bI_z, bI_o, ite_b1, ite_b0, zI_add, zI_sub, li0, li1, li2, li3, li4, li5, li6, li7, li8, li9, li10, li11, li12, li13, li14, li15, li16, li17, li18, li19, li20, li21, li22, li23, li24, li25, li26, li27, li28, li29, li30, li31, li32, li33, li34, li35, li36, li37, li40, li42, li43, li45, li47, li48, li57, li59, li60, li61, li62, li64, li80, li91, li93, li97, li99, li100, li122, li182, li199, li255, li300, li380, li400, li999, li1000, li3640, li4100, li65536, li99999, ln1, ln2, ln3, ln100, ln100000, tLe, fLe, tLt, fLt, tEq, fEq, zLe_t, zLe_f, zLt_t, zLt_f, zEq_t, zEq_f, nzLe_t, nzLe_f, znLe_t, znLe_f, nzLt_t, nzLt_f, znLt_t, znLt_f, nzEq_t, nzEq_f, znEq_t, znEq_f]
  · simp (disch := omega) only [↓reduceIte, Option.bind_some, Option.some.injEq, Prod.mk.injEq, and_self, and_true, true_and, eq_self, reduceCtorEq, not_false_eq_true, not_true_eq_false, or_true, true_or, or_false, false_or, bft, nAdd, nMul, nSub, nDiv, nRem, nAm1, nIx, nIn, bI_z, bI_o, ite_b1, ite_b0, zI_add, zI_sub, li0, li1, li2, li3, li4, li5, li6, li7, li8, li9, li10, li11, li12, li13, li14, li15, li16, li17, li18, li19, li20, li21, li22, li23, li24, li25, li26, li27, li28, li29, li30, li31, li32, li33, li34, li35, li36, li37, li40, li42, li43, li45, li47, li48, li57, li59, li60, li61, li62, li64, li80, li91, li93, li97, li99, li100, li122, li182, li199, li255, li300, li380, li400, li999, li1000, li3640, li4100, li65536, li99999, ln1, ln2, ln3, ln100, ln100000, tLe, fLe, tLt, fLt, tEq, fEq, zLe_t, zLe_f, zLt_t, zLt_f, zEq_t, zEq_f, nzLe_t, nzLe_f, znLe_t, znLe_f, nzLt_t, nzLt_f, znLt_t, znLt_f, nzEq_t, nzEq_f, znEq_t, znEq_f, hg 0 (by decide), hg 1 (by decide), hg 2 (by decide), hg 3 (by decide), Nat.zero_add]
    rfl
theorem q_years {k : Nat} (hk : k < 512) : st_years (Inv k) (Inv (k + 1)) := by
  intro h x y w hI
  obtain ⟨n, K, P, I, L⟩ := h
  obtain ⟨⟨G, F⟩, Z, ok, C, R⟩ := id hI
  change RI I Z at R
  have O := okZ_S ok
  have o1 := O.1
  have hA := okZ_A ok
  have hh := okZ_h ok
  have cs := CI_S C
  have ca := CI_A C
  have rs := RI_S R
  have ra := RI_A R
  generalize hS : wS (zW Z) = S at O o1 hA cs ca rs ra
  generalize hAA : wA (zW Z) = A at hA hh ca ra
  have pl := CI_p C
  have hf := ok.1.2.2.2.2.2.2
  have hrl := ok.2.2.1
  have hX := CI_ruX C
  have hro : ∀ J, J 124 12 = I 124 12 → (∀ b, 150 ≤ b → b ≤ 156 → J b = I b) → rRo J (ruF (zR Z) (wF (zW Z))) := fun J h1 h2 => rRo_of hrl.1 hrl.2 (h1.trans R.1.2.2.2.2.2.2) (fun r ru hr => rR_congr (fun b h3 h4 => h2 b (by omega) h4) (R.2.2.1.2 r ru hr)) hf.1 hf.2
  have no : mX11_years P I L x y w = some (-1, I, L) → mX12_years I x y w = some (-1, I) → ∃ r h1 h2, oX_years (n, K, P, I, L) x y w = some (r, h1) ∧ GW h1.2.1 h1.2.2.1 ∧ oM_years h1 x y w = some (r, h2) ∧ Inv (k + 1) h2 := fun a b => ⟨-1, (n, K, P, I, L), (n, K, P, I, L), by unfold oX_years; simp only [a]; rfl, G, by unfold oM_years; simp only [b]; rfl, Inv_q hI (fun _ _ => rfl)⟩
  have es := rIsStreet_ok rs O
  have w1 := isWn w 0 1
  have w2 := rInW (lo := 0) (hi := 1) (by decide) (by decide) w
  change mX12_in w.toInt64 (0 : Int64) (1 : Int64) = _ at w2
  have x1 := isWn x 1 10
  have x2 := rInW (lo := 1) (hi := 10) (by decide) (by decide) x
  change mX12_in x.toInt64 (1 : Int64) (10 : Int64) = _ at x2
  have y1 := isWn y 1 100
  have y2 := rInW (lo := 1) (hi := 100) (by decide) (by decide) y
  change mX12_in y.toInt64 (1 : Int64) (100 : Int64) = _ at y2
  by_cases hd : 0 < sDry S
  · rw [decide_eq_true hd] at es
    rcases wiC (lo := 1) (hi := 10) (by decide) (by decide) x with hx | ⟨Y, hY1, hY, rfl⟩
    · refine no ?_ ?_
      · unfold mX11_years
        simp (disch := omega) only [↓reduceIte, Option.bind_some, Option.some.injEq, Prod.mk.injEq, and_self, and_true, true_and, eq_self, reduceCtorEq, not_false_eq_true, not_true_eq_false, or_true, true_or, or_false, false_or, bft, nAdd, nMul, nSub, nDiv, nRem, nAm1, nIx, nIn, bI_z, bI_o, ite_b1, ite_b0, zI_add, zI_sub, li0, li1, li2, li3, li4, li5, li6, li7, li8, li9, li10, li11, li12, li13, li14, li15, li16, li17, li18, li19, li20, li21, li22, li23, li24, li25, li26, li27, li28, li29, li30, li31, li32, li33, li34, li35, li36, li37, li40, li42, li43, li45, li47, li48, li57, li59, li60, li61, li62, li64, li80, li91, li93, li97, li99, li100, li122, li182, li199, li255, li300, li380, li400, li999, li1000, li3640, li4100, li65536, li99999, ln1, ln2, ln3, ln100, ln100000, tLe, fLe, tLt, fLt, tEq, fEq, zLe_t, zLe_f, zLt_t, zLt_f, zEq_t, zEq_f, nzLe_t, nzLe_f, znLe_t, znLe_f, nzLt_t, nzLt_f, znLt_t, znLt_f, nzEq_t, nzEq_f, znEq_t, znEq_f, cS_told cs, decide_eq_true hd, w1, x1, hx]
        try (split <;> rfl)
      · unfold mX12_years; simp (disch := omega) only [↓reduceIte, Option.bind_some, Option.some.injEq, Prod.mk.injEq, and_self, and_true, true_and, eq_self, reduceCtorEq, not_false_eq_true, not_true_eq_false, or_true, true_or, or_false, false_or, bft, nAdd, nMul, nSub, nDiv, nRem, nAm1, nIx, nIn, bI_z, bI_o, ite_b1, ite_b0, zI_add, zI_sub, li0, li1, li2, li3, li4, li5, li6, li7, li8, li9, li10, li11, li12, li13, li14, li15, li16, li17, li18, li19, li20, li21, li22, li23, li24, li25, li26, li27, li28, li29, li30, li31, li32, li33, li34, li35, li36, li37, li40, li42, li43, li45, li47, li48, li57, li59, li60, li61, li62, li64, li80, li91, li93, li97, li99, li100, li122, li182, li199, li255, li300, li380, li400, li999, li1000, li3640, li4100, li65536, li99999, ln1, ln2, ln3, ln100, ln100000, tLe, fLe, tLt, fLt, tEq, fEq, zLe_t, zLe_f, zLt_t, zLt_f, zEq_t, zEq_f, nzLe_t, nzLe_f, znLe_t, znLe_f, nzLt_t, nzLt_f, znLt_t, znLt_f, nzEq_t, nzEq_f, znEq_t, znEq_f, es, x2, hx]
    rw [wiB_t hY1 hY (by omega)] at x1 x2
    rcases wiC (lo := 1) (hi := 100) (by decide) (by decide) y with hy | ⟨N, hN1, hN, rfl⟩
    · refine no ?_ ?_
      · unfold mX11_years
        simp (disch := omega) only [↓reduceIte, Option.bind_some, Option.some.injEq, Prod.mk.injEq, and_self, and_true, true_and, eq_self, reduceCtorEq, not_false_eq_true, not_true_eq_false, or_true, true_or, or_false, false_or, bft, nAdd, nMul, nSub, nDiv, nRem, nAm1, nIx, nIn, bI_z, bI_o, ite_b1, ite_b0, zI_add, zI_sub, li0, li1, li2, li3, li4, li5, li6, li7, li8, li9, li10, li11, li12, li13, li14, li15, li16, li17, li18, li19, li20, li21, li22, li23, li24, li25, li26, li27, li28, li29, li30, li31, li32, li33, li34, li35, li36, li37, li40, li42, li43, li45, li47, li48, li57, li59, li60, li61, li62, li64, li80, li91, li93, li97, li99, li100, li122, li182, li199, li255, li300, li380, li400, li999, li1000, li3640, li4100, li65536, li99999, ln1, ln2, ln3, ln100, ln100000, tLe, fLe, tLt, fLt, tEq, fEq, zLe_t, zLe_f, zLt_t, zLt_f, zEq_t, zEq_f, nzLe_t, nzLe_f, znLe_t, znLe_f, nzLt_t, nzLt_f, znLt_t, znLt_f, nzEq_t, nzEq_f, znEq_t, znEq_f, cS_told cs, decide_eq_true hd, w1, x1, y1, hy]
        try (split <;> rfl)
      · unfold mX12_years; simp (disch := omega) only [↓reduceIte, Option.bind_some, Option.some.injEq, Prod.mk.injEq, and_self, and_true, true_and, eq_self, reduceCtorEq, not_false_eq_true, not_true_eq_false, or_true, true_or, or_false, false_or, bft, nAdd, nMul, nSub, nDiv, nRem, nAm1, nIx, nIn, bI_z, bI_o, ite_b1, ite_b0, zI_add, zI_sub, li0, li1, li2, li3, li4, li5, li6, li7, li8, li9, li10, li11, li12, li13, li14, li15, li16, li17, li18, li19, li20, li21, li22, li23, li24, li25, li26, li27, li28, li29, li30, li31, li32, li33, li34, li35, li36, li37, li40, li42, li43, li45, li47, li48, li57, li59, li60, li61, li62, li64, li80, li91, li93, li97, li99, li100, li122, li182, li199, li255, li300, li380, li400, li999, li1000, li3640, li4100, li65536, li99999, ln1, ln2, ln3, ln100, ln100000, tLe, fLe, tLt, fLt, tEq, fEq, zLe_t, zLe_f, zLt_t, zLt_f, zEq_t, zEq_f, nzLe_t, nzLe_f, znLe_t, znLe_f, nzLt_t, nzLt_f, znLt_t, znLt_f, nzEq_t, nzEq_f, znEq_t, znEq_f, es, x2, y2, hy]
    rw [wiB_t hN1 hN (by omega)] at y1 y2
    rcases wiC (lo := 0) (hi := 1) (by decide) (by decide) w with hw | ⟨p, -, hp, rfl⟩
    · refine no ?_ ?_
      · unfold mX11_years; simp (disch := omega) only [↓reduceIte, Option.bind_some, Option.some.injEq, Prod.mk.injEq, and_self, and_true, true_and, eq_self, reduceCtorEq, not_false_eq_true, not_true_eq_false, or_true, true_or, or_false, false_or, bft, nAdd, nMul, nSub, nDiv, nRem, nAm1, nIx, nIn, bI_z, bI_o, ite_b1, ite_b0, zI_add, zI_sub, li0, li1, li2, li3, li4, li5, li6, li7, li8, li9, li10, li11, li12, li13, li14, li15, li16, li17, li18, li19, li20, li21, li22, li23, li24, li25, li26, li27, li28, li29, li30, li31, li32, li33, li34, li35, li36, li37, li40, li42, li43, li45, li47, li48, li57, li59, li60, li61, li62, li64, li80, li91, li93, li97, li99, li100, li122, li182, li199, li255, li300, li380, li400, li999, li1000, li3640, li4100, li65536, li99999, ln1, ln2, ln3, ln100, ln100000, tLe, fLe, tLt, fLt, tEq, fEq, zLe_t, zLe_f, zLt_t, zLt_f, zEq_t, zEq_f, nzLe_t, nzLe_f, znLe_t, znLe_f, nzLt_t, nzLt_f, znLt_t, znLt_f, nzEq_t, nzEq_f, znEq_t, znEq_f, cS_told cs, decide_eq_true hd, w1, hw]
      · unfold mX12_years; simp (disch := omega) only [↓reduceIte, Option.bind_some, Option.some.injEq, Prod.mk.injEq, and_self, and_true, true_and, eq_self, reduceCtorEq, not_false_eq_true, not_true_eq_false, or_true, true_or, or_false, false_or, bft, nAdd, nMul, nSub, nDiv, nRem, nAm1, nIx, nIn, bI_z, bI_o, ite_b1, ite_b0, zI_add, zI_sub, li0, li1, li2, li3, li4, li5, li6, li7, li8, li9, li10, li11, li12, li13, li14, li15, li16, li17, li18, li19, li20, li21, li22, li23, li24, li25, li26, li27, li28, li29, li30, li31, li32, li33, li34, li35, li36, li37, li40, li42, li43, li45, li47, li48, li57, li59, li60, li61, li62, li64, li80, li91, li93, li97, li99, li100, li122, li182, li199, li255, li300, li380, li400, li999, li1000, li3640, li4100, li65536, li99999, ln1, ln2, ln3, ln100, ln100000, tLe, fLe, tLt, fLt, tEq, fEq, zLe_t, zLe_f, zLt_t, zLt_f, zEq_t, zEq_f, nzLe_t, nzLe_f, znLe_t, znLe_f, nzLt_t, nzLt_f, znLt_t, znLt_f, nzEq_t, nzEq_f, znEq_t, znEq_f, es, x2, y2, w2, hw]
    rw [wiB_t (by omega) hp (by omega)] at w1 w2
    have xb := ok.1.2.2.2.2.2.1
    have c8 : I 12 8 = nI (wX (zW Z)) := C.1.1.2.2.2.2.1
    generalize hxx : wX (zW Z) = xx at xb c8
    -- the class
    have cl : ∃ J M, mX11_years P I L (nI Y) (nI N) (nI p) = some (if p = 0 then nI (dYs S A N Y (fun _ => 0) xx 0).2 else nI (sum4 (dYs S A N Y (fun _ => 0) xx 0).1), J, M) ∧ ∀ b, b < 92 ∨ 122 < b → J b = I b ∧ M b = L b := by
      by_cases hz : sPa S = 0 ∨ sCe S = 0
      · refine ⟨I, L, ?_, fun _ _ => ⟨rfl, rfl⟩⟩
        rw [dYs_0 O hA hz]
        unfold mX11_years
        rcases (show p = 0 ∨ p = 1 by omega) with rfl | rfl
        · by_cases h0 : sPa S = 0
          · simp (disch := omega) only [↓reduceIte, Option.bind_some, Option.some.injEq, Prod.mk.injEq, and_self, and_true, true_and, eq_self, reduceCtorEq, not_false_eq_true, not_true_eq_false, or_true, true_or, or_false, false_or, bft, nAdd, nMul, nSub, nDiv, nRem, nAm1, nIx, nIn, bI_z, bI_o, ite_b1, ite_b0, zI_add, zI_sub, li0, li1, li2, li3, li4, li5, li6, li7, li8, li9, li10, li11, li12, li13, li14, li15, li16, li17, li18, li19, li20, li21, li22, li23, li24, li25, li26, li27, li28, li29, li30, li31, li32, li33, li34, li35, li36, li37, li40, li42, li43, li45, li47, li48, li57, li59, li60, li61, li62, li64, li80, li91, li93, li97, li99, li100, li122, li182, li199, li255, li300, li380, li400, li999, li1000, li3640, li4100, li65536, li99999, ln1, ln2, ln3, ln100, ln100000, tLe, fLe, tLt, fLt, tEq, fEq, zLe_t, zLe_f, zLt_t, zLt_f, zEq_t, zEq_f, nzLe_t, nzLe_f, znLe_t, znLe_f, nzLt_t, nzLt_f, znLt_t, znLt_f, nzEq_t, nzEq_f, znEq_t, znEq_f, cS_told cs, decide_eq_true hd, w1, x1, y1, cS_npa cs]
          · simp (disch := omega) only [↓reduceIte, Option.bind_some, Option.some.injEq, Prod.mk.injEq, and_self, and_true, true_and, eq_self, reduceCtorEq, not_false_eq_true, not_true_eq_false, or_true, true_or, or_false, false_or, bft, nAdd, nMul, nSub, nDiv, nRem, nAm1, nIx, nIn, bI_z, bI_o, ite_b1, ite_b0, zI_add, zI_sub, li0, li1, li2, li3, li4, li5, li6, li7, li8, li9, li10, li11, li12, li13, li14, li15, li16, li17, li18, li19, li20, li21, li22, li23, li24, li25, li26, li27, li28, li29, li30, li31, li32, li33, li34, li35, li36, li37, li40, li42, li43, li45, li47, li48, li57, li59, li60, li61, li62, li64, li80, li91, li93, li97, li99, li100, li122, li182, li199, li255, li300, li380, li400, li999, li1000, li3640, li4100, li65536, li99999, ln1, ln2, ln3, ln100, ln100000, tLe, fLe, tLt, fLt, tEq, fEq, zLe_t, zLe_f, zLt_t, zLt_f, zEq_t, zEq_f, nzLe_t, nzLe_f, znLe_t, znLe_f, nzLt_t, nzLt_f, znLt_t, znLt_f, nzEq_t, nzEq_f, znEq_t, znEq_f, cS_told cs, decide_eq_true hd, w1, x1, y1, cS_npa cs, cS_nce cs]
        · by_cases h0 : sPa S = 0
          · simp (disch := omega) only [↓reduceIte, Option.bind_some, Option.some.injEq, Prod.mk.injEq, and_self, and_true, true_and, eq_self, reduceCtorEq, not_false_eq_true, not_true_eq_false, or_true, true_or, or_false, false_or, bft, nAdd, nMul, nSub, nDiv, nRem, nAm1, nIx, nIn, bI_z, bI_o, ite_b1, ite_b0, zI_add, zI_sub, li0, li1, li2, li3, li4, li5, li6, li7, li8, li9, li10, li11, li12, li13, li14, li15, li16, li17, li18, li19, li20, li21, li22, li23, li24, li25, li26, li27, li28, li29, li30, li31, li32, li33, li34, li35, li36, li37, li40, li42, li43, li45, li47, li48, li57, li59, li60, li61, li62, li64, li80, li91, li93, li97, li99, li100, li122, li182, li199, li255, li300, li380, li400, li999, li1000, li3640, li4100, li65536, li99999, ln1, ln2, ln3, ln100, ln100000, tLe, fLe, tLt, fLt, tEq, fEq, zLe_t, zLe_f, zLt_t, zLt_f, zEq_t, zEq_f, nzLe_t, nzLe_f, znLe_t, znLe_f, nzLt_t, nzLt_f, znLt_t, znLt_f, nzEq_t, nzEq_f, znEq_t, znEq_f, cS_told cs, decide_eq_true hd, w1, x1, y1, cS_npa cs]; rfl
          · simp (disch := omega) only [↓reduceIte, Option.bind_some, Option.some.injEq, Prod.mk.injEq, and_self, and_true, true_and, eq_self, reduceCtorEq, not_false_eq_true, not_true_eq_false, or_true, true_or, or_false, false_or, bft, nAdd, nMul, nSub, nDiv, nRem, nAm1, nIx, nIn, bI_z, bI_o, ite_b1, ite_b0, zI_add, zI_sub, li0, li1, li2, li3, li4, li5, li6, li7, li8, li9, li10, li11, li12, li13, li14, li15, li16, li17, li18, li19, li20, li21, li22, li23, li24, li25, li26, li27, li28, li29, li30, li31, li32, li33, li34, li35, li36, li37, li40, li42, li43, li45, li47, li48, li57, li59, li60, li61, li62, li64, li80, li91, li93, li97, li99, li100, li122, li182, li199, li255, li300, li380, li400, li999, li1000, li3640, li4100, li65536, li99999, ln1, ln2, ln3, ln100, ln100000, tLe, fLe, tLt, fLt, tEq, fEq, zLe_t, zLe_f, zLt_t, zLt_f, zEq_t, zEq_f, nzLe_t, nzLe_f, znLe_t, znLe_f, nzLt_t, nzLt_f, znLt_t, znLt_f, nzEq_t, nzEq_f, znEq_t, znEq_f, cS_told cs, decide_eq_true hd, w1, x1, y1, cS_npa cs, cS_nce cs]; rfl
      · obtain ⟨I1, i1, i2, i3⟩ := forget_ok I
        obtain ⟨J, M, t1, t2⟩ := cYs_go (P := P) (A := A) (p := p) O hz pl hA hN (show Y < 1000 by omega) (by omega) hp xf Y 0 (fun _ => 0) xx 0 I1 (xu L 95 6 (lN xx)) (by unfold xf; omega) (by omega) xb (cS_congr (fun b h1 h2 => i3 b (by omega)) cs) (cA_congr (i3 24 (by decide)) (i3 26 (by decide)) (xu_r (by decide)) ca) i2 xu_s
        refine ⟨J, M, ?_, fun b hb => ⟨((t2 b (by omega)).1).trans (i3 b (by omega)), ((t2 b (by omega)).2).trans (xu_r (by omega))⟩⟩
        have c9 : I1 12 8 = nI xx := by rw [i3 12 (by decide)]; exact c8
        rw [← t1]
        unfold mX11_years
        simp (disch := omega) only [↓reduceIte, Option.bind_some, Option.some.injEq, Prod.mk.injEq, and_self, and_true, true_and, eq_self, reduceCtorEq, not_false_eq_true, not_true_eq_false, or_true, true_or, or_false, false_or, bft, nAdd, nMul, nSub, nDiv, nRem, nAm1, nIx, nIn, bI_z, bI_o, ite_b1, ite_b0, zI_add, zI_sub, li0, li1, li2, li3, li4, li5, li6, li7, li8, li9, li10, li11, li12, li13, li14, li15, li16, li17, li18, li19, li20, li21, li22, li23, li24, li25, li26, li27, li28, li29, li30, li31, li32, li33, li34, li35, li36, li37, li40, li42, li43, li45, li47, li48, li57, li59, li60, li61, li62, li64, li80, li91, li93, li97, li99, li100, li122, li182, li199, li255, li300, li380, li400, li999, li1000, li3640, li4100, li65536, li99999, ln1, ln2, ln3, ln100, ln100000, tLe, fLe, tLt, fLt, tEq, fEq, zLe_t, zLe_f, zLt_t, zLt_f, zEq_t, zEq_f, nzLe_t, nzLe_f, znLe_t, znLe_f, nzLt_t, nzLt_f, znLt_t, znLt_f, nzEq_t, nzEq_f, znEq_t, znEq_f, cS_told cs, decide_eq_true hd, w1, x1, y1, cS_npa cs, cS_nce cs, i1, mX2_beginDraws, c9, nI_l]
    obtain ⟨J, M, t1, hJ⟩ := cl
    have R0 : RI J Z := RI_cls ok (fun b h1 h2 => (hJ b (by omega)).1) R
    have rsJ : rSn J S := by rw [← hS]; exact R0.1.1
    have raJ : rAn J S A := by rw [← hS, ← hAA]; exact R0.1.2.1
    have es3 := rIsStreet_ok rsJ O
    rw [decide_eq_true hd] at es3
    have h11 : J 124 11 = nI xx := by rw [← hxx]; exact R0.1.2.2.2.2.2.1
    obtain ⟨H0, k1, k2, k3, k4, k5⟩ := keepsAll_ok J
    have k6 : f5 J H0 := fun r i h1 h2 => k5 r i (by unfold fv at h1; omega) (by unfold fv at h1; omega) (Or.inl (by unfold fv at h1; omega))
    obtain ⟨H, u1, u2, u3, u4⟩ := rYs_go (e128 := fun I_24 a3_24 a4_24 a6_24 => (mX12_years_143 xf (xu I_24 124 11 a4_24) a3_24 a6_24 (0 : Int32) (0 : Int32))) (a3 := nI p) (a4 := nI xx) (I0 := J) O hA hN (show Y < 1000 by omega) (by omega) rsJ raJ xf Y 0 (fun _ => 0) xx 0 H0 (by unfold xf; omega) (by omega) xb k6 k4 k2 k3
    have sm := rYsum (I := xu H 124 11 (nI xx)) (m := (dYs S A N Y (fun _ => 0) xx 0).2) hp (fun q hq => by rw [xu_r (by decide)]; exact u2 q hq)
    refine ⟨_, (n, K, P, J, M), (n, K, P, xu H 124 11 (nI xx), M), by unfold oX_years; simp only [t1]; rfl, G, ?_, ?_⟩
    · unfold oM_years mX12_years
      simp only [es3, x2, y2, w2, k1, Option.bind_some, h11]
      rw [if_neg (by decide), if_neg (by decide), if_neg (by decide), if_neg (by decide)]
      change Option.map _ (mX12_years_66 _ xf H0 (nI Y) (nI N) (nI p) (nI xx) (nI xx) (nI 0) (nI 0)) = _
      rw [u1]
      change Option.map _ (mX12_years_143 xf (xu H 124 11 (nI xx)) (nI p) _ (nI 0) (nI 0)) = _
      rw [sm]
      rfl
    · refine Inv_asked G F ok C R hJ (aR_trans u4 (aR_fD (fD_11 H (nI xx)))) (fun r i h1 h2 => ?_) (fun _ _ _ => rfl)
      by_cases q : r = 124 ∧ i = 11
      · rw [q.1, q.2, xu_s, h11]
      · rw [xu_off (by omega)]; exact u3 r i h1 h2
  · rw [decide_eq_false hd] at es
    refine no ?_ ?_
    · unfold mX11_years; simp (disch := omega) only [↓reduceIte, Option.bind_some, Option.some.injEq, Prod.mk.injEq, and_self, and_true, true_and, eq_self, reduceCtorEq, not_false_eq_true, not_true_eq_false, or_true, true_or, or_false, false_or, bft, nAdd, nMul, nSub, nDiv, nRem, nAm1, nIx, nIn, bI_z, bI_o, ite_b1, ite_b0, zI_add, zI_sub, li0, li1, li2, li3, li4, li5, li6, li7, li8, li9, li10, li11, li12, li13, li14, li15, li16, li17, li18, li19, li20, li21, li22, li23, li24, li25, li26, li27, li28, li29, li30, li31, li32, li33, li34, li35, li36, li37, li40, li42, li43, li45, li47, li48, li57, li59, li60, li61, li62, li64, li80, li91, li93, li97, li99, li100, li122, li182, li199, li255, li300, li380, li400, li999, li1000, li3640, li4100, li65536, li99999, ln1, ln2, ln3, ln100, ln100000, tLe, fLe, tLt, fLt, tEq, fEq, zLe_t, zLe_f, zLt_t, zLt_f, zEq_t, zEq_f, nzLe_t, nzLe_f, znLe_t, znLe_f, nzLt_t, nzLt_f, znLt_t, znLt_f, nzEq_t, nzEq_f, znEq_t, znEq_f, cS_told cs, decide_eq_false hd]
    · unfold mX12_years; simp (disch := omega) only [↓reduceIte, Option.bind_some, Option.some.injEq, Prod.mk.injEq, and_self, and_true, true_and, eq_self, reduceCtorEq, not_false_eq_true, not_true_eq_false, or_true, true_or, or_false, false_or, bft, nAdd, nMul, nSub, nDiv, nRem, nAm1, nIx, nIn, bI_z, bI_o, ite_b1, ite_b0, zI_add, zI_sub, li0, li1, li2, li3, li4, li5, li6, li7, li8, li9, li10, li11, li12, li13, li14, li15, li16, li17, li18, li19, li20, li21, li22, li23, li24, li25, li26, li27, li28, li29, li30, li31, li32, li33, li34, li35, li36, li37, li40, li42, li43, li45, li47, li48, li57, li59, li60, li61, li62, li64, li80, li91, li93, li97, li99, li100, li122, li182, li199, li255, li300, li380, li400, li999, li1000, li3640, li4100, li65536, li99999, ln1, ln2, ln3, ln100, ln100000, tLe, fLe, tLt, fLt, tEq, fEq, zLe_t, zLe_f, zLt_t, zLt_f, zEq_t, zEq_f, nzLe_t, nzLe_f, znLe_t, znLe_f, nzLt_t, nzLt_f, znLt_t, znLt_f, nzEq_t, nzEq_f, znEq_t, znEq_f, es]

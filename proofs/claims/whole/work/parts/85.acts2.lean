/-! paint, scrape, undo, hour. -/
theorem canPaint_ok {I : Nat → Nat → Int32} {L : Nat → Nat → Int64} {s a : Nat} {S : sT} {A : aT} (O : okS S) (hA : okA S A) (C : cS I s S) (hC : cA I L a S A) {c q : Nat} (hc : c < sCe S) (hq : q < sPa S) : mX7_canPaint I s a (nI c) (nI q) = some (bI (!A.2.2.2.testBit (thOf S c) && decide (sCost S ≤ A.2.1 q))) := by
  have o1 := O.1
  obtain ⟨t1, t2, t3⟩ := thOf_ok O hc
  have eb := isBare6_ok (t := thOf S c) (cA_b hC) (by have := hA.2.2.1; omega) (by omega)
  have hp := hA.2.1 q hq
  unfold mX7_canPaint
  simp (disch := omega) only [↓reduceIte, Option.bind_some, Option.some.injEq, Prod.mk.injEq, and_self, and_true, true_and, eq_self, reduceCtorEq, not_false_eq_true, not_true_eq_false, or_true, true_or, or_false, false_or, bft, nAdd, nMul, nSub, nDiv, nRem, nAm1, nIx, nIn, bI_z, bI_o, ite_b1, ite_b0, zI_add, zI_sub, li0, li1, li2, li3, li4, li5, li6, li7, li8, li9, li10, li11, li12, li13, li14, li15, li16, li17, li18, li19, li20, li21, li22, li23, li24, li25, li26, li27, li28, li29, li30, li31, li32, li33, li34, li35, li36, li37, li40, li42, li43, li45, li47, li48, li57, li59, li60, li61, li62, li64, li80, li91, li93, li97, li99, li100, li122, li182, li199, li255, li300, li380, li400, li999, li1000, li3640, li4100, li65536, li99999, ln1, ln2, ln3, ln100, ln100000, tLe, fLe, tLt, fLt, tEq, fEq, zLe_t, zLe_f, zLt_t, zLt_f, zEq_t, zEq_f, nzLe_t, nzLe_f, znLe_t, znLe_f, nzLt_t, nzLt_f, znLt_t, znLt_f, nzEq_t, nzEq_f, znEq_t, znEq_f, cS_th C O hc, eb, cA_p hC hq, cS_cost C]
  cases A.2.2.2.testBit (thOf S c) with
  | true => simp (disch := omega) only [↓reduceIte, Option.bind_some, Option.some.injEq, Prod.mk.injEq, and_self, and_true, true_and, eq_self, reduceCtorEq, not_false_eq_true, not_true_eq_false, or_true, true_or, or_false, false_or, bft, nAdd, nMul, nSub, nDiv, nRem, nAm1, nIx, nIn, bI_z, bI_o, ite_b1, ite_b0, zI_add, zI_sub, li0, li1, li2, li3, li4, li5, li6, li7, li8, li9, li10, li11, li12, li13, li14, li15, li16, li17, li18, li19, li20, li21, li22, li23, li24, li25, li26, li27, li28, li29, li30, li31, li32, li33, li34, li35, li36, li37, li40, li42, li43, li45, li47, li48, li57, li59, li60, li61, li62, li64, li80, li91, li93, li97, li99, li100, li122, li182, li199, li255, li300, li380, li400, li999, li1000, li3640, li4100, li65536, li99999, ln1, ln2, ln3, ln100, ln100000, tLe, fLe, tLt, fLt, tEq, fEq, zLe_t, zLe_f, zLt_t, zLt_f, zEq_t, zEq_f, nzLe_t, nzLe_f, znLe_t, znLe_f, nzLt_t, nzLt_f, znLt_t, znLt_f, nzEq_t, nzEq_f, znEq_t, znEq_f]; rfl
  | false =>
    by_cases h : sCost S ≤ A.2.1 q
    · simp (disch := omega) only [↓reduceIte, Option.bind_some, Option.some.injEq, Prod.mk.injEq, and_self, and_true, true_and, eq_self, reduceCtorEq, not_false_eq_true, not_true_eq_false, or_true, true_or, or_false, false_or, bft, nAdd, nMul, nSub, nDiv, nRem, nAm1, nIx, nIn, bI_z, bI_o, ite_b1, ite_b0, zI_add, zI_sub, li0, li1, li2, li3, li4, li5, li6, li7, li8, li9, li10, li11, li12, li13, li14, li15, li16, li17, li18, li19, li20, li21, li22, li23, li24, li25, li26, li27, li28, li29, li30, li31, li32, li33, li34, li35, li36, li37, li40, li42, li43, li45, li47, li48, li57, li59, li60, li61, li62, li64, li80, li91, li93, li97, li99, li100, li122, li182, li199, li255, li300, li380, li400, li999, li1000, li3640, li4100, li65536, li99999, ln1, ln2, ln3, ln100, ln100000, tLe, fLe, tLt, fLt, tEq, fEq, zLe_t, zLe_f, zLt_t, zLt_f, zEq_t, zEq_f, nzLe_t, nzLe_f, znLe_t, znLe_f, nzLt_t, nzLt_f, znLt_t, znLt_f, nzEq_t, nzEq_f, znEq_t, znEq_f, decide_eq_true h]; rfl
    · simp (disch := omega) only [↓reduceIte, Option.bind_some, Option.some.injEq, Prod.mk.injEq, and_self, and_true, true_and, eq_self, reduceCtorEq, not_false_eq_true, not_true_eq_false, or_true, true_or, or_false, false_or, bft, nAdd, nMul, nSub, nDiv, nRem, nAm1, nIx, nIn, bI_z, bI_o, ite_b1, ite_b0, zI_add, zI_sub, li0, li1, li2, li3, li4, li5, li6, li7, li8, li9, li10, li11, li12, li13, li14, li15, li16, li17, li18, li19, li20, li21, li22, li23, li24, li25, li26, li27, li28, li29, li30, li31, li32, li33, li34, li35, li36, li37, li40, li42, li43, li45, li47, li48, li57, li59, li60, li61, li62, li64, li80, li91, li93, li97, li99, li100, li122, li182, li199, li255, li300, li380, li400, li999, li1000, li3640, li4100, li65536, li99999, ln1, ln2, ln3, ln100, ln100000, tLe, fLe, tLt, fLt, tEq, fEq, zLe_t, zLe_f, zLt_t, zLt_f, zEq_t, zEq_f, nzLe_t, nzLe_f, znLe_t, znLe_f, nzLt_t, nzLt_f, znLt_t, znLt_f, nzEq_t, nzEq_f, znEq_t, znEq_f, decide_eq_false h]; rfl
section
variable {n : Nat} {K : Nat → Nat × Nat} {P P1 : Nat → Nat → Nat} {I : Nat → Nat → Int32} {L : Nat → Nat → Int64} {Z : zT} {k : Nat}
/-- an act of both, behind what both kept -/
theorem act_mk {I1 J H J2 : Nat → Nat → Int32} {L1 M M2 : Nat → Nat → Int64} {A : aT} (G1 : GW K P1) (F : Fr (n, K, P, I, L)) (ok : okZ k Z) (C : CI (n, K, P, I, L) Z) (R : RI I Z) (k2 : cW P1 I1 L1 12 (keepW (zW Z))) (k3 : kpl P1) (k4 : ∀ b, b ≠ 27 → P1 b = P b) (k5 : ∀ b, b < 12 ∨ (12 < b ∧ b < 31) ∨ 90 < b → I1 b = I b ∧ L1 b = L b) (hb : ∀ b, b < 24 ∨ (26 < b ∧ b < 92) ∨ 122 < b → J b = I1 b ∧ M b = L1 b) (hA : cA J M 24 (wS (zW Z)) A)
    (hH : ∀ b i, b ≠ 162 → b ≠ 123 ∨ (i ≠ 51 ∧ i ≠ 52 ∧ i ≠ 53) → H b i = J b i) (hW : rW H (H 123 51) (keepW (zW Z))) (h1 : ∀ i, i ≠ 8 → i ≠ 9 → J2 124 i = H 124 i) (h2 : ∀ b, b ≠ 124 → b ≠ 128 → b ≠ 131 → b ≠ 132 → b ≠ 133 → b ≠ 160 → b ≠ 161 → J2 b = H b) (hA2 : rAn J2 (wS (zW Z)) A) (hM : ∀ b, b ≠ 158 → b ≠ 159 → M2 b = M b) (oA : okA (wS (zW Z)) A) (oh : A.2.2.1 ≤ k + 1) : Inv (k + 1) (n, K, P1, J2, M2) := by
  have R0 : RI J Z := RI_cls ok (fun b q1 q2 => ((hb b (by omega)).1).trans ((k5 b (by omega)).1)) R
  have ok2 : okZ (k + 1) (setA (keepW (zW Z)) A, Z.2) := okZ_now ok (Nat.le_succ k) (okW_setA (okW_keep (okW_mono (Nat.le_succ k) (Nat.le_refl _) ok.1)) oA oh)
  refine Inv_ref (I := J) (L := M) G1 F ok2 (CI_act ok C k2 k3 k4 k5 hb hA) (RI_act ok R0 hH hW h1 h2 hA2) (fun b q => ?_) (fun b q => hM b (by omega) (by omega))
  rw [h2 b (by omega) (by omega) (by omega) (by omega) (by omega) (by omega) (by omega)]
  exact funext (fun i => hH b i (by omega) (Or.inl (by omega)))
end
theorem q_paint {k : Nat} (hk : k < 512) : st_paint (Inv k) (Inv (k + 1)) := by
  intro h x y hI
  obtain ⟨n, K, P, I, L⟩ := h
  obtain ⟨⟨G, F⟩, Z, ok, C, R⟩ := id hI
  change RI I Z at R
  have O := okZ_S ok
  have o1 := O.1
  have hA := okZ_A ok
  have hh := okZ_h ok
  have cs := CI_S C
  have ca := CI_A C
  have rs := RI_S R
  have ra := RI_A R
  generalize hS : wS (zW Z) = S at O o1 hA cs ca rs ra
  generalize hAA : wA (zW Z) = A at hA hh ca ra
  have e1 := isCell_ok O cs x
  have e2 := rIsCell_ok rs O x
  have f1 := isPainter_ok O cs y
  have f2 := rIsPainter_ok rs O y
  have no : mX11_paint P I L x y = some (-1, P, I, L) → mX12_paint I x y = some (-1, I) → ∃ r h1 h2, oX_paint (n, K, P, I, L) x y = some (r, h1) ∧ GW h1.2.1 h1.2.2.1 ∧ oM_paint h1 x y = some (r, h2) ∧ Inv (k + 1) h2 := fun a b => ⟨-1, (n, K, P, I, L), (n, K, P, I, L), by unfold oX_paint; simp only [a]; rfl, G, by unfold oM_paint; simp only [b]; rfl, Inv_q hI (fun _ _ => rfl)⟩
  rcases inbC x (sCe S) with hx | ⟨c, hc, rfl⟩
  · refine no ?_ ?_
    · unfold mX11_paint; simp (disch := omega) only [↓reduceIte, Option.bind_some, Option.some.injEq, Prod.mk.injEq, and_self, and_true, true_and, eq_self, reduceCtorEq, not_false_eq_true, not_true_eq_false, or_true, true_or, or_false, false_or, bft, nAdd, nMul, nSub, nDiv, nRem, nAm1, nIx, nIn, bI_z, bI_o, ite_b1, ite_b0, zI_add, zI_sub, li0, li1, li2, li3, li4, li5, li6, li7, li8, li9, li10, li11, li12, li13, li14, li15, li16, li17, li18, li19, li20, li21, li22, li23, li24, li25, li26, li27, li28, li29, li30, li31, li32, li33, li34, li35, li36, li37, li40, li42, li43, li45, li47, li48, li57, li59, li60, li61, li62, li64, li80, li91, li93, li97, li99, li100, li122, li182, li199, li255, li300, li380, li400, li999, li1000, li3640, li4100, li65536, li99999, ln1, ln2, ln3, ln100, ln100000, tLe, fLe, tLt, fLt, tEq, fEq, zLe_t, zLe_f, zLt_t, zLt_f, zEq_t, zEq_f, nzLe_t, nzLe_f, znLe_t, znLe_f, nzLt_t, nzLt_f, znLt_t, znLt_f, nzEq_t, nzEq_f, znEq_t, znEq_f, e1, hx]
    · unfold mX12_paint; simp (disch := omega) only [↓reduceIte, Option.bind_some, Option.some.injEq, Prod.mk.injEq, and_self, and_true, true_and, eq_self, reduceCtorEq, not_false_eq_true, not_true_eq_false, or_true, true_or, or_false, false_or, bft, nAdd, nMul, nSub, nDiv, nRem, nAm1, nIx, nIn, bI_z, bI_o, ite_b1, ite_b0, zI_add, zI_sub, li0, li1, li2, li3, li4, li5, li6, li7, li8, li9, li10, li11, li12, li13, li14, li15, li16, li17, li18, li19, li20, li21, li22, li23, li24, li25, li26, li27, li28, li29, li30, li31, li32, li33, li34, li35, li36, li37, li40, li42, li43, li45, li47, li48, li57, li59, li60, li61, li62, li64, li80, li91, li93, li97, li99, li100, li122, li182, li199, li255, li300, li380, li400, li999, li1000, li3640, li4100, li65536, li99999, ln1, ln2, ln3, ln100, ln100000, tLe, fLe, tLt, fLt, tEq, fEq, zLe_t, zLe_f, zLt_t, zLt_f, zEq_t, zEq_f, nzLe_t, nzLe_f, znLe_t, znLe_f, nzLt_t, nzLt_f, znLt_t, znLt_f, nzEq_t, nzEq_f, znEq_t, znEq_f, e2, hx]
  rw [inbT hc (by omega)] at e1 e2
  rcases inbC y (sPa S) with hy | ⟨q, hq, rfl⟩
  · refine no ?_ ?_
    · unfold mX11_paint; simp (disch := omega) only [↓reduceIte, Option.bind_some, Option.some.injEq, Prod.mk.injEq, and_self, and_true, true_and, eq_self, reduceCtorEq, not_false_eq_true, not_true_eq_false, or_true, true_or, or_false, false_or, bft, nAdd, nMul, nSub, nDiv, nRem, nAm1, nIx, nIn, bI_z, bI_o, ite_b1, ite_b0, zI_add, zI_sub, li0, li1, li2, li3, li4, li5, li6, li7, li8, li9, li10, li11, li12, li13, li14, li15, li16, li17, li18, li19, li20, li21, li22, li23, li24, li25, li26, li27, li28, li29, li30, li31, li32, li33, li34, li35, li36, li37, li40, li42, li43, li45, li47, li48, li57, li59, li60, li61, li62, li64, li80, li91, li93, li97, li99, li100, li122, li182, li199, li255, li300, li380, li400, li999, li1000, li3640, li4100, li65536, li99999, ln1, ln2, ln3, ln100, ln100000, tLe, fLe, tLt, fLt, tEq, fEq, zLe_t, zLe_f, zLt_t, zLt_f, zEq_t, zEq_f, nzLe_t, nzLe_f, znLe_t, znLe_f, nzLt_t, nzLt_f, znLt_t, znLt_f, nzEq_t, nzEq_f, znEq_t, znEq_f, e1, f1, hy]
    · unfold mX12_paint; simp (disch := omega) only [↓reduceIte, Option.bind_some, Option.some.injEq, Prod.mk.injEq, and_self, and_true, true_and, eq_self, reduceCtorEq, not_false_eq_true, not_true_eq_false, or_true, true_or, or_false, false_or, bft, nAdd, nMul, nSub, nDiv, nRem, nAm1, nIx, nIn, bI_z, bI_o, ite_b1, ite_b0, zI_add, zI_sub, li0, li1, li2, li3, li4, li5, li6, li7, li8, li9, li10, li11, li12, li13, li14, li15, li16, li17, li18, li19, li20, li21, li22, li23, li24, li25, li26, li27, li28, li29, li30, li31, li32, li33, li34, li35, li36, li37, li40, li42, li43, li45, li47, li48, li57, li59, li60, li61, li62, li64, li80, li91, li93, li97, li99, li100, li122, li182, li199, li255, li300, li380, li400, li999, li1000, li3640, li4100, li65536, li99999, ln1, ln2, ln3, ln100, ln100000, tLe, fLe, tLt, fLt, tEq, fEq, zLe_t, zLe_f, zLt_t, zLt_f, zEq_t, zEq_f, nzLe_t, nzLe_f, znLe_t, znLe_f, nzLt_t, nzLt_f, znLt_t, znLt_f, nzEq_t, nzEq_f, znEq_t, znEq_f, e2, f2, hy]
  rw [inbT hq (by omega)] at f1 f2
  have g1 := canPaint_ok O hA cs ca hc hq
  have g2 := rCanPaint_ok O hA hc hq rs ra
  by_cases hcan : (!A.2.2.2.testBit (thOf S c) && decide (sCost S ≤ A.2.1 q)) = true
  · rw [hcan] at g1 g2
    rw [Bool.and_eq_true, decide_eq_true_eq, Bool.not_eq_true'] at hcan
    obtain ⟨P1, I1, L1, k1, k2, k3, k4, k5⟩ := keep_ok (okZ_S ok) (CI_p C) C.2.1 ok.1.2.2.2.1.1 C.1.1
    have G1 := gw_X10_keep G k1
    have cs1 : cS I1 (P1 12 0) S := by rw [← hS]; exact k2.1.1
    have ca1 : cA I1 L1 24 S A := by rw [← hS, ← hAA]; exact k2.2.1
    obtain ⟨J, M, p1, p2, p3, p4⟩ := putCoat_ok (s := P1 12 0) O hA (by omega) hc hq hcan.2 cs1 ca1
    have hJ : ∀ b, 122 < b → J b = I b := fun b h => by rw [p3 b (by omega), (k5 b (by omega)).1]
    have R0 : RI J Z := RI_cls ok (fun b q1 q2 => hJ b (by omega)) R
    obtain ⟨H, w1, w2, w3⟩ := keepsAct_ok ok.1 R0.1
    have rs1 : rSn H S := by rw [← hS]; exact w2.1
    have ra1 : rAn H S A := by rw [← hS, ← hAA]; exact w2.2.1
    obtain ⟨H1, u1, u2, u3, u4, u5, u6, u7⟩ := rPut_ok (c := c) (q := q) O hA (by omega) hc hq hcan.2 rs1 ra1
    have e3 := rIsCell_ok (I := J) (by rw [← hS]; exact R0.1.1) O (nI c)
    have f3 := rIsPainter_ok (I := J) (by rw [← hS]; exact R0.1.1) O (nI q)
    have g3 := rCanPaint_ok (I := J) O hA hc hq (by rw [← hS]; exact R0.1.1) (by rw [← hS, ← hAA]; exact R0.1.2.1)
    rw [inbT hc (by omega)] at e3
    rw [inbT hq (by omega)] at f3
    rw [decide_eq_true hcan.2, hcan.1] at g3
    have hlen := putC_ok (q := q) (hA.1 c hc).1 (by omega) (show A.2.2.1 < 1000 by omega)
    have ht := height_ok hlen
    have hM : M 25 c = lN (enc (putC (A.1 c) q A.2.2.1)) := by
      have := p2.1 c hc
      change M 25 c = lN (enc (updF A.1 c _ c)) at this
      rw [updF_s] at this
      exact this
    have hcost : H1 124 2 = nI (sCost S) := by rw [u3]; exact rSn_cost rs1
    refine ⟨nI (putC (A.1 c) q A.2.2.1).length, (n, K, P1, J, M), (n, K, P1, xu H1 128 q (nI (A.2.1 q - sCost S)), M), ?_, G1, ?_, ?_⟩
    · unfold oX_paint mX11_paint
      simp (disch := omega) only [↓reduceIte, Option.bind_some, Option.some.injEq, Prod.mk.injEq, and_self, and_true, true_and, eq_self, reduceCtorEq, not_false_eq_true, not_true_eq_false, or_true, true_or, or_false, false_or, bft, nAdd, nMul, nSub, nDiv, nRem, nAm1, nIx, nIn, bI_z, bI_o, ite_b1, ite_b0, zI_add, zI_sub, li0, li1, li2, li3, li4, li5, li6, li7, li8, li9, li10, li11, li12, li13, li14, li15, li16, li17, li18, li19, li20, li21, li22, li23, li24, li25, li26, li27, li28, li29, li30, li31, li32, li33, li34, li35, li36, li37, li40, li42, li43, li45, li47, li48, li57, li59, li60, li61, li62, li64, li80, li91, li93, li97, li99, li100, li122, li182, li199, li255, li300, li380, li400, li999, li1000, li3640, li4100, li65536, li99999, ln1, ln2, ln3, ln100, ln100000, tLe, fLe, tLt, fLt, tEq, fEq, zLe_t, zLe_f, zLt_t, zLt_f, zEq_t, zEq_f, nzLe_t, nzLe_f, znLe_t, znLe_f, nzLt_t, nzLt_f, znLt_t, znLt_f, nzEq_t, nzEq_f, znEq_t, znEq_f, e1, f1, g1, k1, p1, hM, ht, Option.map_some]
    · unfold oM_paint mX12_paint
      simp (disch := omega) only [↓reduceIte, Option.bind_some, Option.some.injEq, Prod.mk.injEq, and_self, and_true, true_and, eq_self, reduceCtorEq, not_false_eq_true, not_true_eq_false, or_true, true_or, or_false, false_or, bft, nAdd, nMul, nSub, nDiv, nRem, nAm1, nIx, nIn, bI_z, bI_o, ite_b1, ite_b0, zI_add, zI_sub, li0, li1, li2, li3, li4, li5, li6, li7, li8, li9, li10, li11, li12, li13, li14, li15, li16, li17, li18, li19, li20, li21, li22, li23, li24, li25, li26, li27, li28, li29, li30, li31, li32, li33, li34, li35, li36, li37, li40, li42, li43, li45, li47, li48, li57, li59, li60, li61, li62, li64, li80, li91, li93, li97, li99, li100, li122, li182, li199, li255, li300, li380, li400, li999, li1000, li3640, li4100, li65536, li99999, ln1, ln2, ln3, ln100, ln100000, tLe, fLe, tLt, fLt, tEq, fEq, zLe_t, zLe_f, zLt_t, zLt_f, zEq_t, zEq_f, nzLe_t, nzLe_f, znLe_t, znLe_f, nzLt_t, nzLt_f, znLt_t, znLt_f, nzEq_t, nzEq_f, znEq_t, znEq_f, xu_s, xu_r, xu_c, xrow_at, xrow_r, e3, f3, g3, w1, u1, u2, hcost, u5, Option.map_some, Bool.not_false, Bool.and_self]
    · refine act_mk (A := putA S A c q) G1 F ok C R k2 k3 k4 k5 (fun b h => ⟨p3 b (by omega), p4 b (by omega)⟩) (by rw [hS]; exact p2) w3 w2 (fun i h1 h2 => by rw [u7 124 (by decide) (by decide) (by decide) (by decide)]) (fun b h1 h2 h3 h4 h5 _ _ => u7 b h2 h3 h4 h5) (by rw [hS]; exact u4) (fun _ _ _ => rfl) (by rw [hS]; exact okA_put O hA hc hq (by omega) hcan.1) (show A.2.2.1 ≤ k + 1 by omega)
  · have hf : (!A.2.2.2.testBit (thOf S c) && decide (sCost S ≤ A.2.1 q)) = false := by simpa using hcan
    rw [hf] at g1 g2
    refine no ?_ ?_
    · unfold mX11_paint; simp (disch := omega) only [↓reduceIte, Option.bind_some, Option.some.injEq, Prod.mk.injEq, and_self, and_true, true_and, eq_self, reduceCtorEq, not_false_eq_true, not_true_eq_false, or_true, true_or, or_false, false_or, bft, nAdd, nMul, nSub, nDiv, nRem, nAm1, nIx, nIn, bI_z, bI_o, ite_b1, ite_b0, zI_add, zI_sub, li0, li1, li2, li3, li4, li5, li6, li7, li8, li9, li10, li11, li12, li13, li14, li15, li16, li17, li18, li19, li20, li21, li22, li23, li24, li25, li26, li27, li28, li29, li30, li31, li32, li33, li34, li35, li36, li37, li40, li42, li43, li45, li47, li48, li57, li59, li60, li61, li62, li64, li80, li91, li93, li97, li99, li100, li122, li182, li199, li255, li300, li380, li400, li999, li1000, li3640, li4100, li65536, li99999, ln1, ln2, ln3, ln100, ln100000, tLe, fLe, tLt, fLt, tEq, fEq, zLe_t, zLe_f, zLt_t, zLt_f, zEq_t, zEq_f, nzLe_t, nzLe_f, znLe_t, znLe_f, nzLt_t, nzLt_f, znLt_t, znLt_f, nzEq_t, nzEq_f, znEq_t, znEq_f, e1, f1, g1]
    · unfold mX12_paint; simp (disch := omega) only [↓reduceIte, Option.bind_some, Option.some.injEq, Prod.mk.injEq, and_self, and_true, true_and, eq_self, reduceCtorEq, not_false_eq_true, not_true_eq_false, or_true, true_or, or_false, false_or, bft, nAdd, nMul, nSub, nDiv, nRem, nAm1, nIx, nIn, bI_z, bI_o, ite_b1, ite_b0, zI_add, zI_sub, li0, li1, li2, li3, li4, li5, li6, li7, li8, li9, li10, li11, li12, li13, li14, li15, li16, li17, li18, li19, li20, li21, li22, li23, li24, li25, li26, li27, li28, li29, li30, li31, li32, li33, li34, li35, li36, li37, li40, li42, li43, li45, li47, li48, li57, li59, li60, li61, li62, li64, li80, li91, li93, li97, li99, li100, li122, li182, li199, li255, li300, li380, li400, li999, li1000, li3640, li4100, li65536, li99999, ln1, ln2, ln3, ln100, ln100000, tLe, fLe, tLt, fLt, tEq, fEq, zLe_t, zLe_f, zLt_t, zLt_f, zEq_t, zEq_f, nzLe_t, nzLe_f, znLe_t, znLe_f, nzLt_t, nzLt_f, znLt_t, znLt_f, nzEq_t, nzEq_f, znEq_t, znEq_f, e2, f2, g2]
theorem coA_self {A : aT} (c : Nat) : coA A c (A.1 c) = A := by
  unfold coA
  refine Prod.ext (funext fun d => ?_) rfl
  show updF A.1 c (A.1 c) d = A.1 d
  by_cases w : d = c
  · subst w; rw [updF_s]
  · rw [updF_n w]
theorem q_scrape {k : Nat} (hk : k < 512) : st_scrape (Inv k) (Inv (k + 1)) := by
  intro h x hI
  obtain ⟨n, K, P, I, L⟩ := h
  obtain ⟨⟨G, F⟩, Z, ok, C, R⟩ := id hI
  change RI I Z at R
  have O := okZ_S ok
  have o1 := O.1
  have hA := okZ_A ok
  have hh := okZ_h ok
  have cs := CI_S C
  have ca := CI_A C
  have rs := RI_S R
  have ra := RI_A R
  generalize hS : wS (zW Z) = S at O o1 hA cs ca rs ra
  generalize hAA : wA (zW Z) = A at hA hh ca ra
  have e1 := isCell_ok O cs x
  have e2 := rIsCell_ok rs O x
  have no : mX11_scrape P I L x = some (-1, P, I, L) → mX12_scrape I x = some (-1, I) → ∃ r h1 h2, oX_scrape (n, K, P, I, L) x = some (r, h1) ∧ GW h1.2.1 h1.2.2.1 ∧ oM_scrape h1 x = some (r, h2) ∧ Inv (k + 1) h2 := fun a b => ⟨-1, (n, K, P, I, L), (n, K, P, I, L), by unfold oX_scrape; simp only [a]; rfl, G, by unfold oM_scrape; simp only [b]; rfl, Inv_q hI (fun _ _ => rfl)⟩
  rcases inbC x (sCe S) with hx | ⟨c, hc, rfl⟩
  · refine no ?_ ?_
    · unfold mX11_scrape; simp (disch := omega) only [↓reduceIte, Option.bind_some, Option.some.injEq, Prod.mk.injEq, and_self, and_true, true_and, eq_self, reduceCtorEq, not_false_eq_true, not_true_eq_false, or_true, true_or, or_false, false_or, bft, nAdd, nMul, nSub, nDiv, nRem, nAm1, nIx, nIn, bI_z, bI_o, ite_b1, ite_b0, zI_add, zI_sub, li0, li1, li2, li3, li4, li5, li6, li7, li8, li9, li10, li11, li12, li13, li14, li15, li16, li17, li18, li19, li20, li21, li22, li23, li24, li25, li26, li27, li28, li29, li30, li31, li32, li33, li34, li35, li36, li37, li40, li42, li43, li45, li47, li48, li57, li59, li60, li61, li62, li64, li80, li91, li93, li97, li99, li100, li122, li182, li199, li255, li300, li380, li400, li999, li1000, li3640, li4100, li65536, li99999, ln1, ln2, ln3, ln100, ln100000, tLe, fLe, tLt, fLt, tEq, fEq, zLe_t, zLe_f, zLt_t, zLt_f, zEq_t, zEq_f, nzLe_t, nzLe_f, znLe_t, znLe_f, nzLt_t, nzLt_f, znLt_t, znLt_f, nzEq_t, nzEq_f, znEq_t, znEq_f, e1, hx]
    · unfold mX12_scrape; simp (disch := omega) only [↓reduceIte, Option.bind_some, Option.some.injEq, Prod.mk.injEq, and_self, and_true, true_and, eq_self, reduceCtorEq, not_false_eq_true, not_true_eq_false, or_true, true_or, or_false, false_or, bft, nAdd, nMul, nSub, nDiv, nRem, nAm1, nIx, nIn, bI_z, bI_o, ite_b1, ite_b0, zI_add, zI_sub, li0, li1, li2, li3, li4, li5, li6, li7, li8, li9, li10, li11, li12, li13, li14, li15, li16, li17, li18, li19, li20, li21, li22, li23, li24, li25, li26, li27, li28, li29, li30, li31, li32, li33, li34, li35, li36, li37, li40, li42, li43, li45, li47, li48, li57, li59, li60, li61, li62, li64, li80, li91, li93, li97, li99, li100, li122, li182, li199, li255, li300, li380, li400, li999, li1000, li3640, li4100, li65536, li99999, ln1, ln2, ln3, ln100, ln100000, tLe, fLe, tLt, fLt, tEq, fEq, zLe_t, zLe_f, zLt_t, zLt_f, zEq_t, zEq_f, nzLe_t, nzLe_f, znLe_t, znLe_f, nzLt_t, nzLt_f, znLt_t, znLt_f, nzEq_t, nzEq_f, znEq_t, znEq_f, e2, hx]
  rw [inbT hc (by omega)] at e1 e2
  have hl := (hA.1 c hc).1
  have hl5 := hl.1
  have z0 : (lg_cmp (lN (enc (A.1 c))) 0 = nI 0) = (A.1 c = []) := propext (lenc_0 hl)
  cases hne : A.1 c with
  | nil =>
    rw [hne] at z0
    refine no ?_ ?_
    · unfold mX11_scrape; simp (disch := omega) only [↓reduceIte, Option.bind_some, Option.some.injEq, Prod.mk.injEq, and_self, and_true, true_and, eq_self, reduceCtorEq, not_false_eq_true, not_true_eq_false, or_true, true_or, or_false, false_or, bft, nAdd, nMul, nSub, nDiv, nRem, nAm1, nIx, nIn, bI_z, bI_o, ite_b1, ite_b0, zI_add, zI_sub, li0, li1, li2, li3, li4, li5, li6, li7, li8, li9, li10, li11, li12, li13, li14, li15, li16, li17, li18, li19, li20, li21, li22, li23, li24, li25, li26, li27, li28, li29, li30, li31, li32, li33, li34, li35, li36, li37, li40, li42, li43, li45, li47, li48, li57, li59, li60, li61, li62, li64, li80, li91, li93, li97, li99, li100, li122, li182, li199, li255, li300, li380, li400, li999, li1000, li3640, li4100, li65536, li99999, ln1, ln2, ln3, ln100, ln100000, tLe, fLe, tLt, fLt, tEq, fEq, zLe_t, zLe_f, zLt_t, zLt_f, zEq_t, zEq_f, nzLe_t, nzLe_f, znLe_t, znLe_f, nzLt_t, nzLt_f, znLt_t, znLt_f, nzEq_t, nzEq_f, znEq_t, znEq_f, e1, cA_l ca hc, hne, z0]
    · unfold mX12_scrape; simp (disch := omega) only [↓reduceIte, Option.bind_some, Option.some.injEq, Prod.mk.injEq, and_self, and_true, true_and, eq_self, reduceCtorEq, not_false_eq_true, not_true_eq_false, or_true, true_or, or_false, false_or, bft, nAdd, nMul, nSub, nDiv, nRem, nAm1, nIx, nIn, bI_z, bI_o, ite_b1, ite_b0, zI_add, zI_sub, li0, li1, li2, li3, li4, li5, li6, li7, li8, li9, li10, li11, li12, li13, li14, li15, li16, li17, li18, li19, li20, li21, li22, li23, li24, li25, li26, li27, li28, li29, li30, li31, li32, li33, li34, li35, li36, li37, li40, li42, li43, li45, li47, li48, li57, li59, li60, li61, li62, li64, li80, li91, li93, li97, li99, li100, li122, li182, li199, li255, li300, li380, li400, li999, li1000, li3640, li4100, li65536, li99999, ln1, ln2, ln3, ln100, ln100000, tLe, fLe, tLt, fLt, tEq, fEq, zLe_t, zLe_f, zLt_t, zLt_f, zEq_t, zEq_f, nzLe_t, nzLe_f, znLe_t, znLe_f, nzLt_t, nzLt_f, znLt_t, znLt_f, nzEq_t, nzEq_f, znEq_t, znEq_f, e2, rAn_m ra hc, hne, List.length_nil]
  | cons y r =>
    rw [hne] at z0
    have z1 : (lg_cmp (lN (enc (y :: r))) 0 = nI 0) = False := by rw [z0]; exact eq_false (by simp)
    obtain ⟨P1, I1, L1, k1, k2, k3, k4, k5⟩ := keep_ok (okZ_S ok) (CI_p C) C.2.1 ok.1.2.2.2.1.1 C.1.1
    have G1 := gw_X10_keep G k1
    have ca1 : cA I1 L1 24 S A := by rw [← hS, ← hAA]; exact k2.2.1
    have hlyr : okC (y :: r) := by rw [← hne]; exact hl
    have t1 := topP_ok hlyr
    have w1 := without_ok hlyr (show 1 < 2147483648 by decide)
    rw [List.drop_succ_cons, List.drop_zero] at w1
    have hL : L1 25 c = lN (enc (y :: r)) := by have := ca1.1 c hc; rw [hne] at this; exact this
    have hAyr : okA S (coA A c (y :: r)) := by rw [← hne, coA_self]; exact hA
    have p2 : cA I1 (xu L1 25 c (lN (enc r))) 24 S (coA A c r) := by
      refine ⟨fun d hd => ?_, ca1.2.1, ca1.2.2.1, ca1.2.2.2⟩
      show xu L1 25 c _ 25 d = lN (enc (updF A.1 c r d))
      by_cases w : d = c
      · subst w; rw [xu_s, updF_s]
      · rw [xu_c w, updF_n w]; exact ca1.1 d hd
    have hJ : ∀ b, 122 < b → I1 b = I b := fun b h => (k5 b (by omega)).1
    have R0 : RI I1 Z := RI_cls ok (fun b q1 q2 => hJ b (by omega)) R
    obtain ⟨H, u1, u2, u3⟩ := keepsAct_ok ok.1 R0.1
    have ra1 : rAn H S A := by rw [← hS, ← hAA]; exact u2.2.1
    have ra2 : rAn H S (coA A c (y :: r)) := by rw [← hne, coA_self]; exact ra1
    have e3 := rIsCell_ok (I := I1) (by rw [← hS]; exact R0.1.1) O (nI c)
    rw [inbT hc (by omega)] at e3
    have m3 : I1 131 c = nI (y :: r).length := by
      have := (show rAn I1 S A by rw [← hS, ← hAA]; exact R0.1.2.1)
      rw [← hne]; exact rAn_m this hc
    have m4 : H 131 c = nI (y :: r).length := by rw [← hne]; exact rAn_m ra1 hc
    have t2 := rTopOf_ok O ra1 hA hc
    rw [hne] at t2 hl5
    simp only [List.length_cons] at m3 m4 hl5
    refine ⟨zI (topP (y :: r)), (n, K, P1, I1, xu L1 25 c (lN (enc r))), (n, K, P1, xu H 131 c (nI r.length), xu L1 25 c (lN (enc r))), ?_, G1, ?_, ?_⟩
    · unfold oX_scrape mX11_scrape
      simp (disch := omega) only [↓reduceIte, Option.bind_some, Option.some.injEq, Prod.mk.injEq, and_self, and_true, true_and, eq_self, reduceCtorEq, not_false_eq_true, not_true_eq_false, or_true, true_or, or_false, false_or, bft, nAdd, nMul, nSub, nDiv, nRem, nAm1, nIx, nIn, bI_z, bI_o, ite_b1, ite_b0, zI_add, zI_sub, li0, li1, li2, li3, li4, li5, li6, li7, li8, li9, li10, li11, li12, li13, li14, li15, li16, li17, li18, li19, li20, li21, li22, li23, li24, li25, li26, li27, li28, li29, li30, li31, li32, li33, li34, li35, li36, li37, li40, li42, li43, li45, li47, li48, li57, li59, li60, li61, li62, li64, li80, li91, li93, li97, li99, li100, li122, li182, li199, li255, li300, li380, li400, li999, li1000, li3640, li4100, li65536, li99999, ln1, ln2, ln3, ln100, ln100000, tLe, fLe, tLt, fLt, tEq, fEq, zLe_t, zLe_f, zLt_t, zLt_f, zEq_t, zEq_f, nzLe_t, nzLe_f, znLe_t, znLe_f, nzLt_t, nzLt_f, znLt_t, znLt_f, nzEq_t, nzEq_f, znEq_t, znEq_f, e1, cA_l ca hc, hne, z1, k1, hL, t1, w1, Option.map_some]
    · unfold oM_scrape mX12_scrape
      simp (disch := omega) only [↓reduceIte, Option.bind_some, Option.some.injEq, Prod.mk.injEq, and_self, and_true, true_and, eq_self, reduceCtorEq, not_false_eq_true, not_true_eq_false, or_true, true_or, or_false, false_or, bft, nAdd, nMul, nSub, nDiv, nRem, nAm1, nIx, nIn, bI_z, bI_o, ite_b1, ite_b0, zI_add, zI_sub, li0, li1, li2, li3, li4, li5, li6, li7, li8, li9, li10, li11, li12, li13, li14, li15, li16, li17, li18, li19, li20, li21, li22, li23, li24, li25, li26, li27, li28, li29, li30, li31, li32, li33, li34, li35, li36, li37, li40, li42, li43, li45, li47, li48, li57, li59, li60, li61, li62, li64, li80, li91, li93, li97, li99, li100, li122, li182, li199, li255, li300, li380, li400, li999, li1000, li3640, li4100, li65536, li99999, ln1, ln2, ln3, ln100, ln100000, tLe, fLe, tLt, fLt, tEq, fEq, zLe_t, zLe_f, zLt_t, zLt_f, zEq_t, zEq_f, nzLe_t, nzLe_f, znLe_t, znLe_f, nzLt_t, nzLt_f, znLt_t, znLt_f, nzEq_t, nzEq_f, znEq_t, znEq_f, xu_s, xu_r, xu_c, xrow_at, xrow_r, e3, m3, u1, t2, m4, Nat.add_sub_cancel, Option.map_some]
    · exact act_mk (A := coA A c r) (M := xu L1 25 c (lN (enc r))) G1 F ok C R k2 k3 k4 k5 (fun b h => ⟨rfl, xu_r (by omega)⟩) (by rw [hS]; exact p2) u3 u2 (fun i h1 h2 => by rw [xu_r (by decide)]) (fun b _ _ h3 _ _ _ _ => xu_r h3) (by rw [hS]; exact rA_pop ra2 hc) (fun _ _ _ => rfl) (by rw [hS]; exact okA_tail hAyr hc) (show A.2.2.1 ≤ k + 1 by omega)

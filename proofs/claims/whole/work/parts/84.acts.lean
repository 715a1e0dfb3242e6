/-! Acts: what is kept in the whole state. -/
section
variable {I J H : Nat → Nat → Int32} {W : wT} {k nr : Nat} {pm : Int32}
theorem rW_past {pm2 : Int32} {l : List aT} (o : okW k nr W) (h : ∀ b i, b ≠ 162 → b ≠ 123 → J b i = I b i) (hk : pm2 = nI l.length) (hl : ∀ j B, l[j]? = some B → rPa (J 162) j (wS W) B) (R : rW I pm W) : rW J pm2 (wS W, wT0 W, wA W, l, wL W, wX W, wF W) := by
  obtain ⟨r1, r2, r3, r4, r5, r6, r7⟩ := R
  refine ⟨rS_congr o.1 (fun i _ => h 124 i (by decide) (by decide)) (fun i _ => h 125 i (by decide) (by decide)) (fun i _ => h 126 i (by decide) (by decide)) (fun i _ => h 127 i (by decide) (by decide)) (fun i _ => h 129 i (by decide) (by decide)) (fun i _ => h 130 i (by decide) (by decide)) r1, rA_congr o.1 o.2.2.1.1 (h 124 8 (by decide) (by decide)) (h 124 9 (by decide) (by decide)) (fun i _ => h 128 i (by decide) (by decide)) (fun i _ => h 131 i (by decide) (by decide)) (fun i _ => h 132 i (by decide) (by decide)) (fun i _ => h 133 i (by decide) (by decide)) r2, ?_, ⟨hk, hl⟩, ⟨(h 124 10 (by decide) (by decide)).trans r5.1, fun j n t o2 hj => ?_⟩, (h 124 11 (by decide) (by decide)).trans r6, (h 124 12 (by decide) (by decide)).trans r7⟩
  · refine ⟨fun c hc hb => ⟨(h 137 c (by decide) (by decide)).trans (r3.1 c hc hb).1, fun i x hx => (h 138 _ (by decide) (by decide)).trans ((r3.1 c hc hb).2 i x hx)⟩, fun q hq => (h 139 q (by decide) (by decide)).trans (r3.2.1 q hq), (h 140 0 (by decide) (by decide)).trans r3.2.2⟩
  · rw [h 134 j (by decide) (by decide), h 135 j (by decide) (by decide), h 136 j (by decide) (by decide)]
    exact r5.2 j n t o2 hj
theorem shiftP_go {e42 : (Nat → Nat → Int32) → Option (Nat → Nat → Int32)} : ∀ (f m j : Nat) (I : Nat → Nat → Int32), m < f → m + j = 3640 → 182 ≤ j → ∃ J, mX12_keepsAct_13 e42 f I (nI j) = e42 J ∧ (∀ b, b ≠ 162 → J b = I b) ∧ ∀ i, i < 3458 → J 162 i = if j ≤ i + 182 then I 162 (i + 182) else I 162 i
  | 0, m, j, I, h1, _, _ => absurd h1 (by omega)
  | f + 1, m, j, I, h1, h2, h3 => by
    rw [mX12_keepsAct_13]
    cases m with
    | zero =>
      refine ⟨I, ?_, fun _ _ => rfl, fun i hi => by rw [if_neg (by omega)]⟩
      simp (disch := omega) only [↓reduceIte, Option.bind_some, Option.some.injEq, Prod.mk.injEq, and_self, and_true, true_and, eq_self, reduceCtorEq, not_false_eq_true, not_true_eq_false, or_true, true_or, or_false, false_or, bft, nAdd, nMul, nSub, nDiv, nRem, nAm1, nIx, nIn, bI_z, bI_o, ite_b1, ite_b0, zI_add, zI_sub, li0, li1, li2, li3, li4, li5, li6, li7, li8, li9, li10, li11, li12, li13, li14, li15, li16, li17, li18, li19, li20, li21, li22, li23, li24, li25, li26, li27, li28, li29, li30, li31, li32, li33, li34, li35, li36, li37, li40, li42, li43, li45, li47, li48, li57, li59, li60, li61, li62, li64, li80, li91, li93, li97, li99, li100, li122, li182, li199, li255, li300, li380, li400, li999, li1000, li3640, li4100, li65536, li99999, ln1, ln2, ln3, ln100, ln100000, tLe, fLe, tLt, fLt, tEq, fEq, zLe_t, zLe_f, zLt_t, zLt_f, zEq_t, zEq_f, nzLe_t, nzLe_f, znLe_t, znLe_f, nzLt_t, nzLt_f, znLt_t, znLt_f, nzEq_t, nzEq_f, znEq_t, znEq_f]
    | succ m =>
      obtain ⟨J, j1, j2, j3⟩ := shiftP_go (e42 := e42) f m (j + 1) (xu I 162 (j - 182) (I 162 j)) (by omega) (by omega) (by omega)
      refine ⟨J, ?_, fun b hb => (j2 b hb).trans (xu_r hb), fun i hi => ?_⟩
      · simp (disch := omega) only [↓reduceIte, Option.bind_some, Option.some.injEq, Prod.mk.injEq, and_self, and_true, true_and, eq_self, reduceCtorEq, not_false_eq_true, not_true_eq_false, or_true, true_or, or_false, false_or, bft, nAdd, nMul, nSub, nDiv, nRem, nAm1, nIx, nIn, bI_z, bI_o, ite_b1, ite_b0, zI_add, zI_sub, li0, li1, li2, li3, li4, li5, li6, li7, li8, li9, li10, li11, li12, li13, li14, li15, li16, li17, li18, li19, li20, li21, li22, li23, li24, li25, li26, li27, li28, li29, li30, li31, li32, li33, li34, li35, li36, li37, li40, li42, li43, li45, li47, li48, li57, li59, li60, li61, li62, li64, li80, li91, li93, li97, li99, li100, li122, li182, li199, li255, li300, li380, li400, li999, li1000, li3640, li4100, li65536, li99999, ln1, ln2, ln3, ln100, ln100000, tLe, fLe, tLt, fLt, tEq, fEq, zLe_t, zLe_f, zLt_t, zLt_f, zEq_t, zEq_f, nzLe_t, nzLe_f, znLe_t, znLe_f, nzLt_t, nzLt_f, znLt_t, znLt_f, nzEq_t, nzEq_f, znEq_t, znEq_f]
        exact j1
      · rw [j3 i hi]
        by_cases w : i = j - 182
        · rw [if_neg (by omega), if_pos (by omega), w, xu_s, show j - 182 + 182 = j by omega]
        · by_cases z : j + 1 ≤ i + 182
          · rw [if_pos z, if_pos (by omega), xu_c (by omega)]
          · rw [if_neg z, if_neg (by omega), xu_c w]
theorem keepsAct52_ok {l : List aT} (o : okW k nr W) (hl : l.length < 20) (hp : I 123 51 = nI l.length) (hk : ∀ j B, l[j]? = some B → okA (wS W) B ∧ rPa (I 162) j (wS W) B) (R : rW I pm W) : ∃ J, mX12_keepsAct_52 I = some J ∧ rW J (J 123 51) (wS W, wT0 W, wA W, l ++ [wA W], wL W, wX W, wF W) ∧ ∀ b i, b ≠ 162 → b ≠ 123 ∨ (i ≠ 51 ∧ i ≠ 52 ∧ i ≠ 53) → J b i = I b i := by
  obtain ⟨J, j1, j2, j3, j4⟩ := movesAll0 o.1 o.2.2.1.1 hl R.2.1
  have e51 : J 123 51 = nI l.length := (j4 123 51 (by decide) (by decide)).trans hp
  have hf : ∀ b i, b ≠ 162 → b ≠ 123 ∨ (i ≠ 51 ∧ i ≠ 52 ∧ i ≠ 53) → xu J 123 51 (nI (l.length + 1)) b i = I b i := fun b i h1 h2 => by rw [xu_off (by omega), j4 b i h1 (by omega)]
  refine ⟨xu J 123 51 (nI (l.length + 1)), ?_, ?_, hf⟩
  · unfold mX12_keepsAct_52
    simp (disch := omega) only [↓reduceIte, Option.bind_some, Option.some.injEq, Prod.mk.injEq, and_self, and_true, true_and, eq_self, reduceCtorEq, not_false_eq_true, not_true_eq_false, or_true, true_or, or_false, false_or, bft, nAdd, nMul, nSub, nDiv, nRem, nAm1, nIx, nIn, bI_z, bI_o, ite_b1, ite_b0, zI_add, zI_sub, li0, li1, li2, li3, li4, li5, li6, li7, li8, li9, li10, li11, li12, li13, li14, li15, li16, li17, li18, li19, li20, li21, li22, li23, li24, li25, li26, li27, li28, li29, li30, li31, li32, li33, li34, li35, li36, li37, li40, li42, li43, li45, li47, li48, li57, li59, li60, li61, li62, li64, li80, li91, li93, li97, li99, li100, li122, li182, li199, li255, li300, li380, li400, li999, li1000, li3640, li4100, li65536, li99999, ln1, ln2, ln3, ln100, ln100000, tLe, fLe, tLt, fLt, tEq, fEq, zLe_t, zLe_f, zLt_t, zLt_f, zEq_t, zEq_f, nzLe_t, nzLe_f, znLe_t, znLe_f, nzLt_t, nzLt_f, znLt_t, znLt_f, nzEq_t, nzEq_f, znEq_t, znEq_f, hp, j1, e51]
  · refine rW_past o (fun b i h1 h2 => hf b i h1 (Or.inl h2)) ?_ (fun j B hB => ?_) R
    · rw [xu_s]; simp
    · rw [xu_r (by decide)]
      rcases getE_app hB with ⟨q1, q2⟩ | ⟨rfl, rfl⟩
      · exact rPa_congr o.1 (hk j B q2).1 (fun i hi => j3 _ (by omega)) (hk j B q2).2
      · exact j2
theorem keepsAct_ok (o : okW k nr W) (R : rW I (I 123 51) W) : ∃ J, mX12_keepsAct I = some J ∧ rW J (J 123 51) (keepW W) ∧ ∀ b i, b ≠ 162 → b ≠ 123 ∨ (i ≠ 51 ∧ i ≠ 52 ∧ i ≠ 53) → J b i = I b i := by
  have h4 := R.2.2.2.1
  have ol := o.2.2.2.1
  unfold mX12_keepsAct keepW keepL
  by_cases h : (wK W).length < 20
  · obtain ⟨J, j1, j2, j3⟩ := keepsAct52_ok o h h4.1 (fun j B hB => ⟨(ol.2 B (List.mem_of_getElem? hB)).1, h4.2 j B hB⟩) R
    rw [if_pos h]
    refine ⟨J, ?_, j2, j3⟩
    have e := h4.1
    simp (disch := omega) only [↓reduceIte, Option.bind_some, Option.some.injEq, Prod.mk.injEq, and_self, and_true, true_and, eq_self, reduceCtorEq, not_false_eq_true, not_true_eq_false, or_true, true_or, or_false, false_or, bft, nAdd, nMul, nSub, nDiv, nRem, nAm1, nIx, nIn, bI_z, bI_o, ite_b1, ite_b0, zI_add, zI_sub, li0, li1, li2, li3, li4, li5, li6, li7, li8, li9, li10, li11, li12, li13, li14, li15, li16, li17, li18, li19, li20, li21, li22, li23, li24, li25, li26, li27, li28, li29, li30, li31, li32, li33, li34, li35, li36, li37, li40, li42, li43, li45, li47, li48, li57, li59, li60, li61, li62, li64, li80, li91, li93, li97, li99, li100, li122, li182, li199, li255, li300, li380, li400, li999, li1000, li3640, li4100, li65536, li99999, ln1, ln2, ln3, ln100, ln100000, tLe, fLe, tLt, fLt, tEq, fEq, zLe_t, zLe_f, zLt_t, zLt_f, zEq_t, zEq_f, nzLe_t, nzLe_f, znLe_t, znLe_f, nzLt_t, nzLt_f, znLt_t, znLt_f, nzEq_t, nzEq_f, znEq_t, znEq_f, e]
    exact j1
  · have h20 : (wK W).length = 20 := by omega
    obtain ⟨J1, s1, s2, s3⟩ := shiftP_go (e42 := fun I_7 => mX12_keepsAct_52 (xu I_7 123 51 ((I_7 123 51) - (1 : Int32)))) xf 3458 182 I (by unfold xf; omega) (by omega) (by omega)
    have htl : (wK W).tail.length = 19 := by rw [List.length_tail]; omega
    have e1 : J1 123 51 = nI 20 := by rw [s2 123 (by decide), h4.1, h20]
    have hp : ∀ b i, b ≠ 162 → b ≠ 123 ∨ i ≠ 51 → xu J1 123 51 (nI 19) b i = I b i := fun b i h1 h2 => by rw [xu_off (by omega), s2 b h1]
    have R1 : rW (xu J1 123 51 (nI 19)) (nI 19) (wS W, wT0 W, wA W, (wK W).tail, wL W, wX W, wF W) := by
      refine rW_past o (fun b i h1 h2 => hp b i h1 (Or.inl h2)) (by rw [htl]) (fun j B hB => ?_) R
      have hj := (List.getElem?_eq_some_iff.mp hB).1
      rw [List.getElem?_tail] at hB
      rw [xu_r (by decide)]
      have := h4.2 (j + 1) B hB
      have oB := (ol.2 B (List.mem_of_getElem? hB)).1
      have e : ∀ i, i < 182 → J1 162 (182 * j + i) = I 162 (182 * (j + 1) + i) := fun i hi => by
        rw [s3 _ (by omega), if_pos (by omega), show 182 * j + i + 182 = 182 * (j + 1) + i by omega]
      unfold rPa at this ⊢
      refine rA_congr o.1 oB ?_ ?_ (fun q hq => ?_) (fun c hc => ?_) (fun i hi => ?_) (fun i hi => ?_) this
      · exact e 0 (by omega)
      · exact e 1 (by omega)
      · rw [Nat.add_assoc, Nat.add_assoc]; exact e _ (by omega)
      · rw [Nat.add_assoc, Nat.add_assoc]; exact e _ (by omega)
      · rw [Nat.add_assoc, Nat.add_assoc]; exact e _ (by omega)
      · rw [Nat.add_assoc, Nat.add_assoc]; exact e _ (by omega)
    have o1 : okW k nr (wS W, wT0 W, wA W, (wK W).tail, wL W, wX W, wF W) := by
      obtain ⟨p1, p2, p3, p4, p5, p6, p7, p8⟩ := o
      exact ⟨p1, p2, p3, ⟨by show (wK W).tail.length ≤ 20; omega, fun B hB => p4.2 B (List.mem_of_mem_tail hB)⟩, p5, p6, p7, p8⟩
    obtain ⟨J, j1, j2, j3⟩ := keepsAct52_ok (l := (wK W).tail) o1 (by omega) (by rw [xu_s, htl]) (fun j B hB => ⟨(o1.2.2.2.1.2 B (List.mem_of_getElem? hB)).1, R1.2.2.2.1.2 j B hB⟩) R1
    rw [if_neg h]
    refine ⟨J, ?_, j2, fun b i h1 h2 => (j3 b i h1 h2).trans (hp b i h1 (by omega))⟩
    rw [h4.1, h20, if_pos (show nI 20 = 20 from rfl)]
    change mX12_keepsAct_13 _ xf I (182 : Int32) = _ at s1
    rw [s1, e1]
    exact j1
theorem rW_setA {A : aT} (h1 : ∀ i, i ≠ 8 → i ≠ 9 → J 124 i = I 124 i) (h2 : ∀ b, b ≠ 124 → b ≠ 128 → b ≠ 131 → b ≠ 132 → b ≠ 133 → b ≠ 160 → b ≠ 161 → J b = I b) (hA : rAn J (wS W) A) (R : rW I pm W) : rW J pm (setA W A) := by
  obtain ⟨r1, r2, r3, r4, r5, r6, r7⟩ := R
  have e : ∀ b, b = 125 ∨ b = 126 ∨ b = 127 ∨ b = 129 ∨ b = 130 ∨ b = 134 ∨ b = 135 ∨ b = 136 ∨ b = 137 ∨ b = 138 ∨ b = 139 ∨ b = 140 ∨ b = 162 → J b = I b := fun b h => h2 b (by omega) (by omega) (by omega) (by omega) (by omega) (by omega) (by omega)
  refine ⟨?_, hA, ?_, ?_, ⟨(h1 10 (by decide) (by decide)).trans r5.1, fun j n t o hj => ?_⟩, (h1 11 (by decide) (by decide)).trans r6, (h1 12 (by decide) (by decide)).trans r7⟩
  · rw [e 125 (by omega), e 126 (by omega), e 127 (by omega), e 129 (by omega), e 130 (by omega)]
    exact ⟨fun i hi => (h1 i (by omega) (by omega)).trans (r1.1 i hi), r1.2⟩
  · unfold rT0
    rw [e 137 (by omega), e 138 (by omega), e 139 (by omega), e 140 (by omega)]
    exact r3
  · rw [e 162 (by omega)]
    exact r4
  · rw [e 134 (by omega), e 135 (by omega), e 136 (by omega)]
    exact r5.2 j n t o hj
end
section
variable {n : Nat} {K : Nat → Nat × Nat} {P P1 : Nat → Nat → Nat} {I J H : Nat → Nat → Int32} {L M : Nat → Nat → Int64} {Z : zT} {k : Nat}
/-- the class has kept the state and gone on to another -/
theorem CI_act {I1 : Nat → Nat → Int32} {L1 : Nat → Nat → Int64} {A : aT} (ok : okZ k Z) (C : CI (n, K, P, I, L) Z) (k2 : cW P1 I1 L1 12 (keepW (zW Z))) (k3 : kpl P1) (k4 : ∀ b, b ≠ 27 → P1 b = P b) (k5 : ∀ b, b < 12 ∨ (12 < b ∧ b < 31) ∨ 90 < b → I1 b = I b ∧ L1 b = L b) (hb : ∀ b, b < 24 ∨ (26 < b ∧ b < 92) ∨ 122 < b → J b = I1 b ∧ M b = L1 b) (hA : cA J M 24 (wS (zW Z)) A) : CI (n, K, P1, J, M) (setA (keepW (zW Z)) A, Z.2) := by
  have e12 : P1 12 = P 12 := k4 12 (by decide)
  refine CI_now ok C (cW_setA (W := keepW (zW Z)) (by rw [e12]; exact CI_p C) k3 (okW_keep ok.1).2.2.2.1.1 hb hA k2) (by rw [e12]; exact C.1.2) k3 (fun b h => ?_) (fun b h => k4 b (by omega))
  have h1 := hb b (by omega)
  have h2 := k5 b (by omega)
  exact ⟨h1.1.trans h2.1, h1.2.trans h2.2⟩
theorem RI_act {A : aT} (ok : okZ k Z) (R : RI I Z) (hH : ∀ b i, b ≠ 162 → b ≠ 123 ∨ (i ≠ 51 ∧ i ≠ 52 ∧ i ≠ 53) → H b i = I b i) (hW : rW H (H 123 51) (keepW (zW Z))) (h1 : ∀ i, i ≠ 8 → i ≠ 9 → J 124 i = H 124 i) (h2 : ∀ b, b ≠ 124 → b ≠ 128 → b ≠ 131 → b ≠ 132 → b ≠ 133 → b ≠ 160 → b ≠ 161 → J b = H b) (hA : rAn J (wS (zW Z)) A) : RI J (setA (keepW (zW Z)) A, Z.2) := by
  have e23 : J 123 = H 123 := h2 123 (by decide) (by decide) (by decide) (by decide) (by decide) (by decide) (by decide)
  refine RI_now ok R (by rw [e23]; exact rW_setA (W := keepW (zW Z)) h1 h2 hA hW) ?_ (fun b q1 q2 => ?_) (fun i _ => ?_) (fun i _ => ?_)
  · rw [e23]
    exact ⟨hH 123 31 (by decide) (by decide), hH 123 27 (by decide) (by decide), hH 123 36 (by decide) (by decide)⟩
  · rw [h2 b (by omega) (by omega) (by omega) (by omega) (by omega) (by omega) (by omega)]
    exact funext (fun i => hH b i (by omega) (by omega))
  · rw [h2 170 (by decide) (by decide) (by decide) (by decide) (by decide) (by decide) (by decide)]; exact hH 170 i (by decide) (Or.inl (by decide))
  · rw [h2 171 (by decide) (by decide) (by decide) (by decide) (by decide) (by decide) (by decide)]; exact hH 171 i (by decide) (Or.inl (by decide))
end

/-! Acts of the class: what is kept. -/
theorem xcb16 : xcb (0 : Int32) (0 : Int32) (16 : Int32) 16 16 = true := by decide +kernel
theorem xcb4 : xcb (0 : Int32) (0 : Int32) (4 : Int32) 4 4 = true := by decide +kernel
theorem cpy0 {α : Type} {f g : Nat → α} {n j : Nat} (h : j < n) : va_cpy f g 0 0 n j = f j := by
  rw [pk_cpy_in (by omega) (by omega)]
  simp
section
variable {I : Nat → Nat → Int32} {L : Nat → Nat → Int64} {S : sT} {A : aT} {a0 a1 : Nat}
theorem copyState_ok (O : okS S) (hn : a0 + 2 < a1 ∨ a1 + 2 < a0) (hC : cA I L a1 S A) : ∃ J M, mX6_copyFrom I L a0 a1 = some (J, M) ∧ cA J M a0 S A ∧ (∀ b, b ≠ a0 → b ≠ a0 + 2 → J b = I b) ∧ ∀ b, b ≠ a0 + 1 → M b = L b := by
  have o1 := O.1
  have i0 : ix (0 : Int32) = 0 := by decide +kernel
  have i4 : ix (4 : Int32) = 4 := by decide +kernel
  have i16 : ix (16 : Int32) = 16 := by decide +kernel
  unfold mX6_copyFrom
  rw [if_pos xcb16, if_pos xcb4, i0, i4, i16]
  refine ⟨_, _, rfl, ⟨fun c hc => ?_, fun q hq => ?_, ?_, ?_⟩, fun b h1 h2 => ?_, fun b h1 => ?_⟩
  · rw [xrow_at, cpy0 (by omega)]; exact hC.1 c hc
  · rw [xu_r (by omega), xu_r (by omega), xrow_at, cpy0 (by omega)]; exact hC.2.1 q hq
  · rw [xu_c (by decide), xu_s, xrow_r (by omega)]; exact hC.2.2.1
  · rw [xu_s, xu_r (by omega), xrow_r (by omega)]; exact hC.2.2.2
  · rw [xu_r h1, xu_r h1, xrow_r h2]
  · rw [xrow_r h1]
end
def keepL (l : List aT) (A : aT) : List aT := (if l.length < 20 then l else l.tail) ++ [A]
def keepW (W : wT) : wT := (wS W, wT0 W, wA W, keepL (wK W) (wA W), wL W, wX W, wF W)
def setA (W : wT) (A : aT) : wT := (wS W, wT0 W, A, wK W, wL W, wX W, wF W)
def kpl (P : Nat → Nat → Nat) : Prop := (∀ j, j < 20 → ∃ i, i < 20 ∧ P 27 j = 31 + 3 * i) ∧ ∀ i j, i < 20 → j < 20 → P 27 i = P 27 j → i = j
theorem drop_go {a1 : Nat} : ∀ (f m j : Nat) (P : Nat → Nat → Nat) (I : Nat → Nat → Int32), m < f → m + j = 20 → 0 < j → ∃ P1, mX10_dropOldest_9 f P I a1 (nI j) = some (P1, xu I 12 3 (nI 19)) ∧ (∀ b, b ≠ 27 → P1 b = P b) ∧ P1 27 19 = a1 ∧ ∀ i, i < 19 → P1 27 i = if j ≤ i + 1 then P 27 (i + 1) else P 27 i
  | 0, m, j, P, I, h1, _, _ => absurd h1 (by omega)
  | f + 1, m, j, P, I, h1, h2, h3 => by
    rw [mX10_dropOldest_9]
    cases m with
    | zero =>
      refine ⟨xu P 27 19 a1, ?_, fun b hb => xu_r hb, xu_s, fun i hi => ?_⟩
      · simp (disch := omega) only [↓reduceIte, Option.bind_some, Option.some.injEq, Prod.mk.injEq, and_self, and_true, true_and, eq_self, reduceCtorEq, not_false_eq_true, not_true_eq_false, or_true, true_or, or_false, false_or, bft, nAdd, nMul, nSub, nDiv, nRem, nAm1, nIx, nIn, bI_z, bI_o, ite_b1, ite_b0, zI_add, zI_sub, li0, li1, li2, li3, li4, li5, li6, li7, li8, li9, li10, li11, li12, li13, li14, li15, li16, li17, li18, li19, li20, li21, li22, li23, li24, li25, li26, li27, li28, li29, li30, li31, li32, li33, li34, li35, li36, li37, li40, li42, li43, li45, li47, li48, li57, li59, li60, li61, li62, li64, li80, li91, li93, li97, li99, li100, li122, li182, li199, li255, li300, li380, li400, li999, li1000, li3640, li4100, li65536, li99999, ln1, ln2, ln3, ln100, ln100000, tLe, fLe, tLt, fLt, tEq, fEq, zLe_t, zLe_f, zLt_t, zLt_f, zEq_t, zEq_f, nzLe_t, nzLe_f, znLe_t, znLe_f, nzLt_t, nzLt_f, znLt_t, znLt_f, nzEq_t, nzEq_f, znEq_t, znEq_f]
      · rw [if_neg (by omega), xu_c (by omega)]
    | succ m =>
      obtain ⟨P1, p1, p2, p3, p4⟩ := drop_go (a1 := a1) f m (j + 1) (xu P 27 (j - 1) (P 27 j)) I (by omega) (by omega) (by omega)
      refine ⟨P1, ?_, fun b hb => (p2 b hb).trans (xu_r hb), p3, fun i hi => ?_⟩
      · simp (disch := omega) only [↓reduceIte, Option.bind_some, Option.some.injEq, Prod.mk.injEq, and_self, and_true, true_and, eq_self, reduceCtorEq, not_false_eq_true, not_true_eq_false, or_true, true_or, or_false, false_or, bft, nAdd, nMul, nSub, nDiv, nRem, nAm1, nIx, nIn, bI_z, bI_o, ite_b1, ite_b0, zI_add, zI_sub, li0, li1, li2, li3, li4, li5, li6, li7, li8, li9, li10, li11, li12, li13, li14, li15, li16, li17, li18, li19, li20, li21, li22, li23, li24, li25, li26, li27, li28, li29, li30, li31, li32, li33, li34, li35, li36, li37, li40, li42, li43, li45, li47, li48, li57, li59, li60, li61, li62, li64, li80, li91, li93, li97, li99, li100, li122, li182, li199, li255, li300, li380, li400, li999, li1000, li3640, li4100, li65536, li99999, ln1, ln2, ln3, ln100, ln100000, tLe, fLe, tLt, fLt, tEq, fEq, zLe_t, zLe_f, zLt_t, zLt_f, zEq_t, zEq_f, nzLe_t, nzLe_f, znLe_t, znLe_f, nzLt_t, nzLt_f, znLt_t, znLt_f, nzEq_t, nzEq_f, znEq_t, znEq_f]
        exact p1
      · rw [p4 i hi]
        by_cases w : i = j - 1
        · rw [if_neg (by omega), if_pos (by omega), w, xu_s, show j - 1 + 1 = j by omega]
        · by_cases z : j + 1 ≤ i + 1
          · rw [if_pos z, if_pos (by omega), xu_c (by omega)]
          · rw [if_neg z, if_neg (by omega), xu_c w]
theorem dropOldest_ok {P : Nat → Nat → Nat} {I : Nat → Nat → Int32} : ∃ P1, mX10_dropOldest P I = some (P1, xu I 12 3 (nI 19)) ∧ (∀ b, b ≠ 27 → P1 b = P b) ∧ P1 27 19 = P 27 0 ∧ ∀ i, i < 19 → P1 27 i = P 27 (i + 1) := by
  obtain ⟨P1, p1, p2, p3, p4⟩ := drop_go (a1 := P 27 0) xf 19 1 P I (by unfold xf; omega) (by omega) (by omega)
  exact ⟨P1, p1, p2, p3, fun i hi => (p4 i hi).trans (if_pos (by omega))⟩
section
variable {P : Nat → Nat → Nat} {I : Nat → Nat → Int32} {L : Nat → Nat → Int64} {W : wT}
theorem keep13_ok {l : List aT} (O : okS (wS W)) (pl : P 12 0 = 13 ∨ 171 < P 12 0) (hk : kpl P) (hl : l.length < 20) (hs : cS I (P 12 0) (wS W) ∧ cA I L (P 12 0 + 8) (wS W) (wT0 W)) (ha : cA I L 24 (wS W) (wA W)) (h3 : I 12 3 = nI l.length) (hc : ∀ j B, l[j]? = some B → cA I L (P 27 j) (wS W) B) (hlg : I 12 7 = nI (wL W).length ∧ ∀ j n t o, (wL W)[j]? = some (n, t, o) → I 28 j = nI n ∧ I 29 j = nI t ∧ I 30 j = zI o) (hx : I 12 8 = nI (wX W)) (hf : I 12 9 = zI (wF W)) : ∃ J M, mX10_keep_13 P I L = some (P, J, M) ∧ cW P J M 12 (wS W, wT0 W, wA W, l ++ [wA W], wL W, wX W, wF W) ∧ (∀ b, b < 12 ∨ (12 < b ∧ b < 31) ∨ 90 < b → J b = I b ∧ M b = L b) := by
  obtain ⟨i, hi, e⟩ := hk.1 l.length hl
  obtain ⟨J1, M, j1, j2, j3, j4⟩ := copyState_ok (a0 := P 27 l.length) O (by omega) ha
  have j12 : J1 12 3 = nI l.length := by rw [j3 12 (by omega) (by omega)]; exact h3
  refine ⟨xu J1 12 3 (nI (l.length + 1)), M, ?_, ?_, fun b hb => ⟨by rw [xu_r (by omega), j3 b (by omega) (by omega)], j4 b (by omega)⟩⟩
  · unfold mX10_keep_13
    simp (disch := omega) only [↓reduceIte, Option.bind_some, Option.some.injEq, Prod.mk.injEq, and_self, and_true, true_and, eq_self, reduceCtorEq, not_false_eq_true, not_true_eq_false, or_true, true_or, or_false, false_or, bft, nAdd, nMul, nSub, nDiv, nRem, nAm1, nIx, nIn, bI_z, bI_o, ite_b1, ite_b0, zI_add, zI_sub, li0, li1, li2, li3, li4, li5, li6, li7, li8, li9, li10, li11, li12, li13, li14, li15, li16, li17, li18, li19, li20, li21, li22, li23, li24, li25, li26, li27, li28, li29, li30, li31, li32, li33, li34, li35, li36, li37, li40, li42, li43, li45, li47, li48, li57, li59, li60, li61, li62, li64, li80, li91, li93, li97, li99, li100, li122, li182, li199, li255, li300, li380, li400, li999, li1000, li3640, li4100, li65536, li99999, ln1, ln2, ln3, ln100, ln100000, tLe, fLe, tLt, fLt, tEq, fEq, zLe_t, zLe_f, zLt_t, zLt_f, zEq_t, zEq_f, nzLe_t, nzLe_f, znLe_t, znLe_f, nzLt_t, nzLt_f, znLt_t, znLt_f, nzEq_t, nzEq_f, znEq_t, znEq_f, h3, j1, j12]
  · have hb : ∀ b, b ≠ 12 → b ≠ P 27 l.length → b ≠ P 27 l.length + 2 → xu J1 12 3 (nI (l.length + 1)) b = I b := fun b h1 h2 h3 => by rw [xu_r h1, j3 b h2 h3]
    refine ⟨⟨cS_congr (fun b h1 h2 => hb b (by omega) (by omega) (by omega)) hs.1, cA_congr (hb _ (by omega) (by omega) (by omega)) (hb _ (by omega) (by omega) (by omega)) (j4 _ (by omega)) hs.2⟩, cA_congr (hb _ (by omega) (by omega) (by omega)) (hb _ (by omega) (by omega) (by omega)) (j4 _ (by omega)) ha, ⟨?_, fun j B hB => ?_⟩, ⟨?_, fun j n t o hj => ?_⟩, ?_, ?_⟩
    · rw [xu_s]
      show _ = nI (l ++ [wA W]).length
      simp
    · show cA _ M (P 27 j) (wS W) B
      change (l ++ [wA W])[j]? = some B at hB
      rcases getE_app hB with ⟨q1, q2⟩ | ⟨rfl, rfl⟩
      · obtain ⟨i2, hi2, e2⟩ := hk.1 j (by omega)
        have ne : P 27 j ≠ P 27 l.length := fun z => absurd (hk.2 j l.length (by omega) hl z) (by omega)
        exact cA_congr (hb _ (by omega) (by omega) (by omega)) (hb _ (by omega) (by omega) (by omega)) (j4 _ (by omega)) (hc j B q2)
      · exact cA_congr (xu_r (by omega)) (xu_r (by omega)) rfl j2
    · rw [xu_c (by decide), j3 12 (by omega) (by omega)]; exact hlg.1
    · show xu J1 12 3 _ 28 j = _ ∧ xu J1 12 3 _ 29 j = _ ∧ xu J1 12 3 _ 30 j = _
      rw [hb 28 (by omega) (by omega) (by omega), hb 29 (by omega) (by omega) (by omega), hb 30 (by omega) (by omega) (by omega)]
      exact hlg.2 j n t o hj
    · rw [xu_c (by decide), j3 12 (by omega) (by omega)]; exact hx
    · rw [xu_c (by decide), j3 12 (by omega) (by omega)]; exact hf
theorem keep_ok (O : okS (wS W)) (pl : P 12 0 = 13 ∨ 171 < P 12 0) (hk : kpl P) (hl : (wK W).length ≤ 20) (C : cW P I L 12 W) : ∃ P1 J M, mX10_keep P I L = some (P1, J, M) ∧ cW P1 J M 12 (keepW W) ∧ kpl P1 ∧ (∀ b, b ≠ 27 → P1 b = P b) ∧ (∀ b, b < 12 ∨ (12 < b ∧ b < 31) ∨ 90 < b → J b = I b ∧ M b = L b) := by
  obtain ⟨c1, c3, ⟨c4, c5⟩, c6, c8, c9⟩ := C
  unfold mX10_keep
  by_cases h : (wK W).length < 20
  · obtain ⟨J, M, k1, k2, k3⟩ := keep13_ok (l := wK W) O pl hk h c1 c3 c4 c5 c6 c8 c9
    refine ⟨P, J, M, ?_, ?_, hk, fun _ _ => rfl, k3⟩
    · simp (disch := omega) only [↓reduceIte, Option.bind_some, Option.some.injEq, Prod.mk.injEq, and_self, and_true, true_and, eq_self, reduceCtorEq, not_false_eq_true, not_true_eq_false, or_true, true_or, or_false, false_or, bft, nAdd, nMul, nSub, nDiv, nRem, nAm1, nIx, nIn, bI_z, bI_o, ite_b1, ite_b0, zI_add, zI_sub, li0, li1, li2, li3, li4, li5, li6, li7, li8, li9, li10, li11, li12, li13, li14, li15, li16, li17, li18, li19, li20, li21, li22, li23, li24, li25, li26, li27, li28, li29, li30, li31, li32, li33, li34, li35, li36, li37, li40, li42, li43, li45, li47, li48, li57, li59, li60, li61, li62, li64, li80, li91, li93, li97, li99, li100, li122, li182, li199, li255, li300, li380, li400, li999, li1000, li3640, li4100, li65536, li99999, ln1, ln2, ln3, ln100, ln100000, tLe, fLe, tLt, fLt, tEq, fEq, zLe_t, zLe_f, zLt_t, zLt_f, zEq_t, zEq_f, nzLe_t, nzLe_f, znLe_t, znLe_f, nzLt_t, nzLt_f, znLt_t, znLt_f, nzEq_t, nzEq_f, znEq_t, znEq_f, c4]
      exact k1
    · unfold keepW keepL
      rw [if_pos h]
      exact k2
  · obtain ⟨P1, p1, p2, p3, p4⟩ := dropOldest_ok (P := P) (I := I)
    have e12 : P1 12 = P 12 := p2 12 (by decide)
    have hk1 : kpl P1 := by
      refine ⟨fun j hj => ?_, fun i j hi hj e => ?_⟩
      · by_cases w : j = 19
        · subst w; rw [p3]; exact hk.1 0 (by decide)
        · rw [p4 j (by omega)]; exact hk.1 (j + 1) (by omega)
      · by_cases w : i = 19
        · by_cases z : j = 19
          · omega
          · rw [w, p3, p4 j (by omega)] at e
            exact absurd (hk.2 0 (j + 1) (by decide) (by omega) e) (by omega)
        · by_cases z : j = 19
          · rw [z, p3, p4 i (by omega)] at e
            exact absurd (hk.2 (i + 1) 0 (by omega) (by decide) e) (by omega)
          · rw [p4 i (by omega), p4 j (by omega)] at e
            have := hk.2 (i + 1) (j + 1) (by omega) (by omega) e
            omega
    have hb : ∀ b, b ≠ 12 → xu I 12 3 (nI 19) b = I b := fun b hb => xu_r hb
    have htl : (wK W).tail.length = 19 := by rw [List.length_tail]; omega
    obtain ⟨J, M, k1, k2, k3⟩ := keep13_ok (P := P1) (I := xu I 12 3 (nI 19)) (L := L) (W := W) (l := (wK W).tail) O (by rw [e12]; exact pl) hk1 (by omega) ⟨by rw [e12]; exact cS_congr (fun b h1 h2 => hb b (by omega)) c1.1, by rw [e12]; exact cA_congr (hb _ (by omega)) (hb _ (by omega)) rfl c1.2⟩ (cA_congr (hb 24 (by decide)) (hb 26 (by decide)) rfl c3) (by rw [xu_s, htl]) (fun j B hB => by
      have hj := (List.getElem?_eq_some_iff.mp hB).1
      rw [List.getElem?_tail] at hB
      obtain ⟨i, hi, e⟩ := hk.1 (j + 1) (by omega)
      rw [p4 j (by omega)]
      exact cA_congr (hb _ (by omega)) (hb _ (by omega)) rfl (c5 (j + 1) B hB)) ⟨by rw [xu_c (by decide)]; exact c6.1, fun j a t o hj => by rw [hb 28 (by decide), hb 29 (by decide), hb 30 (by decide)]; exact c6.2 j a t o hj⟩ (by rw [xu_c (by decide)]; exact c8) (by rw [xu_c (by decide)]; exact c9)
    refine ⟨P1, J, M, ?_, ?_, hk1, p2, fun b h1 => ⟨(k3 b h1).1.trans (hb b (by omega)), (k3 b h1).2⟩⟩
    · simp (disch := omega) only [↓reduceIte, Option.bind_some, Option.some.injEq, Prod.mk.injEq, and_self, and_true, true_and, eq_self, reduceCtorEq, not_false_eq_true, not_true_eq_false, or_true, true_or, or_false, false_or, bft, nAdd, nMul, nSub, nDiv, nRem, nAm1, nIx, nIn, bI_z, bI_o, ite_b1, ite_b0, zI_add, zI_sub, li0, li1, li2, li3, li4, li5, li6, li7, li8, li9, li10, li11, li12, li13, li14, li15, li16, li17, li18, li19, li20, li21, li22, li23, li24, li25, li26, li27, li28, li29, li30, li31, li32, li33, li34, li35, li36, li37, li40, li42, li43, li45, li47, li48, li57, li59, li60, li61, li62, li64, li80, li91, li93, li97, li99, li100, li122, li182, li199, li255, li300, li380, li400, li999, li1000, li3640, li4100, li65536, li99999, ln1, ln2, ln3, ln100, ln100000, tLe, fLe, tLt, fLt, tEq, fEq, zLe_t, zLe_f, zLt_t, zLt_f, zEq_t, zEq_f, nzLe_t, nzLe_f, znLe_t, znLe_f, nzLt_t, nzLt_f, znLt_t, znLt_f, nzEq_t, nzEq_f, znEq_t, znEq_f, c4, p1]
      exact k1
    · unfold keepW keepL
      rw [if_neg h]
      exact k2
/-- the state now is another -/
theorem cW_setA {J : Nat → Nat → Int32} {M : Nat → Nat → Int64} {A : aT} (pl : P 12 0 = 13 ∨ 171 < P 12 0) (hk : kpl P) (hl : (wK W).length ≤ 20) (hb : ∀ b, b < 24 ∨ (26 < b ∧ b < 92) ∨ 122 < b → J b = I b ∧ M b = L b) (hA : cA J M 24 (wS W) A) (C : cW P I L 12 W) : cW P J M 12 (setA W A) := by
  obtain ⟨c1, c3, ⟨c4, c5⟩, c6, c8, c9⟩ := C
  have e12 : J 12 = I 12 := (hb 12 (by omega)).1
  refine ⟨⟨cS_congr (fun b h1 h2 => (hb b (by omega)).1) c1.1, cA_congr (hb _ (by omega)).1 (hb _ (by omega)).1 (hb _ (by omega)).2 c1.2⟩, hA, ⟨by rw [e12]; exact c4, fun j B hB => ?_⟩, ⟨by rw [e12]; exact c6.1, fun j n t o hj => ?_⟩, by rw [e12]; exact c8, by rw [e12]; exact c9⟩
  · have hj := (List.getElem?_eq_some_iff.mp hB).1
    change j < (wK W).length at hj
    obtain ⟨i, hi, e⟩ := hk.1 j (by omega)
    show cA J M (P 27 j) (wS W) B
    exact cA_congr (hb _ (by omega)).1 (hb _ (by omega)).1 (hb _ (by omega)).2 (c5 j B hB)
  · show J 28 j = _ ∧ J 29 j = _ ∧ J 30 j = _
    rw [(hb 28 (by omega)).1, (hb 29 (by omega)).1, (hb 30 (by omega)).1]
    exact c6.2 j n t o hj
end
theorem keepL_len (l : List aT) (A : aT) (h : l.length ≤ 20) : (keepL l A).length = if l.length < 20 then l.length + 1 else 20 := by
  unfold keepL
  split
  · simp
  · simp; omega
theorem keepL_mem {l : List aT} {A B : aT} (h : B ∈ keepL l A) : B ∈ l ∨ B = A := by
  unfold keepL at h
  rcases List.mem_append.mp h with q | q
  · split at q
    · exact Or.inl q
    · exact Or.inl (List.mem_of_mem_tail q)
  · exact Or.inr (by simpa using q)
theorem okW_keep {k nr : Nat} {W : wT} (o : okW k nr W) : okW k nr (keepW W) := by
  obtain ⟨o1, o2, o3, o4, o5, o6, o7, o8⟩ := o
  refine ⟨o1, o2, o3, ⟨?_, fun B hB => ?_⟩, o5, o6, o7, o8⟩
  · show (keepL (wK W) (wA W)).length ≤ 20
    rw [keepL_len _ _ o4.1]
    split <;> omega
  · rcases keepL_mem hB with q | q
    · exact o4.2 B q
    · rw [q]; exact o3
theorem okW_setA {k nr : Nat} {W : wT} {A : aT} (o : okW k nr W) (hA : okA (wS W) A) (hh : A.2.2.1 ≤ k) : okW k nr (setA W A) := by
  obtain ⟨o1, o2, o3, o4, o5, o6, o7, o8⟩ := o
  exact ⟨o1, o2, ⟨hA, hh⟩, o4, o5, o6, o7, o8⟩

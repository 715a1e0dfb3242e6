/-! Logs and rules: the reference. -/
theorem copies_go {a0 a1 z1 : Nat} (ha : a0 ≠ a1) : ∀ (f m k z0 : Nat) (I : Nat → Nat → Int32), m < f → m + k = z0 → z0 ≤ z1 → z1 < 10000 → ∃ J, mX12_copies_2 f I a0 z0 a1 z1 (nI k) = some J ∧ (∀ i, k ≤ i → i < z0 → J a1 i = I a0 i) ∧ (∀ i, i < k ∨ z0 ≤ i → J a1 i = I a1 i) ∧ ∀ b, b ≠ a1 → J b = I b
  | 0, m, k, z0, I, h1, _, _, _ => absurd h1 (by omega)
  | f + 1, m, k, z0, I, h1, h2, h3, h4 => by
    rw [mX12_copies_2]
    cases m with
    | zero =>
      refine ⟨I, ?_, fun i q1 q2 => absurd q2 (by omega), fun _ _ => rfl, fun _ _ => rfl⟩
      simp (disch := omega) only [↓reduceIte, Option.bind_some, Option.some.injEq, Prod.mk.injEq, and_self, and_true, true_and, eq_self, reduceCtorEq, not_false_eq_true, not_true_eq_false, or_true, true_or, or_false, false_or, bft, nAdd, nMul, nSub, nDiv, nRem, nAm1, nIx, nIn, bI_z, bI_o, ite_b1, ite_b0, zI_add, zI_sub, li0, li1, li2, li3, li4, li5, li6, li7, li8, li9, li10, li11, li12, li13, li14, li15, li16, li17, li18, li19, li20, li21, li22, li23, li24, li25, li26, li27, li28, li29, li30, li31, li32, li33, li34, li35, li36, li37, li40, li42, li43, li45, li47, li48, li57, li59, li60, li61, li62, li64, li80, li91, li93, li97, li99, li100, li122, li182, li199, li255, li300, li380, li400, li999, li1000, li3640, li4100, li65536, li99999, ln1, ln2, ln3, ln100, ln100000, tLe, fLe, tLt, fLt, tEq, fEq, zLe_t, zLe_f, zLt_t, zLt_f, zEq_t, zEq_f, nzLe_t, nzLe_f, znLe_t, znLe_f, nzLt_t, nzLt_f, znLt_t, znLt_f, nzEq_t, nzEq_f, znEq_t, znEq_f]
    | succ m =>
      obtain ⟨J, j1, j2, j3, j4⟩ := copies_go (z1 := z1) ha f m (k + 1) z0 (xu I a1 k (I a0 k)) (by omega) (by omega) h3 h4
      refine ⟨J, ?_, fun i q1 q2 => ?_, fun i q => by rw [j3 i (by omega), xu_c (by omega)], fun b hb => (j4 b hb).trans (xu_r hb)⟩
      · simp (disch := omega) only [↓reduceIte, Option.bind_some, Option.some.injEq, Prod.mk.injEq, and_self, and_true, true_and, eq_self, reduceCtorEq, not_false_eq_true, not_true_eq_false, or_true, true_or, or_false, false_or, bft, nAdd, nMul, nSub, nDiv, nRem, nAm1, nIx, nIn, bI_z, bI_o, ite_b1, ite_b0, zI_add, zI_sub, li0, li1, li2, li3, li4, li5, li6, li7, li8, li9, li10, li11, li12, li13, li14, li15, li16, li17, li18, li19, li20, li21, li22, li23, li24, li25, li26, li27, li28, li29, li30, li31, li32, li33, li34, li35, li36, li37, li40, li42, li43, li45, li47, li48, li57, li59, li60, li61, li62, li64, li80, li91, li93, li97, li99, li100, li122, li182, li199, li255, li300, li380, li400, li999, li1000, li3640, li4100, li65536, li99999, ln1, ln2, ln3, ln100, ln100000, tLe, fLe, tLt, fLt, tEq, fEq, zLe_t, zLe_f, zLt_t, zLt_f, zEq_t, zEq_f, nzLe_t, nzLe_f, znLe_t, znLe_f, nzLt_t, nzLt_f, znLt_t, znLt_f, nzEq_t, nzEq_f, znEq_t, znEq_f]
        exact j1
      · by_cases w : i = k
        · subst w; rw [j3 i (by omega), xu_s]
        · rw [j2 i (by omega) q2, xu_r ha]
theorem copies_ok {a0 a1 z : Nat} (ha : a0 ≠ a1) (hz : z < 10000) (I : Nat → Nat → Int32) : ∃ J, mX12_copies I a0 z a1 z = some J ∧ (∀ i, i < z → J a1 i = I a0 i) ∧ (∀ i, z ≤ i → J a1 i = I a1 i) ∧ ∀ b, b ≠ a1 → J b = I b := by
  obtain ⟨J, j1, j2, j3, j4⟩ := copies_go (z1 := z) ha xf z 0 z I (by unfold xf; omega) (by omega) (Nat.le_refl _) hz
  exact ⟨J, j1, fun i hi => j2 i (by omega) hi, fun i hi => j3 i (Or.inr hi), j4⟩
theorem fill_go {e54 : (Nat → Nat → Int32) → Option (Nat → Nat → Int32)} : ∀ (f m k : Nat) (I : Nat → Nat → Int32), m < f → m + k = 80 → ∃ J, mX12_begins_35 e54 f I (nI k) = e54 J ∧ (∀ i, k ≤ i → i < 80 → J 133 i = zI (-1)) ∧ (∀ i, i < k → J 133 i = I 133 i) ∧ ∀ b, b ≠ 133 → J b = I b
  | 0, m, k, I, h1, _ => absurd h1 (by omega)
  | f + 1, m, k, I, h1, h2 => by
    rw [mX12_begins_35]
    cases m with
    | zero =>
      refine ⟨I, ?_, fun i q1 q2 => absurd q2 (by omega), fun _ _ => rfl, fun _ _ => rfl⟩
      simp (disch := omega) only [↓reduceIte, Option.bind_some, Option.some.injEq, Prod.mk.injEq, and_self, and_true, true_and, eq_self, reduceCtorEq, not_false_eq_true, not_true_eq_false, or_true, true_or, or_false, false_or, bft, nAdd, nMul, nSub, nDiv, nRem, nAm1, nIx, nIn, bI_z, bI_o, ite_b1, ite_b0, zI_add, zI_sub, li0, li1, li2, li3, li4, li5, li6, li7, li8, li9, li10, li11, li12, li13, li14, li15, li16, li17, li18, li19, li20, li21, li22, li23, li24, li25, li26, li27, li28, li29, li30, li31, li32, li33, li34, li35, li36, li37, li40, li42, li43, li45, li47, li48, li57, li59, li60, li61, li62, li64, li80, li91, li93, li97, li99, li100, li122, li182, li199, li255, li300, li380, li400, li999, li1000, li3640, li4100, li65536, li99999, ln1, ln2, ln3, ln100, ln100000, tLe, fLe, tLt, fLt, tEq, fEq, zLe_t, zLe_f, zLt_t, zLt_f, zEq_t, zEq_f, nzLe_t, nzLe_f, znLe_t, znLe_f, nzLt_t, nzLt_f, znLt_t, znLt_f, nzEq_t, nzEq_f, znEq_t, znEq_f]
    | succ m =>
      obtain ⟨J, j1, j2, j3, j4⟩ := fill_go (e54 := e54) f m (k + 1) (xu I 133 k (zI (-1))) (by omega) (by omega)
      refine ⟨J, ?_, fun i q1 q2 => ?_, fun i q => by rw [j3 i (by omega), xu_c (by omega)], fun b hb => (j4 b hb).trans (xu_r hb)⟩
      · simp (disch := omega) only [↓reduceIte, Option.bind_some, Option.some.injEq, Prod.mk.injEq, and_self, and_true, true_and, eq_self, reduceCtorEq, not_false_eq_true, not_true_eq_false, or_true, true_or, or_false, false_or, bft, nAdd, nMul, nSub, nDiv, nRem, nAm1, nIx, nIn, bI_z, bI_o, ite_b1, ite_b0, zI_add, zI_sub, li0, li1, li2, li3, li4, li5, li6, li7, li8, li9, li10, li11, li12, li13, li14, li15, li16, li17, li18, li19, li20, li21, li22, li23, li24, li25, li26, li27, li28, li29, li30, li31, li32, li33, li34, li35, li36, li37, li40, li42, li43, li45, li47, li48, li57, li59, li60, li61, li62, li64, li80, li91, li93, li97, li99, li100, li122, li182, li199, li255, li300, li380, li400, li999, li1000, li3640, li4100, li65536, li99999, ln1, ln2, ln3, ln100, ln100000, tLe, fLe, tLt, fLt, tEq, fEq, zLe_t, zLe_f, zLt_t, zLt_f, zEq_t, zEq_f, nzLe_t, nzLe_f, znLe_t, znLe_f, nzLt_t, nzLt_f, znLt_t, znLt_f, nzEq_t, nzEq_f, znEq_t, znEq_f]
        exact j1
      · by_cases w : i = k
        · subst w; rw [j3 i (by omega), xu_s]
        · exact j2 i (by omega) q2
section
variable {S : sT} {T : aT}
theorem bare_go (O : okS S) (hT : okA S T) : ∀ (f n t : Nat) (I : Nat → Nat → Int32), n < f → n + t = sTh S → rSn I S → I 124 8 = nI T.2.2.2 → (∀ c, c < sCe S → thOf S c < t ∨ T.2.2.2.testBit (thOf S c) = false → I 131 c = nI (T.1 c).length) → ∃ J, mX12_begins_77 f I (nI t) = some J ∧ (∀ c, c < sCe S → J 131 c = nI (T.1 c).length) ∧ ∀ b, b ≠ 131 → J b = I b
  | 0, n, t, I, h1, _, _, _, _ => absurd h1 (by omega)
  | f + 1, n, t, I, h1, h2, R, h8, hm => by
    have o1 := O.1
    have hb16 := hT.2.2.1
    rw [mX12_begins_77]
    cases n with
    | zero =>
      refine ⟨I, ?_, fun c hc => hm c hc (Or.inl (by have := (thOf_ok O hc).1; omega)), fun _ _ => rfl⟩
      simp (disch := omega) only [↓reduceIte, Option.bind_some, Option.some.injEq, Prod.mk.injEq, and_self, and_true, true_and, eq_self, reduceCtorEq, not_false_eq_true, not_true_eq_false, or_true, true_or, or_false, false_or, bft, nAdd, nMul, nSub, nDiv, nRem, nAm1, nIx, nIn, bI_z, bI_o, ite_b1, ite_b0, zI_add, zI_sub, li0, li1, li2, li3, li4, li5, li6, li7, li8, li9, li10, li11, li12, li13, li14, li15, li16, li17, li18, li19, li20, li21, li22, li23, li24, li25, li26, li27, li28, li29, li30, li31, li32, li33, li34, li35, li36, li37, li40, li42, li43, li45, li47, li48, li57, li59, li60, li61, li62, li64, li80, li91, li93, li97, li99, li100, li122, li182, li199, li255, li300, li380, li400, li999, li1000, li3640, li4100, li65536, li99999, ln1, ln2, ln3, ln100, ln100000, tLe, fLe, tLt, fLt, tEq, fEq, zLe_t, zLe_f, zLt_t, zLt_f, zEq_t, zEq_f, nzLe_t, nzLe_f, znLe_t, znLe_f, nzLt_t, nzLt_f, znLt_t, znLt_f, nzEq_t, nzEq_f, znEq_t, znEq_f, rSn_th R]
    | succ n =>
      have ht : t < sTh S := by omega
      have ot := O.2.1.2.2 t ht
      have eb := rIsBare_ok (t := t) h8 (by omega) (by omega)
      cases hb : T.2.2.2.testBit t with
      | false =>
        rw [hb] at eb
        obtain ⟨J, j1, j2, j3⟩ := bare_go O hT f n (t + 1) I (by omega) (by omega) R h8 (fun c hc hq => by
          rcases hq with q | q
          · by_cases w : thOf S c = t
            · exact hm c hc (Or.inr (by rw [w]; exact hb))
            · exact hm c hc (Or.inl (by omega))
          · exact hm c hc (Or.inr q))
        refine ⟨J, ?_, j2, j3⟩
        simp (disch := omega) only [↓reduceIte, Option.bind_some, Option.some.injEq, Prod.mk.injEq, and_self, and_true, true_and, eq_self, reduceCtorEq, not_false_eq_true, not_true_eq_false, or_true, true_or, or_false, false_or, bft, nAdd, nMul, nSub, nDiv, nRem, nAm1, nIx, nIn, bI_z, bI_o, ite_b1, ite_b0, zI_add, zI_sub, li0, li1, li2, li3, li4, li5, li6, li7, li8, li9, li10, li11, li12, li13, li14, li15, li16, li17, li18, li19, li20, li21, li22, li23, li24, li25, li26, li27, li28, li29, li30, li31, li32, li33, li34, li35, li36, li37, li40, li42, li43, li45, li47, li48, li57, li59, li60, li61, li62, li64, li80, li91, li93, li97, li99, li100, li122, li182, li199, li255, li300, li380, li400, li999, li1000, li3640, li4100, li65536, li99999, ln1, ln2, ln3, ln100, ln100000, tLe, fLe, tLt, fLt, tEq, fEq, zLe_t, zLe_f, zLt_t, zLt_f, zEq_t, zEq_f, nzLe_t, nzLe_f, znLe_t, znLe_f, nzLt_t, nzLt_f, znLt_t, znLt_f, nzEq_t, nzEq_f, znEq_t, znEq_f, rSn_th R, eb]
        exact j1
      | true =>
        rw [hb] at eb
        let Q : aT := (fun c => List.replicate (Classical.choose (nI_all (I 131 c))) 0, fun _ => 0, 0, 0)
        obtain ⟨J1, p1, p2, p3, p4⟩ := barely_ok (A := Q) (I := I) O ht (fun u hu => rSn_fi R hu) (fun c _ _ => by
          show I 131 c = nI (List.replicate (Classical.choose (nI_all (I 131 c))) 0).length
          rw [List.length_replicate]
          exact Classical.choose_spec (nI_all (I 131 c)))
        obtain ⟨J, j1, j2, j3⟩ := bare_go O hT f n (t + 1) J1 (by omega) (by omega) (rSn_f (fR_of (fun b _ q _ _ _ _ => p4 b q)) R) (by rw [p4 124 (by decide)]; exact h8) (fun c hc hq => by
          obtain ⟨t1, t2, t3⟩ := thOf_ok O hc
          by_cases w : thOf S c = t
          · rw [w] at t2 t3
            rw [p2 c t2 t3, hT.2.2.2 t ht hb c t2 t3]
            rfl
          · have hin : c < sFi S t ∨ sFi S (t + 1) ≤ c := by
              rcases Nat.lt_or_ge c (sFi S t) with z | z
              · exact Or.inl z
              · rcases Nat.lt_or_ge c (sFi S (t + 1)) with y | y
                · exact absurd (thOf_eq O ht z y) w
                · exact Or.inr y
            rw [p3 c hin]
            exact hm c hc (hq.imp (fun q => by omega) id))
        refine ⟨J, ?_, j2, fun b hb => (j3 b hb).trans (p4 b hb)⟩
        simp (disch := omega) only [↓reduceIte, Option.bind_some, Option.some.injEq, Prod.mk.injEq, and_self, and_true, true_and, eq_self, reduceCtorEq, not_false_eq_true, not_true_eq_false, or_true, true_or, or_false, false_or, bft, nAdd, nMul, nSub, nDiv, nRem, nAm1, nIx, nIn, bI_z, bI_o, ite_b1, ite_b0, zI_add, zI_sub, li0, li1, li2, li3, li4, li5, li6, li7, li8, li9, li10, li11, li12, li13, li14, li15, li16, li17, li18, li19, li20, li21, li22, li23, li24, li25, li26, li27, li28, li29, li30, li31, li32, li33, li34, li35, li36, li37, li40, li42, li43, li45, li47, li48, li57, li59, li60, li61, li62, li64, li80, li91, li93, li97, li99, li100, li122, li182, li199, li255, li300, li380, li400, li999, li1000, li3640, li4100, li65536, li99999, ln1, ln2, ln3, ln100, ln100000, tLe, fLe, tLt, fLt, tEq, fEq, zLe_t, zLe_f, zLt_t, zLt_f, zEq_t, zEq_f, nzLe_t, nzLe_f, znLe_t, znLe_f, nzLt_t, nzLt_f, znLt_t, znLt_f, nzEq_t, nzEq_f, znEq_t, znEq_f, rSn_th R, eb, p1]
        exact j1
/-- the reference begins anew as told -/
theorem begins_ok {I : Nat → Nat → Int32} (O : okS S) (hT : okA S T) (h4 : ∀ c, c < sCe S → ∀ x ∈ T.1 c, x / 4 = 1) (h0 : T.2.2.1 = 0) (R : rSn I S) (RT : rT0 I S T) : ∃ J, mX12_begins I = some J ∧ rAn J S T ∧ (∀ i, i ≠ 8 → i ≠ 9 → J 124 i = I 124 i) ∧ ∀ b, ¬ fv b → J b = I b := by
  have o1 := O.1
  obtain ⟨J1, a1, a2, a3, a4⟩ := copies_ok (a0 := 137) (a1 := 131) (z := 16) (by decide) (by decide) I
  obtain ⟨J2, b1, b2, b3, b4⟩ := copies_ok (a0 := 138) (a1 := 132) (z := 80) (by decide) (by decide) J1
  obtain ⟨J3, c1, c2, c3, c4⟩ := copies_ok (a0 := 139) (a1 := 128) (z := 4) (by decide) (by decide) J2
  obtain ⟨J4, d1, d2, d3, d4⟩ := fill_go (e54 := fun I_9 => (mX12_begins_77 xf (xu (xu I_9 124 8 (I_9 140 0)) 124 9 (0 : Int32)) (0 : Int32))) xf 80 0 J3 (by unfold xf; omega) (by omega)
  have e : ∀ b, b ≠ 128 → b ≠ 131 → b ≠ 132 → b ≠ 133 → J4 b = I b := fun b q1 q2 q3 q4 => by rw [d4 b q4, c4 b q1, b4 b q3, a4 b q2]
  have e140 : J4 140 0 = nI T.2.2.2 := by rw [e 140 (by decide) (by decide) (by decide) (by decide)]; exact RT.2.2
  have f5 : ∀ b, b ≠ 124 → xu (xu J4 124 8 (nI T.2.2.2)) 124 9 (nI 0) b = J4 b := fun b hb => by rw [xu_r hb, xu_r hb]
  have R5 : rSn (xu (xu J4 124 8 (nI T.2.2.2)) 124 9 (nI 0)) S := by
    unfold rSn
    rw [f5 125 (by decide), f5 126 (by decide), f5 127 (by decide), f5 129 (by decide), f5 130 (by decide), e 125 (by decide) (by decide) (by decide) (by decide), e 126 (by decide) (by decide) (by decide) (by decide), e 127 (by decide) (by decide) (by decide) (by decide), e 129 (by decide) (by decide) (by decide) (by decide), e 130 (by decide) (by decide) (by decide) (by decide)]
    refine ⟨fun i hi => ?_, R.2⟩
    rw [xu_c (by omega), xu_c (by omega), e 124 (by decide) (by decide) (by decide) (by decide)]
    exact R.1 i hi
  have e131 : ∀ i, i < 16 → J4 131 i = I 137 i := fun i hi => by rw [d4 131 (by decide), c4 131 (by decide), b4 131 (by decide), a2 i hi]
  have e132 : ∀ i, i < 80 → J4 132 i = I 138 i := fun i hi => by rw [d4 132 (by decide), c4 132 (by decide), b2 i hi, a4 138 (by decide)]
  have e128 : ∀ i, i < 4 → J4 128 i = I 139 i := fun i hi => by rw [d4 128 (by decide), c2 i hi, b4 139 (by decide), a4 139 (by decide)]
  obtain ⟨J, g1, g2, g3⟩ := bare_go O hT xf (sTh S) 0 (xu (xu J4 124 8 (nI T.2.2.2)) 124 9 (nI 0)) (by unfold xf; omega) (by omega) R5 (by rw [xu_c (by decide), xu_s]) (fun c hc hq => by
    rw [f5 131 (by decide), e131 c (by omega)]
    rcases hq with q | q
    · exact absurd q (by omega)
    · exact (RT.1 c hc q).1)
  refine ⟨J, ?_, ⟨?_, ?_, fun q hq => ?_, fun c hc => ⟨g2 c hc, ?_⟩⟩, fun i q1 q2 => ?_, fun b hb => ?_⟩
  · unfold mX12_begins
    rw [a1, Option.bind_some, b1, Option.bind_some, c1, Option.bind_some]
    change mX12_begins_35 _ xf J3 (nI 0) = _
    rw [d1, e140]
    exact g1
  · rw [g3 124 (by decide), xu_c (by decide), xu_s]
  · rw [g3 124 (by decide), xu_s, h0]
  · rw [g3 128 (by decide), f5 128 (by decide), e128 q (by omega)]; exact RT.2.1 q hq
  · intro i x hx
    have hi := (List.getElem?_eq_some_iff.mp hx).1
    rw [List.length_reverse] at hi
    have hl := (hT.1 c hc).1.1
    have hxm : x ∈ T.1 c := List.mem_reverse.mp (List.mem_of_getElem? hx)
    have hb : T.2.2.2.testBit (thOf S c) = false := by
      cases hbb : T.2.2.2.testBit (thOf S c) with
      | false => rfl
      | true =>
        obtain ⟨t1, t2, t3⟩ := thOf_ok O hc
        rw [hT.2.2.2 _ t1 hbb c t2 t3] at hxm
        simp at hxm
    refine ⟨?_, ?_⟩
    · show J 132 (5 * c + i) = _
      rw [g3 132 (by decide), f5 132 (by decide), e132 _ (by omega)]
      exact (RT.1 c hc hb).2 i x hx
    · show J 133 (5 * c + i) = _
      rw [g3 133 (by decide), f5 133 (by decide), d2 _ (by omega) (by omega), h4 c hc x hxm]
      rfl
  · rw [g3 124 (by decide), xu_c q2, xu_c q1, e 124 (by decide) (by decide) (by decide) (by decide)]
  · unfold fv at hb
    rw [g3 b (by omega), f5 b (by omega), e b (by omega) (by omega) (by omega) (by omega)]
end
/-- the reference's logs -/
def rLg (I : Nat → Nat → Int32) (l : lgT) : Prop := I 124 10 = nI l.length ∧ ∀ j n t o, l[j]? = some (n, t, o) → I 134 j = nI n ∧ I 135 j = nI t ∧ I 136 j = zI o
theorem rLg_f {I J : Nat → Nat → Int32} {l : lgT} (F : fR I J) (R : rLg I l) : rLg J l := by
  unfold rLg
  rw [F.1 10 (by decide), F.2 134 (by decide) (by decide) (by decide) (by decide) (by decide) (by decide) (by decide), F.2 135 (by decide) (by decide) (by decide) (by decide) (by decide) (by decide) (by decide), F.2 136 (by decide) (by decide) (by decide) (by decide) (by decide) (by decide) (by decide)]
  exact R
section
variable {S : sT} {l : lgT}
theorem so_go {A : aT} {h : Nat} (O : okS S) (hA : okA S A) (hh : A.2.2.1 < 1000) (ol : okLg S l) (hh2 : h < 1000) : ∀ (f n k : Nat) (all : Bool) (I : Nat → Nat → Int32), n < f → n + k = l.length → rSn I S → rAn I S A → rLg I l → ∃ J, mX12_areLogsSo_4 f I (nI h) (bI all) (nI k) = some (bI (all && lgH S A (l.drop k) h), J) ∧ ∀ b, b ≠ 160 → J b = I b
  | 0, n, k, all, I, h1, _, _, _, _ => absurd h1 (by omega)
  | f + 1, n, k, all, I, h1, h2, R, RA, Rl => by
    have o1 := O.1
    have ol1 := ol.1
    have c1 := Rl.1
    rw [mX12_areLogsSo_4]
    cases n with
    | zero =>
      refine ⟨I, ?_, fun _ _ => rfl⟩
      rw [List.drop_eq_nil_of_le (by omega), show lgH S A [] h = true from rfl, Bool.and_true]
      simp (disch := omega) only [↓reduceIte, Option.bind_some, Option.some.injEq, Prod.mk.injEq, and_self, and_true, true_and, eq_self, reduceCtorEq, not_false_eq_true, not_true_eq_false, or_true, true_or, or_false, false_or, bft, nAdd, nMul, nSub, nDiv, nRem, nAm1, nIx, nIn, bI_z, bI_o, ite_b1, ite_b0, zI_add, zI_sub, li0, li1, li2, li3, li4, li5, li6, li7, li8, li9, li10, li11, li12, li13, li14, li15, li16, li17, li18, li19, li20, li21, li22, li23, li24, li25, li26, li27, li28, li29, li30, li31, li32, li33, li34, li35, li36, li37, li40, li42, li43, li45, li47, li48, li57, li59, li60, li61, li62, li64, li80, li91, li93, li97, li99, li100, li122, li182, li199, li255, li300, li380, li400, li999, li1000, li3640, li4100, li65536, li99999, ln1, ln2, ln3, ln100, ln100000, tLe, fLe, tLt, fLt, tEq, fEq, zLe_t, zLe_f, zLt_t, zLt_f, zEq_t, zEq_f, nzLe_t, nzLe_f, znLe_t, znLe_f, nzLt_t, nzLt_f, znLt_t, znLt_f, nzEq_t, nzEq_f, znEq_t, znEq_f, c1]
    | succ n =>
      obtain ⟨x, t, o, e1, e2⟩ := lg_cons (show k < l.length by omega)
      obtain ⟨i1, i2, i3⟩ := Rl.2 k x t o e1
      have ob := ol.2 (x, t, o) (List.mem_of_getElem? e1)
      have ob1 : x ≤ 99 := ob.1
      have ob2 : t < sTh S := ob.2.1
      have ob3 : -1 ≤ o := ob.2.2.1
      have ob4 : o < sPa S := ob.2.2.2
      have ea : lgH S A ((x, t, o) :: l.drop (k + 1)) h = (lgB S A h (x, t, o) && lgH S A (l.drop (k + 1)) h) := rfl
      rw [e2, ea]
      unfold lgB
      cases all with
      | false =>
        obtain ⟨J, j1, j2⟩ := so_go O hA hh ol hh2 f n (k + 1) false I (by omega) (by omega) R RA Rl
        refine ⟨J, ?_, j2⟩
        rw [Bool.false_and] at j1 ⊢
        simp (disch := omega) only [↓reduceIte, Option.bind_some, Option.some.injEq, Prod.mk.injEq, and_self, and_true, true_and, eq_self, reduceCtorEq, not_false_eq_true, not_true_eq_false, or_true, true_or, or_false, false_or, bft, nAdd, nMul, nSub, nDiv, nRem, nAm1, nIx, nIn, bI_z, bI_o, ite_b1, ite_b0, zI_add, zI_sub, li0, li1, li2, li3, li4, li5, li6, li7, li8, li9, li10, li11, li12, li13, li14, li15, li16, li17, li18, li19, li20, li21, li22, li23, li24, li25, li26, li27, li28, li29, li30, li31, li32, li33, li34, li35, li36, li37, li40, li42, li43, li45, li47, li48, li57, li59, li60, li61, li62, li64, li80, li91, li93, li97, li99, li100, li122, li182, li199, li255, li300, li380, li400, li999, li1000, li3640, li4100, li65536, li99999, ln1, ln2, ln3, ln100, ln100000, tLe, fLe, tLt, fLt, tEq, fEq, zLe_t, zLe_f, zLt_t, zLt_f, zEq_t, zEq_f, nzLe_t, nzLe_f, znLe_t, znLe_f, nzLt_t, nzLt_f, znLt_t, znLt_f, nzEq_t, nzEq_f, znEq_t, znEq_f, c1]
        exact j1
      | true =>
        rw [Bool.true_and]
        by_cases q1 : x = h
        · obtain ⟨J1, p1, p2⟩ := rThingOwner_ok O hA (by omega) ob2 R RA
          have br := ownT_b O hA ob2 (sPart S)
          have i3' : J1 136 k = zI o := by rw [p2 136 (by decide)]; exact i3
          by_cases q2 : ownT S A t (sPart S) = o
          · obtain ⟨J, j1, j2⟩ := so_go O hA hh ol hh2 f n (k + 1) true J1 (by omega) (by omega) (rSn_congr p2 R) (rAn_congr p2 RA) (rLg_f (f160 p2) Rl)
            refine ⟨J, ?_, fun b hb => (j2 b hb).trans (p2 b hb)⟩
            rw [Bool.true_and] at j1
            rw [q2] at p1
            simp (disch := omega) only [↓reduceIte, Option.bind_some, Option.some.injEq, Prod.mk.injEq, and_self, and_true, true_and, eq_self, reduceCtorEq, not_false_eq_true, not_true_eq_false, or_true, true_or, or_false, false_or, bft, nAdd, nMul, nSub, nDiv, nRem, nAm1, nIx, nIn, bI_z, bI_o, ite_b1, ite_b0, zI_add, zI_sub, li0, li1, li2, li3, li4, li5, li6, li7, li8, li9, li10, li11, li12, li13, li14, li15, li16, li17, li18, li19, li20, li21, li22, li23, li24, li25, li26, li27, li28, li29, li30, li31, li32, li33, li34, li35, li36, li37, li40, li42, li43, li45, li47, li48, li57, li59, li60, li61, li62, li64, li80, li91, li93, li97, li99, li100, li122, li182, li199, li255, li300, li380, li400, li999, li1000, li3640, li4100, li65536, li99999, ln1, ln2, ln3, ln100, ln100000, tLe, fLe, tLt, fLt, tEq, fEq, zLe_t, zLe_f, zLt_t, zLt_f, zEq_t, zEq_f, nzLe_t, nzLe_f, znLe_t, znLe_f, nzLt_t, nzLt_f, znLt_t, znLt_f, nzEq_t, nzEq_f, znEq_t, znEq_f, c1, i1, i2, p1, i3', q1, q2, decide_true, Bool.or_true, Bool.true_and]
            exact j1
          · obtain ⟨J, j1, j2⟩ := so_go O hA hh ol hh2 f n (k + 1) false J1 (by omega) (by omega) (rSn_congr p2 R) (rAn_congr p2 RA) (rLg_f (f160 p2) Rl)
            refine ⟨J, ?_, fun b hb => (j2 b hb).trans (p2 b hb)⟩
            rw [Bool.false_and] at j1
            simp (disch := omega) only [↓reduceIte, Option.bind_some, Option.some.injEq, Prod.mk.injEq, and_self, and_true, true_and, eq_self, reduceCtorEq, not_false_eq_true, not_true_eq_false, or_true, true_or, or_false, false_or, bft, nAdd, nMul, nSub, nDiv, nRem, nAm1, nIx, nIn, bI_z, bI_o, ite_b1, ite_b0, zI_add, zI_sub, li0, li1, li2, li3, li4, li5, li6, li7, li8, li9, li10, li11, li12, li13, li14, li15, li16, li17, li18, li19, li20, li21, li22, li23, li24, li25, li26, li27, li28, li29, li30, li31, li32, li33, li34, li35, li36, li37, li40, li42, li43, li45, li47, li48, li57, li59, li60, li61, li62, li64, li80, li91, li93, li97, li99, li100, li122, li182, li199, li255, li300, li380, li400, li999, li1000, li3640, li4100, li65536, li99999, ln1, ln2, ln3, ln100, ln100000, tLe, fLe, tLt, fLt, tEq, fEq, zLe_t, zLe_f, zLt_t, zLt_f, zEq_t, zEq_f, nzLe_t, nzLe_f, znLe_t, znLe_f, nzLt_t, nzLt_f, znLt_t, znLt_f, nzEq_t, nzEq_f, znEq_t, znEq_f, c1, i1, i2, p1, i3', q1, decide_true, decide_eq_false q2, Bool.not_true, Bool.or_false, Bool.false_and]
            exact j1
        · obtain ⟨J, j1, j2⟩ := so_go O hA hh ol hh2 f n (k + 1) true I (by omega) (by omega) R RA Rl
          refine ⟨J, ?_, j2⟩
          rw [Bool.true_and] at j1
          simp (disch := omega) only [↓reduceIte, Option.bind_some, Option.some.injEq, Prod.mk.injEq, and_self, and_true, true_and, eq_self, reduceCtorEq, not_false_eq_true, not_true_eq_false, or_true, true_or, or_false, false_or, bft, nAdd, nMul, nSub, nDiv, nRem, nAm1, nIx, nIn, bI_z, bI_o, ite_b1, ite_b0, zI_add, zI_sub, li0, li1, li2, li3, li4, li5, li6, li7, li8, li9, li10, li11, li12, li13, li14, li15, li16, li17, li18, li19, li20, li21, li22, li23, li24, li25, li26, li27, li28, li29, li30, li31, li32, li33, li34, li35, li36, li37, li40, li42, li43, li45, li47, li48, li57, li59, li60, li61, li62, li64, li80, li91, li93, li97, li99, li100, li122, li182, li199, li255, li300, li380, li400, li999, li1000, li3640, li4100, li65536, li99999, ln1, ln2, ln3, ln100, ln100000, tLe, fLe, tLt, fLt, tEq, fEq, zLe_t, zLe_f, zLt_t, zLt_f, zEq_t, zEq_f, nzLe_t, nzLe_f, znLe_t, znLe_f, nzLt_t, nzLt_f, znLt_t, znLt_f, nzEq_t, nzEq_f, znEq_t, znEq_f, c1, i1, decide_eq_false q1, Bool.not_false, Bool.true_or, Bool.true_and]
          exact j1
/-- what is shown -/
theorem shown_go {A : aT} {e82 : (Nat → Nat → Int32) → (Nat → Nat → Int64) → Int32 → Int32 → Int32 → Option (Int32 × (Nat → Nat → Int32) × (Nat → Nat → Int64))} {L : Nat → Nat → Int64} {a2 a3 : Int32} (O : okS S) (hA : okA S A) (hh : A.2.2.1 < 1000) : ∀ (f n t : Nat) (I : Nat → Nat → Int32), n < f → n + t = sTh S → rSn I S → rAn I S A → ∃ J, mX12_couldRule_46 e82 f I L a2 a3 a2 (nI t) = e82 J L a2 a3 a2 ∧ (∀ u, t ≤ u → u < sTh S → J 168 u = zI (ownT S A u (sPart S))) ∧ (∀ u, u < t → J 168 u = I 168 u) ∧ ∀ b, b ≠ 160 → b ≠ 168 → J b = I b
  | 0, n, t, I, h1, _, _, _ => absurd h1 (by omega)
  | f + 1, n, t, I, h1, h2, R, RA => by
    have o1 := O.1
    rw [mX12_couldRule_46]
    cases n with
    | zero =>
      refine ⟨I, ?_, fun u q1 q2 => absurd q2 (by omega), fun _ _ => rfl, fun _ _ _ => rfl⟩
      simp (disch := omega) only [↓reduceIte, Option.bind_some, Option.some.injEq, Prod.mk.injEq, and_self, and_true, true_and, eq_self, reduceCtorEq, not_false_eq_true, not_true_eq_false, or_true, true_or, or_false, false_or, bft, nAdd, nMul, nSub, nDiv, nRem, nAm1, nIx, nIn, bI_z, bI_o, ite_b1, ite_b0, zI_add, zI_sub, li0, li1, li2, li3, li4, li5, li6, li7, li8, li9, li10, li11, li12, li13, li14, li15, li16, li17, li18, li19, li20, li21, li22, li23, li24, li25, li26, li27, li28, li29, li30, li31, li32, li33, li34, li35, li36, li37, li40, li42, li43, li45, li47, li48, li57, li59, li60, li61, li62, li64, li80, li91, li93, li97, li99, li100, li122, li182, li199, li255, li300, li380, li400, li999, li1000, li3640, li4100, li65536, li99999, ln1, ln2, ln3, ln100, ln100000, tLe, fLe, tLt, fLt, tEq, fEq, zLe_t, zLe_f, zLt_t, zLt_f, zEq_t, zEq_f, nzLe_t, nzLe_f, znLe_t, znLe_f, nzLt_t, nzLt_f, znLt_t, znLt_f, nzEq_t, nzEq_f, znEq_t, znEq_f, rSn_th R]
    | succ n =>
      have ht : t < sTh S := by omega
      obtain ⟨J1, p1, p2⟩ := rThingOwner_ok O hA (by omega) ht R RA
      have z : ∀ b, b ≠ 160 → b ≠ 168 → xu J1 168 t (zI (ownT S A t (sPart S))) b = I b := fun b q1 q2 => by rw [xu_r q2, p2 b q1]
      have Fz : fR J1 (xu J1 168 t (zI (ownT S A t (sPart S)))) → True := fun _ => trivial
      have R1 : rSn (xu J1 168 t (zI (ownT S A t (sPart S)))) S := by
        have := rSn_congr p2 R
        unfold rSn at this ⊢
        rw [xu_r (b := 124) (by decide), xu_r (b := 125) (by decide), xu_r (b := 126) (by decide), xu_r (b := 127) (by decide), xu_r (b := 129) (by decide), xu_r (b := 130) (by decide)]
        exact this
      have RA1 : rAn (xu J1 168 t (zI (ownT S A t (sPart S)))) S A := by
        have := rAn_congr p2 RA
        unfold rAn at this ⊢
        rw [xu_r (b := 124) (by decide), xu_r (b := 128) (by decide), xu_r (b := 131) (by decide), xu_r (b := 132) (by decide), xu_r (b := 133) (by decide)]
        exact this
      obtain ⟨J, j1, j2, j3, j4⟩ := shown_go (e82 := e82) (L := L) (a2 := a2) (a3 := a3) O hA hh f n (t + 1) (xu J1 168 t (zI (ownT S A t (sPart S)))) (by omega) (by omega) R1 RA1
      refine ⟨J, ?_, fun u q1 q2 => ?_, fun u q => by rw [j3 u (by omega), xu_c (by omega), p2 168 (by decide)], fun b q1 q2 => (j4 b q1 q2).trans (z b q1 q2)⟩
      · simp (disch := omega) only [↓reduceIte, Option.bind_some, Option.some.injEq, Prod.mk.injEq, and_self, and_true, true_and, eq_self, reduceCtorEq, not_false_eq_true, not_true_eq_false, or_true, true_or, or_false, false_or, bft, nAdd, nMul, nSub, nDiv, nRem, nAm1, nIx, nIn, bI_z, bI_o, ite_b1, ite_b0, zI_add, zI_sub, li0, li1, li2, li3, li4, li5, li6, li7, li8, li9, li10, li11, li12, li13, li14, li15, li16, li17, li18, li19, li20, li21, li22, li23, li24, li25, li26, li27, li28, li29, li30, li31, li32, li33, li34, li35, li36, li37, li40, li42, li43, li45, li47, li48, li57, li59, li60, li61, li62, li64, li80, li91, li93, li97, li99, li100, li122, li182, li199, li255, li300, li380, li400, li999, li1000, li3640, li4100, li65536, li99999, ln1, ln2, ln3, ln100, ln100000, tLe, fLe, tLt, fLt, tEq, fEq, zLe_t, zLe_f, zLt_t, zLt_f, zEq_t, zEq_f, nzLe_t, nzLe_f, znLe_t, znLe_f, nzLt_t, nzLt_f, znLt_t, znLt_f, nzEq_t, nzEq_f, znEq_t, znEq_f, rSn_th R, p1]
        exact j1
      · by_cases w : u = t
        · subst w; rw [j3 u (by omega), xu_s]
        · exact j2 u (by omega) q2
end

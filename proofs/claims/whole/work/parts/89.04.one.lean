/-! one. -/
def colT (S : sT) (A : aT) (c : Nat) : Int := match A.1 c with
  | [] => -2
  | x :: _ => (sCo S (x % 4) : Nat)
def oneF (S : sT) (A : aT) : Nat → Nat → Int → Bool
  | 0, _, _ => true
  | n + 1, c, o => if A.2.2.2.testBit (thOf S c) = true then oneF S A n (c + 1) o else if colT S A c = -2 ∨ (o ≠ -1 ∧ colT S A c ≠ o) then false else oneF S A n (c + 1) (colT S A c)
section
variable {S : sT} {A : aT}
theorem oneF_b {n c : Nat} {o : Int} (h : A.2.2.2.testBit (thOf S c) = true) : oneF S A (n + 1) c o = oneF S A n (c + 1) o := by rw [oneF, if_pos h]
theorem oneF_f {n c : Nat} {o : Int} (h : A.2.2.2.testBit (thOf S c) = false) (h2 : colT S A c = -2 ∨ (o ≠ -1 ∧ colT S A c ≠ o)) : oneF S A (n + 1) c o = false := by rw [oneF, if_neg (by rw [h]; decide), if_pos h2]
theorem oneF_t {n c : Nat} {o : Int} (h : A.2.2.2.testBit (thOf S c) = false) (h2 : ¬ (colT S A c = -2 ∨ (o ≠ -1 ∧ colT S A c ≠ o))) : oneF S A (n + 1) c o = oneF S A n (c + 1) (colT S A c) := by rw [oneF, if_neg (by rw [h]; decide), if_neg h2]
theorem one_go {I : Nat → Nat → Int32} {L : Nat → Nat → Int64} {s a : Nat} (O : okS S) (hA : okA S A) (C : cS I s S) (hC : cA I L a S A) : ∀ (f n c : Nat) (o : Int), n < f → n + c = sCe S → -1 ≤ o → o < 100 → mX7_isOfOneColour_4 I L f s a (zI o) (nI c) = some (bI (oneF S A n c o))
  | 0, n, c, o, h1, _, _, _ => absurd h1 (by omega)
  | f + 1, n, c, o, h1, h2, h3, h4 => by
    have o1 := O.1
    rw [mX7_isOfOneColour_4]
    cases n with
    | zero => simp (disch := omega) only [↓reduceIte, Option.bind_some, Option.some.injEq, Prod.mk.injEq, and_self, and_true, true_and, eq_self, reduceCtorEq, not_false_eq_true, not_true_eq_false, or_true, true_or, or_false, false_or, bft, nAdd, nMul, nSub, nDiv, nRem, nAm1, nIx, nIn, bI_z, bI_o, ite_b1, ite_b0, zI_add, zI_sub, li0, li1, li2, li3, li4, li5, li6, li7, li8, li9, li10, li11, li12, li13, li14, li15, li16, li17, li18, li19, li20, li21, li22, li23, li24, li25, li26, li27, li28, li29, li30, li31, li32, li33, li34, li35, li36, li37, li40, li42, li43, li45, li47, li48, li57, li59, li60, li61, li62, li64, li80, li91, li93, li97, li99, li100, li122, li182, li199, li255, li300, li380, li400, li999, li1000, li3640, li4100, li65536, li99999, ln1, ln2, ln3, ln100, ln100000, tLe, fLe, tLt, fLt, tEq, fEq, zLe_t, zLe_f, zLt_t, zLt_f, zEq_t, zEq_f, nzLe_t, nzLe_f, znLe_t, znLe_f, nzLt_t, nzLt_f, znLt_t, znLt_f, nzEq_t, nzEq_f, znEq_t, znEq_f, cS_nce C]; rfl
    | succ n =>
      have hc : c < sCe S := by omega
      obtain ⟨t1, t2, t3⟩ := thOf_ok O hc
      have eb := isBare6_ok (t := thOf S c) (cA_b hC) (by have := hA.2.2.1; omega) (by omega)
      have et := topP_ok (hA.1 c hc).1
      cases hb : A.2.2.2.testBit (thOf S c) with
      | true =>
        rw [hb] at eb
        rw [oneF_b hb]
        simp (disch := omega) only [↓reduceIte, Option.bind_some, Option.some.injEq, Prod.mk.injEq, and_self, and_true, true_and, eq_self, reduceCtorEq, not_false_eq_true, not_true_eq_false, or_true, true_or, or_false, false_or, bft, nAdd, nMul, nSub, nDiv, nRem, nAm1, nIx, nIn, bI_z, bI_o, ite_b1, ite_b0, zI_add, zI_sub, li0, li1, li2, li3, li4, li5, li6, li7, li8, li9, li10, li11, li12, li13, li14, li15, li16, li17, li18, li19, li20, li21, li22, li23, li24, li25, li26, li27, li28, li29, li30, li31, li32, li33, li34, li35, li36, li37, li40, li42, li43, li45, li47, li48, li57, li59, li60, li61, li62, li64, li80, li91, li93, li97, li99, li100, li122, li182, li199, li255, li300, li380, li400, li999, li1000, li3640, li4100, li65536, li99999, ln1, ln2, ln3, ln100, ln100000, tLe, fLe, tLt, fLt, tEq, fEq, zLe_t, zLe_f, zLt_t, zLt_f, zEq_t, zEq_f, nzLe_t, nzLe_f, znLe_t, znLe_f, nzLt_t, nzLt_f, znLt_t, znLt_f, nzEq_t, nzEq_f, znEq_t, znEq_f, cS_nce C, cS_th C O hc, eb]
        exact one_go O hA C hC f n (c + 1) o (by omega) (by omega) h3 h4
      | false =>
        rw [hb] at eb
        cases hl : A.1 c with
        | nil =>
          rw [hl] at et
          rw [oneF_f hb (Or.inl (by unfold colT; rw [hl]))]
          change _ = some (zI (-1)) at et
          simp (disch := omega) only [↓reduceIte, Option.bind_some, Option.some.injEq, Prod.mk.injEq, and_self, and_true, true_and, eq_self, reduceCtorEq, not_false_eq_true, not_true_eq_false, or_true, true_or, or_false, false_or, bft, nAdd, nMul, nSub, nDiv, nRem, nAm1, nIx, nIn, bI_z, bI_o, ite_b1, ite_b0, zI_add, zI_sub, li0, li1, li2, li3, li4, li5, li6, li7, li8, li9, li10, li11, li12, li13, li14, li15, li16, li17, li18, li19, li20, li21, li22, li23, li24, li25, li26, li27, li28, li29, li30, li31, li32, li33, li34, li35, li36, li37, li40, li42, li43, li45, li47, li48, li57, li59, li60, li61, li62, li64, li80, li91, li93, li97, li99, li100, li122, li182, li199, li255, li300, li380, li400, li999, li1000, li3640, li4100, li65536, li99999, ln1, ln2, ln3, ln100, ln100000, tLe, fLe, tLt, fLt, tEq, fEq, zLe_t, zLe_f, zLt_t, zLt_f, zEq_t, zEq_f, nzLe_t, nzLe_f, znLe_t, znLe_f, nzLt_t, nzLt_f, znLt_t, znLt_f, nzEq_t, nzEq_f, znEq_t, znEq_f, cS_nce C, cS_th C O hc, eb, cA_l hC hc, hl, et]
          rfl
        | cons x r =>
          rw [hl] at et
          rw [topP, zI_nat] at et
          have hx : x % 4 < sPa S := (hA.1 c hc).2 x (by rw [hl]; exact List.mem_cons_self)
          have ec : colT S A c = (sCo S (x % 4) : Nat) := by unfold colT; rw [hl]
          have hco := O.2.2.1 _ hx
          by_cases q1 : o = -1
          · rw [oneF_t hb (by omega), ec]
            simp (disch := omega) only [↓reduceIte, Option.bind_some, Option.some.injEq, Prod.mk.injEq, and_self, and_true, true_and, eq_self, reduceCtorEq, not_false_eq_true, not_true_eq_false, or_true, true_or, or_false, false_or, bft, nAdd, nMul, nSub, nDiv, nRem, nAm1, nIx, nIn, bI_z, bI_o, ite_b1, ite_b0, zI_add, zI_sub, li0, li1, li2, li3, li4, li5, li6, li7, li8, li9, li10, li11, li12, li13, li14, li15, li16, li17, li18, li19, li20, li21, li22, li23, li24, li25, li26, li27, li28, li29, li30, li31, li32, li33, li34, li35, li36, li37, li40, li42, li43, li45, li47, li48, li57, li59, li60, li61, li62, li64, li80, li91, li93, li97, li99, li100, li122, li182, li199, li255, li300, li380, li400, li999, li1000, li3640, li4100, li65536, li99999, ln1, ln2, ln3, ln100, ln100000, tLe, fLe, tLt, fLt, tEq, fEq, zLe_t, zLe_f, zLt_t, zLt_f, zEq_t, zEq_f, nzLe_t, nzLe_f, znLe_t, znLe_f, nzLt_t, nzLt_f, znLt_t, znLt_f, nzEq_t, nzEq_f, znEq_t, znEq_f, cS_nce C, cS_th C O hc, eb, cA_l hC hc, hl, et, q1, cS_co C hx]
            rw [nz]
            exact one_go O hA C hC f n (c + 1) _ (by omega) (by omega) (by omega) (by omega)
          · by_cases q2 : o = (sCo S (x % 4) : Nat)
            · rw [oneF_t hb (by omega), ec]
              simp (disch := omega) only [↓reduceIte, Option.bind_some, Option.some.injEq, Prod.mk.injEq, and_self, and_true, true_and, eq_self, reduceCtorEq, not_false_eq_true, not_true_eq_false, or_true, true_or, or_false, false_or, bft, nAdd, nMul, nSub, nDiv, nRem, nAm1, nIx, nIn, bI_z, bI_o, ite_b1, ite_b0, zI_add, zI_sub, li0, li1, li2, li3, li4, li5, li6, li7, li8, li9, li10, li11, li12, li13, li14, li15, li16, li17, li18, li19, li20, li21, li22, li23, li24, li25, li26, li27, li28, li29, li30, li31, li32, li33, li34, li35, li36, li37, li40, li42, li43, li45, li47, li48, li57, li59, li60, li61, li62, li64, li80, li91, li93, li97, li99, li100, li122, li182, li199, li255, li300, li380, li400, li999, li1000, li3640, li4100, li65536, li99999, ln1, ln2, ln3, ln100, ln100000, tLe, fLe, tLt, fLt, tEq, fEq, zLe_t, zLe_f, zLt_t, zLt_f, zEq_t, zEq_f, nzLe_t, nzLe_f, znLe_t, znLe_f, nzLt_t, nzLt_f, znLt_t, znLt_f, nzEq_t, nzEq_f, znEq_t, znEq_f, cS_nce C, cS_th C O hc, eb, cA_l hC hc, hl, et, cS_co C hx]
              rw [nz]
              exact one_go O hA C hC f n (c + 1) _ (by omega) (by omega) (by omega) (by omega)
            · rw [oneF_f hb (Or.inr ⟨q1, by omega⟩)]
              simp (disch := omega) only [↓reduceIte, Option.bind_some, Option.some.injEq, Prod.mk.injEq, and_self, and_true, true_and, eq_self, reduceCtorEq, not_false_eq_true, not_true_eq_false, or_true, true_or, or_false, false_or, bft, nAdd, nMul, nSub, nDiv, nRem, nAm1, nIx, nIn, bI_z, bI_o, ite_b1, ite_b0, zI_add, zI_sub, li0, li1, li2, li3, li4, li5, li6, li7, li8, li9, li10, li11, li12, li13, li14, li15, li16, li17, li18, li19, li20, li21, li22, li23, li24, li25, li26, li27, li28, li29, li30, li31, li32, li33, li34, li35, li36, li37, li40, li42, li43, li45, li47, li48, li57, li59, li60, li61, li62, li64, li80, li91, li93, li97, li99, li100, li122, li182, li199, li255, li300, li380, li400, li999, li1000, li3640, li4100, li65536, li99999, ln1, ln2, ln3, ln100, ln100000, tLe, fLe, tLt, fLt, tEq, fEq, zLe_t, zLe_f, zLt_t, zLt_f, zEq_t, zEq_f, nzLe_t, nzLe_f, znLe_t, znLe_f, nzLt_t, nzLt_f, znLt_t, znLt_f, nzEq_t, nzEq_f, znEq_t, znEq_f, cS_nce C, cS_th C O hc, eb, cA_l hC hc, hl, et, cS_co C hx]
              rfl
theorem rOne_go {I : Nat → Nat → Int32} (O : okS S) (hA : okA S A) (R : rSn I S) (RA : rAn I S A) : ∀ (f n c : Nat) (o : Int), n < f → n + c = sCe S → -1 ≤ o → o < 100 → mX12_isOneColour_4 I f (zI o) (nI c) = some (bI (oneF S A n c o))
  | 0, n, c, o, h1, _, _, _ => absurd h1 (by omega)
  | f + 1, n, c, o, h1, h2, h3, h4 => by
    have o1 := O.1
    rw [mX12_isOneColour_4]
    cases n with
    | zero => simp (disch := omega) only [↓reduceIte, Option.bind_some, Option.some.injEq, Prod.mk.injEq, and_self, and_true, true_and, eq_self, reduceCtorEq, not_false_eq_true, not_true_eq_false, or_true, true_or, or_false, false_or, bft, nAdd, nMul, nSub, nDiv, nRem, nAm1, nIx, nIn, bI_z, bI_o, ite_b1, ite_b0, zI_add, zI_sub, li0, li1, li2, li3, li4, li5, li6, li7, li8, li9, li10, li11, li12, li13, li14, li15, li16, li17, li18, li19, li20, li21, li22, li23, li24, li25, li26, li27, li28, li29, li30, li31, li32, li33, li34, li35, li36, li37, li40, li42, li43, li45, li47, li48, li57, li59, li60, li61, li62, li64, li80, li91, li93, li97, li99, li100, li122, li182, li199, li255, li300, li380, li400, li999, li1000, li3640, li4100, li65536, li99999, ln1, ln2, ln3, ln100, ln100000, tLe, fLe, tLt, fLt, tEq, fEq, zLe_t, zLe_f, zLt_t, zLt_f, zEq_t, zEq_f, nzLe_t, nzLe_f, znLe_t, znLe_f, nzLt_t, nzLt_f, znLt_t, znLt_f, nzEq_t, nzEq_f, znEq_t, znEq_f, rSn_ce R]; rfl
    | succ n =>
      have hc : c < sCe S := by omega
      obtain ⟨t1, t2, t3⟩ := thOf_ok O hc
      have eb := rIsBare_ok (t := thOf S c) (rAn_b RA) (by have := hA.2.2.1; omega) (by omega)
      have eth := rThingOf_ok R O hc
      have et := rTopOf_ok O RA hA hc
      have em := rAn_m RA hc
      have h5 := (hA.1 c hc).1.1
      cases hb : A.2.2.2.testBit (thOf S c) with
      | true =>
        rw [hb] at eb
        rw [oneF_b hb]
        simp (disch := omega) only [↓reduceIte, Option.bind_some, Option.some.injEq, Prod.mk.injEq, and_self, and_true, true_and, eq_self, reduceCtorEq, not_false_eq_true, not_true_eq_false, or_true, true_or, or_false, false_or, bft, nAdd, nMul, nSub, nDiv, nRem, nAm1, nIx, nIn, bI_z, bI_o, ite_b1, ite_b0, zI_add, zI_sub, li0, li1, li2, li3, li4, li5, li6, li7, li8, li9, li10, li11, li12, li13, li14, li15, li16, li17, li18, li19, li20, li21, li22, li23, li24, li25, li26, li27, li28, li29, li30, li31, li32, li33, li34, li35, li36, li37, li40, li42, li43, li45, li47, li48, li57, li59, li60, li61, li62, li64, li80, li91, li93, li97, li99, li100, li122, li182, li199, li255, li300, li380, li400, li999, li1000, li3640, li4100, li65536, li99999, ln1, ln2, ln3, ln100, ln100000, tLe, fLe, tLt, fLt, tEq, fEq, zLe_t, zLe_f, zLt_t, zLt_f, zEq_t, zEq_f, nzLe_t, nzLe_f, znLe_t, znLe_f, nzLt_t, nzLt_f, znLt_t, znLt_f, nzEq_t, nzEq_f, znEq_t, znEq_f, rSn_ce R, eth, eb]
        exact rOne_go O hA R RA f n (c + 1) o (by omega) (by omega) h3 h4
      | false =>
        rw [hb] at eb
        cases hl : A.1 c with
        | nil =>
          rw [hl, List.length_nil] at em
          rw [oneF_f hb (Or.inl (by unfold colT; rw [hl]))]
          simp (disch := omega) only [↓reduceIte, Option.bind_some, Option.some.injEq, Prod.mk.injEq, and_self, and_true, true_and, eq_self, reduceCtorEq, not_false_eq_true, not_true_eq_false, or_true, true_or, or_false, false_or, bft, nAdd, nMul, nSub, nDiv, nRem, nAm1, nIx, nIn, bI_z, bI_o, ite_b1, ite_b0, zI_add, zI_sub, li0, li1, li2, li3, li4, li5, li6, li7, li8, li9, li10, li11, li12, li13, li14, li15, li16, li17, li18, li19, li20, li21, li22, li23, li24, li25, li26, li27, li28, li29, li30, li31, li32, li33, li34, li35, li36, li37, li40, li42, li43, li45, li47, li48, li57, li59, li60, li61, li62, li64, li80, li91, li93, li97, li99, li100, li122, li182, li199, li255, li300, li380, li400, li999, li1000, li3640, li4100, li65536, li99999, ln1, ln2, ln3, ln100, ln100000, tLe, fLe, tLt, fLt, tEq, fEq, zLe_t, zLe_f, zLt_t, zLt_f, zEq_t, zEq_f, nzLe_t, nzLe_f, znLe_t, znLe_f, nzLt_t, nzLt_f, znLt_t, znLt_f, nzEq_t, nzEq_f, znEq_t, znEq_f, rSn_ce R, eth, eb, em, mX12_isOneColour_50]
          rfl
        | cons x r =>
          rw [hl] at et h5
          rw [hl, List.length_cons] at em
          rw [List.length_cons] at h5
          rw [topP, zI_nat] at et
          have hx : x % 4 < sPa S := (hA.1 c hc).2 x (by rw [hl]; exact List.mem_cons_self)
          have ec : colT S A c = (sCo S (x % 4) : Nat) := by unfold colT; rw [hl]
          have hco := O.2.2.1 _ hx
          by_cases q1 : o = -1
          · rw [oneF_t hb (by omega), ec]
            simp (disch := omega) only [↓reduceIte, Option.bind_some, Option.some.injEq, Prod.mk.injEq, and_self, and_true, true_and, eq_self, reduceCtorEq, not_false_eq_true, not_true_eq_false, or_true, true_or, or_false, false_or, bft, nAdd, nMul, nSub, nDiv, nRem, nAm1, nIx, nIn, bI_z, bI_o, ite_b1, ite_b0, zI_add, zI_sub, li0, li1, li2, li3, li4, li5, li6, li7, li8, li9, li10, li11, li12, li13, li14, li15, li16, li17, li18, li19, li20, li21, li22, li23, li24, li25, li26, li27, li28, li29, li30, li31, li32, li33, li34, li35, li36, li37, li40, li42, li43, li45, li47, li48, li57, li59, li60, li61, li62, li64, li80, li91, li93, li97, li99, li100, li122, li182, li199, li255, li300, li380, li400, li999, li1000, li3640, li4100, li65536, li99999, ln1, ln2, ln3, ln100, ln100000, tLe, fLe, tLt, fLt, tEq, fEq, zLe_t, zLe_f, zLt_t, zLt_f, zEq_t, zEq_f, nzLe_t, nzLe_f, znLe_t, znLe_f, nzLt_t, nzLt_f, znLt_t, znLt_f, nzEq_t, nzEq_f, znEq_t, znEq_f, rSn_ce R, eth, eb, em, et, rSn_co R hx, mX12_isOneColour_50, q1]
            rw [nz]
            exact rOne_go O hA R RA f n (c + 1) _ (by omega) (by omega) (by omega) (by omega)
          · by_cases q2 : o = (sCo S (x % 4) : Nat)
            · rw [oneF_t hb (by omega), ec]
              simp (disch := omega) only [↓reduceIte, Option.bind_some, Option.some.injEq, Prod.mk.injEq, and_self, and_true, true_and, eq_self, reduceCtorEq, not_false_eq_true, not_true_eq_false, or_true, true_or, or_false, false_or, bft, nAdd, nMul, nSub, nDiv, nRem, nAm1, nIx, nIn, bI_z, bI_o, ite_b1, ite_b0, zI_add, zI_sub, li0, li1, li2, li3, li4, li5, li6, li7, li8, li9, li10, li11, li12, li13, li14, li15, li16, li17, li18, li19, li20, li21, li22, li23, li24, li25, li26, li27, li28, li29, li30, li31, li32, li33, li34, li35, li36, li37, li40, li42, li43, li45, li47, li48, li57, li59, li60, li61, li62, li64, li80, li91, li93, li97, li99, li100, li122, li182, li199, li255, li300, li380, li400, li999, li1000, li3640, li4100, li65536, li99999, ln1, ln2, ln3, ln100, ln100000, tLe, fLe, tLt, fLt, tEq, fEq, zLe_t, zLe_f, zLt_t, zLt_f, zEq_t, zEq_f, nzLe_t, nzLe_f, znLe_t, znLe_f, nzLt_t, nzLt_f, znLt_t, znLt_f, nzEq_t, nzEq_f, znEq_t, znEq_f, rSn_ce R, eth, eb, em, et, rSn_co R hx, mX12_isOneColour_50]
              rw [nz]
              exact rOne_go O hA R RA f n (c + 1) _ (by omega) (by omega) (by omega) (by omega)
            · rw [oneF_f hb (Or.inr ⟨q1, by omega⟩)]
              simp (disch := omega) only [↓reduceIte, Option.bind_some, Option.some.injEq, Prod.mk.injEq, and_self, and_true, true_and, eq_self, reduceCtorEq, not_false_eq_true, not_true_eq_false, or_true, true_or, or_false, false_or, bft, nAdd, nMul, nSub, nDiv, nRem, nAm1, nIx, nIn, bI_z, bI_o, ite_b1, ite_b0, zI_add, zI_sub, li0, li1, li2, li3, li4, li5, li6, li7, li8, li9, li10, li11, li12, li13, li14, li15, li16, li17, li18, li19, li20, li21, li22, li23, li24, li25, li26, li27, li28, li29, li30, li31, li32, li33, li34, li35, li36, li37, li40, li42, li43, li45, li47, li48, li57, li59, li60, li61, li62, li64, li80, li91, li93, li97, li99, li100, li122, li182, li199, li255, li300, li380, li400, li999, li1000, li3640, li4100, li65536, li99999, ln1, ln2, ln3, ln100, ln100000, tLe, fLe, tLt, fLt, tEq, fEq, zLe_t, zLe_f, zLt_t, zLt_f, zEq_t, zEq_f, nzLe_t, nzLe_f, znLe_t, znLe_f, nzLt_t, nzLt_f, znLt_t, znLt_f, nzEq_t, nzEq_f, znEq_t, znEq_f, rSn_ce R, eth, eb, em, et, rSn_co R hx, mX12_isOneColour_50]
              rfl
end
/-- the first hour of one colour -/
def oneG (S : sT) (ru : Option ruT) : Nat → aT × (Nat → Nat) → Int
  | 0, _ => -2
  | n + 1, B => if oneF S B.1 (sCe S) 0 (-1) then (B.1.2.2.1 : Nat) else oneG S ru n (passA S ru B.1 B.2).1
theorem oneG_t {S : sT} {ru : Option ruT} {n : Nat} {B : aT × (Nat → Nat)} (h : oneF S B.1 (sCe S) 0 (-1) = true) : oneG S ru (n + 1) B = (B.1.2.2.1 : Nat) := by rw [oneG, if_pos h]
theorem oneG_f {S : sT} {ru : Option ruT} {n : Nat} {B : aT × (Nat → Nat)} (h : oneF S B.1 (sCe S) 0 (-1) = false) : oneG S ru (n + 1) B = oneG S ru n (passA S ru B.1 B.2).1 := by rw [oneG, if_neg (by rw [h]; decide)]
theorem cOne_go {n : Nat} {K : Nat → Nat × Nat} {P : Nat → Nat → Nat} {rs : List ruT} {fo : Int} {S : sT} {hr : Nat} (O : okS S) (hlen : rs.length ≤ 6) (hok : ∀ ru ∈ rs, okRu ru) (hf1 : -1 ≤ fo) (hf2 : fo < rs.length) (ps : P 12 0 = 13 ∨ 171 < P 12 0) (hh : hr < 800) : ∀ (f m k : Nat) (B : aT × (Nat → Nat)) (I : Nat → Nat → Int32) (L : Nat → Nat → Int64), m < f → m + k = 100 → okA S B.1 → B.1.2.2.1 = hr + k → I 24 2 = nI hr → cS I (P 12 0) S → cA I L 92 S B.1 → gotR 101 I B.2 → ruX n K P I rs fo → ∃ J M, mX11_one_31 K P f I L (nI k) = some (zI (oneG S (ruF rs fo) m B), J, M) ∧ ∀ b, b < 92 ∨ 101 < b → J b = I b ∧ M b = L b
  | 0, m, k, B, I, L, h1, _, _, _, _, _, _, _, _ => absurd h1 (by omega)
  | f + 1, m, k, B, I, L, h1, h2, hA, hB, h24, C, hC, hg, R => by
    have o1 := O.1
    rw [mX11_one_31]
    cases m with
    | zero =>
      refine ⟨I, L, ?_, fun _ _ => ⟨rfl, rfl⟩⟩
      simp (disch := omega) only [↓reduceIte, Option.bind_some, Option.some.injEq, Prod.mk.injEq, and_self, and_true, true_and, eq_self, reduceCtorEq, not_false_eq_true, not_true_eq_false, or_true, true_or, or_false, false_or, bft, nAdd, nMul, nSub, nDiv, nRem, nAm1, nIx, nIn, bI_z, bI_o, ite_b1, ite_b0, zI_add, zI_sub, li0, li1, li2, li3, li4, li5, li6, li7, li8, li9, li10, li11, li12, li13, li14, li15, li16, li17, li18, li19, li20, li21, li22, li23, li24, li25, li26, li27, li28, li29, li30, li31, li32, li33, li34, li35, li36, li37, li40, li42, li43, li45, li47, li48, li57, li59, li60, li61, li62, li64, li80, li91, li93, li97, li99, li100, li122, li182, li199, li255, li300, li380, li400, li999, li1000, li3640, li4100, li65536, li99999, ln1, ln2, ln3, ln100, ln100000, tLe, fLe, tLt, fLt, tEq, fEq, zLe_t, zLe_f, zLt_t, zLt_f, zEq_t, zEq_f, nzLe_t, nzLe_f, znLe_t, znLe_f, nzLt_t, nzLt_f, znLt_t, znLt_f, nzEq_t, nzEq_f, znEq_t, znEq_f]
      rfl
    | succ m =>
      have e1 := one_go O hA C hC xf (sCe S) 0 (-1) (by unfold xf; omega) (by omega) (by omega) (by omega)
      cases hb : oneF S B.1 (sCe S) 0 (-1) with
      | true =>
        rw [hb] at e1
        rw [oneG_t hb, hB]
        refine ⟨I, L, ?_, fun _ _ => ⟨rfl, rfl⟩⟩
        unfold mX7_isOfOneColour
        simp (disch := omega) only [↓reduceIte, Option.bind_some, Option.some.injEq, Prod.mk.injEq, and_self, and_true, true_and, eq_self, reduceCtorEq, not_false_eq_true, not_true_eq_false, or_true, true_or, or_false, false_or, bft, nAdd, nMul, nSub, nDiv, nRem, nAm1, nIx, nIn, bI_z, bI_o, ite_b1, ite_b0, zI_add, zI_sub, li0, li1, li2, li3, li4, li5, li6, li7, li8, li9, li10, li11, li12, li13, li14, li15, li16, li17, li18, li19, li20, li21, li22, li23, li24, li25, li26, li27, li28, li29, li30, li31, li32, li33, li34, li35, li36, li37, li40, li42, li43, li45, li47, li48, li57, li59, li60, li61, li62, li64, li80, li91, li93, li97, li99, li100, li122, li182, li199, li255, li300, li380, li400, li999, li1000, li3640, li4100, li65536, li99999, ln1, ln2, ln3, ln100, ln100000, tLe, fLe, tLt, fLt, tEq, fEq, zLe_t, zLe_f, zLt_t, zLt_f, zEq_t, zEq_f, nzLe_t, nzLe_f, znLe_t, znLe_f, nzLt_t, nzLt_f, znLt_t, znLt_f, nzEq_t, nzEq_f, znEq_t, znEq_f, e1, h24]
      | false =>
        rw [hb] at e1
        rw [oneG_f hb]
        obtain ⟨rp, J1, M1, t1, t2, t3, t4, t5⟩ := tryOne O hlen hok hf1 hf2 hA (by omega) ps C hC hg R
        obtain ⟨p1, p2, p3⟩ := okA_pass O (ruF rs fo) hA (by omega) B.2
        obtain ⟨J, M, u1, u2⟩ := cOne_go O hlen hok hf1 hf2 ps hh f m (k + 1) (passA S (ruF rs fo) B.1 B.2).1 J1 M1 (by omega) (by omega) p1 (by omega) (by rw [(t5 24 (by omega)).1]; exact h24) (cS_congr (fun b h3 h4 => (t5 b (by omega)).1) C) t3 t4 (ruX_congr (fun b hb => (t5 b (by omega)).1) R)
        refine ⟨J, M, ?_, fun b hb => ⟨((u2 b hb).1).trans (t5 b hb).1, ((u2 b hb).2).trans (t5 b hb).2⟩⟩
        unfold mX7_isOfOneColour
        simp (disch := omega) only [↓reduceIte, Option.bind_some, Option.some.injEq, Prod.mk.injEq, and_self, and_true, true_and, eq_self, reduceCtorEq, not_false_eq_true, not_true_eq_false, or_true, true_or, or_false, false_or, bft, nAdd, nMul, nSub, nDiv, nRem, nAm1, nIx, nIn, bI_z, bI_o, ite_b1, ite_b0, zI_add, zI_sub, li0, li1, li2, li3, li4, li5, li6, li7, li8, li9, li10, li11, li12, li13, li14, li15, li16, li17, li18, li19, li20, li21, li22, li23, li24, li25, li26, li27, li28, li29, li30, li31, li32, li33, li34, li35, li36, li37, li40, li42, li43, li45, li47, li48, li57, li59, li60, li61, li62, li64, li80, li91, li93, li97, li99, li100, li122, li182, li199, li255, li300, li380, li400, li999, li1000, li3640, li4100, li65536, li99999, ln1, ln2, ln3, ln100, ln100000, tLe, fLe, tLt, fLt, tEq, fEq, zLe_t, zLe_f, zLt_t, zLt_f, zEq_t, zEq_f, nzLe_t, nzLe_f, znLe_t, znLe_f, nzLt_t, nzLt_f, znLt_t, znLt_f, nzEq_t, nzEq_f, znEq_t, znEq_f, e1, t1, t2]
        exact u1
theorem rOneG_go {ru : Option ruT} {S : sT} {I0 : Nat → Nat → Int32} (O : okS S) : ∀ (f m k : Nat) (B : aT × (Nat → Nat)) (I : Nat → Nat → Int32) (L : Nat → Nat → Int64), m + 1 < f → m + k = 100 → okA S B.1 → B.1.2.2.1 + m < 990 → rSn I S → rAn I S B.1 → rRo I ru → gotR 161 I B.2 → sv I0 I → aR I0 I → ∃ H M, mX12_one_18 f I L (zI (-2)) (nI k) = some (zI (oneG S ru m B), H, M) ∧ f5 I0 H ∧ aR I0 H ∧ ∀ b, b ≠ 158 → b ≠ 159 → M b = L b
  | 0, m, k, B, I, L, h1, _, _, _, _, _, _, _, _, _ => absurd h1 (by omega)
  | f + 1, m, k, B, I, L, h1, h2, hA, hh, R, RA, U, hg, s, a => by
    have o1 := O.1
    rw [mX12_one_18]
    cases m with
    | zero =>
      obtain ⟨H, l1, l2, l3, l4⟩ := laysBack_ok s
      refine ⟨H, L, ?_, l2, aR_trans a l3, fun _ _ _ => rfl⟩
      simp (disch := omega) only [↓reduceIte, Option.bind_some, Option.some.injEq, Prod.mk.injEq, and_self, and_true, true_and, eq_self, reduceCtorEq, not_false_eq_true, not_true_eq_false, or_true, true_or, or_false, false_or, bft, nAdd, nMul, nSub, nDiv, nRem, nAm1, nIx, nIn, bI_z, bI_o, ite_b1, ite_b0, zI_add, zI_sub, li0, li1, li2, li3, li4, li5, li6, li7, li8, li9, li10, li11, li12, li13, li14, li15, li16, li17, li18, li19, li20, li21, li22, li23, li24, li25, li26, li27, li28, li29, li30, li31, li32, li33, li34, li35, li36, li37, li40, li42, li43, li45, li47, li48, li57, li59, li60, li61, li62, li64, li80, li91, li93, li97, li99, li100, li122, li182, li199, li255, li300, li380, li400, li999, li1000, li3640, li4100, li65536, li99999, ln1, ln2, ln3, ln100, ln100000, tLe, fLe, tLt, fLt, tEq, fEq, zLe_t, zLe_f, zLt_t, zLt_f, zEq_t, zEq_f, nzLe_t, nzLe_f, znLe_t, znLe_f, nzLt_t, nzLt_f, znLt_t, znLt_f, nzEq_t, nzEq_f, znEq_t, znEq_f, l1]
      rfl
    | succ m =>
      have e1 := rOne_go O hA R RA xf (sCe S) 0 (-1) (by unfold xf; omega) (by omega) (by omega) (by omega)
      obtain ⟨J, M, g1, g2, g3, g4, g5⟩ := goes_ok (L := L) (n := 1) O hA (by omega) R RA U hg
      cases hb : oneF S B.1 (sCe S) 0 (-1) with
      | true =>
        rw [hb] at e1
        rw [oneG_t hb]
        obtain ⟨H, l1, l2, l3, l4⟩ := laysBack_ok (sv_f g4 s)
        refine ⟨H, M, ?_, l2, aR_trans (aR_trans a (aR_f g4)) l3, g5⟩
        obtain ⟨f', rfl⟩ : ∃ f', f = f' + 1 := ⟨f - 1, by omega⟩
        unfold mX12_isOneColour
        simp (disch := omega) only [↓reduceIte, Option.bind_some, Option.some.injEq, Prod.mk.injEq, and_self, and_true, true_and, eq_self, reduceCtorEq, not_false_eq_true, not_true_eq_false, or_true, true_or, or_false, false_or, bft, nAdd, nMul, nSub, nDiv, nRem, nAm1, nIx, nIn, bI_z, bI_o, ite_b1, ite_b0, zI_add, zI_sub, li0, li1, li2, li3, li4, li5, li6, li7, li8, li9, li10, li11, li12, li13, li14, li15, li16, li17, li18, li19, li20, li21, li22, li23, li24, li25, li26, li27, li28, li29, li30, li31, li32, li33, li34, li35, li36, li37, li40, li42, li43, li45, li47, li48, li57, li59, li60, li61, li62, li64, li80, li91, li93, li97, li99, li100, li122, li182, li199, li255, li300, li380, li400, li999, li1000, li3640, li4100, li65536, li99999, ln1, ln2, ln3, ln100, ln100000, tLe, fLe, tLt, fLt, tEq, fEq, zLe_t, zLe_f, zLt_t, zLt_f, zEq_t, zEq_f, nzLe_t, nzLe_f, znLe_t, znLe_f, nzLt_t, nzLt_f, znLt_t, znLt_f, nzEq_t, nzEq_f, znEq_t, znEq_f, e1, rAn_h RA, mX12_one_49, g1]
        rw [mX12_one_18]
        by_cases w : 100 ≤ k + 1
        · simp (disch := omega) only [↓reduceIte, Option.bind_some, Option.some.injEq, Prod.mk.injEq, and_self, and_true, true_and, eq_self, reduceCtorEq, not_false_eq_true, not_true_eq_false, or_true, true_or, or_false, false_or, bft, nAdd, nMul, nSub, nDiv, nRem, nAm1, nIx, nIn, bI_z, bI_o, ite_b1, ite_b0, zI_add, zI_sub, li0, li1, li2, li3, li4, li5, li6, li7, li8, li9, li10, li11, li12, li13, li14, li15, li16, li17, li18, li19, li20, li21, li22, li23, li24, li25, li26, li27, li28, li29, li30, li31, li32, li33, li34, li35, li36, li37, li40, li42, li43, li45, li47, li48, li57, li59, li60, li61, li62, li64, li80, li91, li93, li97, li99, li100, li122, li182, li199, li255, li300, li380, li400, li999, li1000, li3640, li4100, li65536, li99999, ln1, ln2, ln3, ln100, ln100000, tLe, fLe, tLt, fLt, tEq, fEq, zLe_t, zLe_f, zLt_t, zLt_f, zEq_t, zEq_f, nzLe_t, nzLe_f, znLe_t, znLe_f, nzLt_t, nzLt_f, znLt_t, znLt_f, nzEq_t, nzEq_f, znEq_t, znEq_f, l1]
        · simp (disch := omega) only [↓reduceIte, Option.bind_some, Option.some.injEq, Prod.mk.injEq, and_self, and_true, true_and, eq_self, reduceCtorEq, not_false_eq_true, not_true_eq_false, or_true, true_or, or_false, false_or, bft, nAdd, nMul, nSub, nDiv, nRem, nAm1, nIx, nIn, bI_z, bI_o, ite_b1, ite_b0, zI_add, zI_sub, li0, li1, li2, li3, li4, li5, li6, li7, li8, li9, li10, li11, li12, li13, li14, li15, li16, li17, li18, li19, li20, li21, li22, li23, li24, li25, li26, li27, li28, li29, li30, li31, li32, li33, li34, li35, li36, li37, li40, li42, li43, li45, li47, li48, li57, li59, li60, li61, li62, li64, li80, li91, li93, li97, li99, li100, li122, li182, li199, li255, li300, li380, li400, li999, li1000, li3640, li4100, li65536, li99999, ln1, ln2, ln3, ln100, ln100000, tLe, fLe, tLt, fLt, tEq, fEq, zLe_t, zLe_f, zLt_t, zLt_f, zEq_t, zEq_f, nzLe_t, nzLe_f, znLe_t, znLe_f, nzLt_t, nzLt_f, znLt_t, znLt_f, nzEq_t, nzEq_f, znEq_t, znEq_f, l1]
      | false =>
        rw [hb] at e1
        rw [oneG_f hb]
        obtain ⟨p1, p2, p3⟩ := okA_pass O ru hA (by omega) B.2
        obtain ⟨H, M2, u1, u2, u3, u4⟩ := rOneG_go O f m (k + 1) (passA S ru B.1 B.2).1 J M (by omega) (by omega) p1 (by omega) (rSn_f g4 R) g2 (rRo_f g4 U) g3 (sv_f g4 s) (aR_trans a (aR_f g4))
        refine ⟨H, M2, ?_, u2, u3, fun b h3 h4 => (u4 b h3 h4).trans (g5 b h3 h4)⟩
        unfold mX12_isOneColour
        simp (disch := omega) only [↓reduceIte, Option.bind_some, Option.some.injEq, Prod.mk.injEq, and_self, and_true, true_and, eq_self, reduceCtorEq, not_false_eq_true, not_true_eq_false, or_true, true_or, or_false, false_or, bft, nAdd, nMul, nSub, nDiv, nRem, nAm1, nIx, nIn, bI_z, bI_o, ite_b1, ite_b0, zI_add, zI_sub, li0, li1, li2, li3, li4, li5, li6, li7, li8, li9, li10, li11, li12, li13, li14, li15, li16, li17, li18, li19, li20, li21, li22, li23, li24, li25, li26, li27, li28, li29, li30, li31, li32, li33, li34, li35, li36, li37, li40, li42, li43, li45, li47, li48, li57, li59, li60, li61, li62, li64, li80, li91, li93, li97, li99, li100, li122, li182, li199, li255, li300, li380, li400, li999, li1000, li3640, li4100, li65536, li99999, ln1, ln2, ln3, ln100, ln100000, tLe, fLe, tLt, fLt, tEq, fEq, zLe_t, zLe_f, zLt_t, zLt_f, zEq_t, zEq_f, nzLe_t, nzLe_f, znLe_t, znLe_f, nzLt_t, nzLt_f, znLt_t, znLt_f, nzEq_t, nzEq_f, znEq_t, znEq_f, e1, rAn_h RA, mX12_one_49, g1]
        exact u1
theorem oneG_g (S : sT) (ru : Option ruT) : ∀ (n : Nat) (A : aT) (g h : Nat → Nat), oneG S ru n (A, g) = oneG S ru n (A, h)
  | 0, _, _, _ => rfl
  | n + 1, A, g, h => by
    rw [oneG, oneG]
    show (if oneF S A (sCe S) 0 (-1) = true then _ else oneG S ru n (passA S ru A g).1) = if oneF S A (sCe S) 0 (-1) = true then _ else oneG S ru n (passA S ru A h).1
    have e : oneG S ru n (passA S ru A g).1 = oneG S ru n (passA S ru A h).1 := by
      have := oneG_g S ru n (passA S ru A g).1.1 (passA S ru A g).1.2 (passA S ru A h).1.2
      rw [show ((passA S ru A g).1.1, (passA S ru A g).1.2) = (passA S ru A g).1 from rfl] at this
      rw [this, passA_g S ru A g h]
    rw [e]
theorem q_one {k : Nat} (hk : k < 512) : st_one (Inv k) (Inv (k + 1)) := by
  intro h hI
  obtain ⟨n, K, P, I, L⟩ := h
  obtain ⟨⟨G, F⟩, Z, ok, C, R⟩ := id hI
  change RI I Z at R
  have O := okZ_S ok
  have o1 := O.1
  have hA := okZ_A ok
  have hh := okZ_h ok
  have cs := CI_S C
  have ca := CI_A C
  have rs := RI_S R
  have ra := RI_A R
  generalize hS : wS (zW Z) = S at O o1 hA cs ca rs ra
  generalize hAA : wA (zW Z) = A at hA hh ca ra
  have pl := CI_p C
  have hf := ok.1.2.2.2.2.2.2
  have hrl := ok.2.2.1
  have hX := CI_ruX C
  have hro : ∀ J, J 124 12 = I 124 12 → (∀ b, 150 ≤ b → b ≤ 156 → J b = I b) → rRo J (ruF (zR Z) (wF (zW Z))) := fun J h1 h2 => rRo_of hrl.1 hrl.2 (h1.trans R.1.2.2.2.2.2.2) (fun r ru hr => rR_congr (fun b h3 h4 => h2 b (by omega) h4) (R.2.2.1.2 r ru hr)) hf.1 hf.2
  have no : mX11_one K P I L = some (-1, I, L) → mX12_one I L = some (-1, I, L) → ∃ r h1 h2, oX_one (n, K, P, I, L) = some (r, h1) ∧ GW h1.2.1 h1.2.2.1 ∧ oM_one h1 = some (r, h2) ∧ Inv (k + 1) h2 := fun a b => ⟨-1, (n, K, P, I, L), (n, K, P, I, L), by unfold oX_one; simp only [a]; rfl, G, by unfold oM_one; simp only [b]; rfl, Inv_q hI (fun _ _ => rfl)⟩
  have es := rIsStreet_ok rs O
  by_cases hd : 0 < sDry S
  · rw [decide_eq_true hd] at es
    obtain ⟨I1, L1, i1, i2, i3, i4⟩ := copyState_ok (I := I) (L := L) (a0 := 92) (a1 := 24) O (by decide) ca
    have cs1 : cS I1 (P 12 0) S := cS_congr (fun b h1 h2 => i3 b (by omega) (by omega)) cs
    obtain ⟨g, hg⟩ := gotR_ex 101 I1
    obtain ⟨J, M, t1, t2⟩ := cOne_go (hr := A.2.2.1) O hrl.1 hrl.2 hf.1 hf.2 pl (by omega) xf 100 0 (A, g) I1 L1 (by unfold xf; omega) (by omega) hA rfl (by rw [i3 24 (by decide) (by decide)]; exact cA_h ca) cs1 i2 hg (ruX_congr (fun b hb => i3 b (by omega) (by omega)) hX)
    have hJ : ∀ b, b < 92 ∨ 122 < b → J b = I b ∧ M b = L b := fun b hb => ⟨((t2 b (by omega)).1).trans (i3 b (by omega) (by omega)), ((t2 b (by omega)).2).trans (i4 b (by omega))⟩
    have R0 : RI J Z := RI_cls ok (fun b h1 h2 => (hJ b (by omega)).1) R
    have rsJ : rSn J S := by rw [← hS]; exact R0.1.1
    have raJ : rAn J S A := by rw [← hS, ← hAA]; exact R0.1.2.1
    have roJ := hro J (by rw [(hJ 124 (by omega)).1]) (fun b h1 h2 => (hJ b (by omega)).1)
    obtain ⟨H0, k1, k2, k3, k4, k5⟩ := keepsAll_ok J
    obtain ⟨q1, q2, q3⟩ := keepsAll_r O hA k5 rsJ raJ roJ
    obtain ⟨H, M2, u1, u2, u3, u4⟩ := rOneG_go O xf 100 0 (A, fun _ => 0) H0 M (by unfold xf; omega) (by omega) hA (show A.2.2.1 + 100 < 990 by omega) q1 q2 q3 k3 k2 k4
    have es3 := rIsStreet_ok rsJ O
    rw [decide_eq_true hd] at es3
    have eg : oneG S (ruF (zR Z) (wF (zW Z))) 100 (A, g) = oneG S (ruF (zR Z) (wF (zW Z))) 100 (A, fun _ => 0) := oneG_g _ _ _ _ _ _
    refine ⟨zI (oneG S (ruF (zR Z) (wF (zW Z))) 100 (A, fun _ => 0)), (n, K, P, J, M), (n, K, P, H, M2), ?_, G, ?_, ?_⟩
    · rw [eg] at t1
      unfold oX_one mX11_one
      simp (disch := omega) only [↓reduceIte, Option.bind_some, Option.some.injEq, Prod.mk.injEq, and_self, and_true, true_and, eq_self, reduceCtorEq, not_false_eq_true, not_true_eq_false, or_true, true_or, or_false, false_or, bft, nAdd, nMul, nSub, nDiv, nRem, nAm1, nIx, nIn, bI_z, bI_o, ite_b1, ite_b0, zI_add, zI_sub, li0, li1, li2, li3, li4, li5, li6, li7, li8, li9, li10, li11, li12, li13, li14, li15, li16, li17, li18, li19, li20, li21, li22, li23, li24, li25, li26, li27, li28, li29, li30, li31, li32, li33, li34, li35, li36, li37, li40, li42, li43, li45, li47, li48, li57, li59, li60, li61, li62, li64, li80, li91, li93, li97, li99, li100, li122, li182, li199, li255, li300, li380, li400, li999, li1000, li3640, li4100, li65536, li99999, ln1, ln2, ln3, ln100, ln100000, tLe, fLe, tLt, fLt, tEq, fEq, zLe_t, zLe_f, zLt_t, zLt_f, zEq_t, zEq_f, nzLe_t, nzLe_f, znLe_t, znLe_f, nzLt_t, nzLt_f, znLt_t, znLt_f, nzEq_t, nzEq_f, znEq_t, znEq_f, cS_told cs, decide_eq_true hd, i1, t1, Option.map_some]
    · unfold oM_one mX12_one
      simp (disch := omega) only [↓reduceIte, Option.bind_some, Option.some.injEq, Prod.mk.injEq, and_self, and_true, true_and, eq_self, reduceCtorEq, not_false_eq_true, not_true_eq_false, or_true, true_or, or_false, false_or, bft, nAdd, nMul, nSub, nDiv, nRem, nAm1, nIx, nIn, bI_z, bI_o, ite_b1, ite_b0, zI_add, zI_sub, li0, li1, li2, li3, li4, li5, li6, li7, li8, li9, li10, li11, li12, li13, li14, li15, li16, li17, li18, li19, li20, li21, li22, li23, li24, li25, li26, li27, li28, li29, li30, li31, li32, li33, li34, li35, li36, li37, li40, li42, li43, li45, li47, li48, li57, li59, li60, li61, li62, li64, li80, li91, li93, li97, li99, li100, li122, li182, li199, li255, li300, li380, li400, li999, li1000, li3640, li4100, li65536, li99999, ln1, ln2, ln3, ln100, ln100000, tLe, fLe, tLt, fLt, tEq, fEq, zLe_t, zLe_f, zLt_t, zLt_f, zEq_t, zEq_f, nzLe_t, nzLe_f, znLe_t, znLe_f, nzLt_t, nzLt_f, znLt_t, znLt_f, nzEq_t, nzEq_f, znEq_t, znEq_f, es3, k1, u1, Option.map_some]
    · exact Inv_asked G F ok C R hJ u3 u2 u4
  · rw [decide_eq_false hd] at es
    refine no ?_ ?_
    · unfold mX11_one; simp (disch := omega) only [↓reduceIte, Option.bind_some, Option.some.injEq, Prod.mk.injEq, and_self, and_true, true_and, eq_self, reduceCtorEq, not_false_eq_true, not_true_eq_false, or_true, true_or, or_false, false_or, bft, nAdd, nMul, nSub, nDiv, nRem, nAm1, nIx, nIn, bI_z, bI_o, ite_b1, ite_b0, zI_add, zI_sub, li0, li1, li2, li3, li4, li5, li6, li7, li8, li9, li10, li11, li12, li13, li14, li15, li16, li17, li18, li19, li20, li21, li22, li23, li24, li25, li26, li27, li28, li29, li30, li31, li32, li33, li34, li35, li36, li37, li40, li42, li43, li45, li47, li48, li57, li59, li60, li61, li62, li64, li80, li91, li93, li97, li99, li100, li122, li182, li199, li255, li300, li380, li400, li999, li1000, li3640, li4100, li65536, li99999, ln1, ln2, ln3, ln100, ln100000, tLe, fLe, tLt, fLt, tEq, fEq, zLe_t, zLe_f, zLt_t, zLt_f, zEq_t, zEq_f, nzLe_t, nzLe_f, znLe_t, znLe_f, nzLt_t, nzLt_f, znLt_t, znLt_f, nzEq_t, nzEq_f, znEq_t, znEq_f, cS_told cs, decide_eq_false hd]
    · unfold mX12_one; simp (disch := omega) only [↓reduceIte, Option.bind_some, Option.some.injEq, Prod.mk.injEq, and_self, and_true, true_and, eq_self, reduceCtorEq, not_false_eq_true, not_true_eq_false, or_true, true_or, or_false, false_or, bft, nAdd, nMul, nSub, nDiv, nRem, nAm1, nIx, nIn, bI_z, bI_o, ite_b1, ite_b0, zI_add, zI_sub, li0, li1, li2, li3, li4, li5, li6, li7, li8, li9, li10, li11, li12, li13, li14, li15, li16, li17, li18, li19, li20, li21, li22, li23, li24, li25, li26, li27, li28, li29, li30, li31, li32, li33, li34, li35, li36, li37, li40, li42, li43, li45, li47, li48, li57, li59, li60, li61, li62, li64, li80, li91, li93, li97, li99, li100, li122, li182, li199, li255, li300, li380, li400, li999, li1000, li3640, li4100, li65536, li99999, ln1, ln2, ln3, ln100, ln100000, tLe, fLe, tLt, fLt, tEq, fEq, zLe_t, zLe_f, zLt_t, zLt_f, zEq_t, zEq_f, nzLe_t, nzLe_f, znLe_t, znLe_f, nzLt_t, nzLt_f, znLt_t, znLt_f, nzEq_t, nzEq_f, znEq_t, znEq_f, es]

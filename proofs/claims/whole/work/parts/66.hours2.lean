/-! Hours of the class: painting by a rule. -/
def chF (S : sT) (A : aT) (val : Nat → Int64) : Nat → Nat → Int → Int64 → Int
  | 0, _, b, _ => b
  | n + 1, c, b, m => if A.2.2.2.testBit (thOf S c) = true then chF S A val n (c + 1) b m else if val c ≤ m then chF S A val n (c + 1) b m else chF S A val n (c + 1) c (val c)
theorem chF_rng {S : sT} {A : aT} {val : Nat → Int64} : ∀ (n c : Nat) (b : Int) (m : Int64), (b = -1 ∨ ∃ d : Nat, d < c ∧ b = d ∧ A.2.2.2.testBit (thOf S d) = false) → chF S A val n c b m = -1 ∨ ∃ d : Nat, d < c + n ∧ chF S A val n c b m = d ∧ A.2.2.2.testBit (thOf S d) = false
  | 0, _, _, _, h => h
  | n + 1, c, b, m, h => by
    have h' : b = -1 ∨ ∃ d : Nat, d < c + 1 ∧ b = d ∧ A.2.2.2.testBit (thOf S d) = false := h.imp id (fun ⟨d, h1, h2⟩ => ⟨d, by omega, h2⟩)
    rw [chF, show c + (n + 1) = c + 1 + n by omega]
    by_cases hb : A.2.2.2.testBit (thOf S c) = true
    · rw [if_pos hb]; exact chF_rng n (c + 1) b m h'
    · rw [if_neg hb]
      split
      · exact chF_rng n (c + 1) b m h'
      · exact chF_rng n (c + 1) c (val c) (Or.inr ⟨c, by omega, rfl, by simpa using hb⟩)
/-- the cell that a painter paints by a rule; -1 none -/
def chA (S : sT) (ru : ruT) (A : aT) (q : Nat) : Int := if A.2.1 q < sCost S then -1 else chF S A (fun c => valR ru (envW S A q c)) (sCe S) 0 (-1) 0
theorem chA_rng (S : sT) (ru : ruT) (A : aT) (q : Nat) : chA S ru A q = -1 ∨ ∃ d : Nat, d < sCe S ∧ chA S ru A q = d ∧ A.2.2.2.testBit (thOf S d) = false := by
  unfold chA
  split
  · exact Or.inl rfl
  · have := chF_rng (S := S) (A := A) (val := fun c => valR ru (envW S A q c)) (sCe S) 0 (-1) 0 (Or.inl rfl)
    rw [Nat.zero_add] at this
    exact this
def paF (S : sT) (ru : ruT) : Nat → Nat → aT → Nat → aT × Nat
  | 0, _, A, m => (A, m)
  | n + 1, q, A, m => if chA S ru A q < 0 then paF S ru n (q + 1) A m else paF S ru n (q + 1) (putA S A (chA S ru A q).toNat q) (m + 1)
def wds (L : Nat → Nat → Int64) (S : sT) (A : aT) (q : Nat) : Prop := L 96 0 = lN q ∧ L 96 10 = lN (A.2.1 q) ∧ L 96 11 = lN A.2.2.1 ∧ L 96 12 = if rainS S A.2.2.1 = true then 1 else 0
section
variable {K : Nat → Nat × Nat} {s a rp : Nat} {S : sT} {ru : ruT}
theorem choose_go {I : Nat → Nat → Int32} {A : aT} {q : Nat} (O : okS S) (hA : okA S A) (hh : A.2.2.1 < 100000) (pa : a = 24 ∨ a = 92) (hq : q < sPa S) (C : cS I s S) (hs : ∀ t, t < sTh S → seeT I S A t) (R : cR K I rp ru) (ok : okRu ru) : ∀ (f n c : Nat) (b : Int) (m : Int64) (L : Nat → Nat → Int64), n < f → n + c = sCe S → cA I L a S A → wds L S A q → ∃ M, mX2_choose_33 K I f L rp s a (nI q) (zI b) m (nI c) = some (zI (chF S A (fun c => valR ru (envW S A q c)) n c b m), M) ∧ (∀ b, b ≠ 96 → b ≠ 97 → M b = L b) ∧ wds M S A q
  | 0, n, c, b, m, L, h1, _, _, _ => absurd h1 (by omega)
  | f + 1, n, c, b, m, L, h1, h2, hC, hw => by
    have o1 := O.1
    rw [mX2_choose_33]
    cases n with
    | zero =>
      refine ⟨L, ?_, fun _ _ _ => rfl, hw⟩
      simp (disch := omega) only [↓reduceIte, Option.bind_some, Option.some.injEq, Prod.mk.injEq, and_self, and_true, true_and, eq_self, reduceCtorEq, not_false_eq_true, not_true_eq_false, or_true, true_or, or_false, false_or, bft, nAdd, nMul, nSub, nDiv, nRem, nAm1, nIx, nIn, bI_z, bI_o, ite_b1, ite_b0, zI_add, zI_sub, li0, li1, li2, li3, li4, li5, li6, li7, li8, li9, li10, li11, li12, li13, li14, li15, li16, li17, li18, li19, li20, li21, li22, li23, li24, li25, li26, li27, li28, li29, li30, li31, li32, li33, li34, li35, li36, li37, li40, li42, li43, li45, li47, li48, li57, li59, li60, li61, li62, li64, li80, li91, li93, li97, li99, li100, li122, li182, li199, li255, li300, li380, li400, li999, li1000, li3640, li4100, li65536, li99999, ln1, ln2, ln3, ln100, ln100000, tLe, fLe, tLt, fLt, tEq, fEq, zLe_t, zLe_f, zLt_t, zLt_f, zEq_t, zEq_f, nzLe_t, nzLe_f, znLe_t, znLe_f, nzLt_t, nzLt_f, znLt_t, znLt_f, nzEq_t, nzEq_f, znEq_t, znEq_f, cS_nce C]
      rfl
    | succ n =>
      have hc : c < sCe S := by omega
      obtain ⟨t1, t2, t3⟩ := thOf_ok O hc
      have eb := isBare6_ok (t := thOf S c) (cA_b hC) (by have := hA.2.2.1; omega) (by omega)
      rw [chF]
      cases hb : A.2.2.2.testBit (thOf S c) with
      | true =>
        rw [hb] at eb
        obtain ⟨M, m1, m2, m3⟩ := choose_go O hA hh pa hq C hs R ok f n (c + 1) b m L (by omega) (by omega) hC hw
        refine ⟨M, ?_, m2, m3⟩
        rw [if_pos rfl, ← m1]
        simp (disch := omega) only [↓reduceIte, Option.bind_some, Option.some.injEq, Prod.mk.injEq, and_self, and_true, true_and, eq_self, reduceCtorEq, not_false_eq_true, not_true_eq_false, or_true, true_or, or_false, false_or, bft, nAdd, nMul, nSub, nDiv, nRem, nAm1, nIx, nIn, bI_z, bI_o, ite_b1, ite_b0, zI_add, zI_sub, li0, li1, li2, li3, li4, li5, li6, li7, li8, li9, li10, li11, li12, li13, li14, li15, li16, li17, li18, li19, li20, li21, li22, li23, li24, li25, li26, li27, li28, li29, li30, li31, li32, li33, li34, li35, li36, li37, li40, li42, li43, li45, li47, li48, li57, li59, li60, li61, li62, li64, li80, li91, li93, li97, li99, li100, li122, li182, li199, li255, li300, li380, li400, li999, li1000, li3640, li4100, li65536, li99999, ln1, ln2, ln3, ln100, ln100000, tLe, fLe, tLt, fLt, tEq, fEq, zLe_t, zLe_f, zLt_t, zLt_f, zEq_t, zEq_f, nzLe_t, nzLe_f, znLe_t, znLe_f, nzLt_t, nzLt_f, znLt_t, znLt_f, nzEq_t, nzEq_f, znEq_t, znEq_f, cS_nce C, cS_th C O hc, eb, reduceCtorEq]
      | false =>
        rw [hb] at eb
        obtain ⟨M1, s1, s2, s3⟩ := setWords_ok O hA hh hq hc C hC (hs _ t1) pa hw.1 hw.2.1 hw.2.2.1 hw.2.2.2
        obtain ⟨M2, v1, v2⟩ := valueFor_ok (env := envW S A q c) R ok s2
        have hC2 : cA I M2 a S A := cA_congr rfl rfl ((v2 _ (by omega)).trans (s3 _ (by omega))) hC
        have hw2 : wds M2 S A q := by
          unfold wds
          rw [v2 96 (by decide)]
          exact ⟨s2 0 (by decide), s2 10 (by decide), s2 11 (by decide), s2 12 (by decide)⟩
        simp (disch := omega) only [↓reduceIte, Option.bind_some, Option.some.injEq, Prod.mk.injEq, and_self, and_true, true_and, eq_self, reduceCtorEq, not_false_eq_true, not_true_eq_false, or_true, true_or, or_false, false_or, bft, nAdd, nMul, nSub, nDiv, nRem, nAm1, nIx, nIn, bI_z, bI_o, ite_b1, ite_b0, zI_add, zI_sub, li0, li1, li2, li3, li4, li5, li6, li7, li8, li9, li10, li11, li12, li13, li14, li15, li16, li17, li18, li19, li20, li21, li22, li23, li24, li25, li26, li27, li28, li29, li30, li31, li32, li33, li34, li35, li36, li37, li40, li42, li43, li45, li47, li48, li57, li59, li60, li61, li62, li64, li80, li91, li93, li97, li99, li100, li122, li182, li199, li255, li300, li380, li400, li999, li1000, li3640, li4100, li65536, li99999, ln1, ln2, ln3, ln100, ln100000, tLe, fLe, tLt, fLt, tEq, fEq, zLe_t, zLe_f, zLt_t, zLt_f, zEq_t, zEq_f, nzLe_t, nzLe_f, znLe_t, znLe_f, nzLt_t, nzLt_f, znLt_t, znLt_f, nzEq_t, nzEq_f, znEq_t, znEq_f, cS_nce C, cS_th C O hc, eb, s1, v1, cmpLe]
        by_cases hv : valR ru (envW S A q c) ≤ m
        · obtain ⟨M, m1, m2, m3⟩ := choose_go O hA hh pa hq C hs R ok f n (c + 1) b m M2 (by omega) (by omega) hC2 hw2
          refine ⟨M, ?_, fun b h3 h4 => (m2 b h3 h4).trans ((v2 b h4).trans (s3 b h3)), m3⟩
          rw [if_pos hv, if_pos hv, m1]
        · obtain ⟨M, m1, m2, m3⟩ := choose_go O hA hh pa hq C hs R ok f n (c + 1) c (valR ru (envW S A q c)) M2 (by omega) (by omega) hC2 hw2
          refine ⟨M, ?_, fun b h3 h4 => (m2 b h3 h4).trans ((v2 b h4).trans (s3 b h3)), m3⟩
          rw [if_neg hv, if_neg hv, nz c, m1]
theorem choose_ok {I : Nat → Nat → Int32} {L : Nat → Nat → Int64} {A : aT} {q : Nat} (O : okS S) (hA : okA S A) (hh : A.2.2.1 < 100000) (pa : a = 24 ∨ a = 92) (hq : q < sPa S) (C : cS I s S) (hs : ∀ t, t < sTh S → seeT I S A t) (R : cR K I rp ru) (ok : okRu ru) (hC : cA I L a S A) (w11 : L 96 11 = lN A.2.2.1) (w12 : L 96 12 = if rainS S A.2.2.1 = true then 1 else 0) : ∃ M, mX2_choose K I L rp s a (nI q) = some (zI (chF S A (fun c => valR ru (envW S A q c)) (sCe S) 0 (-1) 0), M) ∧ (∀ b, b ≠ 96 → b ≠ 97 → M b = L b) ∧ M 96 11 = lN A.2.2.1 ∧ M 96 12 = if rainS S A.2.2.1 = true then 1 else 0 := by
  have o1 := O.1
  have hp := hA.2.1 q hq
  unfold mX2_choose
  simp (disch := omega) only [↓reduceIte, Option.bind_some, Option.some.injEq, Prod.mk.injEq, and_self, and_true, true_and, eq_self, reduceCtorEq, not_false_eq_true, not_true_eq_false, or_true, true_or, or_false, false_or, bft, nAdd, nMul, nSub, nDiv, nRem, nAm1, nIx, nIn, bI_z, bI_o, ite_b1, ite_b0, zI_add, zI_sub, li0, li1, li2, li3, li4, li5, li6, li7, li8, li9, li10, li11, li12, li13, li14, li15, li16, li17, li18, li19, li20, li21, li22, li23, li24, li25, li26, li27, li28, li29, li30, li31, li32, li33, li34, li35, li36, li37, li40, li42, li43, li45, li47, li48, li57, li59, li60, li61, li62, li64, li80, li91, li93, li97, li99, li100, li122, li182, li199, li255, li300, li380, li400, li999, li1000, li3640, li4100, li65536, li99999, ln1, ln2, ln3, ln100, ln100000, tLe, fLe, tLt, fLt, tEq, fEq, zLe_t, zLe_f, zLt_t, zLt_f, zEq_t, zEq_f, nzLe_t, nzLe_f, znLe_t, znLe_f, nzLt_t, nzLt_f, znLt_t, znLt_f, nzEq_t, nzEq_f, znEq_t, znEq_f, cA_p hC hq, nI_l]
  obtain ⟨M, m1, m2, m3⟩ := choose_go O hA hh pa hq C hs R ok xf (sCe S) 0 (-1) 0 (xu (xu L 96 0 (lN q)) 96 10 (lN (A.2.1 q))) (by unfold xf; omega) (by omega) (cA_congr rfl rfl (by rw [xu_r (by omega), xu_r (by omega)]) hC) ⟨by simp (disch := omega) only [↓reduceIte, Option.bind_some, Option.some.injEq, Prod.mk.injEq, and_self, and_true, true_and, eq_self, reduceCtorEq, not_false_eq_true, not_true_eq_false, or_true, true_or, or_false, false_or, bft, nAdd, nMul, nSub, nDiv, nRem, nAm1, nIx, nIn, bI_z, bI_o, ite_b1, ite_b0, zI_add, zI_sub, li0, li1, li2, li3, li4, li5, li6, li7, li8, li9, li10, li11, li12, li13, li14, li15, li16, li17, li18, li19, li20, li21, li22, li23, li24, li25, li26, li27, li28, li29, li30, li31, li32, li33, li34, li35, li36, li37, li40, li42, li43, li45, li47, li48, li57, li59, li60, li61, li62, li64, li80, li91, li93, li97, li99, li100, li122, li182, li199, li255, li300, li380, li400, li999, li1000, li3640, li4100, li65536, li99999, ln1, ln2, ln3, ln100, ln100000, tLe, fLe, tLt, fLt, tEq, fEq, zLe_t, zLe_f, zLt_t, zLt_f, zEq_t, zEq_f, nzLe_t, nzLe_f, znLe_t, znLe_f, nzLt_t, nzLt_f, znLt_t, znLt_f, nzEq_t, nzEq_f, znEq_t, znEq_f, xu_s, xu_r, xu_c, xrow_at, xrow_r], by simp (disch := omega) only [↓reduceIte, Option.bind_some, Option.some.injEq, Prod.mk.injEq, and_self, and_true, true_and, eq_self, reduceCtorEq, not_false_eq_true, not_true_eq_false, or_true, true_or, or_false, false_or, bft, nAdd, nMul, nSub, nDiv, nRem, nAm1, nIx, nIn, bI_z, bI_o, ite_b1, ite_b0, zI_add, zI_sub, li0, li1, li2, li3, li4, li5, li6, li7, li8, li9, li10, li11, li12, li13, li14, li15, li16, li17, li18, li19, li20, li21, li22, li23, li24, li25, li26, li27, li28, li29, li30, li31, li32, li33, li34, li35, li36, li37, li40, li42, li43, li45, li47, li48, li57, li59, li60, li61, li62, li64, li80, li91, li93, li97, li99, li100, li122, li182, li199, li255, li300, li380, li400, li999, li1000, li3640, li4100, li65536, li99999, ln1, ln2, ln3, ln100, ln100000, tLe, fLe, tLt, fLt, tEq, fEq, zLe_t, zLe_f, zLt_t, zLt_f, zEq_t, zEq_f, nzLe_t, nzLe_f, znLe_t, znLe_f, nzLt_t, nzLt_f, znLt_t, znLt_f, nzEq_t, nzEq_f, znEq_t, znEq_f, xu_s, xu_r, xu_c, xrow_at, xrow_r], by simp (disch := omega) only [↓reduceIte, Option.bind_some, Option.some.injEq, Prod.mk.injEq, and_self, and_true, true_and, eq_self, reduceCtorEq, not_false_eq_true, not_true_eq_false, or_true, true_or, or_false, false_or, bft, nAdd, nMul, nSub, nDiv, nRem, nAm1, nIx, nIn, bI_z, bI_o, ite_b1, ite_b0, zI_add, zI_sub, li0, li1, li2, li3, li4, li5, li6, li7, li8, li9, li10, li11, li12, li13, li14, li15, li16, li17, li18, li19, li20, li21, li22, li23, li24, li25, li26, li27, li28, li29, li30, li31, li32, li33, li34, li35, li36, li37, li40, li42, li43, li45, li47, li48, li57, li59, li60, li61, li62, li64, li80, li91, li93, li97, li99, li100, li122, li182, li199, li255, li300, li380, li400, li999, li1000, li3640, li4100, li65536, li99999, ln1, ln2, ln3, ln100, ln100000, tLe, fLe, tLt, fLt, tEq, fEq, zLe_t, zLe_f, zLt_t, zLt_f, zEq_t, zEq_f, nzLe_t, nzLe_f, znLe_t, znLe_f, nzLt_t, nzLt_f, znLt_t, znLt_f, nzEq_t, nzEq_f, znEq_t, znEq_f, xu_s, xu_r, xu_c, xrow_at, xrow_r, w11], by simp (disch := omega) only [↓reduceIte, Option.bind_some, Option.some.injEq, Prod.mk.injEq, and_self, and_true, true_and, eq_self, reduceCtorEq, not_false_eq_true, not_true_eq_false, or_true, true_or, or_false, false_or, bft, nAdd, nMul, nSub, nDiv, nRem, nAm1, nIx, nIn, bI_z, bI_o, ite_b1, ite_b0, zI_add, zI_sub, li0, li1, li2, li3, li4, li5, li6, li7, li8, li9, li10, li11, li12, li13, li14, li15, li16, li17, li18, li19, li20, li21, li22, li23, li24, li25, li26, li27, li28, li29, li30, li31, li32, li33, li34, li35, li36, li37, li40, li42, li43, li45, li47, li48, li57, li59, li60, li61, li62, li64, li80, li91, li93, li97, li99, li100, li122, li182, li199, li255, li300, li380, li400, li999, li1000, li3640, li4100, li65536, li99999, ln1, ln2, ln3, ln100, ln100000, tLe, fLe, tLt, fLt, tEq, fEq, zLe_t, zLe_f, zLt_t, zLt_f, zEq_t, zEq_f, nzLe_t, nzLe_f, znLe_t, znLe_f, nzLt_t, nzLt_f, znLt_t, znLt_f, nzEq_t, nzEq_f, znEq_t, znEq_f, xu_s, xu_r, xu_c, xrow_at, xrow_r, w12]⟩
  exact ⟨M, m1, fun b h1 h2 => by rw [m2 b h1 h2, xu_r h1, xu_r h1], m3.2.2.1, m3.2.2.2⟩
theorem putCoat_ok {I : Nat → Nat → Int32} {L : Nat → Nat → Int64} {A : aT} {c q : Nat} (O : okS S) (hA : okA S A) (hh : A.2.2.1 < 1000) (hc : c < sCe S) (hq : q < sPa S) (hp : sCost S ≤ A.2.1 q) (C : cS I s S) (hC : cA I L a S A) : ∃ J M, mX7_putCoat I L s a (nI c) (nI q) = some (J, M) ∧ cA J M a S (putA S A c q) ∧ (∀ b, b ≠ a + 2 → J b = I b) ∧ ∀ b, b ≠ a + 1 → M b = L b := by
  have o1 := O.1
  have e1 := with_ok (q := q) (hA.1 c hc).1 (by omega) hh
  refine ⟨xu I (a + 2) q (nI (A.2.1 q - sCost S)), xu L (a + 1) c (lN (enc (putC (A.1 c) q A.2.2.1))), ?_, ?_, fun b hb => xu_r hb, fun b hb => xu_r hb⟩
  · unfold mX7_putCoat
    simp (disch := omega) only [↓reduceIte, Option.bind_some, Option.some.injEq, Prod.mk.injEq, and_self, and_true, true_and, eq_self, reduceCtorEq, not_false_eq_true, not_true_eq_false, or_true, true_or, or_false, false_or, bft, nAdd, nMul, nSub, nDiv, nRem, nAm1, nIx, nIn, bI_z, bI_o, ite_b1, ite_b0, zI_add, zI_sub, li0, li1, li2, li3, li4, li5, li6, li7, li8, li9, li10, li11, li12, li13, li14, li15, li16, li17, li18, li19, li20, li21, li22, li23, li24, li25, li26, li27, li28, li29, li30, li31, li32, li33, li34, li35, li36, li37, li40, li42, li43, li45, li47, li48, li57, li59, li60, li61, li62, li64, li80, li91, li93, li97, li99, li100, li122, li182, li199, li255, li300, li380, li400, li999, li1000, li3640, li4100, li65536, li99999, ln1, ln2, ln3, ln100, ln100000, tLe, fLe, tLt, fLt, tEq, fEq, zLe_t, zLe_f, zLt_t, zLt_f, zEq_t, zEq_f, nzLe_t, nzLe_f, znLe_t, znLe_f, nzLt_t, nzLt_f, znLt_t, znLt_f, nzEq_t, nzEq_f, znEq_t, znEq_f, cA_l hC hc, cA_h hC, e1, cA_p hC hq, cS_cost C]
  · refine ⟨fun d hd => ?_, fun p h1 => ?_, ?_, ?_⟩
    · show _ = lN (enc (updF A.1 c (putC (A.1 c) q A.2.2.1) d))
      by_cases w : d = c
      · subst w; rw [xu_s, updF_s]
      · rw [xu_c w, updF_n w]; exact hC.1 d hd
    · show _ = nI (updF A.2.1 q (A.2.1 q - sCost S) p)
      by_cases w : p = q
      · subst w; rw [xu_s, updF_s]
      · rw [xu_c w, updF_n w]; exact hC.2.1 p h1
    · rw [xu_r (by omega)]; exact hC.2.2.1
    · rw [xu_r (by omega)]; exact hC.2.2.2
end

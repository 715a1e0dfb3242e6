/-! street: the class's reader, the whole text. -/
def fnC (U : uT) (t c : Nat) : List Nat := if thOf U.1 c < t ∧ U.2.2.2.testBit (thOf U.1 c) = true then [] else U.2.1 c
def finU (U : uT) : aT := (fnC U (sTh U.1), U.2.2.1, 0, U.2.2.2)
section
variable {T : txT} {I J : Nat → Nat → Int32} {L M : Nat → Nat → Int64} {p q m a : Nat} {U : uT}
theorem nNeL {a b : Nat} {x : Int32} (hx : x = nI b) (ha : a < 2147483648) (hb : b < 2147483648) (h : a ≠ b) : ¬ nI a = x := fun c => h ((nEq ha hb).mp (c.trans hx))
theorem cRes_of {r : Except Nat (uT × Nat)} {x : Option (Int32 × (Nat → Nat → Int32))} {y : Option (Int32 × (Nat → Nat → Int32) × (Nat → Nat → Int64))} (h : cRes T a I L r (Option.map (fun x => (x.1, x.2, L)) x)) (hy : ∀ b J, (b = nI 0 ∨ b = nI 1) → x = some (b, J) → y = some (b, J, L)) : cRes T a I L r y := by
  cases x with
  | none =>
    cases r with
    | error e => obtain ⟨J, M, h1, -⟩ := h; cases h1
    | ok v => obtain ⟨J, M, h1, -⟩ := h; cases h1
  | some z =>
    obtain ⟨z1, z2⟩ := z
    cases r with
    | error e =>
      obtain ⟨J, M, h1, h2⟩ := h
      cases h1
      exact ⟨z2, L, hy _ _ (Or.inl rfl) rfl, h2⟩
    | ok v =>
      obtain ⟨J, M, h1, h2⟩ := h
      cases h1
      exact ⟨z2, L, hy _ _ (Or.inr rfl) rfl, h2⟩
theorem if01 {α : Type} {b : Int32} {x y : α} (h : b = nI 0 ∨ b = nI 1) : (if b = 0 ∨ b = 1 then x else y) = x := if_pos h
theorem suit_cU (ha : 171 < a) (C : cU I L (a + 1) U) : cU (xu I (a + 1) 4 (nI 1)) L (a + 1) (uSuit U) := by
  obtain ⟨⟨c1, c2, c3, c4, c5, c6, c7, c8⟩, c9, c10, c11, c12, c13, c14⟩ := C
  unfold cU
  rw [xu_r (b := a + 1 + 1) (by omega), xu_r (b := a + 1 + 2) (by omega), xu_r (b := a + 1 + 3) (by omega), xu_r (b := a + 1 + 4) (by omega), xu_r (b := a + 1 + 5) (by omega), xu_r (b := a + 1 + 6) (by omega), xu_r (b := a + 1 + 7) (by omega), xu_r (b := a + 1 + 8) (by omega), xu_r (b := a + 1 + 10) (by omega)]
  refine ⟨⟨?_, ?_, ?_, ?_, ?_, ?_, ?_, ?_⟩, c9, c10, c11, c12, c13, c14⟩
  · rw [xu_c (by decide)]; exact c1
  · rw [xu_c (by decide)]; exact c2
  · rw [xu_c (by decide)]; exact c3
  · rw [xu_s]; rfl
  · rw [xu_c (by decide)]; exact c5
  · rw [xu_c (by decide)]; exact c6
  · rw [xu_c (by decide)]; exact c7
  · rw [xu_c (by decide)]; exact c8
theorem okU_suit (h : okU U) : okU (uSuit U) := by
  obtain ⟨⟨⟨a1, a2, a3, a4, a5, a6, a7, a8⟩, b0⟩, o3⟩ := h
  exact ⟨⟨⟨a1, a2, a3, a4, a5, a6, Nat.le_refl 1, a8⟩, b0⟩, o3⟩
theorem clause_ok {w : Nat} (ok : okT T) (ha : 171 < a) (hU : okU U) (hw : isCl w = true) (hf : fullU U w = false) (C : cU I L (a + 1) U) (h : tA T q I) : cRes T a I L (rdC T w q U) (mX8_readClause I L a (nI w)) := by
  have hw2 : w = 0 ∨ w = 2 ∨ w = 12 ∨ w = 13 ∨ w = 14 ∨ w = 15 ∨ w = 16 := by
    unfold isCl at hw
    simp at hw
    omega
  unfold rdC mX8_readClause
  rcases hw2 with rfl | rfl | rfl | rfl | rfl | rfl | rfl
  · have h4 : sPa U.1 < 4 := by unfold fullU at hf; simp at hf; omega
    refine cRes_of (paint_ok ok ha hU h4 C h) (fun b J hb e => ?_)
    rw [if_pos (show nI 0 = (0 : Int32) from rfl), e, Option.bind_some]
    exact if01 hb
  · have h4 : sTh U.1 < 4 := by unfold fullU at hf; simp at hf; omega
    refine cRes_of (thing_ok ok ha hU h4 C h) (fun b J hb e => ?_)
    simp (disch := omega) only [↓reduceIte, Option.bind_some, Option.some.injEq, Prod.mk.injEq, and_self, and_true, true_and, eq_self, reduceCtorEq, not_false_eq_true, not_true_eq_false, or_true, true_or, or_false, false_or, bft, nAdd, nMul, nSub, nDiv, nRem, nAm1, nIx, nIn, bI_z, bI_o, ite_b1, ite_b0, zI_add, zI_sub, li0, li1, li2, li3, li4, li5, li6, li7, li8, li9, li10, li11, li12, li13, li14, li15, li16, li17, li18, li19, li20, li21, li22, li23, li24, li25, li26, li27, li28, li29, li30, li31, li32, li33, li34, li35, li36, li37, li40, li42, li43, li45, li47, li48, li57, li59, li60, li61, li62, li64, li80, li91, li93, li97, li99, li100, li122, li182, li199, li255, li300, li380, li400, li999, li1000, li3640, li4100, li65536, li99999, ln1, ln2, ln3, ln100, ln100000, tLe, fLe, tLt, fLt, tEq, fEq, zLe_t, zLe_f, zLt_t, zLt_f, zEq_t, zEq_f, nzLe_t, nzLe_f, znLe_t, znLe_f, nzLt_t, nzLt_f, znLt_t, znLt_f, nzEq_t, nzEq_f, znEq_t, znEq_f, e]
    exact if01 hb
  · have h4 : sRa U.1 < 5 := by unfold fullU at hf; simp at hf; omega
    refine cRes_of (rain_ok ok ha hU h4 C h) (fun b J hb e => ?_)
    simp (disch := omega) only [↓reduceIte, Option.bind_some, Option.some.injEq, Prod.mk.injEq, and_self, and_true, true_and, eq_self, reduceCtorEq, not_false_eq_true, not_true_eq_false, or_true, true_or, or_false, false_or, bft, nAdd, nMul, nSub, nDiv, nRem, nAm1, nIx, nIn, bI_z, bI_o, ite_b1, ite_b0, zI_add, zI_sub, li0, li1, li2, li3, li4, li5, li6, li7, li8, li9, li10, li11, li12, li13, li14, li15, li16, li17, li18, li19, li20, li21, li22, li23, li24, li25, li26, li27, li28, li29, li30, li31, li32, li33, li34, li35, li36, li37, li40, li42, li43, li45, li47, li48, li57, li59, li60, li61, li62, li64, li80, li91, li93, li97, li99, li100, li122, li182, li199, li255, li300, li380, li400, li999, li1000, li3640, li4100, li65536, li99999, ln1, ln2, ln3, ln100, ln100000, tLe, fLe, tLt, fLt, tEq, fEq, zLe_t, zLe_f, zLt_t, zLt_f, zEq_t, zEq_f, nzLe_t, nzLe_f, znLe_t, znLe_f, nzLt_t, nzLt_f, znLt_t, znLt_f, nzEq_t, nzEq_f, znEq_t, znEq_f, e]
    exact if01 hb
  · refine cRes_of (head_ok ok ha hU C h) (fun b J hb e => ?_)
    simp (disch := omega) only [↓reduceIte, Option.bind_some, Option.some.injEq, Prod.mk.injEq, and_self, and_true, true_and, eq_self, reduceCtorEq, not_false_eq_true, not_true_eq_false, or_true, true_or, or_false, false_or, bft, nAdd, nMul, nSub, nDiv, nRem, nAm1, nIx, nIn, bI_z, bI_o, ite_b1, ite_b0, zI_add, zI_sub, li0, li1, li2, li3, li4, li5, li6, li7, li8, li9, li10, li11, li12, li13, li14, li15, li16, li17, li18, li19, li20, li21, li22, li23, li24, li25, li26, li27, li28, li29, li30, li31, li32, li33, li34, li35, li36, li37, li40, li42, li43, li45, li47, li48, li57, li59, li60, li61, li62, li64, li80, li91, li93, li97, li99, li100, li122, li182, li199, li255, li300, li380, li400, li999, li1000, li3640, li4100, li65536, li99999, ln1, ln2, ln3, ln100, ln100000, tLe, fLe, tLt, fLt, tEq, fEq, zLe_t, zLe_f, zLt_t, zLt_f, zEq_t, zEq_f, nzLe_t, nzLe_f, znLe_t, znLe_f, nzLt_t, nzLt_f, znLt_t, znLt_f, nzEq_t, nzEq_f, znEq_t, znEq_f, e]
    exact if01 hb
  · have g := coat_ok ok ha hU C h
    show cRes T a I L (rdCoat T q U) _
    cases e : rdCoat T q U with
    | error x =>
      rw [e] at g
      obtain ⟨J, M, h1, h2⟩ := g
      refine ⟨J, M, ?_, h2⟩
      simp (disch := omega) only [↓reduceIte, Option.bind_some, Option.some.injEq, Prod.mk.injEq, and_self, and_true, true_and, eq_self, reduceCtorEq, not_false_eq_true, not_true_eq_false, or_true, true_or, or_false, false_or, bft, nAdd, nMul, nSub, nDiv, nRem, nAm1, nIx, nIn, bI_z, bI_o, ite_b1, ite_b0, zI_add, zI_sub, li0, li1, li2, li3, li4, li5, li6, li7, li8, li9, li10, li11, li12, li13, li14, li15, li16, li17, li18, li19, li20, li21, li22, li23, li24, li25, li26, li27, li28, li29, li30, li31, li32, li33, li34, li35, li36, li37, li40, li42, li43, li45, li47, li48, li57, li59, li60, li61, li62, li64, li80, li91, li93, li97, li99, li100, li122, li182, li199, li255, li300, li380, li400, li999, li1000, li3640, li4100, li65536, li99999, ln1, ln2, ln3, ln100, ln100000, tLe, fLe, tLt, fLt, tEq, fEq, zLe_t, zLe_f, zLt_t, zLt_f, zEq_t, zEq_f, nzLe_t, nzLe_f, znLe_t, znLe_f, nzLt_t, nzLt_f, znLt_t, znLt_f, nzEq_t, nzEq_f, znEq_t, znEq_f, h1]
    | ok x =>
      rw [e] at g
      obtain ⟨J, M, h1, h2⟩ := g
      refine ⟨J, M, ?_, h2⟩
      simp (disch := omega) only [↓reduceIte, Option.bind_some, Option.some.injEq, Prod.mk.injEq, and_self, and_true, true_and, eq_self, reduceCtorEq, not_false_eq_true, not_true_eq_false, or_true, true_or, or_false, false_or, bft, nAdd, nMul, nSub, nDiv, nRem, nAm1, nIx, nIn, bI_z, bI_o, ite_b1, ite_b0, zI_add, zI_sub, li0, li1, li2, li3, li4, li5, li6, li7, li8, li9, li10, li11, li12, li13, li14, li15, li16, li17, li18, li19, li20, li21, li22, li23, li24, li25, li26, li27, li28, li29, li30, li31, li32, li33, li34, li35, li36, li37, li40, li42, li43, li45, li47, li48, li57, li59, li60, li61, li62, li64, li80, li91, li93, li97, li99, li100, li122, li182, li199, li255, li300, li380, li400, li999, li1000, li3640, li4100, li65536, li99999, ln1, ln2, ln3, ln100, ln100000, tLe, fLe, tLt, fLt, tEq, fEq, zLe_t, zLe_f, zLt_t, zLt_f, zEq_t, zEq_f, nzLe_t, nzLe_f, znLe_t, znLe_f, nzLt_t, nzLt_f, znLt_t, znLt_f, nzEq_t, nzEq_f, znEq_t, znEq_f, h1]
  · refine cRes_of (bare_ok ok ha hU C h) (fun b J hb e => ?_)
    simp (disch := omega) only [↓reduceIte, Option.bind_some, Option.some.injEq, Prod.mk.injEq, and_self, and_true, true_and, eq_self, reduceCtorEq, not_false_eq_true, not_true_eq_false, or_true, true_or, or_false, false_or, bft, nAdd, nMul, nSub, nDiv, nRem, nAm1, nIx, nIn, bI_z, bI_o, ite_b1, ite_b0, zI_add, zI_sub, li0, li1, li2, li3, li4, li5, li6, li7, li8, li9, li10, li11, li12, li13, li14, li15, li16, li17, li18, li19, li20, li21, li22, li23, li24, li25, li26, li27, li28, li29, li30, li31, li32, li33, li34, li35, li36, li37, li40, li42, li43, li45, li47, li48, li57, li59, li60, li61, li62, li64, li80, li91, li93, li97, li99, li100, li122, li182, li199, li255, li300, li380, li400, li999, li1000, li3640, li4100, li65536, li99999, ln1, ln2, ln3, ln100, ln100000, tLe, fLe, tLt, fLt, tEq, fEq, zLe_t, zLe_f, zLt_t, zLt_f, zEq_t, zEq_f, nzLe_t, nzLe_f, znLe_t, znLe_f, nzLt_t, nzLt_f, znLt_t, znLt_f, nzEq_t, nzEq_f, znEq_t, znEq_f, e]
    exact if01 hb
  · refine ⟨xu I (a + 1) 4 (nI 1), L, ?_, tA_row (by omega) h, suit_cU ha C, okU_suit hU, by rw [xu_c (by decide)], fun b h1 h2 => ⟨xu_r (by omega), rfl⟩⟩
    simp (disch := omega) only [↓reduceIte, Option.bind_some, Option.some.injEq, Prod.mk.injEq, and_self, and_true, true_and, eq_self, reduceCtorEq, not_false_eq_true, not_true_eq_false, or_true, true_or, or_false, false_or, bft, nAdd, nMul, nSub, nDiv, nRem, nAm1, nIx, nIn, bI_z, bI_o, ite_b1, ite_b0, zI_add, zI_sub, li0, li1, li2, li3, li4, li5, li6, li7, li8, li9, li10, li11, li12, li13, li14, li15, li16, li17, li18, li19, li20, li21, li22, li23, li24, li25, li26, li27, li28, li29, li30, li31, li32, li33, li34, li35, li36, li37, li40, li42, li43, li45, li47, li48, li57, li59, li60, li61, li62, li64, li80, li91, li93, li97, li99, li100, li122, li182, li199, li255, li300, li380, li400, li999, li1000, li3640, li4100, li65536, li99999, ln1, ln2, ln3, ln100, ln100000, tLe, fLe, tLt, fLt, tEq, fEq, zLe_t, zLe_f, zLt_t, zLt_f, zEq_t, zEq_f, nzLe_t, nzLe_f, znLe_t, znLe_f, nzLt_t, nzLt_f, znLt_t, znLt_f, nzEq_t, nzEq_f, znEq_t, znEq_f]
/-- bare things stripped at the end -/
theorem strip14_cg {s b : Nat} (h : J (s + 2) = I (s + 2)) : ∀ (f : Nat) (L : Nat → Nat → Int64) (a2 a3 a4 a5 : Int32), mX7_strip_14 J f L s b a2 a3 a4 a5 = mX7_strip_14 I f L s b a2 a3 a4 a5
  | 0, _, _, _, _, _ => rfl
  | f + 1, L, a2, a3, a4, a5 => by
    rw [mX7_strip_14, mX7_strip_14, h]
    simp only [strip14_cg h f]
theorem strip_cg {s b : Nat} {t : Int32} (h1 : J (s + 1) = I (s + 1)) (h : J (s + 2) = I (s + 2)) : mX7_strip J L s b t = mX7_strip I L s b t := by
  unfold mX7_strip
  rw [h1, strip14_cg h]
theorem isBare6 {b t r : Nat} (h : I r 3 = nI b) (hb : b < 16) (ht : t < 4) : mX6_isBare I r (nI t) = some (bI (b.testBit t)) := by
  unfold mX6_isBare
  rw [h]
  have : ∀ b, b < 16 → ∀ t, t < 4 → (if ((xshr (nI b) (nI t)) &&& (1 : Int32)) = (1 : Int32) then (some (1 : Int32)) else (some (0 : Int32))) = some (bI (b.testBit t)) := by decide +kernel
  exact this b hb t ht
theorem cU_cS (C : cU I L (a + 1) U) (hd : 1 ≤ sDry U.1) : cS (xu I (a + 1) 0 (nI 1)) (a + 1) U.1 := by
  obtain ⟨⟨c1, c2, c3, c4, c5, c6, c7, c8⟩, c9, c10, c11, c12, c13, c14⟩ := C
  unfold cS
  rw [xu_r (b := a + 1 + 1) (by omega), xu_r (b := a + 1 + 2) (by omega), xu_r (b := a + 1 + 3) (by omega), xu_r (b := a + 1 + 4) (by omega), xu_r (b := a + 1 + 5) (by omega), xu_r (b := a + 1 + 6) (by omega), xu_r (b := a + 1 + 7) (by omega)]
  refine ⟨⟨?_, ?_, ?_, ?_, ?_, ?_, ?_, ?_, ?_⟩, c9, fun q hq => (c10 q hq).1, c11⟩
  · rw [xu_s, decide_eq_true (show 0 < sDry U.1 by omega)]; rfl
  · rw [xu_c (by decide)]; exact c1
  · rw [xu_c (by decide)]; exact c2
  · rw [xu_c (by decide)]; exact c3
  · rw [xu_c (by decide)]; exact c4
  · rw [xu_c (by decide)]; exact c5
  · rw [xu_c (by decide)]; exact c6
  · rw [xu_c (by decide)]; exact c7
  · rw [xu_c (by decide)]; exact c8
theorem fnC_okA (hU : okU U) (t : Nat) : okA U.1 (fnC U t, U.2.2.1, 0, 0) := by
  obtain ⟨o1, o3, o4, o5⟩ := hU
  refine ⟨fun c hc => ?_, fun q hq => Nat.le_trans (o4 q hq) (by decide), (show 0 < 16 by decide), fun t ht hb => by simp at hb⟩
  show okC (fnC U t c) ∧ ∀ x ∈ fnC U t c, x % 4 < sPa U.1
  unfold fnC
  split
  · exact ⟨okC_nil, fun x hx => by simp at hx⟩
  · exact ⟨(o3 c).1, fun x hx => ((o3 c).2 x hx).2⟩
theorem finU_okA (hU : okU U) : okA U.1 (finU U) ∧ (∀ c, c < sCe U.1 → ∀ x ∈ (finU U).1 c, x / 4 = 1) ∧ (finU U).2.2.1 = 0 := by
  have b := fnC_okA hU (sTh U.1)
  refine ⟨⟨b.1, b.2.1, hU.2.2.2, fun t ht hb c h1 h2 => ?_⟩, fun c hc x hx => ?_, rfl⟩
  · have e := thOf_eq hU.1 ht h1 h2
    show fnC U (sTh U.1) c = []
    unfold fnC
    rw [e]
    exact if_pos ⟨ht, hb⟩
  · change x ∈ fnC U (sTh U.1) c at hx
    unfold fnC at hx
    split at hx
    · simp at hx
    · exact ((hU.2.1 c).2 x hx).1
theorem fin_go (ha : 171 < a) (hU : okU U) (C : cU I L (a + 1) U) (hd : 1 ≤ sDry U.1) : ∀ (f d t : Nat) (M : Nat → Nat → Int64), d < f → t + d = sTh U.1 → (∀ c, c < sCe U.1 → M (a + 1 + 8 + 1) c = lN (enc (fnC U t c))) → ∃ N, mX8_finish_2 f I M a (nI t) = some (xu I (a + 1) 0 (nI 1), N) ∧ (∀ c, c < sCe U.1 → N (a + 1 + 8 + 1) c = lN (enc (fnC U (sTh U.1) c))) ∧ ∀ b, b ≠ a + 1 + 8 + 1 → N b = M b
  | 0, d, t, M, h, _, _ => absurd h (by omega)
  | f + 1, d, t, M, h1, h2, h3 => by
    have o1 := hU.1.1
    have c5 := C.1.2.2.2.2.1
    have c14 := C.2.2.2.2.2.2
    rw [mX8_finish_2]
    cases d with
    | zero =>
      have e : t = sTh U.1 := by omega
      subst e
      refine ⟨M, ?_, h3, fun _ _ => rfl⟩
      simp (disch := omega) only [↓reduceIte, Option.bind_some, Option.some.injEq, Prod.mk.injEq, and_self, and_true, true_and, eq_self, reduceCtorEq, not_false_eq_true, not_true_eq_false, or_true, true_or, or_false, false_or, bft, nAdd, nMul, nSub, nDiv, nRem, nAm1, nIx, nIn, bI_z, bI_o, ite_b1, ite_b0, zI_add, zI_sub, li0, li1, li2, li3, li4, li5, li6, li7, li8, li9, li10, li11, li12, li13, li14, li15, li16, li17, li18, li19, li20, li21, li22, li23, li24, li25, li26, li27, li28, li29, li30, li31, li32, li33, li34, li35, li36, li37, li40, li42, li43, li45, li47, li48, li57, li59, li60, li61, li62, li64, li80, li91, li93, li97, li99, li100, li122, li182, li199, li255, li300, li380, li400, li999, li1000, li3640, li4100, li65536, li99999, ln1, ln2, ln3, ln100, ln100000, tLe, fLe, tLt, fLt, tEq, fEq, zLe_t, zLe_f, zLt_t, zLt_f, zEq_t, zEq_f, nzLe_t, nzLe_f, znLe_t, znLe_f, nzLt_t, nzLt_f, znLt_t, znLt_f, nzEq_t, nzEq_f, znEq_t, znEq_f, c5]
    | succ d =>
      have ht : t < sTh U.1 := by omega
      have ib := isBare6 (I := I) (r := a + 1 + 8) (t := t) c14 hU.2.2.2 (by omega)
      cases hb : U.2.2.2.testBit t with
      | false =>
        obtain ⟨N, g1, g2, g3⟩ := fin_go ha hU C hd f d (t + 1) M (by omega) (by omega) (fun c hc => by
          rw [h3 c hc]
          congr 2
          unfold fnC
          by_cases e : thOf U.1 c = t
          · rw [e, hb, if_neg (by simp), if_neg (by simp)]
          · congr 1
            apply propext
            constructor
            · rintro ⟨x, y⟩; exact ⟨by omega, y⟩
            · rintro ⟨x, y⟩; exact ⟨by omega, y⟩)
        refine ⟨N, ?_, g2, g3⟩
        rw [hb] at ib
        simp (disch := omega) only [↓reduceIte, Option.bind_some, Option.some.injEq, Prod.mk.injEq, and_self, and_true, true_and, eq_self, reduceCtorEq, not_false_eq_true, not_true_eq_false, or_true, true_or, or_false, false_or, bft, nAdd, nMul, nSub, nDiv, nRem, nAm1, nIx, nIn, bI_z, bI_o, ite_b1, ite_b0, zI_add, zI_sub, li0, li1, li2, li3, li4, li5, li6, li7, li8, li9, li10, li11, li12, li13, li14, li15, li16, li17, li18, li19, li20, li21, li22, li23, li24, li25, li26, li27, li28, li29, li30, li31, li32, li33, li34, li35, li36, li37, li40, li42, li43, li45, li47, li48, li57, li59, li60, li61, li62, li64, li80, li91, li93, li97, li99, li100, li122, li182, li199, li255, li300, li380, li400, li999, li1000, li3640, li4100, li65536, li99999, ln1, ln2, ln3, ln100, ln100000, tLe, fLe, tLt, fLt, tEq, fEq, zLe_t, zLe_f, zLt_t, zLt_f, zEq_t, zEq_f, nzLe_t, nzLe_f, znLe_t, znLe_f, nzLt_t, nzLt_f, znLt_t, znLt_f, nzEq_t, nzEq_f, znEq_t, znEq_f, c5, ib, g1]
      | true =>
        obtain ⟨N1, s1, s2, s3⟩ := strip_ok (I := xu I (a + 1) 0 (nI 1)) (L := M) (s := a + 1) (a := a + 1 + 8) hU.1 (fnC_okA hU t) (cU_cS C hd) h3 ht
        rw [strip_cg (I := I) (xu_r (by omega)) (xu_r (by omega))] at s1
        obtain ⟨N, g1, g2, g3⟩ := fin_go ha hU C hd f d (t + 1) N1 (by omega) (by omega) (fun c hc => by
          rw [s2 c hc]
          congr 2
          show (if sFi U.1 t ≤ c ∧ c < sFi U.1 (t + 1) then [] else fnC U t c) = fnC U (t + 1) c
          have tk := thOf_ok hU.1 hc
          unfold fnC
          by_cases e : thOf U.1 c = t
          · rw [if_pos (by rw [← e]; exact tk.2), e, if_pos ⟨by omega, hb⟩]
          · rw [if_neg (fun hh => e (thOf_eq hU.1 ht hh.1 hh.2))]
            congr 1
            apply propext
            constructor
            · rintro ⟨x, y⟩; exact ⟨by omega, y⟩
            · rintro ⟨x, y⟩; exact ⟨by omega, y⟩)
        refine ⟨N, ?_, g2, fun b hb => (g3 b hb).trans (s3 b hb)⟩
        rw [hb] at ib
        simp (disch := omega) only [↓reduceIte, Option.bind_some, Option.some.injEq, Prod.mk.injEq, and_self, and_true, true_and, eq_self, reduceCtorEq, not_false_eq_true, not_true_eq_false, or_true, true_or, or_false, false_or, bft, nAdd, nMul, nSub, nDiv, nRem, nAm1, nIx, nIn, bI_z, bI_o, ite_b1, ite_b0, zI_add, zI_sub, li0, li1, li2, li3, li4, li5, li6, li7, li8, li9, li10, li11, li12, li13, li14, li15, li16, li17, li18, li19, li20, li21, li22, li23, li24, li25, li26, li27, li28, li29, li30, li31, li32, li33, li34, li35, li36, li37, li40, li42, li43, li45, li47, li48, li57, li59, li60, li61, li62, li64, li80, li91, li93, li97, li99, li100, li122, li182, li199, li255, li300, li380, li400, li999, li1000, li3640, li4100, li65536, li99999, ln1, ln2, ln3, ln100, ln100000, tLe, fLe, tLt, fLt, tEq, fEq, zLe_t, zLe_f, zLt_t, zLt_f, zEq_t, zEq_f, nzLe_t, nzLe_f, znLe_t, znLe_f, nzLt_t, nzLt_f, znLt_t, znLt_f, nzEq_t, nzEq_f, znEq_t, znEq_f, c5, ib, s1, g1]
def cFin (T : txT) (a : Nat) (I : Nat → Nat → Int32) (L : Nat → Nat → Int64) (r : Except Nat uT) (x : Option (Int32 × (Nat → Nat → Int32) × (Nat → Nat → Int64))) : Prop := match r with
  | .error e => ∃ J M, x = some (nI 0, J, M) ∧ J 3 5 = nI e ∧ ∀ b, b ≠ 3 → b < a + 1 ∨ a + 11 < b → J b = I b ∧ M b = L b
  | .ok U => ∃ J M, x = some (nI 1, J, M) ∧ cS J (a + 1) U.1 ∧ cA J M (a + 9) U.1 (finU U) ∧ okU U ∧ 1 ≤ sDry U.1 ∧ ∀ b, b ≠ 3 → b < a + 1 ∨ a + 11 < b → J b = I b ∧ M b = L b
theorem beg_ok {w : Nat} (h : w ≤ 37) : mX8_beginsClause (nI w) = some (bI (isCl w)) := by
  have : ∀ w, w ≤ 37 → mX8_beginsClause (nI w) = some (bI (isCl w)) := by
    intro w hw
    have h2 : w < 38 := by omega
    revert w
    decide +kernel
  exact this w h
theorem full_ok {w : Nat} (hU : okU U) (C : cU I L (a + 1) U) (h : isCl w = true) : mX8_isFullOf I a (nI w) = some (bI (fullU U w)) := by
  have o1 := hU.1.1
  have c4 := C.1.2.2.2.1
  have c5 := C.1.2.2.2.2.1
  have c7 := C.1.2.2.2.2.2.2.1
  have c8 := C.1.2.2.2.2.2.2.2
  have hw2 : w = 0 ∨ w = 2 ∨ w = 12 ∨ w = 13 ∨ w = 14 ∨ w = 15 ∨ w = 16 := by
    unfold isCl at h
    simp at h
    omega
  unfold mX8_isFullOf fullU
  rcases hw2 with rfl | rfl | rfl | rfl | rfl | rfl | rfl
  · by_cases e : sPa U.1 < 4
    · rw [decide_eq_false (show ¬ 4 ≤ sPa U.1 by omega)]
      simp (disch := omega) only [↓reduceIte, Option.bind_some, Option.some.injEq, Prod.mk.injEq, and_self, and_true, true_and, eq_self, reduceCtorEq, not_false_eq_true, not_true_eq_false, or_true, true_or, or_false, false_or, bft, nAdd, nMul, nSub, nDiv, nRem, nAm1, nIx, nIn, bI_z, bI_o, ite_b1, ite_b0, zI_add, zI_sub, li0, li1, li2, li3, li4, li5, li6, li7, li8, li9, li10, li11, li12, li13, li14, li15, li16, li17, li18, li19, li20, li21, li22, li23, li24, li25, li26, li27, li28, li29, li30, li31, li32, li33, li34, li35, li36, li37, li40, li42, li43, li45, li47, li48, li57, li59, li60, li61, li62, li64, li80, li91, li93, li97, li99, li100, li122, li182, li199, li255, li300, li380, li400, li999, li1000, li3640, li4100, li65536, li99999, ln1, ln2, ln3, ln100, ln100000, tLe, fLe, tLt, fLt, tEq, fEq, zLe_t, zLe_f, zLt_t, zLt_f, zEq_t, zEq_f, nzLe_t, nzLe_f, znLe_t, znLe_f, nzLt_t, nzLt_f, znLt_t, znLt_f, nzEq_t, nzEq_f, znEq_t, znEq_f, c7]
      rfl
    · rw [decide_eq_true (show 4 ≤ sPa U.1 by omega)]
      simp (disch := omega) only [↓reduceIte, Option.bind_some, Option.some.injEq, Prod.mk.injEq, and_self, and_true, true_and, eq_self, reduceCtorEq, not_false_eq_true, not_true_eq_false, or_true, true_or, or_false, false_or, bft, nAdd, nMul, nSub, nDiv, nRem, nAm1, nIx, nIn, bI_z, bI_o, ite_b1, ite_b0, zI_add, zI_sub, li0, li1, li2, li3, li4, li5, li6, li7, li8, li9, li10, li11, li12, li13, li14, li15, li16, li17, li18, li19, li20, li21, li22, li23, li24, li25, li26, li27, li28, li29, li30, li31, li32, li33, li34, li35, li36, li37, li40, li42, li43, li45, li47, li48, li57, li59, li60, li61, li62, li64, li80, li91, li93, li97, li99, li100, li122, li182, li199, li255, li300, li380, li400, li999, li1000, li3640, li4100, li65536, li99999, ln1, ln2, ln3, ln100, ln100000, tLe, fLe, tLt, fLt, tEq, fEq, zLe_t, zLe_f, zLt_t, zLt_f, zEq_t, zEq_f, nzLe_t, nzLe_f, znLe_t, znLe_f, nzLt_t, nzLt_f, znLt_t, znLt_f, nzEq_t, nzEq_f, znEq_t, znEq_f, c7]
      rfl
  · by_cases e : sTh U.1 < 4
    · rw [decide_eq_false (show ¬ 4 ≤ sTh U.1 by omega)]
      simp (disch := omega) only [↓reduceIte, Option.bind_some, Option.some.injEq, Prod.mk.injEq, and_self, and_true, true_and, eq_self, reduceCtorEq, not_false_eq_true, not_true_eq_false, or_true, true_or, or_false, false_or, bft, nAdd, nMul, nSub, nDiv, nRem, nAm1, nIx, nIn, bI_z, bI_o, ite_b1, ite_b0, zI_add, zI_sub, li0, li1, li2, li3, li4, li5, li6, li7, li8, li9, li10, li11, li12, li13, li14, li15, li16, li17, li18, li19, li20, li21, li22, li23, li24, li25, li26, li27, li28, li29, li30, li31, li32, li33, li34, li35, li36, li37, li40, li42, li43, li45, li47, li48, li57, li59, li60, li61, li62, li64, li80, li91, li93, li97, li99, li100, li122, li182, li199, li255, li300, li380, li400, li999, li1000, li3640, li4100, li65536, li99999, ln1, ln2, ln3, ln100, ln100000, tLe, fLe, tLt, fLt, tEq, fEq, zLe_t, zLe_f, zLt_t, zLt_f, zEq_t, zEq_f, nzLe_t, nzLe_f, znLe_t, znLe_f, nzLt_t, nzLt_f, znLt_t, znLt_f, nzEq_t, nzEq_f, znEq_t, znEq_f, c5]
      rfl
    · rw [decide_eq_true (show 4 ≤ sTh U.1 by omega)]
      simp (disch := omega) only [↓reduceIte, Option.bind_some, Option.some.injEq, Prod.mk.injEq, and_self, and_true, true_and, eq_self, reduceCtorEq, not_false_eq_true, not_true_eq_false, or_true, true_or, or_false, false_or, bft, nAdd, nMul, nSub, nDiv, nRem, nAm1, nIx, nIn, bI_z, bI_o, ite_b1, ite_b0, zI_add, zI_sub, li0, li1, li2, li3, li4, li5, li6, li7, li8, li9, li10, li11, li12, li13, li14, li15, li16, li17, li18, li19, li20, li21, li22, li23, li24, li25, li26, li27, li28, li29, li30, li31, li32, li33, li34, li35, li36, li37, li40, li42, li43, li45, li47, li48, li57, li59, li60, li61, li62, li64, li80, li91, li93, li97, li99, li100, li122, li182, li199, li255, li300, li380, li400, li999, li1000, li3640, li4100, li65536, li99999, ln1, ln2, ln3, ln100, ln100000, tLe, fLe, tLt, fLt, tEq, fEq, zLe_t, zLe_f, zLt_t, zLt_f, zEq_t, zEq_f, nzLe_t, nzLe_f, znLe_t, znLe_f, nzLt_t, nzLt_f, znLt_t, znLt_f, nzEq_t, nzEq_f, znEq_t, znEq_f, c5]
      rfl
  · by_cases e : sRa U.1 < 5
    · rw [decide_eq_false (show ¬ 5 ≤ sRa U.1 by omega)]
      simp (disch := omega) only [↓reduceIte, Option.bind_some, Option.some.injEq, Prod.mk.injEq, and_self, and_true, true_and, eq_self, reduceCtorEq, not_false_eq_true, not_true_eq_false, or_true, true_or, or_false, false_or, bft, nAdd, nMul, nSub, nDiv, nRem, nAm1, nIx, nIn, bI_z, bI_o, ite_b1, ite_b0, zI_add, zI_sub, li0, li1, li2, li3, li4, li5, li6, li7, li8, li9, li10, li11, li12, li13, li14, li15, li16, li17, li18, li19, li20, li21, li22, li23, li24, li25, li26, li27, li28, li29, li30, li31, li32, li33, li34, li35, li36, li37, li40, li42, li43, li45, li47, li48, li57, li59, li60, li61, li62, li64, li80, li91, li93, li97, li99, li100, li122, li182, li199, li255, li300, li380, li400, li999, li1000, li3640, li4100, li65536, li99999, ln1, ln2, ln3, ln100, ln100000, tLe, fLe, tLt, fLt, tEq, fEq, zLe_t, zLe_f, zLt_t, zLt_f, zEq_t, zEq_f, nzLe_t, nzLe_f, znLe_t, znLe_f, nzLt_t, nzLt_f, znLt_t, znLt_f, nzEq_t, nzEq_f, znEq_t, znEq_f, c8]
      rfl
    · rw [decide_eq_true (show 5 ≤ sRa U.1 by omega)]
      simp (disch := omega) only [↓reduceIte, Option.bind_some, Option.some.injEq, Prod.mk.injEq, and_self, and_true, true_and, eq_self, reduceCtorEq, not_false_eq_true, not_true_eq_false, or_true, true_or, or_false, false_or, bft, nAdd, nMul, nSub, nDiv, nRem, nAm1, nIx, nIn, bI_z, bI_o, ite_b1, ite_b0, zI_add, zI_sub, li0, li1, li2, li3, li4, li5, li6, li7, li8, li9, li10, li11, li12, li13, li14, li15, li16, li17, li18, li19, li20, li21, li22, li23, li24, li25, li26, li27, li28, li29, li30, li31, li32, li33, li34, li35, li36, li37, li40, li42, li43, li45, li47, li48, li57, li59, li60, li61, li62, li64, li80, li91, li93, li97, li99, li100, li122, li182, li199, li255, li300, li380, li400, li999, li1000, li3640, li4100, li65536, li99999, ln1, ln2, ln3, ln100, ln100000, tLe, fLe, tLt, fLt, tEq, fEq, zLe_t, zLe_f, zLt_t, zLt_f, zEq_t, zEq_f, nzLe_t, nzLe_f, znLe_t, znLe_f, nzLt_t, nzLt_f, znLt_t, znLt_f, nzEq_t, nzEq_f, znEq_t, znEq_f, c8]
      rfl
  · simp (disch := omega) only [↓reduceIte, Option.bind_some, Option.some.injEq, Prod.mk.injEq, and_self, and_true, true_and, eq_self, reduceCtorEq, not_false_eq_true, not_true_eq_false, or_true, true_or, or_false, false_or, bft, nAdd, nMul, nSub, nDiv, nRem, nAm1, nIx, nIn, bI_z, bI_o, ite_b1, ite_b0, zI_add, zI_sub, li0, li1, li2, li3, li4, li5, li6, li7, li8, li9, li10, li11, li12, li13, li14, li15, li16, li17, li18, li19, li20, li21, li22, li23, li24, li25, li26, li27, li28, li29, li30, li31, li32, li33, li34, li35, li36, li37, li40, li42, li43, li45, li47, li48, li57, li59, li60, li61, li62, li64, li80, li91, li93, li97, li99, li100, li122, li182, li199, li255, li300, li380, li400, li999, li1000, li3640, li4100, li65536, li99999, ln1, ln2, ln3, ln100, ln100000, tLe, fLe, tLt, fLt, tEq, fEq, zLe_t, zLe_f, zLt_t, zLt_f, zEq_t, zEq_f, nzLe_t, nzLe_f, znLe_t, znLe_f, nzLt_t, nzLt_f, znLt_t, znLt_f, nzEq_t, nzEq_f, znEq_t, znEq_f]
    rfl
  · simp (disch := omega) only [↓reduceIte, Option.bind_some, Option.some.injEq, Prod.mk.injEq, and_self, and_true, true_and, eq_self, reduceCtorEq, not_false_eq_true, not_true_eq_false, or_true, true_or, or_false, false_or, bft, nAdd, nMul, nSub, nDiv, nRem, nAm1, nIx, nIn, bI_z, bI_o, ite_b1, ite_b0, zI_add, zI_sub, li0, li1, li2, li3, li4, li5, li6, li7, li8, li9, li10, li11, li12, li13, li14, li15, li16, li17, li18, li19, li20, li21, li22, li23, li24, li25, li26, li27, li28, li29, li30, li31, li32, li33, li34, li35, li36, li37, li40, li42, li43, li45, li47, li48, li57, li59, li60, li61, li62, li64, li80, li91, li93, li97, li99, li100, li122, li182, li199, li255, li300, li380, li400, li999, li1000, li3640, li4100, li65536, li99999, ln1, ln2, ln3, ln100, ln100000, tLe, fLe, tLt, fLt, tEq, fEq, zLe_t, zLe_f, zLt_t, zLt_f, zEq_t, zEq_f, nzLe_t, nzLe_f, znLe_t, znLe_f, nzLt_t, nzLt_f, znLt_t, znLt_f, nzEq_t, nzEq_f, znEq_t, znEq_f]
    rfl
  · simp (disch := omega) only [↓reduceIte, Option.bind_some, Option.some.injEq, Prod.mk.injEq, and_self, and_true, true_and, eq_self, reduceCtorEq, not_false_eq_true, not_true_eq_false, or_true, true_or, or_false, false_or, bft, nAdd, nMul, nSub, nDiv, nRem, nAm1, nIx, nIn, bI_z, bI_o, ite_b1, ite_b0, zI_add, zI_sub, li0, li1, li2, li3, li4, li5, li6, li7, li8, li9, li10, li11, li12, li13, li14, li15, li16, li17, li18, li19, li20, li21, li22, li23, li24, li25, li26, li27, li28, li29, li30, li31, li32, li33, li34, li35, li36, li37, li40, li42, li43, li45, li47, li48, li57, li59, li60, li61, li62, li64, li80, li91, li93, li97, li99, li100, li122, li182, li199, li255, li300, li380, li400, li999, li1000, li3640, li4100, li65536, li99999, ln1, ln2, ln3, ln100, ln100000, tLe, fLe, tLt, fLt, tEq, fEq, zLe_t, zLe_f, zLt_t, zLt_f, zEq_t, zEq_f, nzLe_t, nzLe_f, znLe_t, znLe_f, nzLt_t, nzLt_f, znLt_t, znLt_f, nzEq_t, nzEq_f, znEq_t, znEq_f]
    rfl
  · by_cases e : sSuit U.1 = 0
    · rw [decide_eq_false (show ¬ 1 ≤ sSuit U.1 by omega)]
      simp (disch := omega) only [↓reduceIte, Option.bind_some, Option.some.injEq, Prod.mk.injEq, and_self, and_true, true_and, eq_self, reduceCtorEq, not_false_eq_true, not_true_eq_false, or_true, true_or, or_false, false_or, bft, nAdd, nMul, nSub, nDiv, nRem, nAm1, nIx, nIn, bI_z, bI_o, ite_b1, ite_b0, zI_add, zI_sub, li0, li1, li2, li3, li4, li5, li6, li7, li8, li9, li10, li11, li12, li13, li14, li15, li16, li17, li18, li19, li20, li21, li22, li23, li24, li25, li26, li27, li28, li29, li30, li31, li32, li33, li34, li35, li36, li37, li40, li42, li43, li45, li47, li48, li57, li59, li60, li61, li62, li64, li80, li91, li93, li97, li99, li100, li122, li182, li199, li255, li300, li380, li400, li999, li1000, li3640, li4100, li65536, li99999, ln1, ln2, ln3, ln100, ln100000, tLe, fLe, tLt, fLt, tEq, fEq, zLe_t, zLe_f, zLt_t, zLt_f, zEq_t, zEq_f, nzLe_t, nzLe_f, znLe_t, znLe_f, nzLt_t, nzLt_f, znLt_t, znLt_f, nzEq_t, nzEq_f, znEq_t, znEq_f, c4, e]
      rfl
    · rw [decide_eq_true (show 1 ≤ sSuit U.1 by omega)]
      simp (disch := omega) only [↓reduceIte, Option.bind_some, Option.some.injEq, Prod.mk.injEq, and_self, and_true, true_and, eq_self, reduceCtorEq, not_false_eq_true, not_true_eq_false, or_true, true_or, or_false, false_or, bft, nAdd, nMul, nSub, nDiv, nRem, nAm1, nIx, nIn, bI_z, bI_o, ite_b1, ite_b0, zI_add, zI_sub, li0, li1, li2, li3, li4, li5, li6, li7, li8, li9, li10, li11, li12, li13, li14, li15, li16, li17, li18, li19, li20, li21, li22, li23, li24, li25, li26, li27, li28, li29, li30, li31, li32, li33, li34, li35, li36, li37, li40, li42, li43, li45, li47, li48, li57, li59, li60, li61, li62, li64, li80, li91, li93, li97, li99, li100, li122, li182, li199, li255, li300, li380, li400, li999, li1000, li3640, li4100, li65536, li99999, ln1, ln2, ln3, ln100, ln100000, tLe, fLe, tLt, fLt, tEq, fEq, zLe_t, zLe_f, zLt_t, zLt_f, zEq_t, zEq_f, nzLe_t, nzLe_f, znLe_t, znLe_f, nzLt_t, nzLt_f, znLt_t, znLt_f, nzEq_t, nzEq_f, znEq_t, znEq_f, c4, show sSuit U.1 = 1 by omega]
      rfl
theorem n1_ok {α : Type} {lo : Nat} {hi : Int} {k : Nat → Nat → Except Nat α} {x : α} (h : n1 T q lo hi k = .ok x) : ∃ v q1, tkN T q lo hi = .ok (v, q1) ∧ k v q1 = .ok x := by
  unfold n1 at h
  cases e : tkN T q lo hi with
  | error y => rw [e] at h; cases h
  | ok vq =>
    obtain ⟨v, q1⟩ := vq
    rw [e] at h
    exact ⟨v, q1, rfl, h⟩
theorem rdC_dry {w q1 : Nat} {V : uT} (h : rdC T w q U = .ok (V, q1)) (hd : w = 13 ∨ 1 ≤ sDry U.1) : 1 ≤ sDry V.1 := by
  unfold rdC at h
  by_cases c1 : w = 13
  · rw [if_pos c1] at h
    obtain ⟨v, r, e1, h⟩ := n1_ok h
    obtain ⟨v2, r2, e2, h⟩ := n1_ok h
    obtain ⟨v3, r3, e3, h⟩ := n1_ok h
    cases h
    have := (tkN_nm e1).2.2.1
    exact this
  · rw [if_neg c1] at h
    have hd : 1 ≤ sDry U.1 := by omega
    by_cases c2 : w = 2
    · rw [if_pos c2] at h
      obtain ⟨v, r, e1, h⟩ := n1_ok h
      obtain ⟨v2, r2, e2, h⟩ := n1_ok h
      cases h
      exact hd
    rw [if_neg c2] at h
    by_cases c3 : w = 0
    · rw [if_pos c3] at h
      obtain ⟨v, r, e1, h⟩ := n1_ok h
      obtain ⟨v2, r2, e2, h⟩ := n1_ok h
      cases h
      exact hd
    rw [if_neg c3] at h
    by_cases c4 : w = 14
    · rw [if_pos c4] at h
      obtain ⟨v, r, e1, h⟩ := n1_ok h
      obtain ⟨v2, r2, e2, h⟩ := n1_ok h
      cases h
      exact hd
    rw [if_neg c4] at h
    by_cases c5 : w = 15
    · rw [if_pos c5] at h
      obtain ⟨v, r, e1, h⟩ := n1_ok h
      cases h
      exact hd
    rw [if_neg c5] at h
    by_cases c6 : w = 12
    · rw [if_pos c6] at h
      obtain ⟨v, r, e1, h⟩ := n1_ok h
      obtain ⟨v2, r2, e2, h⟩ := n1_ok h
      cases h
      exact hd
    rw [if_neg c6] at h
    cases h
    exact hd
theorem clause_okU {w q1 : Nat} {V : uT} (hU : okU U) (hw : isCl w = true) (hf : fullU U w = false) (h : rdC T w q U = .ok (V, q1)) : okU V := by
  have o1 := hU.1.1
  have hw2 : w = 0 ∨ w = 2 ∨ w = 12 ∨ w = 13 ∨ w = 14 ∨ w = 15 ∨ w = 16 := by
    unfold isCl at hw
    simp at hw
    omega
  rcases hw2 with rfl | rfl | rfl | rfl | rfl | rfl | rfl
  · obtain ⟨v, r, e1, h⟩ := n1_ok (h : rdPaint T q U = _)
    obtain ⟨v2, r2, e2, h⟩ := n1_ok h
    have n1 := tkN_nm e1
    have n2 := tkN_nm e2
    cases h
    exact okU_paint hU (by unfold fullU at hf; simp at hf; omega) (by omega) (by omega)
  · obtain ⟨v, r, e1, h⟩ := n1_ok (h : rdThing T q U = _)
    obtain ⟨v2, r2, e2, h⟩ := n1_ok h
    have n1 := tkN_nm e1
    have n2 := tkN_nm e2
    cases h
    exact okU_thing hU (by unfold fullU at hf; simp at hf; omega) (by omega) (by omega) (by omega) (by omega)
  · obtain ⟨v, r, e1, h⟩ := n1_ok (h : rdRain T q U = _)
    obtain ⟨v2, r2, e2, h⟩ := n1_ok h
    have n1 := tkN_nm e1
    have n2 := tkN_nm e2
    cases h
    exact okU_rain hU (by unfold fullU at hf; simp at hf; omega) (by omega) (by omega)
  · obtain ⟨v, r, e1, h⟩ := n1_ok (h : rdHead T q U = _)
    obtain ⟨v2, r2, e2, h⟩ := n1_ok h
    obtain ⟨v3, r3, e3, h⟩ := n1_ok h
    have n1 := tkN_nm e1
    have n2 := tkN_nm e2
    have n3 := tkN_nm e3
    cases h
    exact okU_head hU (by omega) (by omega) (by omega)
  · obtain ⟨v, r, e1, h⟩ := n1_ok (h : rdCoat T q U = _)
    obtain ⟨v2, r2, e2, h⟩ := n1_ok h
    have n2 := tkN_nm e2
    cases h
    exact okU_coat hU (by omega)
  · obtain ⟨v, r, e1, h⟩ := n1_ok (h : rdBare T q U = _)
    have n1 := tkN_nm e1
    cases h
    exact okU_bare hU (by omega)
  · change Except.ok (uSuit U, q) = _ at h
    cases h
    exact okU_suit hU
theorem isCl_n {w : Nat} (h : isCl w = true) : w < 22 := by
  unfold isCl at h
  simp at h
  omega
theorem rAll_go (ok : okT T) (ha : 171 < a) : ∀ (m k f q : Nat) (U : uT) (I : Nat → Nat → Int32) (L : Nat → Nat → Int64), k + m = 40 → m + 1 < f → okU U → cU I L (a + 1) U → tA T q I → (k = 0 ∨ 1 ≤ sDry U.1) → cFin T a I L (rdS T (m + 1) k q U) (mX8_readAll_2 f I L a (nI k))
  | m, k, 0, q, U, I, L, _, h, _, _, _, _ => absurd h (by omega)
  | m, k, f + 1, q, U, I, L, h1, h2, hU, C, h, hd => by
    have hn := ok.1
    have hq := tA_n h
    have kl := kd_lt37 (T := T) (q := q)
    have kk := kind_ok h
    have bg := beg_ok kl
    have f0 := fail_ok ok h (k := 0) (by omega)
    have f4 := fail_ok ok h (k := 4) (by omega)
    have er : ∀ e, (e = 1 + 8 * q ∨ e = 1 + 8 * q + 4) → (x : Option (Int32 × (Nat → Nat → Int32) × (Nat → Nat → Int64))) → x = some (nI 0, xu I 3 5 (nI e), L) → cFin T a I L (.error e) x := fun e he x hx => ⟨xu I 3 5 (nI e), L, hx, xu_s, fun b h1 h2 => ⟨xu_r h1, rfl⟩⟩
    rw [mX8_readAll_2, rdS]
    cases hc : isCl (kd T q) with
    | false =>
      rw [hc] at bg
      rw [if_neg (by decide)]
      refine er _ (Or.inl rfl) _ ?_
      simp (disch := omega) only [↓reduceIte, Option.bind_some, Option.some.injEq, Prod.mk.injEq, and_self, and_true, true_and, eq_self, reduceCtorEq, not_false_eq_true, not_true_eq_false, or_true, true_or, or_false, false_or, bft, nAdd, nMul, nSub, nDiv, nRem, nAm1, nIx, nIn, bI_z, bI_o, ite_b1, ite_b0, zI_add, zI_sub, li0, li1, li2, li3, li4, li5, li6, li7, li8, li9, li10, li11, li12, li13, li14, li15, li16, li17, li18, li19, li20, li21, li22, li23, li24, li25, li26, li27, li28, li29, li30, li31, li32, li33, li34, li35, li36, li37, li40, li42, li43, li45, li47, li48, li57, li59, li60, li61, li62, li64, li80, li91, li93, li97, li99, li100, li122, li182, li199, li255, li300, li380, li400, li999, li1000, li3640, li4100, li65536, li99999, ln1, ln2, ln3, ln100, ln100000, tLe, fLe, tLt, fLt, tEq, fEq, zLe_t, zLe_f, zLt_t, zLt_f, zEq_t, zEq_f, nzLe_t, nzLe_f, znLe_t, znLe_f, nzLt_t, nzLt_f, znLt_t, znLt_f, nzEq_t, nzEq_f, znEq_t, znEq_f, kk, bg, f0, Nat.add_zero]
    | true =>
      rw [hc] at bg
      rw [if_pos rfl]
      have hq2 : q < T.2 := (en_w (isCl_n hc) rfl).2
      by_cases ck : k = 40
      · rw [if_pos ck]
        refine er _ (Or.inr rfl) _ ?_
        subst ck
        simp (disch := omega) only [↓reduceIte, Option.bind_some, Option.some.injEq, Prod.mk.injEq, and_self, and_true, true_and, eq_self, reduceCtorEq, not_false_eq_true, not_true_eq_false, or_true, true_or, or_false, false_or, bft, nAdd, nMul, nSub, nDiv, nRem, nAm1, nIx, nIn, bI_z, bI_o, ite_b1, ite_b0, zI_add, zI_sub, li0, li1, li2, li3, li4, li5, li6, li7, li8, li9, li10, li11, li12, li13, li14, li15, li16, li17, li18, li19, li20, li21, li22, li23, li24, li25, li26, li27, li28, li29, li30, li31, li32, li33, li34, li35, li36, li37, li40, li42, li43, li45, li47, li48, li57, li59, li60, li61, li62, li64, li80, li91, li93, li97, li99, li100, li122, li182, li199, li255, li300, li380, li400, li999, li1000, li3640, li4100, li65536, li99999, ln1, ln2, ln3, ln100, ln100000, tLe, fLe, tLt, fLt, tEq, fEq, zLe_t, zLe_f, zLt_t, zLt_f, zEq_t, zEq_f, nzLe_t, nzLe_f, znLe_t, znLe_f, nzLt_t, nzLt_f, znLt_t, znLt_f, nzEq_t, nzEq_f, znEq_t, znEq_f, kk, bg, f4]
      · rw [if_neg ck]
        have key : ∀ t, (k == 0) = (kd T q == 13) → cFin T a I L (if fullU U (kd T q) = true then .error (1 + 8 * q + 4) else match rdC T (kd T q) (nx T q) U with
          | .error e => .error e
          | .ok (U', q1) => if kd T q1 = 36 then .ok U' else if kd T q1 = 32 then rdS T m (k + 1) (nx T q1) U' else .error (1 + 8 * q1)) (mX8_readAll_58 (fun I L a0 a1 => mX8_readAll_2 f I L a0 a1) I L a (nI k) (nI (kd T q)) t t) := by
          intro t hk13
          unfold mX8_readAll_58
          rw [if_pos rfl, full_ok hU C hc, Option.bind_some]
          cases hf : fullU U (kd T q) with
          | true =>
            rw [if_pos rfl, if_neg (by decide)]
            refine er _ (Or.inr rfl) _ ?_
            simp (disch := omega) only [↓reduceIte, Option.bind_some, Option.some.injEq, Prod.mk.injEq, and_self, and_true, true_and, eq_self, reduceCtorEq, not_false_eq_true, not_true_eq_false, or_true, true_or, or_false, false_or, bft, nAdd, nMul, nSub, nDiv, nRem, nAm1, nIx, nIn, bI_z, bI_o, ite_b1, ite_b0, zI_add, zI_sub, li0, li1, li2, li3, li4, li5, li6, li7, li8, li9, li10, li11, li12, li13, li14, li15, li16, li17, li18, li19, li20, li21, li22, li23, li24, li25, li26, li27, li28, li29, li30, li31, li32, li33, li34, li35, li36, li37, li40, li42, li43, li45, li47, li48, li57, li59, li60, li61, li62, li64, li80, li91, li93, li97, li99, li100, li122, li182, li199, li255, li300, li380, li400, li999, li1000, li3640, li4100, li65536, li99999, ln1, ln2, ln3, ln100, ln100000, tLe, fLe, tLt, fLt, tEq, fEq, zLe_t, zLe_f, zLt_t, zLt_f, zEq_t, zEq_f, nzLe_t, nzLe_f, znLe_t, znLe_f, nzLt_t, nzLt_f, znLt_t, znLt_f, nzEq_t, nzEq_f, znEq_t, znEq_f, f4]
          | false =>
            rw [if_neg (by decide), if_pos (by decide)]
            obtain ⟨x, s1, s2⟩ := step_ok h hq2
            have C1 : cU (xu I 3 4 x) L (a + 1) U := cU_congr (fun b q1 q2 => xu_r (by omega)) rfl C
            have g := clause_ok ok ha hU hc hf C1 s2
            rw [s1, Option.bind_some]
            cases e : rdC T (kd T q) (nx T q) U with
            | error y =>
              rw [e] at g
              obtain ⟨J, M, g1, g2, g3⟩ := g
              refine ⟨J, M, ?_, g2, fun b q1 q2 => ?_⟩
              · rw [g1, Option.bind_some]
                simp (disch := omega) only [↓reduceIte, Option.bind_some, Option.some.injEq, Prod.mk.injEq, and_self, and_true, true_and, eq_self, reduceCtorEq, not_false_eq_true, not_true_eq_false, or_true, true_or, or_false, false_or, bft, nAdd, nMul, nSub, nDiv, nRem, nAm1, nIx, nIn, bI_z, bI_o, ite_b1, ite_b0, zI_add, zI_sub, li0, li1, li2, li3, li4, li5, li6, li7, li8, li9, li10, li11, li12, li13, li14, li15, li16, li17, li18, li19, li20, li21, li22, li23, li24, li25, li26, li27, li28, li29, li30, li31, li32, li33, li34, li35, li36, li37, li40, li42, li43, li45, li47, li48, li57, li59, li60, li61, li62, li64, li80, li91, li93, li97, li99, li100, li122, li182, li199, li255, li300, li380, li400, li999, li1000, li3640, li4100, li65536, li99999, ln1, ln2, ln3, ln100, ln100000, tLe, fLe, tLt, fLt, tEq, fEq, zLe_t, zLe_f, zLt_t, zLt_f, zEq_t, zEq_f, nzLe_t, nzLe_f, znLe_t, znLe_f, nzLt_t, nzLt_f, znLt_t, znLt_f, nzEq_t, nzEq_f, znEq_t, znEq_f]
              · have z := g3.2 b q1 q2
                exact ⟨z.1.trans (xu_r q1), z.2⟩
            | ok y =>
              obtain ⟨V, r⟩ := y
              rw [e] at g
              obtain ⟨J, M, g1, g2, g3, g4, g5⟩ := g
              have fr : ∀ b, b ≠ 3 → b < a + 1 ∨ a + 11 < b → J b = I b ∧ M b = L b := fun b q1 q2 => by
                have z := g5.2 b q1 q2
                exact ⟨z.1.trans (xu_r q1), z.2⟩
              have hdV : 1 ≤ sDry V.1 := rdC_dry e (by
                rcases hd with hd | hd
                · left
                  rw [hd] at hk13
                  simpa using hk13.symm
                · exact Or.inr hd)
              have kr := kind_ok g2
              have krl := kd_lt37 (T := T) (q := r)
              have rn := tA_n g2
              rw [g1, Option.bind_some]
              dsimp only
              rw [if_neg (show ¬ nI 1 = (0 : Int32) by decide), kr, Option.bind_some]
              by_cases c36 : kd T r = 36
              · rw [if_pos c36]
                have o1 := g4.1.1
                obtain ⟨N, w1, w2, w3⟩ := fin_go ha g4 g3 hdV xf (sTh V.1) 0 M (by unfold xf; omega) (by omega) (fun c hc => by
                  have z := g3.2.2.2.2.1 c (by omega)
                  change M (a + 1 + 8 + 1) c = _ at z
                  rw [z]
                  congr 2)
                refine ⟨xu J (a + 1) 0 (nI 1), N, ?_, cU_cS g3 hdV, ⟨fun c hc => w2 c hc, fun q1 hq1 => ?_, ?_, ?_⟩, g4, hdV, fun b q1 q2 => ?_⟩
                · rw [c36, if_pos (show nI 36 = (36 : Int32) from rfl)]
                  unfold mX8_finish
                  change Option.bind (mX8_finish_2 xf J M a (nI 0)) _ = _
                  rw [w1, Option.bind_some]
                  rfl
                · rw [xu_r (by omega)]; exact (g3.2.2.1 q1 hq1).2
                · rw [xu_r (by omega)]; exact g3.2.2.2.2.2.1
                · rw [xu_r (by omega)]; exact g3.2.2.2.2.2.2
                · have z := fr b q1 q2
                  exact ⟨(xu_r (by omega)).trans z.1, (w3 b (by omega)).trans z.2⟩
              · rw [if_neg c36]
                rw [if_neg (nNeL (x := 36) (b := 36) rfl (by omega) (by omega) c36)]
                by_cases c32 : kd T r = 32
                · rw [if_pos c32, c32, Option.bind_some, if_pos (show nI 32 = (32 : Int32) from rfl)]
                  have hr2 : r < T.2 := (en_1 (by omega)).2
                  obtain ⟨x2, s3, s4⟩ := step_ok g2 hr2
                  rw [s3, Option.bind_some]
                  cases m with
                  | zero => exact absurd h1 (by omega)
                  | succ m =>
                    have ih := rAll_go ok ha m (k + 1) f (nx T r) V (xu J 3 4 x2) M (by omega) (by omega) g4 (cU_congr (fun b q1 q2 => xu_r (by omega)) rfl g3) s4 (Or.inr hdV)
                    have ek : nI k + 1 = nI (k + 1) := by rw [li1, nAdd]
                    rw [ek]
                    cases er2 : rdS T (m + 1) (k + 1) (nx T r) V with
                    | error y =>
                      rw [er2] at ih
                      obtain ⟨J2, M2, i1, i2, i3⟩ := ih
                      exact ⟨J2, M2, i1, i2, fun b q1 q2 => ⟨((i3 b q1 q2).1.trans (xu_r q1)).trans (fr b q1 q2).1, (i3 b q1 q2).2.trans (fr b q1 q2).2⟩⟩
                    | ok y =>
                      rw [er2] at ih
                      obtain ⟨J2, M2, i1, i2, i3, i4, i5, i6⟩ := ih
                      exact ⟨J2, M2, i1, i2, i3, i4, i5, fun b q1 q2 => ⟨((i6 b q1 q2).1.trans (xu_r q1)).trans (fr b q1 q2).1, (i6 b q1 q2).2.trans (fr b q1 q2).2⟩⟩
                · rw [if_neg c32, Option.bind_some, if_neg (nNeL (x := 32) (b := 32) rfl (by omega) (by omega) c32)]
                  have f0 := fail_ok ok g2 (k := 0) (by omega)
                  refine ⟨xu J 3 5 (nI (1 + 8 * r)), M, ?_, xu_s, fun b q1 q2 => ⟨(xu_r q1).trans (fr b q1 q2).1, (fr b q1 q2).2⟩⟩
                  simp (disch := omega) only [↓reduceIte, Option.bind_some, Option.some.injEq, Prod.mk.injEq, and_self, and_true, true_and, eq_self, reduceCtorEq, not_false_eq_true, not_true_eq_false, or_true, true_or, or_false, false_or, bft, nAdd, nMul, nSub, nDiv, nRem, nAm1, nIx, nIn, bI_z, bI_o, ite_b1, ite_b0, zI_add, zI_sub, li0, li1, li2, li3, li4, li5, li6, li7, li8, li9, li10, li11, li12, li13, li14, li15, li16, li17, li18, li19, li20, li21, li22, li23, li24, li25, li26, li27, li28, li29, li30, li31, li32, li33, li34, li35, li36, li37, li40, li42, li43, li45, li47, li48, li57, li59, li60, li61, li62, li64, li80, li91, li93, li97, li99, li100, li122, li182, li199, li255, li300, li380, li400, li999, li1000, li3640, li4100, li65536, li99999, ln1, ln2, ln3, ln100, ln100000, tLe, fLe, tLt, fLt, tEq, fEq, zLe_t, zLe_f, zLt_t, zLt_f, zEq_t, zEq_f, nzLe_t, nzLe_f, znLe_t, znLe_f, nzLt_t, nzLt_f, znLt_t, znLt_f, nzEq_t, nzEq_f, znEq_t, znEq_f, f0, Nat.add_zero]
        have mis : ∀ t0 t1, t1 ≠ t0 → cFin T a I L (.error (1 + 8 * q + 4)) (mX8_readAll_58 (fun I L a0 a1 => mX8_readAll_2 f I L a0 a1) I L a (nI k) (nI (kd T q)) t0 t1) := by
          intro t0 t1 ht
          unfold mX8_readAll_58
          rw [if_neg ht]
          refine er _ (Or.inr rfl) _ ?_
          simp (disch := omega) only [↓reduceIte, Option.bind_some, Option.some.injEq, Prod.mk.injEq, and_self, and_true, true_and, eq_self, reduceCtorEq, not_false_eq_true, not_true_eq_false, or_true, true_or, or_false, false_or, bft, nAdd, nMul, nSub, nDiv, nRem, nAm1, nIx, nIn, bI_z, bI_o, ite_b1, ite_b0, zI_add, zI_sub, li0, li1, li2, li3, li4, li5, li6, li7, li8, li9, li10, li11, li12, li13, li14, li15, li16, li17, li18, li19, li20, li21, li22, li23, li24, li25, li26, li27, li28, li29, li30, li31, li32, li33, li34, li35, li36, li37, li40, li42, li43, li45, li47, li48, li57, li59, li60, li61, li62, li64, li80, li91, li93, li97, li99, li100, li122, li182, li199, li255, li300, li380, li400, li999, li1000, li3640, li4100, li65536, li99999, ln1, ln2, ln3, ln100, ln100000, tLe, fLe, tLt, fLt, tEq, fEq, zLe_t, zLe_f, zLt_t, zLt_f, zEq_t, zEq_f, nzLe_t, nzLe_f, znLe_t, znLe_f, nzLt_t, nzLt_f, znLt_t, znLt_f, nzEq_t, nzEq_f, znEq_t, znEq_f, f4]
        rw [if_neg (show ¬ (40 : Int32) < nI k from fun c => absurd ((nLt (a := 40) (by omega) (by omega)).mp c) (by omega)), kk, Option.bind_some, bg, Option.bind_some, if_neg (show ¬ bI true = (0 : Int32) by decide), if_neg (nNeL (x := 40) (b := 40) rfl (by omega) (by omega) ck)]
        unfold mX8_readAll_47
        by_cases c0 : k = 0
        · rw [if_pos (show nI k = (0 : Int32) by rw [c0]; rfl)]
          by_cases c13 : kd T q = 13
          · have e : (k == 0) = (kd T q == 13) := by rw [c0, c13]; rfl
            rw [if_pos e, if_pos (show nI (kd T q) = (13 : Int32) by rw [c13]; rfl)]
            exact key _ e
          · have e : ¬ (k == 0) = (kd T q == 13) := by simp [c0, c13]
            rw [if_neg e, if_neg (nNeL (x := 13) (b := 13) rfl (by omega) (by omega) c13)]
            exact mis _ _ (by decide)
        · rw [if_neg (nNeL (x := 0) (b := 0) rfl (by omega) (by omega) c0)]
          by_cases c13 : kd T q = 13
          · have e : ¬ (k == 0) = (kd T q == 13) := by simp [c0, c13]
            rw [if_neg e, if_pos (show nI (kd T q) = (13 : Int32) by rw [c13]; rfl)]
            exact mis _ _ (by decide)
          · have e : (k == 0) = (kd T q == 13) := by rw [show (k == 0) = false from beq_false_of_ne c0, show (kd T q == 13) = false from beq_false_of_ne c13]
            rw [if_pos e, if_neg (nNeL (x := 13) (b := 13) rfl (by omega) (by omega) c13)]
            exact key _ e
end

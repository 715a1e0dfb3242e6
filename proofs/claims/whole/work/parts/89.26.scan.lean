/-! The reference's scanner. -/
theorem xu_cm {I : Nat → Nat → Int32} {r c r2 c2 : Nat} {x y : Int32} (h : r ≠ r2 ∨ c ≠ c2) : xu (xu I r c x) r2 c2 y = xu (xu I r2 c2 y) r c x := by
  funext b k
  show (if b = r2 ∧ k = c2 then y else (if b = r ∧ k = c then x else I b k)) = (if b = r ∧ k = c then x else (if b = r2 ∧ k = c2 then y else I b k))
  by_cases h1 : b = r ∧ k = c
  · rw [if_neg (show ¬ (b = r2 ∧ k = c2) by omega), if_pos h1, if_pos h1]
  · rw [if_neg h1, if_neg h1]
def rP (I : Nat → Nat → Int32) (p f : Nat) : Nat → Nat → Int32 := xu (xu I 123 28 (nI p)) 123 29 (nI f)
def fl (f e : Nat) : Nat := if f = 0 then e else f
def txR (I : Nat → Nat → Int32) (T : txT) : Prop := I 123 27 = nI T.2 ∧ ∀ i, i < T.2 → I 150 i = zI (T.1 i)
def wdN (t : Nat) : Nat := [0, 0, 13, 2, 0, 14, 15, 12, 16, 17, 1, 3, 4, 5, 6, 7, 8, 9, 10, 11, 18, 21, 19, 20].getD t 0
theorem wdN_lt : ∀ t, t < 24 → wdN t < 22 := by decide +kernel
theorem len_t : ∀ t, t < 24 → 2 ≤ t → mJ0_length_8abf5 t = some (nI (wdA (wdN t)).length) := by decide +kernel
theorem chr_t : ∀ t, t < 24 → 2 ≤ t → ∀ j, j < (wdA (wdN t)).length → mJ0_charAt_5068e t (nI j) = some (zI ((wdA (wdN t)).getD j 0)) := by decide +kernel
theorem wdA_len : ∀ m, m < 22 → (wdA m).length ≤ 7 := by decide +kernel
section
variable {T : txT} {I J : Nat → Nat → Int32} {p q m f : Nat}
theorem rP_28 : rP I p f 123 28 = nI p := by unfold rP; rw [xu_c (by decide), xu_s]
theorem rP_29 : rP I p f 123 29 = nI f := by unfold rP; rw [xu_s]
theorem rP_o {b k : Nat} (h : b ≠ 123 ∨ (k ≠ 28 ∧ k ≠ 29)) : rP I p f b k = I b k := by unfold rP; rw [xu_off (by omega), xu_off (by omega)]
theorem rP_row {b : Nat} (h : b ≠ 123) : rP I p f b = I b := by unfold rP; rw [xu_r h, xu_r h]
theorem rP_s28 {p2 : Nat} : xu (rP I p f) 123 28 (nI p2) = rP I p2 f := by unfold rP; rw [xu_cm (by decide), xu_2]
theorem rP_s29 {f2 : Nat} : xu (rP I p f) 123 29 (nI f2) = rP I p f2 := by unfold rP; rw [xu_2]
theorem rP_xu {b k : Nat} {v : Int32} (h : b ≠ 123 ∨ (k ≠ 28 ∧ k ≠ 29)) : xu (rP I p f) b k v = rP (xu I b k v) p f := by unfold rP; rw [xu_cm (by omega), xu_cm (r := 123) (c := 28) (by omega)]
theorem rP_of (h1 : I 123 28 = nI p) (h2 : I 123 29 = nI f) : I = rP I p f := by
  unfold rP
  rw [← h1, xu_id, ← h2, xu_id]
theorem txR_congr (h1 : J 123 27 = I 123 27) (h2 : J 150 = I 150) (h : txR I T) : txR J T := ⟨h1.trans h.1, fun i hi => by rw [h2]; exact h.2 i hi⟩
theorem fails_ok {k a : Nat} (hf : f < 100000) (hk : k < 8) (ha : a < 1000) : mX12_fails (rP I p f) (nI k) (nI a) = some (rP I p (fl f (1 + 8 * a + k))) := by
  unfold mX12_fails fl
  by_cases h : f = 0
  · subst h
    rw [if_pos rfl]
    simp (disch := omega) only [↓reduceIte, Option.bind_some, Option.some.injEq, Prod.mk.injEq, and_self, and_true, true_and, eq_self, reduceCtorEq, not_false_eq_true, not_true_eq_false, or_true, true_or, or_false, false_or, bft, nAdd, nMul, nSub, nDiv, nRem, nAm1, nIx, nIn, bI_z, bI_o, ite_b1, ite_b0, zI_add, zI_sub, li0, li1, li2, li3, li4, li5, li6, li7, li8, li9, li10, li11, li12, li13, li14, li15, li16, li17, li18, li19, li20, li21, li22, li23, li24, li25, li26, li27, li28, li29, li30, li31, li32, li33, li34, li35, li36, li37, li40, li42, li43, li45, li47, li48, li57, li59, li60, li61, li62, li64, li80, li91, li93, li97, li99, li100, li122, li182, li199, li255, li300, li380, li400, li999, li1000, li3640, li4100, li65536, li99999, ln1, ln2, ln3, ln100, ln100000, tLe, fLe, tLt, fLt, tEq, fEq, zLe_t, zLe_f, zLt_t, zLt_f, zEq_t, zEq_f, nzLe_t, nzLe_f, znLe_t, znLe_f, nzLt_t, nzLt_f, znLt_t, znLt_f, nzEq_t, nzEq_f, znEq_t, znEq_f, rP_29, rP_s29]
  · rw [if_neg h]
    simp (disch := omega) only [↓reduceIte, Option.bind_some, Option.some.injEq, Prod.mk.injEq, and_self, and_true, true_and, eq_self, reduceCtorEq, not_false_eq_true, not_true_eq_false, or_true, true_or, or_false, false_or, bft, nAdd, nMul, nSub, nDiv, nRem, nAm1, nIx, nIn, bI_z, bI_o, ite_b1, ite_b0, zI_add, zI_sub, li0, li1, li2, li3, li4, li5, li6, li7, li8, li9, li10, li11, li12, li13, li14, li15, li16, li17, li18, li19, li20, li21, li22, li23, li24, li25, li26, li27, li28, li29, li30, li31, li32, li33, li34, li35, li36, li37, li40, li42, li43, li45, li47, li48, li57, li59, li60, li61, li62, li64, li80, li91, li93, li97, li99, li100, li122, li182, li199, li255, li300, li380, li400, li999, li1000, li3640, li4100, li65536, li99999, ln1, ln2, ln3, ln100, ln100000, tLe, fLe, tLt, fLt, tEq, fEq, zLe_t, zLe_f, zLt_t, zLt_f, zEq_t, zEq_f, nzLe_t, nzLe_f, znLe_t, znLe_f, nzLt_t, nzLt_f, znLt_t, znLt_f, nzEq_t, nzEq_f, znEq_t, znEq_f, rP_29, rP_s29]
theorem and255 {b : Int} (h0 : -128 ≤ b) (h1 : b ≤ 127) : zI b &&& nI 255 = zI (b % 256) := by
  have : ∀ c, c < 256 → zI ((c : Nat) - 128 : Int) &&& nI 255 = zI (((c : Nat) - 128 : Int) % 256) := by decide +kernel
  have e := this (b + 128).toNat (by omega)
  rw [show (((b + 128).toNat : Nat) - 128 : Int) = b by omega] at e
  exact e
theorem sign_ok (ok : okT T) (hx : txR I T) (hp : p < 10000) : mX12_sign (rP I p f) = some (zI (sgn T p)) := by
  have hn := ok.1
  unfold mX12_sign sgn
  by_cases h : p < T.2
  · have hb := ok.2 p h
    rw [if_pos h]
    simp (disch := omega) only [↓reduceIte, Option.bind_some, Option.some.injEq, Prod.mk.injEq, and_self, and_true, true_and, eq_self, reduceCtorEq, not_false_eq_true, not_true_eq_false, or_true, true_or, or_false, false_or, bft, nAdd, nMul, nSub, nDiv, nRem, nAm1, nIx, nIn, bI_z, bI_o, ite_b1, ite_b0, zI_add, zI_sub, li0, li1, li2, li3, li4, li5, li6, li7, li8, li9, li10, li11, li12, li13, li14, li15, li16, li17, li18, li19, li20, li21, li22, li23, li24, li25, li26, li27, li28, li29, li30, li31, li32, li33, li34, li35, li36, li37, li40, li42, li43, li45, li47, li48, li57, li59, li60, li61, li62, li64, li80, li91, li93, li97, li99, li100, li122, li182, li199, li255, li300, li380, li400, li999, li1000, li3640, li4100, li65536, li99999, ln1, ln2, ln3, ln100, ln100000, tLe, fLe, tLt, fLt, tEq, fEq, zLe_t, zLe_f, zLt_t, zLt_f, zEq_t, zEq_f, nzLe_t, nzLe_f, znLe_t, znLe_f, nzLt_t, nzLt_f, znLt_t, znLt_f, nzEq_t, nzEq_f, znEq_t, znEq_f, rP_28, rP_o, hx.1, hx.2 p h, and255 hb.1 hb.2]
  · rw [if_neg h]
    simp (disch := omega) only [↓reduceIte, Option.bind_some, Option.some.injEq, Prod.mk.injEq, and_self, and_true, true_and, eq_self, reduceCtorEq, not_false_eq_true, not_true_eq_false, or_true, true_or, or_false, false_or, bft, nAdd, nMul, nSub, nDiv, nRem, nAm1, nIx, nIn, bI_z, bI_o, ite_b1, ite_b0, zI_add, zI_sub, li0, li1, li2, li3, li4, li5, li6, li7, li8, li9, li10, li11, li12, li13, li14, li15, li16, li17, li18, li19, li20, li21, li22, li23, li24, li25, li26, li27, li28, li29, li30, li31, li32, li33, li34, li35, li36, li37, li40, li42, li43, li45, li47, li48, li57, li59, li60, li61, li62, li64, li80, li91, li93, li97, li99, li100, li122, li182, li199, li255, li300, li380, li400, li999, li1000, li3640, li4100, li65536, li99999, ln1, ln2, ln3, ln100, ln100000, tLe, fLe, tLt, fLt, tEq, fEq, zLe_t, zLe_f, zLt_t, zLt_f, zEq_t, zEq_f, nzLe_t, nzLe_f, znLe_t, znLe_f, nzLt_t, nzLt_f, znLt_t, znLt_f, nzEq_t, nzEq_f, znEq_t, znEq_f, rP_28, rP_o, hx.1]
    try rfl
theorem blanks_go (ok : okT T) (hx : txR I T) : ∀ (g p : Nat), T.2 - p < g → p < 5000 → mX12_blanks_0 g (rP I p f) = some (rP I (sk T p) f)
  | 0, p, h, _ => absurd h (by omega)
  | g + 1, p, h, hp => by
    have hn := ok.1
    have s := sign_ok (f := f) ok hx (show p < 10000 by omega)
    have sr := sgn_rng (T := T) (q := p)
    rw [mX12_blanks_0]
    cases e : isBl T p with
    | true =>
      have b := isBl_iff.mp e
      have e2 : sgn T p = 32 := (sgn_iff ok (by decide) (by decide)).mpr b
      have ih := blanks_go ok hx g (p + 1) (by omega) (by omega)
      rw [e2] at s
      rw [sk_bl e]
      simp (disch := omega) only [↓reduceIte, Option.bind_some, Option.some.injEq, Prod.mk.injEq, and_self, and_true, true_and, eq_self, reduceCtorEq, not_false_eq_true, not_true_eq_false, or_true, true_or, or_false, false_or, bft, nAdd, nMul, nSub, nDiv, nRem, nAm1, nIx, nIn, bI_z, bI_o, ite_b1, ite_b0, zI_add, zI_sub, li0, li1, li2, li3, li4, li5, li6, li7, li8, li9, li10, li11, li12, li13, li14, li15, li16, li17, li18, li19, li20, li21, li22, li23, li24, li25, li26, li27, li28, li29, li30, li31, li32, li33, li34, li35, li36, li37, li40, li42, li43, li45, li47, li48, li57, li59, li60, li61, li62, li64, li80, li91, li93, li97, li99, li100, li122, li182, li199, li255, li300, li380, li400, li999, li1000, li3640, li4100, li65536, li99999, ln1, ln2, ln3, ln100, ln100000, tLe, fLe, tLt, fLt, tEq, fEq, zLe_t, zLe_f, zLt_t, zLt_f, zEq_t, zEq_f, nzLe_t, nzLe_f, znLe_t, znLe_f, nzLt_t, nzLt_f, znLt_t, znLt_f, nzEq_t, nzEq_f, znEq_t, znEq_f, s, show zI 32 = nI 32 from rfl, rP_28, rP_s28, ih]
    | false =>
      have e2 : sgn T p ≠ 32 := fun c => by rw [isBl_iff.mpr ((sgn_iff ok (by decide) (by decide)).mp c)] at e; cases e
      rw [sk_id e]
      simp (disch := omega) only [↓reduceIte, Option.bind_some, Option.some.injEq, Prod.mk.injEq, and_self, and_true, true_and, eq_self, reduceCtorEq, not_false_eq_true, not_true_eq_false, or_true, true_or, or_false, false_or, bft, nAdd, nMul, nSub, nDiv, nRem, nAm1, nIx, nIn, bI_z, bI_o, ite_b1, ite_b0, zI_add, zI_sub, li0, li1, li2, li3, li4, li5, li6, li7, li8, li9, li10, li11, li12, li13, li14, li15, li16, li17, li18, li19, li20, li21, li22, li23, li24, li25, li26, li27, li28, li29, li30, li31, li32, li33, li34, li35, li36, li37, li40, li42, li43, li45, li47, li48, li57, li59, li60, li61, li62, li64, li80, li91, li93, li97, li99, li100, li122, li182, li199, li255, li300, li380, li400, li999, li1000, li3640, li4100, li65536, li99999, ln1, ln2, ln3, ln100, ln100000, tLe, fLe, tLt, fLt, tEq, fEq, zLe_t, zLe_f, zLt_t, zLt_f, zEq_t, zEq_f, nzLe_t, nzLe_f, znLe_t, znLe_f, nzLt_t, nzLt_f, znLt_t, znLt_f, nzEq_t, nzEq_f, znEq_t, znEq_f, s]
theorem blanks_ok (ok : okT T) (hx : txR I T) (hp : p < 5000) : mX12_blanks (rP I p f) = some (rP I (sk T p) f) := blanks_go ok hx xf p (by have := ok.1; unfold xf; omega) hp
theorem sDig (ok : okT T) (hx : txR I T) (hp : p < 5000) : mX12_isDigit (rP I p f) = some (bI (isDg T p)) := by
  have s := sign_ok (f := f) ok hx (show p < 10000 by omega)
  have sr := sgn_rng (T := T) (q := p)
  have e : (decide (nI 48 ≤ zI (sgn T p)) && decide (zI (sgn T p) ≤ nI 57)) = isDg T p := by
    apply Bool.eq_iff_iff.mpr
    rw [Bool.and_eq_true, decide_eq_true_eq, decide_eq_true_eq, isDg_iff, nzLe_i (by omega) (by omega) (by omega), znLe_i (by omega) (by omega) (by omega)]
    unfold sgn
    by_cases h : p < T.2
    · have hb := ok.2 p h
      rw [if_pos h]
      omega
    · rw [if_neg h]
      omega
  unfold mX12_isDigit
  rw [s, Option.bind_some]
  have r := rIn32 (zI (sgn T p)) (nI 48) (nI 57)
  rw [e] at r
  change mX12_in (zI (sgn T p)).toInt64 (48 : Int64) (57 : Int64) = _ at r
  rw [r, Option.bind_some, if_pos (by cases isDg T p <;> decide)]
/-- whether a word stands here -/
theorem st5_go (ok : okT T) (hx : txR I T) {e41 : Nat → Int32 → Option Int32} {t : Nat} : ∀ (g a : Nat), T.2 - a < g → a < 5000 → mX12_stood_5 (rP I p f) e41 g t (nI a) = e41 t (nI (leE T a))
  | 0, a, h, _ => absurd h (by omega)
  | g + 1, a, h, ha => by
    have hn := ok.1
    rw [mX12_stood_5]
    cases e : isLt T a with
    | true =>
      have b := isLt_iff.mp e
      have ih := st5_go ok hx (e41 := e41) (t := t) g (a + 1) (by omega) (by omega)
      rw [leE_s e]
      simp (disch := omega) only [↓reduceIte, Option.bind_some, Option.some.injEq, Prod.mk.injEq, and_self, and_true, true_and, eq_self, reduceCtorEq, not_false_eq_true, not_true_eq_false, or_true, true_or, or_false, false_or, bft, nAdd, nMul, nSub, nDiv, nRem, nAm1, nIx, nIn, bI_z, bI_o, ite_b1, ite_b0, zI_add, zI_sub, li0, li1, li2, li3, li4, li5, li6, li7, li8, li9, li10, li11, li12, li13, li14, li15, li16, li17, li18, li19, li20, li21, li22, li23, li24, li25, li26, li27, li28, li29, li30, li31, li32, li33, li34, li35, li36, li37, li40, li42, li43, li45, li47, li48, li57, li59, li60, li61, li62, li64, li80, li91, li93, li97, li99, li100, li122, li182, li199, li255, li300, li380, li400, li999, li1000, li3640, li4100, li65536, li99999, ln1, ln2, ln3, ln100, ln100000, tLe, fLe, tLt, fLt, tEq, fEq, zLe_t, zLe_f, zLt_t, zLt_f, zEq_t, zEq_f, nzLe_t, nzLe_f, znLe_t, znLe_f, nzLt_t, nzLt_f, znLt_t, znLt_f, nzEq_t, nzEq_f, znEq_t, znEq_f, rP_o, hx.1, hx.2 a b.1, ih]
    | false =>
      rw [leE_id e]
      by_cases c : T.2 ≤ a
      · simp (disch := omega) only [↓reduceIte, Option.bind_some, Option.some.injEq, Prod.mk.injEq, and_self, and_true, true_and, eq_self, reduceCtorEq, not_false_eq_true, not_true_eq_false, or_true, true_or, or_false, false_or, bft, nAdd, nMul, nSub, nDiv, nRem, nAm1, nIx, nIn, bI_z, bI_o, ite_b1, ite_b0, zI_add, zI_sub, li0, li1, li2, li3, li4, li5, li6, li7, li8, li9, li10, li11, li12, li13, li14, li15, li16, li17, li18, li19, li20, li21, li22, li23, li24, li25, li26, li27, li28, li29, li30, li31, li32, li33, li34, li35, li36, li37, li40, li42, li43, li45, li47, li48, li57, li59, li60, li61, li62, li64, li80, li91, li93, li97, li99, li100, li122, li182, li199, li255, li300, li380, li400, li999, li1000, li3640, li4100, li65536, li99999, ln1, ln2, ln3, ln100, ln100000, tLe, fLe, tLt, fLt, tEq, fEq, zLe_t, zLe_f, zLt_t, zLt_f, zEq_t, zEq_f, nzLe_t, nzLe_f, znLe_t, znLe_f, nzLt_t, nzLt_f, znLt_t, znLt_f, nzEq_t, nzEq_f, znEq_t, znEq_f, rP_o, hx.1]
      · have hb := ok.2 a (by omega)
        have b : ¬ (97 ≤ T.1 a ∧ T.1 a ≤ 122) := fun d => by rw [isLt_iff.mpr ⟨by omega, d⟩] at e; cases e
        by_cases d : T.1 a < 97
        · simp (disch := omega) only [↓reduceIte, Option.bind_some, Option.some.injEq, Prod.mk.injEq, and_self, and_true, true_and, eq_self, reduceCtorEq, not_false_eq_true, not_true_eq_false, or_true, true_or, or_false, false_or, bft, nAdd, nMul, nSub, nDiv, nRem, nAm1, nIx, nIn, bI_z, bI_o, ite_b1, ite_b0, zI_add, zI_sub, li0, li1, li2, li3, li4, li5, li6, li7, li8, li9, li10, li11, li12, li13, li14, li15, li16, li17, li18, li19, li20, li21, li22, li23, li24, li25, li26, li27, li28, li29, li30, li31, li32, li33, li34, li35, li36, li37, li40, li42, li43, li45, li47, li48, li57, li59, li60, li61, li62, li64, li80, li91, li93, li97, li99, li100, li122, li182, li199, li255, li300, li380, li400, li999, li1000, li3640, li4100, li65536, li99999, ln1, ln2, ln3, ln100, ln100000, tLe, fLe, tLt, fLt, tEq, fEq, zLe_t, zLe_f, zLt_t, zLt_f, zEq_t, zEq_f, nzLe_t, nzLe_f, znLe_t, znLe_f, nzLt_t, nzLt_f, znLt_t, znLt_f, nzEq_t, nzEq_f, znEq_t, znEq_f, rP_o, hx.1, hx.2 a (show a < T.2 by omega)]
        · simp (disch := omega) only [↓reduceIte, Option.bind_some, Option.some.injEq, Prod.mk.injEq, and_self, and_true, true_and, eq_self, reduceCtorEq, not_false_eq_true, not_true_eq_false, or_true, true_or, or_false, false_or, bft, nAdd, nMul, nSub, nDiv, nRem, nAm1, nIx, nIn, bI_z, bI_o, ite_b1, ite_b0, zI_add, zI_sub, li0, li1, li2, li3, li4, li5, li6, li7, li8, li9, li10, li11, li12, li13, li14, li15, li16, li17, li18, li19, li20, li21, li22, li23, li24, li25, li26, li27, li28, li29, li30, li31, li32, li33, li34, li35, li36, li37, li40, li42, li43, li45, li47, li48, li57, li59, li60, li61, li62, li64, li80, li91, li93, li97, li99, li100, li122, li182, li199, li255, li300, li380, li400, li999, li1000, li3640, li4100, li65536, li99999, ln1, ln2, ln3, ln100, ln100000, tLe, fLe, tLt, fLt, tEq, fEq, zLe_t, zLe_f, zLt_t, zLt_f, zEq_t, zEq_f, nzLe_t, nzLe_f, znLe_t, znLe_f, nzLt_t, nzLt_f, znLt_t, znLt_f, nzEq_t, nzEq_f, znEq_t, znEq_f, rP_o, hx.1, hx.2 a (show a < T.2 by omega)]
theorem st63_go (ok : okT T) (hx : txR I T) {t : Nat} (h2 : 2 ≤ t) (h24 : t < 24) (hl : p + (wdA (wdN t)).length ≤ T.2) : ∀ (g d j : Nat), d + 1 < g → j + d = (wdA (wdN t)).length → mX12_stood_63 (rP I p f) g t (nI 1) (nI j) = some (bI (eqF T ((wdA (wdN t)).drop j) (p + j)))
  | 0, d, j, h, _ => absurd h (by omega)
  | g + 1, d, j, hg, hj => by
    have hn := ok.1
    have hw := wdA_len (wdN t) (wdN_lt t h24)
    rw [mX12_stood_63]
    cases d with
    | zero =>
      rw [List.drop_eq_nil_of_le (by omega), eqF]
      simp (disch := omega) only [↓reduceIte, Option.bind_some, Option.some.injEq, Prod.mk.injEq, and_self, and_true, true_and, eq_self, reduceCtorEq, not_false_eq_true, not_true_eq_false, or_true, true_or, or_false, false_or, bft, nAdd, nMul, nSub, nDiv, nRem, nAm1, nIx, nIn, bI_z, bI_o, ite_b1, ite_b0, zI_add, zI_sub, li0, li1, li2, li3, li4, li5, li6, li7, li8, li9, li10, li11, li12, li13, li14, li15, li16, li17, li18, li19, li20, li21, li22, li23, li24, li25, li26, li27, li28, li29, li30, li31, li32, li33, li34, li35, li36, li37, li40, li42, li43, li45, li47, li48, li57, li59, li60, li61, li62, li64, li80, li91, li93, li97, li99, li100, li122, li182, li199, li255, li300, li380, li400, li999, li1000, li3640, li4100, li65536, li99999, ln1, ln2, ln3, ln100, ln100000, tLe, fLe, tLt, fLt, tEq, fEq, zLe_t, zLe_f, zLt_t, zLt_f, zEq_t, zEq_f, nzLe_t, nzLe_f, znLe_t, znLe_f, nzLt_t, nzLt_f, znLt_t, znLt_f, nzEq_t, nzEq_f, znEq_t, znEq_f, len_t t h24 h2]
      try rfl
    | succ d =>
      have hj2 : j < (wdA (wdN t)).length := by omega
      have c := chr_t t h24 h2 j hj2
      have w := wtx_in (wdN t) (wdN_lt t h24) j hj2
      have hg2 : (wdA (wdN t)).getD j 0 = (wdA (wdN t))[j] := by rw [List.getD_eq_getElem?_getD, List.getElem?_eq_getElem hj2]; rfl
      rw [hg2] at c w
      have ih := st63_go ok hx h2 h24 hl g d (j + 1) (by omega) (by omega)
      rw [List.drop_eq_getElem_cons hj2, eqF]
      have hb := ok.2 (p + j) (by omega)
      by_cases e : T.1 (p + j) = (wdA (wdN t))[j]
      · rw [decide_eq_true e, Bool.true_and, Nat.add_assoc p j 1]
        simp (disch := omega) only [↓reduceIte, Option.bind_some, Option.some.injEq, Prod.mk.injEq, and_self, and_true, true_and, eq_self, reduceCtorEq, not_false_eq_true, not_true_eq_false, or_true, true_or, or_false, false_or, bft, nAdd, nMul, nSub, nDiv, nRem, nAm1, nIx, nIn, bI_z, bI_o, ite_b1, ite_b0, zI_add, zI_sub, li0, li1, li2, li3, li4, li5, li6, li7, li8, li9, li10, li11, li12, li13, li14, li15, li16, li17, li18, li19, li20, li21, li22, li23, li24, li25, li26, li27, li28, li29, li30, li31, li32, li33, li34, li35, li36, li37, li40, li42, li43, li45, li47, li48, li57, li59, li60, li61, li62, li64, li80, li91, li93, li97, li99, li100, li122, li182, li199, li255, li300, li380, li400, li999, li1000, li3640, li4100, li65536, li99999, ln1, ln2, ln3, ln100, ln100000, tLe, fLe, tLt, fLt, tEq, fEq, zLe_t, zLe_f, zLt_t, zLt_f, zEq_t, zEq_f, nzLe_t, nzLe_f, znLe_t, znLe_f, nzLt_t, nzLt_f, znLt_t, znLt_f, nzEq_t, nzEq_f, znEq_t, znEq_f, len_t t h24 h2, rP_28, rP_o, hx.2 (p + j) (show p + j < T.2 by omega), c, e]
        exact ih
      · rw [decide_eq_false e, Bool.false_and]
        obtain ⟨g, rfl⟩ : ∃ g2, g = g2 + 1 := ⟨g - 1, by omega⟩
        simp (disch := omega) only [↓reduceIte, Option.bind_some, Option.some.injEq, Prod.mk.injEq, and_self, and_true, true_and, eq_self, reduceCtorEq, not_false_eq_true, not_true_eq_false, or_true, true_or, or_false, false_or, bft, nAdd, nMul, nSub, nDiv, nRem, nAm1, nIx, nIn, bI_z, bI_o, ite_b1, ite_b0, zI_add, zI_sub, li0, li1, li2, li3, li4, li5, li6, li7, li8, li9, li10, li11, li12, li13, li14, li15, li16, li17, li18, li19, li20, li21, li22, li23, li24, li25, li26, li27, li28, li29, li30, li31, li32, li33, li34, li35, li36, li37, li40, li42, li43, li45, li47, li48, li57, li59, li60, li61, li62, li64, li80, li91, li93, li97, li99, li100, li122, li182, li199, li255, li300, li380, li400, li999, li1000, li3640, li4100, li65536, li99999, ln1, ln2, ln3, ln100, ln100000, tLe, fLe, tLt, fLt, tEq, fEq, zLe_t, zLe_f, zLt_t, zLt_f, zEq_t, zEq_f, nzLe_t, nzLe_f, znLe_t, znLe_f, nzLt_t, nzLt_f, znLt_t, znLt_f, nzEq_t, nzEq_f, znEq_t, znEq_f, len_t t h24 h2, rP_28, rP_o, hx.2 (p + j) (show p + j < T.2 by omega), c]
        rw [mX12_stood_63]
        simp (disch := omega) only [↓reduceIte, Option.bind_some, Option.some.injEq, Prod.mk.injEq, and_self, and_true, true_and, eq_self, reduceCtorEq, not_false_eq_true, not_true_eq_false, or_true, true_or, or_false, false_or, bft, nAdd, nMul, nSub, nDiv, nRem, nAm1, nIx, nIn, bI_z, bI_o, ite_b1, ite_b0, zI_add, zI_sub, li0, li1, li2, li3, li4, li5, li6, li7, li8, li9, li10, li11, li12, li13, li14, li15, li16, li17, li18, li19, li20, li21, li22, li23, li24, li25, li26, li27, li28, li29, li30, li31, li32, li33, li34, li35, li36, li37, li40, li42, li43, li45, li47, li48, li57, li59, li60, li61, li62, li64, li80, li91, li93, li97, li99, li100, li122, li182, li199, li255, li300, li380, li400, li999, li1000, li3640, li4100, li65536, li99999, ln1, ln2, ln3, ln100, ln100000, tLe, fLe, tLt, fLt, tEq, fEq, zLe_t, zLe_f, zLt_t, zLt_f, zEq_t, zEq_f, nzLe_t, nzLe_f, znLe_t, znLe_f, nzLt_t, nzLt_f, znLt_t, znLt_f, nzEq_t, nzEq_f, znEq_t, znEq_f, len_t t h24 h2]
        try (split <;> rfl)
theorem stood_ok (ok : okT T) (hx : txR I T) {t : Nat} (h2 : 2 ≤ t) (h24 : t < 24) (hp : p ≤ T.2) : mX12_stood (rP I p f) t = some (bI (decide (kd T p = wdN t))) := by
  have hn := ok.1
  have hw := wdA_len (wdN t) (wdN_lt t h24)
  have hle := run_n (T := T) (F := isLt T) hp
  have hpl := run_le (T := T) (F := isLt T) (p := p)
  change leE T p ≤ T.2 at hle
  change p ≤ leE T p at hpl
  have ek : decide (kd T p = wdN t) = eqW T p (wdA (wdN t)) := by
    apply Bool.eq_iff_iff.mpr
    rw [decide_eq_true_eq]
    exact kd_w (wdN_lt t h24)
  rw [ek]
  have s := st5_go ok hx (p := p) (f := f) (e41 := fun a1 a2 => mX12_stood_41 (rP I p f) a1 a2) (t := t) xf p (by unfold xf; omega) (by omega)
  unfold mX12_stood
  rw [rP_28]
  refine Eq.trans s ?_
  show mX12_stood_41 (rP I p f) t (nI (leE T p)) = _
  unfold mX12_stood_41 mX12_stood_59 eqW
  rw [len_t t h24 h2, Option.bind_some, rP_28, nSub hpl]
  by_cases e : leE T p = p + (wdA (wdN t)).length
  · have g := st63_go (f := f) ok hx h2 h24 (p := p) (by omega) xf (wdA (wdN t)).length 0 (by unfold xf; omega) (by omega)
    rw [if_pos (by rw [e]; congr 1; omega), decide_eq_true e, Bool.true_and]
    exact g
  · rw [if_neg (fun c => e (by have := (nEq (by omega) (by omega)).mp c; omega)), decide_eq_false e, Bool.false_and]
    have : xf = 999999 + 1 := rfl
    rw [this, mX12_stood_63]
    simp (disch := omega) only [↓reduceIte, Option.bind_some, Option.some.injEq, Prod.mk.injEq, and_self, and_true, true_and, eq_self, reduceCtorEq, not_false_eq_true, not_true_eq_false, or_true, true_or, or_false, false_or, bft, nAdd, nMul, nSub, nDiv, nRem, nAm1, nIx, nIn, bI_z, bI_o, ite_b1, ite_b0, zI_add, zI_sub, li0, li1, li2, li3, li4, li5, li6, li7, li8, li9, li10, li11, li12, li13, li14, li15, li16, li17, li18, li19, li20, li21, li22, li23, li24, li25, li26, li27, li28, li29, li30, li31, li32, li33, li34, li35, li36, li37, li40, li42, li43, li45, li47, li48, li57, li59, li60, li61, li62, li64, li80, li91, li93, li97, li99, li100, li122, li182, li199, li255, li300, li380, li400, li999, li1000, li3640, li4100, li65536, li99999, ln1, ln2, ln3, ln100, ln100000, tLe, fLe, tLt, fLt, tEq, fEq, zLe_t, zLe_f, zLt_t, zLt_f, zEq_t, zEq_f, nzLe_t, nzLe_f, znLe_t, znLe_f, nzLt_t, nzLt_f, znLt_t, znLt_f, nzEq_t, nzEq_f, znEq_t, znEq_f, len_t t h24 h2]
    try (split <;> rfl)
/-- digits -/
theorem dig_go (ok : okT T) (hx : txR I T) (hp : p < T.2) {e72 : (Nat → Nat → Int32) → Int32 → Int32 → Int32 → Option (Int32 × (Nat → Nat → Int32))} {a1 : Int32} (hlt : ∀ j, j ≤ 5 → p + j ≤ deE T p → dv T p j < 100000) : ∀ (g d j : Nat), d < g → p + j + d = deE T p → mX12_digits_25 e72 g (rP I (p + j) f) a1 (nI p) (nI (dv T p (min j 5))) = e72 (rP I (deE T p) f) a1 (nI p) (nI (dv T p (min (deE T p - p) 5)))
  | 0, d, j, h, _ => absurd h (by omega)
  | g + 1, d, j, h1, h2 => by
    have hn := ok.1
    have hle := run_n (T := T) (F := isDg T) (p := p) (by omega)
    change deE T p ≤ T.2 at hle
    have s := sDig (f := f) ok hx (show p + j < 5000 by omega)
    rw [mX12_digits_25]
    cases d with
    | zero =>
      have o : isDg T (p + j) = false := by rw [show p + j = deE T p by omega]; exact run_out (fun _ => isDg_n)
      rw [o] at s
      rw [s, Option.bind_some, if_pos (by decide), show p + j = deE T p by omega, show min j 5 = min (deE T p - p) 5 by omega]
    | succ d =>
      have o : isDg T (p + j) = true := run_in (T := T) (F := isDg T) (p := p) (by omega) (show p + j < deE T p by omega)
      have b := isDg_iff.mp o
      rw [o] at s
      have ih := dig_go ok hx hp (e72 := e72) (a1 := a1) hlt g d (j + 1) (by omega) (by omega)
      rw [s, Option.bind_some, if_neg (by decide)]
      unfold mX12_digits_58
      by_cases c : 5 ≤ j
      · rw [rP_28, if_pos (by rw [nSub (by omega)]; exact (nLe (a := 5) (by omega) (by omega)).mpr (by omega))]
        rw [show (1 : Int32) = nI 1 from rfl, nAdd, rP_s28, Nat.add_assoc]
        rw [show min (j + 1) 5 = min j 5 by omega] at ih
        exact ih
      · have e2 : sgn T (p + j) = T.1 (p + j) := by unfold sgn; rw [if_pos b.1]; omega
        have sg := sign_ok (f := f) ok hx (show p + j < 10000 by omega)
        have ez : zI (sgn T (p + j)) = nI (T.1 (p + j)).toNat := by rw [← zI_nat, e2]; congr 1; omega
        have l := hlt j (by omega) (by omega)
        have ed : 10 * dv T p j + (T.1 (p + j)).toNat - 48 = dv T p (j + 1) := by rw [dv]; omega
        rw [show min (j + 1) 5 = j + 1 by omega] at ih
        rw [rP_28, if_neg (by rw [nSub (by omega)]; exact fun c2 => absurd ((nLe (a := 5) (by omega) (by omega)).mp c2) (by omega)), sg, Option.bind_some, ez, show min j 5 = j by omega]
        rw [show (1 : Int32) = nI 1 from rfl, nAdd, rP_s28, show (10 : Int32) = nI 10 from rfl, show (48 : Int32) = nI 48 from rfl, nMul, nAdd, nSub (by omega), ed, Nat.add_assoc]
        exact ih
theorem dv_lt5 (ok : okT T) (hd : isDg T p = true) : ∀ j, j ≤ 5 → p + j ≤ deE T p → dv T p j < 100000 := fun j h1 h2 => by
  have a := dv_lt (T := T) (q := p) (fun j _ h2 => run_in (by omega) h2) j (by omega) (by omega)
  have b : 10 ^ j ≤ 10 ^ 5 := Nat.pow_le_pow_right (by decide) (by omega)
  have : (10 : Nat) ^ 5 = 100000 := by decide
  omega
theorem digs_ok (ok : okT T) (hx : txR I T) (hf : f < 100000) (hd : isDg T p = true) : ∃ v, mX12_digits (rP I p f) (nI 99999) = some (nI v, rP I (deE T p) (if nm T p = -1 then fl f (1 + 8 * p + 1) else f)) ∧ v < 100000 ∧ (nm T p = -1 ∨ nm T p = v) := by
  have hn := ok.1
  have hp := isDg_n hd
  have hl := deE_lt hd
  have hle := run_n (T := T) (F := isDg T) (p := p) (by omega)
  change deE T p ≤ T.2 at hle
  have s := sDig (f := f) ok hx (show p < 5000 by omega)
  rw [hd] at s
  have d5 := dv_lt5 ok hd
  have g := dig_go ok hx hp (I := I) (f := f) (a1 := nI 99999) (e72 := fun I_10 a1_10 a2_10 a3_10 => if (5 : Int32) < ((I_10 123 28) - a2_10) then (mX12_digits_87 I_10 a2_10 a3_10) else (if a3_10 ≤ a1_10 then (some (a3_10, I_10)) else (mX12_digits_87 I_10 a2_10 a3_10))) d5 xf (deE T p - p) 0 (by unfold xf; omega) (by omega)
  refine ⟨dv T p (min (deE T p - p) 5), ?_, d5 _ (by omega) (by omega), ?_⟩
  · unfold mX12_digits
    rw [s, Option.bind_some, if_neg (by decide), rP_28]
    refine Eq.trans g ?_
    have d6 := d5 (min (deE T p - p) 5) (by omega) (by omega)
    rcases nm_pr hd with ⟨c, e, l⟩ | ⟨c, e⟩
    · rw [if_neg (show ¬ nm T p = -1 by omega)]
      simp (disch := omega) only [↓reduceIte, Option.bind_some, Option.some.injEq, Prod.mk.injEq, and_self, and_true, true_and, eq_self, reduceCtorEq, not_false_eq_true, not_true_eq_false, or_true, true_or, or_false, false_or, bft, nAdd, nMul, nSub, nDiv, nRem, nAm1, nIx, nIn, bI_z, bI_o, ite_b1, ite_b0, zI_add, zI_sub, li0, li1, li2, li3, li4, li5, li6, li7, li8, li9, li10, li11, li12, li13, li14, li15, li16, li17, li18, li19, li20, li21, li22, li23, li24, li25, li26, li27, li28, li29, li30, li31, li32, li33, li34, li35, li36, li37, li40, li42, li43, li45, li47, li48, li57, li59, li60, li61, li62, li64, li80, li91, li93, li97, li99, li100, li122, li182, li199, li255, li300, li380, li400, li999, li1000, li3640, li4100, li65536, li99999, ln1, ln2, ln3, ln100, ln100000, tLe, fLe, tLt, fLt, tEq, fEq, zLe_t, zLe_f, zLt_t, zLt_f, zEq_t, zEq_f, nzLe_t, nzLe_f, znLe_t, znLe_f, nzLt_t, nzLt_f, znLt_t, znLt_f, nzEq_t, nzEq_f, znEq_t, znEq_f, rP_28]
    · rw [if_pos e]
      unfold mX12_digits_87
      have fa := fails_ok (I := I) (p := deE T p) (f := f) (k := 1) (a := p) hf (by omega) (by omega)
      simp (disch := omega) only [↓reduceIte, Option.bind_some, Option.some.injEq, Prod.mk.injEq, and_self, and_true, true_and, eq_self, reduceCtorEq, not_false_eq_true, not_true_eq_false, or_true, true_or, or_false, false_or, bft, nAdd, nMul, nSub, nDiv, nRem, nAm1, nIx, nIn, bI_z, bI_o, ite_b1, ite_b0, zI_add, zI_sub, li0, li1, li2, li3, li4, li5, li6, li7, li8, li9, li10, li11, li12, li13, li14, li15, li16, li17, li18, li19, li20, li21, li22, li23, li24, li25, li26, li27, li28, li29, li30, li31, li32, li33, li34, li35, li36, li37, li40, li42, li43, li45, li47, li48, li57, li59, li60, li61, li62, li64, li80, li91, li93, li97, li99, li100, li122, li182, li199, li255, li300, li380, li400, li999, li1000, li3640, li4100, li65536, li99999, ln1, ln2, ln3, ln100, ln100000, tLe, fLe, tLt, fLt, tEq, fEq, zLe_t, zLe_f, zLt_t, zLt_f, zEq_t, zEq_f, nzLe_t, nzLe_f, znLe_t, znLe_f, nzLt_t, nzLt_f, znLt_t, znLt_f, nzEq_t, nzEq_f, znEq_t, znEq_f, rP_28, fa]
  · rcases nm_pr hd with ⟨c, e, l⟩ | ⟨c, e⟩
    · right
      rw [e, show min (deE T p - p) 5 = deE T p - p by omega]
    · exact Or.inl e
theorem digs_no (ok : okT T) (hx : txR I T) (hf : f < 100000) (hp : p ≤ T.2) (hd : isDg T p = false) : mX12_digits (rP I p f) (nI 99999) = some (nI 0, rP I p (fl f (1 + 8 * p))) := by
  have hn := ok.1
  have s := sDig (f := f) ok hx (show p < 5000 by omega)
  rw [hd] at s
  have fa := fails_ok (I := I) (p := p) (f := f) (k := 0) (a := p) hf (by omega) (by omega)
  unfold mX12_digits
  rw [s, Option.bind_some, if_pos (by decide), rP_28]
  change Option.bind (mX12_fails (rP I p f) (nI 0) (nI p)) _ = _
  rw [fa]; rfl
theorem tkN_nm {lo : Nat} {hi : Int} {v q1 : Nat} (he : tkN T q lo hi = .ok (v, q1)) : isDg T q = true ∧ nm T q = v ∧ lo ≤ v ∧ (v : Int) ≤ hi ∧ q1 = nx T q := by
  have nr := nm_rng (T := T) (q := q)
  unfold tkN at he
  by_cases c : kd T q = 35
  · rw [if_pos c] at he
    by_cases c2 : nm T q < lo ∨ hi < nm T q
    · rw [if_pos c2] at he
      cases he
    · rw [if_neg c2] at he
      injection he with he
      injection he with e1 e2
      exact ⟨kd_35.mp c, by omega, by omega, by omega, e2.symm⟩
  · rw [if_neg c] at he
    cases he
theorem en_dg (h : isDg T q = true) : en T q = deE T q := by
  have hp := isDg_n h
  rcases kd_cases hp with ⟨h1, -, -⟩ | ⟨h1, h2, -, h3⟩ | ⟨h1, h2, -⟩ | ⟨h1, h2, -⟩
  · have := isLt_iff.mp h1
    have := isDg_iff.mp h
    omega
  · exact h3
  all_goals rw [h] at h2; cases h2
theorem in_ok {v lo : Nat} {hi : Int} (hv : v < 100000) (h1 : lo < 1000) (h2 : -1 ≤ hi) (h3 : hi < 1000) : mX12_in (nI v).toInt64 (nI lo).toInt64 (zI hi).toInt64 = some (bI (decide (lo ≤ v) && decide ((v : Int) ≤ hi))) := by
  rw [rIn32, decide_eq_decide.mpr (nLe (a := lo) (b := v) (by omega) (by omega)), decide_eq_decide.mpr (show nI v ≤ zI hi ↔ (v : Int) ≤ hi from Iff.of_eq (nzLe_i (by omega) (by omega) (by omega)))]
theorem am_ok (ok : okT T) (hx : txR I T) (hp : p ≤ T.2) (hq : sk T p = q) {lo : Nat} {hi : Int} (h1 : lo < 1000) (h2 : -1 ≤ hi) (h3 : hi < 1000) {v q1 : Nat} (he : tkN T q lo hi = .ok (v, q1)) : mX12_amount (rP I p 0) (nI lo) (zI hi) = some (nI v, rP I (en T q) 0) := by
  have hn := ok.1
  obtain ⟨d1, d2, d3, d4, d5⟩ := tkN_nm he
  obtain ⟨u, g1, g2, g3⟩ := digs_ok (I := I) (f := 0) ok hx (by omega) d1
  have eu : u = v := by omega
  subst eu
  rw [if_neg (show ¬ nm T q = -1 by omega), ← en_dg d1] at g1
  have b := blanks_ok (I := I) (f := 0) ok hx (p := p) (by omega)
  rw [hq] at b
  have i := in_ok (v := u) (lo := lo) (hi := hi) g2 h1 h2 h3
  rw [decide_eq_true d3, decide_eq_true d4, Bool.and_true] at i
  unfold mX12_amount mX12_amount_26
  simp (disch := omega) only [↓reduceIte, Option.bind_some, Option.some.injEq, Prod.mk.injEq, and_self, and_true, true_and, eq_self, reduceCtorEq, not_false_eq_true, not_true_eq_false, or_true, true_or, or_false, false_or, bft, nAdd, nMul, nSub, nDiv, nRem, nAm1, nIx, nIn, bI_z, bI_o, ite_b1, ite_b0, zI_add, zI_sub, li0, li1, li2, li3, li4, li5, li6, li7, li8, li9, li10, li11, li12, li13, li14, li15, li16, li17, li18, li19, li20, li21, li22, li23, li24, li25, li26, li27, li28, li29, li30, li31, li32, li33, li34, li35, li36, li37, li40, li42, li43, li45, li47, li48, li57, li59, li60, li61, li62, li64, li80, li91, li93, li97, li99, li100, li122, li182, li199, li255, li300, li380, li400, li999, li1000, li3640, li4100, li65536, li99999, ln1, ln2, ln3, ln100, ln100000, tLe, fLe, tLt, fLt, tEq, fEq, zLe_t, zLe_f, zLt_t, zLt_f, zEq_t, zEq_f, nzLe_t, nzLe_f, znLe_t, znLe_f, nzLt_t, nzLt_f, znLt_t, znLt_f, nzEq_t, nzEq_f, znEq_t, znEq_f, b, rP_29, g1, i]
theorem am_err (ok : okT T) (hx : txR I T) (hp : p ≤ T.2) (hq : sk T p = q) {lo : Nat} {hi : Int} (h1 : lo < 1000) (h2 : -1 ≤ hi) (h3 : hi < 1000) {e : Nat} (he : tkN T q lo hi = .error e) : (0 < e ∧ e < 10000) ∧ ∃ v p', v < 100000 ∧ p' ≤ T.2 ∧ mX12_amount (rP I p 0) (nI lo) (zI hi) = some (nI v, rP I p' e) := by
  have hn := ok.1
  have nr := nm_rng (T := T) (q := q)
  have hqn := sk_n (T := T) hp
  rw [hq] at hqn
  have b := blanks_ok (I := I) (f := 0) ok hx (p := p) (by omega)
  rw [hq] at b
  unfold tkN at he
  cases hd : isDg T q with
  | false =>
    rw [if_neg (fun c => by rw [kd_35.mp c] at hd; cases hd)] at he
    cases he
    refine ⟨by omega, 0, q, by omega, hqn, ?_⟩
    have g := digs_no (I := I) (f := 0) ok hx (by omega) hqn hd
    rw [show fl 0 (1 + 8 * q) = 1 + 8 * q from rfl] at g
    unfold mX12_amount mX12_amount_26
    simp (disch := omega) only [↓reduceIte, Option.bind_some, Option.some.injEq, Prod.mk.injEq, and_self, and_true, true_and, eq_self, reduceCtorEq, not_false_eq_true, not_true_eq_false, or_true, true_or, or_false, false_or, bft, nAdd, nMul, nSub, nDiv, nRem, nAm1, nIx, nIn, bI_z, bI_o, ite_b1, ite_b0, zI_add, zI_sub, li0, li1, li2, li3, li4, li5, li6, li7, li8, li9, li10, li11, li12, li13, li14, li15, li16, li17, li18, li19, li20, li21, li22, li23, li24, li25, li26, li27, li28, li29, li30, li31, li32, li33, li34, li35, li36, li37, li40, li42, li43, li45, li47, li48, li57, li59, li60, li61, li62, li64, li80, li91, li93, li97, li99, li100, li122, li182, li199, li255, li300, li380, li400, li999, li1000, li3640, li4100, li65536, li99999, ln1, ln2, ln3, ln100, ln100000, tLe, fLe, tLt, fLt, tEq, fEq, zLe_t, zLe_f, zLt_t, zLt_f, zEq_t, zEq_f, nzLe_t, nzLe_f, znLe_t, znLe_f, nzLt_t, nzLt_f, znLt_t, znLt_f, nzEq_t, nzEq_f, znEq_t, znEq_f, b, rP_29, g]
  | true =>
    rw [if_pos (kd_35.mpr hd)] at he
    have hle := run_n (T := T) (F := isDg T) (p := q) hqn
    change deE T q ≤ T.2 at hle
    obtain ⟨u, g1, g2, g3⟩ := digs_ok (I := I) (f := 0) ok hx (by omega) hd
    by_cases c2 : nm T q < lo ∨ hi < nm T q
    · rw [if_pos c2] at he
      cases he
      refine ⟨by omega, u, deE T q, g2, hle, ?_⟩
      unfold mX12_amount mX12_amount_26
      by_cases c : nm T q = -1
      · rw [if_pos c, show fl 0 (1 + 8 * q + 1) = 1 + 8 * q + 1 from rfl] at g1
        simp (disch := omega) only [↓reduceIte, Option.bind_some, Option.some.injEq, Prod.mk.injEq, and_self, and_true, true_and, eq_self, reduceCtorEq, not_false_eq_true, not_true_eq_false, or_true, true_or, or_false, false_or, bft, nAdd, nMul, nSub, nDiv, nRem, nAm1, nIx, nIn, bI_z, bI_o, ite_b1, ite_b0, zI_add, zI_sub, li0, li1, li2, li3, li4, li5, li6, li7, li8, li9, li10, li11, li12, li13, li14, li15, li16, li17, li18, li19, li20, li21, li22, li23, li24, li25, li26, li27, li28, li29, li30, li31, li32, li33, li34, li35, li36, li37, li40, li42, li43, li45, li47, li48, li57, li59, li60, li61, li62, li64, li80, li91, li93, li97, li99, li100, li122, li182, li199, li255, li300, li380, li400, li999, li1000, li3640, li4100, li65536, li99999, ln1, ln2, ln3, ln100, ln100000, tLe, fLe, tLt, fLt, tEq, fEq, zLe_t, zLe_f, zLt_t, zLt_f, zEq_t, zEq_f, nzLe_t, nzLe_f, znLe_t, znLe_f, nzLt_t, nzLt_f, znLt_t, znLt_f, nzEq_t, nzEq_f, znEq_t, znEq_f, b, rP_29, g1]
      · have i := in_ok (v := u) (lo := lo) (hi := hi) g2 h1 h2 h3
        have ef : (decide (lo ≤ u) && decide ((u : Int) ≤ hi)) = false := by
          rw [Bool.and_eq_false_iff]
          by_cases c3 : lo ≤ u
          · right; exact decide_eq_false (by omega)
          · left; exact decide_eq_false c3
        rw [ef] at i
        have fa := fails_ok (I := I) (p := deE T q) (f := 0) (k := 1) (a := q) (by omega) (by omega) (by omega)
        rw [show fl 0 (1 + 8 * q + 1) = 1 + 8 * q + 1 from rfl] at fa
        rw [if_neg c] at g1
        simp (disch := omega) only [↓reduceIte, Option.bind_some, Option.some.injEq, Prod.mk.injEq, and_self, and_true, true_and, eq_self, reduceCtorEq, not_false_eq_true, not_true_eq_false, or_true, true_or, or_false, false_or, bft, nAdd, nMul, nSub, nDiv, nRem, nAm1, nIx, nIn, bI_z, bI_o, ite_b1, ite_b0, zI_add, zI_sub, li0, li1, li2, li3, li4, li5, li6, li7, li8, li9, li10, li11, li12, li13, li14, li15, li16, li17, li18, li19, li20, li21, li22, li23, li24, li25, li26, li27, li28, li29, li30, li31, li32, li33, li34, li35, li36, li37, li40, li42, li43, li45, li47, li48, li57, li59, li60, li61, li62, li64, li80, li91, li93, li97, li99, li100, li122, li182, li199, li255, li300, li380, li400, li999, li1000, li3640, li4100, li65536, li99999, ln1, ln2, ln3, ln100, ln100000, tLe, fLe, tLt, fLt, tEq, fEq, zLe_t, zLe_f, zLt_t, zLt_f, zEq_t, zEq_f, nzLe_t, nzLe_f, znLe_t, znLe_f, nzLt_t, nzLt_f, znLt_t, znLt_f, nzEq_t, nzEq_f, znEq_t, znEq_f, b, rP_28, rP_29, g1, i, fa]
    · rw [if_neg c2] at he
      cases he
theorem am_f (ok : okT T) (hx : txR I T) (hp : p ≤ T.2) (hf : 0 < f) (hf2 : f < 100000) (a b : Int32) : mX12_amount (rP I p f) a b = some (nI 0, rP I (sk T p) f) := by
  have hn := ok.1
  have bl := blanks_ok (I := I) (f := f) ok hx (p := p) (by omega)
  have e : ¬ nI f = (0 : Int32) := fun c => by have := (nEq (b := 0) (by omega) (by omega)).mp c; omega
  unfold mX12_amount mX12_amount_26
  rw [bl, Option.bind_some, rP_29, if_neg e, if_neg e]
  rfl
end

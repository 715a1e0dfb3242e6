/-! Hours of the class. -/
section
variable {I J : Nat → Nat → Int32} {L M : Nat → Nat → Int64} {s a : Nat} {S : sT} {A : aT}
theorem cS_told (C : cS I s S) : I s 0 = bI (decide (0 < sDry S)) := C.1.1
theorem cS_dry (C : cS I s S) : I s 1 = nI (sDry S) := C.1.2.1
theorem cS_part (C : cS I s S) : I s 2 = nI (sPart S) := C.1.2.2.1
theorem cS_cost (C : cS I s S) : I s 3 = nI (sCost S) := C.1.2.2.2.1
theorem cS_suit (C : cS I s S) : I s 4 = nI (sSuit S) := C.1.2.2.2.2.1
theorem cS_nth (C : cS I s S) : I s 5 = nI (sTh S) := C.1.2.2.2.2.2.1
theorem cS_nce (C : cS I s S) : I s 6 = nI (sCe S) := C.1.2.2.2.2.2.2.1
theorem cS_npa (C : cS I s S) : I s 7 = nI (sPa S) := C.1.2.2.2.2.2.2.2.1
theorem cS_fi (C : cS I s S) {t : Nat} (h : t < sTh S) : I (s + 1) t = nI (sFi S t) := (C.2.1 t h).1
theorem cS_cn (C : cS I s S) {t : Nat} (h : t < sTh S) : I (s + 2) t = nI (sFi S (t + 1) - sFi S t) := (C.2.1 t h).2.1
theorem cS_re (C : cS I s S) {t : Nat} (h : t < sTh S) : I (s + 3) t = nI (sRe S t) := (C.2.1 t h).2.2.1
theorem cS_co (C : cS I s S) {q : Nat} (h : q < sPa S) : I (s + 5) q = nI (sCo S q) := C.2.2.1 q h
theorem cA_l (hC : cA I L a S A) {c : Nat} (h : c < sCe S) : L (a + 1) c = lN (enc (A.1 c)) := hC.1 c h
theorem cA_p (hC : cA I L a S A) {q : Nat} (h : q < sPa S) : I (a + 2) q = nI (A.2.1 q) := hC.2.1 q h
theorem cA_h (hC : cA I L a S A) : I a 2 = nI A.2.2.1 := hC.2.2.1
theorem cA_b (hC : cA I L a S A) : I a 3 = nI A.2.2.2 := hC.2.2.2
theorem cS_congr (h : ∀ b, s ≤ b → b ≤ s + 7 → J b = I b) (C : cS I s S) : cS J s S := by
  unfold cS
  rw [h s (by omega) (by omega), h (s + 1) (by omega) (by omega), h (s + 2) (by omega) (by omega), h (s + 3) (by omega) (by omega), h (s + 4) (by omega) (by omega), h (s + 5) (by omega) (by omega), h (s + 6) (by omega) (by omega), h (s + 7) (by omega) (by omega)]
  exact C
theorem cA_congr (h1 : J a = I a) (h2 : J (a + 2) = I (a + 2)) (h3 : M (a + 1) = L (a + 1)) (C : cA I L a S A) : cA J M a S A := by
  unfold cA
  rw [h1, h2, h3]
  exact C
end
theorem cR_congr {K : Nat → Nat × Nat} {I J : Nat → Nat → Int32} {a : Nat} {ru : ruT} (h : ∀ b, a ≤ b → b ≤ a + 3 → J b = I b) (C : cR K I a ru) : cR K J a ru := by
  unfold cR
  rw [h (a + 1) (by omega) (by omega), h (a + 2) (by omega) (by omega), h (a + 3) (by omega) (by omega)]
  exact C
/-- where streets and states lie -/
def plS (s : Nat) : Prop := s = 13 ∨ 171 < s
def seeT (I : Nat → Nat → Int32) (S : sT) (A : aT) (t : Nat) : Prop := (∀ c, sFi S t ≤ c → c < sFi S (t + 1) → I 98 c = zI (ownA S A c)) ∧ I 99 t = nI (talF (ownA S A) (sFi S (t + 1) - sFi S t) (sFi S t)) ∧ I 100 t = zI (ownT S A t (sPart S))
theorem see_go {L : Nat → Nat → Int64} {s a : Nat} {S : sT} {A : aT} {e72 : (Nat → Nat → Int32) → Nat → Int32 → Int32 → Option (Nat → Nat → Int32)} (O : okS S) (hA : okA S A) (hh : A.2.2.1 < 100000) (ps : s = 13 ∨ 171 < s) (pa : a = 24 ∨ a = 92) {t : Nat} (ht : t < sTh S) : ∀ (f n k T : Nat) (I : Nat → Nat → Int32), n < f → n + k = sFi S (t + 1) → sFi S t ≤ k → T ≤ 4096 * (k - sFi S t) → cS I s S → cA I L a S A → (∀ c, sFi S t ≤ c → c < k → I 98 c = zI (ownA S A c)) → ∃ J, mX2_seeThing_15 L e72 f I s a (nI t) (nI T) (nI (sFi S t)) (nI k) = e72 J s (nI t) (nI (T + talF (ownA S A) n k)) ∧ (∀ b, b ≠ 98 → J b = I b) ∧ (∀ c, sFi S t ≤ c → c < sFi S (t + 1) → J 98 c = zI (ownA S A c)) ∧ ∀ c, c < sFi S t ∨ sFi S (t + 1) ≤ c → J 98 c = I 98 c
  | 0, n, k, T, I, h1, _, _, _, _, _, _ => absurd h1 (by omega)
  | f + 1, n, k, T, I, h1, h2, h3, h4, C, hC, hI => by
    have o1 := O.1
    have ot := O.2.1.2.2 t ht
    rw [mX2_seeThing_15]
    cases n with
    | zero =>
      refine ⟨I, ?_, fun _ _ => rfl, fun c h5 h6 => hI c h5 (by omega), fun _ _ => rfl⟩
      simp (disch := omega) only [↓reduceIte, Option.bind_some, Option.some.injEq, Prod.mk.injEq, and_self, and_true, true_and, eq_self, reduceCtorEq, not_false_eq_true, not_true_eq_false, or_true, true_or, or_false, false_or, bft, nAdd, nMul, nSub, nDiv, nRem, nAm1, nIx, nIn, bI_z, bI_o, ite_b1, ite_b0, zI_add, zI_sub, li0, li1, li2, li3, li4, li5, li6, li7, li8, li9, li10, li11, li12, li13, li14, li15, li16, li17, li18, li19, li20, li21, li22, li23, li24, li25, li26, li27, li28, li29, li30, li31, li32, li33, li34, li35, li36, li37, li40, li42, li43, li45, li47, li48, li57, li59, li60, li61, li62, li64, li80, li91, li93, li97, li99, li100, li122, li182, li199, li255, li300, li380, li400, li999, li1000, li3640, li4100, li65536, li99999, ln1, ln2, ln3, ln100, ln100000, tLe, fLe, tLt, fLt, tEq, fEq, zLe_t, zLe_f, zLt_t, zLt_f, zEq_t, zEq_f, nzLe_t, nzLe_f, znLe_t, znLe_f, nzLt_t, nzLt_f, znLt_t, znLt_f, nzEq_t, nzEq_f, znEq_t, znEq_f, cS_cn C ht]
      rfl
    | succ n =>
      have hk : k < sCe S := by omega
      have hr := ownA_rng O hA hk
      have h16 := one16_le hr
      have e1 := ownerOf_ok (I := I) (s := s) (cS_dry C) (by omega) (cS_suit C) (by omega) (hA.1 k hk).1 hh
      have e2 := oneFor_ok hr
      change mX7_ownerOf I s (lN (enc (A.1 k))) (nI A.2.2.1) = some (zI (ownA S A k)) at e1
      simp (disch := omega) only [↓reduceIte, Option.bind_some, Option.some.injEq, Prod.mk.injEq, and_self, and_true, true_and, eq_self, reduceCtorEq, not_false_eq_true, not_true_eq_false, or_true, true_or, or_false, false_or, bft, nAdd, nMul, nSub, nDiv, nRem, nAm1, nIx, nIn, bI_z, bI_o, ite_b1, ite_b0, zI_add, zI_sub, li0, li1, li2, li3, li4, li5, li6, li7, li8, li9, li10, li11, li12, li13, li14, li15, li16, li17, li18, li19, li20, li21, li22, li23, li24, li25, li26, li27, li28, li29, li30, li31, li32, li33, li34, li35, li36, li37, li40, li42, li43, li45, li47, li48, li57, li59, li60, li61, li62, li64, li80, li91, li93, li97, li99, li100, li122, li182, li199, li255, li300, li380, li400, li999, li1000, li3640, li4100, li65536, li99999, ln1, ln2, ln3, ln100, ln100000, tLe, fLe, tLt, fLt, tEq, fEq, zLe_t, zLe_f, zLt_t, zLt_f, zEq_t, zEq_f, nzLe_t, nzLe_f, znLe_t, znLe_f, nzLt_t, nzLt_f, znLt_t, znLt_f, nzEq_t, nzEq_f, znEq_t, znEq_f, xu_s, xu_r, xu_c, xrow_at, xrow_r, cS_cn C ht, cA_l hC hk, cA_h hC, e1, e2]
      have z : ∀ b, b ≠ 98 → xu I 98 k (zI (ownA S A k)) b = I b := fun b hb => xu_r hb
      obtain ⟨J, j1, j2, j3, j4⟩ := see_go O hA hh ps pa ht f n (k + 1) (T + one16 (ownA S A k)) (xu I 98 k (zI (ownA S A k))) (by omega) (by omega) (by omega) (by omega) (cS_congr (fun b h5 h6 => z b (by omega)) C) (cA_congr (z a (by omega)) (z (a + 2) (by omega)) rfl hC) (fun c h5 h6 => by
        by_cases w : c = k
        · subst w; exact xu_s
        · rw [xu_c w]; exact hI c h5 (by omega))
      refine ⟨J, ?_, fun b hb => (j2 b hb).trans (z b hb), j3, fun c hc => (j4 c hc).trans (xu_c (by omega))⟩
      rw [j1, talF, Nat.add_assoc]
theorem seeThing_ok {I : Nat → Nat → Int32} {L : Nat → Nat → Int64} {s a : Nat} {S : sT} {A : aT} (O : okS S) (hA : okA S A) (hh : A.2.2.1 < 100000) (ps : s = 13 ∨ 171 < s) (pa : a = 24 ∨ a = 92) {t : Nat} (ht : t < sTh S) (C : cS I s S) (hC : cA I L a S A) : ∃ J, mX2_seeThing L I s a (nI t) = some J ∧ (∀ b, b ≠ 98 → b ≠ 99 → b ≠ 100 → J b = I b) ∧ seeT J S A t ∧ (∀ u, u ≠ t → J 99 u = I 99 u ∧ J 100 u = I 100 u) ∧ ∀ c, c < sFi S t ∨ sFi S (t + 1) ≤ c → J 98 c = I 98 c := by
  have o1 := O.1
  have ot := O.2.1.2.2 t ht
  obtain ⟨J, j1, j2, j3, j4⟩ := see_go (e72 := fun I_11 a1_11 a3_11 a4_11 => (if inb a3_11 4 = true then (if inb a3_11 4 = true then (Option.bind (mX7_ownerBy a4_11 ((xu I_11 99 (ix a3_11) a4_11) (a1_11 + 2) (ix a3_11)) ((xu I_11 99 (ix a3_11) a4_11) a1_11 2)) (fun q14 => (if inb a3_11 4 = true then (some (xu (xu I_11 99 (ix a3_11) a4_11) 100 (ix a3_11) q14)) else none))) else none) else none)) O hA hh ps pa ht xf (sFi S (t + 1) - sFi S t) (sFi S t) 0 I (by unfold xf; omega) (by omega) (by omega) (by omega) C hC (fun c h5 h6 => absurd h5 (by omega))
  have CJ : cS J s S := cS_congr (fun b h5 h6 => j2 b (by omega)) C
  have ow := ownerByT_ok O hA ht (show sPart S < 1000 by omega)
  unfold mX2_seeThing
  refine ⟨xu (xu J 99 t (nI (talF (ownA S A) (sFi S (t + 1) - sFi S t) (sFi S t)))) 100 t (zI (ownT S A t (sPart S))), ?_, fun b h1 h2 h3 => ?_, ⟨fun c h1 h2 => ?_, ?_, xu_s⟩, fun u hu => ⟨?_, ?_⟩, fun c hc => ?_⟩
  · simp (disch := omega) only [↓reduceIte, Option.bind_some, Option.some.injEq, Prod.mk.injEq, and_self, and_true, true_and, eq_self, reduceCtorEq, not_false_eq_true, not_true_eq_false, or_true, true_or, or_false, false_or, bft, nAdd, nMul, nSub, nDiv, nRem, nAm1, nIx, nIn, bI_z, bI_o, ite_b1, ite_b0, zI_add, zI_sub, li0, li1, li2, li3, li4, li5, li6, li7, li8, li9, li10, li11, li12, li13, li14, li15, li16, li17, li18, li19, li20, li21, li22, li23, li24, li25, li26, li27, li28, li29, li30, li31, li32, li33, li34, li35, li36, li37, li40, li42, li43, li45, li47, li48, li57, li59, li60, li61, li62, li64, li80, li91, li93, li97, li99, li100, li122, li182, li199, li255, li300, li380, li400, li999, li1000, li3640, li4100, li65536, li99999, ln1, ln2, ln3, ln100, ln100000, tLe, fLe, tLt, fLt, tEq, fEq, zLe_t, zLe_f, zLt_t, zLt_f, zEq_t, zEq_f, nzLe_t, nzLe_f, znLe_t, znLe_f, nzLt_t, nzLt_f, znLt_t, znLt_f, nzEq_t, nzEq_f, znEq_t, znEq_f, cS_fi C ht]
    simp (disch := omega) only [↓reduceIte, Option.bind_some, Option.some.injEq, Prod.mk.injEq, and_self, and_true, true_and, eq_self, reduceCtorEq, not_false_eq_true, not_true_eq_false, or_true, true_or, or_false, false_or, bft, nAdd, nMul, nSub, nDiv, nRem, nAm1, nIx, nIn, bI_z, bI_o, ite_b1, ite_b0, zI_add, zI_sub, li0, li1, li2, li3, li4, li5, li6, li7, li8, li9, li10, li11, li12, li13, li14, li15, li16, li17, li18, li19, li20, li21, li22, li23, li24, li25, li26, li27, li28, li29, li30, li31, li32, li33, li34, li35, li36, li37, li40, li42, li43, li45, li47, li48, li57, li59, li60, li61, li62, li64, li80, li91, li93, li97, li99, li100, li122, li182, li199, li255, li300, li380, li400, li999, li1000, li3640, li4100, li65536, li99999, ln1, ln2, ln3, ln100, ln100000, tLe, fLe, tLt, fLt, tEq, fEq, zLe_t, zLe_f, zLt_t, zLt_f, zEq_t, zEq_f, nzLe_t, nzLe_f, znLe_t, znLe_f, nzLt_t, nzLt_f, znLt_t, znLt_f, nzEq_t, nzEq_f, znEq_t, znEq_f] at j1
    rw [j1]
    simp (disch := omega) only [↓reduceIte, Option.bind_some, Option.some.injEq, Prod.mk.injEq, and_self, and_true, true_and, eq_self, reduceCtorEq, not_false_eq_true, not_true_eq_false, or_true, true_or, or_false, false_or, bft, nAdd, nMul, nSub, nDiv, nRem, nAm1, nIx, nIn, bI_z, bI_o, ite_b1, ite_b0, zI_add, zI_sub, li0, li1, li2, li3, li4, li5, li6, li7, li8, li9, li10, li11, li12, li13, li14, li15, li16, li17, li18, li19, li20, li21, li22, li23, li24, li25, li26, li27, li28, li29, li30, li31, li32, li33, li34, li35, li36, li37, li40, li42, li43, li45, li47, li48, li57, li59, li60, li61, li62, li64, li80, li91, li93, li97, li99, li100, li122, li182, li199, li255, li300, li380, li400, li999, li1000, li3640, li4100, li65536, li99999, ln1, ln2, ln3, ln100, ln100000, tLe, fLe, tLt, fLt, tEq, fEq, zLe_t, zLe_f, zLt_t, zLt_f, zEq_t, zEq_f, nzLe_t, nzLe_f, znLe_t, znLe_f, nzLt_t, nzLt_f, znLt_t, znLt_f, nzEq_t, nzEq_f, znEq_t, znEq_f, xu_s, xu_r, xu_c, xrow_at, xrow_r, Nat.zero_add, cS_cn CJ ht, cS_part CJ, ow]
  · rw [xu_r h3, xu_r h2, j2 b h1]
  · rw [xu_r (by decide), xu_r (by decide), j3 c h1 h2]
  · rw [xu_r (by decide), xu_s]
  · rw [xu_r (by decide), xu_c hu, j2 99 (by decide)]
  · rw [xu_c hu, xu_r (by decide), j2 100 (by decide)]
  · rw [xu_r (by decide), xu_r (by decide), j4 c hc]
/-- the words of a painter and a cell -/
def envW (S : sT) (A : aT) (q c : Nat) : Nat → Int64
  | 0 => lN q
  | 1 => lN c
  | 2 => lN (thOf S c)
  | 3 => lN (sRe S (thOf S c))
  | 4 => zL (topP (A.1 c))
  | 5 => if wetL (sDry S) (A.1 c) A.2.2.1 = true then 1 else 0
  | 6 => zL (ownA S A c)
  | 7 => lN (cntT S A (thOf S c) q)
  | 8 => zL (ownT S A (thOf S c) (sPart S))
  | 9 => lN (A.1 c).length
  | 10 => lN (A.2.1 q)
  | 11 => lN A.2.2.1
  | _ => if rainS S A.2.2.1 = true then 1 else 0
theorem topP_rng {l : List Nat} : topP l = -1 ∨ ∃ q : Nat, q < 4 ∧ topP l = q := by
  cases l with
  | nil => exact Or.inl rfl
  | cons c l => exact Or.inr ⟨c % 4, by omega, rfl⟩
theorem setWords_ok {I : Nat → Nat → Int32} {L : Nat → Nat → Int64} {s a : Nat} {S : sT} {A : aT} (O : okS S) (hA : okA S A) (hh : A.2.2.1 < 100000) {q c : Nat} (hq : q < sPa S) (hc : c < sCe S) (C : cS I s S) (hC : cA I L a S A) (hs : seeT I S A (thOf S c)) (pa : a = 24 ∨ a = 92) (w0 : L 96 0 = lN q) (w10 : L 96 10 = lN (A.2.1 q)) (w11 : L 96 11 = lN A.2.2.1) (w12 : L 96 12 = if rainS S A.2.2.1 = true then 1 else 0) : ∃ M, mX2_setWords I L s a (nI q) (nI c) = some M ∧ (∀ i, i < 13 → M 96 i = envW S A q c i) ∧ ∀ b, b ≠ 96 → M b = L b := by
  have o1 := O.1
  obtain ⟨t1, t2, t3⟩ := thOf_ok O hc
  have ot := O.2.1.2.2 _ t1
  have hl := (hA.1 c hc).1
  have hl5 := hl.1
  have e1 := topP_ok hl
  have e2 := isWet_ok (I := I) (s := s) (cS_dry C) (by omega) hl hh
  have e3 := height_ok hl
  have hT := talF_lt (own := ownA S A) (n := sFi S (thOf S c + 1) - sFi S (thOf S c)) (k := sFi S (thOf S c)) (by omega) (thing_rng O hA t1)
  have e4 := countOf_ok (T := talF (ownA S A) (sFi S (thOf S c + 1) - sFi S (thOf S c)) (sFi S (thOf S c))) (q := q) (by omega) (by omega)
  rw [talF_at (by omega) (thing_rng O hA t1) (show q < 4 by omega)] at e4
  change _ = some (nI (cntT S A (thOf S c) q)) at e4
  have hcn : cntT S A (thOf S c) q ≤ 6 := Nat.le_trans (cntF_le _ _ _ _) (by omega)
  have hto : -1 ≤ topP (A.1 c) ∧ topP (A.1 c) < 4 := by rcases topP_rng (l := A.1 c) with e | ⟨p, h1, e⟩ <;> omega
  have how : -1 ≤ ownA S A c ∧ ownA S A c < 4 := by rcases ownA_rng O hA hc with e | ⟨p, h1, e⟩ <;> omega
  have hot : -1 ≤ ownT S A (thOf S c) (sPart S) ∧ ownT S A (thOf S c) (sPart S) < 4 := by rcases ownT_rng O hA t1 (sPart S) with e | ⟨p, h1, e⟩ <;> omega
  have f1 := hs.1 c t2 t3
  have f2 := hs.2.1
  have f3 := hs.2.2
  have f4 := cS_th C O hc
  have f5 := cS_re C t1
  unfold mX2_setWords
  cases hw : wetL (sDry S) (A.1 c) A.2.2.1
  all_goals
    rw [hw] at e2
    simp (disch := omega) only [↓reduceIte, Option.bind_some, Option.some.injEq, Prod.mk.injEq, and_self, and_true, true_and, eq_self, reduceCtorEq, not_false_eq_true, not_true_eq_false, or_true, true_or, or_false, false_or, bft, nAdd, nMul, nSub, nDiv, nRem, nAm1, nIx, nIn, bI_z, bI_o, ite_b1, ite_b0, zI_add, zI_sub, li0, li1, li2, li3, li4, li5, li6, li7, li8, li9, li10, li11, li12, li13, li14, li15, li16, li17, li18, li19, li20, li21, li22, li23, li24, li25, li26, li27, li28, li29, li30, li31, li32, li33, li34, li35, li36, li37, li40, li42, li43, li45, li47, li48, li57, li59, li60, li61, li62, li64, li80, li91, li93, li97, li99, li100, li122, li182, li199, li255, li300, li380, li400, li999, li1000, li3640, li4100, li65536, li99999, ln1, ln2, ln3, ln100, ln100000, tLe, fLe, tLt, fLt, tEq, fEq, zLe_t, zLe_f, zLt_t, zLt_f, zEq_t, zEq_f, nzLe_t, nzLe_f, znLe_t, znLe_f, nzLt_t, nzLt_f, znLt_t, znLt_f, nzEq_t, nzEq_f, znEq_t, znEq_f, f4, f5, cA_l hC hc, cA_h hC, e1, e2, mX2_setWords_85, f1, f2, f3, e3, e4, nI_l, zI_l, bI, reduceCtorEq]
    refine ⟨_, rfl, fun i hi => ?_, fun b hb => ?_⟩
    · rcases (show i = 0 ∨ i = 1 ∨ i = 2 ∨ i = 3 ∨ i = 4 ∨ i = 5 ∨ i = 6 ∨ i = 7 ∨ i = 8 ∨ i = 9 ∨ i = 10 ∨ i = 11 ∨ i = 12 by omega) with rfl | rfl | rfl | rfl | rfl | rfl | rfl | rfl | rfl | rfl | rfl | rfl | rfl
      all_goals (simp (disch := omega) only [xu_s, xu_c, envW, w0, w10, w11, w12, hw, ↓reduceIte, reduceCtorEq])
    · simp only [xu_r hb]

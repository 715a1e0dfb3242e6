/-! Questions that change nothing. -/
theorem inbC (x : Int32) (n : Nat) : inb x n = false ∨ ∃ c, c < n ∧ x = nI c := by
  cases h : inb x n with
  | false => exact Or.inl rfl
  | true => exact Or.inr (inb_nat h)
theorem is3_ok {x : Int32} {n : Nat} (hn : n < 100000) : (if x < 0 then some (0 : Int32) else if nI n ≤ x then some (0 : Int32) else some (1 : Int32)) = some (bI (inb x n)) := by
  rcases pk_ix x (show n < 2 ^ 31 by omega) with h | h | ⟨j, h1, rfl⟩
  · rw [if_pos h]
    have : inb x n = false := by
      unfold inb
      have h2 : x.toInt < 0 := by rw [Int32.lt_iff_toInt_lt] at h; simpa using h
      rw [decide_eq_false (by omega), Bool.false_and]
    rw [this]; rfl
  · have : inb x n = false := by
      unfold inb
      have h2 : (n : Int) ≤ x.toInt := by rw [Int32.le_iff_toInt_le, nI_toInt (by omega)] at h; exact h
      rw [decide_eq_false (p := x.toInt < n) (by omega), Bool.and_false]
    rw [this, if_pos h]
    split <;> rfl
  · simp (disch := omega) only [↓reduceIte, Option.bind_some, Option.some.injEq, Prod.mk.injEq, and_self, and_true, true_and, eq_self, reduceCtorEq, not_false_eq_true, not_true_eq_false, or_true, true_or, or_false, false_or, bft, nAdd, nMul, nSub, nDiv, nRem, nAm1, nIx, nIn, bI_z, bI_o, ite_b1, ite_b0, zI_add, zI_sub, li0, li1, li2, li3, li4, li5, li6, li7, li8, li9, li10, li11, li12, li13, li14, li15, li16, li17, li18, li19, li20, li21, li22, li23, li24, li25, li26, li27, li28, li29, li30, li31, li32, li33, li34, li35, li36, li37, li40, li42, li43, li45, li47, li48, li57, li59, li60, li61, li62, li64, li80, li91, li93, li97, li99, li100, li122, li182, li199, li255, li300, li380, li400, li999, li1000, li3640, li4100, li65536, li99999, ln1, ln2, ln3, ln100, ln100000, tLe, fLe, tLt, fLt, tEq, fEq, zLe_t, zLe_f, zLt_t, zLt_f, zEq_t, zEq_f, nzLe_t, nzLe_f, znLe_t, znLe_f, nzLt_t, nzLt_f, znLt_t, znLt_f, nzEq_t, nzEq_f, znEq_t, znEq_f, h1]
    rfl
theorem isW_ok (x lo hi : Int32) : mX11_isWithin x lo hi = some (bI (decide (lo ≤ x) && decide (x ≤ hi))) := by
  unfold mX11_isWithin
  by_cases h1 : x < lo
  · rw [if_pos h1, decide_eq_false (Int32.not_le.mpr h1)]; rfl
  · rw [if_neg h1, decide_eq_true (Int32.not_lt.mp h1)]
    by_cases h2 : hi < x
    · rw [if_pos h2, decide_eq_false (Int32.not_le.mpr h2)]; rfl
    · rw [if_neg h2, decide_eq_true (Int32.not_lt.mp h2)]; rfl
def wiB (lo hi x : Int32) : Bool := decide (lo ≤ x) && decide (x ≤ hi)
theorem wiC {lo hi : Nat} (hl : lo < 100000) (hh : hi < 100000) (x : Int32) : wiB (nI lo) (nI hi) x = false ∨ ∃ c, lo ≤ c ∧ c ≤ hi ∧ x = nI c := by
  cases h : wiB (nI lo) (nI hi) x with
  | false => exact Or.inl rfl
  | true =>
    unfold wiB at h
    rw [Bool.and_eq_true, decide_eq_true_eq, decide_eq_true_eq] at h
    right
    rcases pk_ix x (show hi + 1 < 2 ^ 31 by omega) with q | q | ⟨j, h1, rfl⟩
    · exfalso
      have h2 := h.1
      rw [Int32.lt_iff_toInt_lt] at q
      rw [Int32.le_iff_toInt_le, nI_toInt (show lo < 2 ^ 31 by omega)] at h2
      simp at q
      omega
    · exfalso
      have h3 := h.2
      rw [Int32.le_iff_toInt_le, nI_toInt (show hi + 1 < 2 ^ 31 by omega)] at q
      rw [Int32.le_iff_toInt_le, nI_toInt (show hi < 2 ^ 31 by omega)] at h3
      omega
    · exact ⟨j, (nLe (by omega) (by omega)).mp h.1, by omega, rfl⟩
theorem wiB_t {lo hi c : Nat} (h1 : lo ≤ c) (h2 : c ≤ hi) (h3 : hi < 100000) : wiB (nI lo) (nI hi) (nI c) = true := by
  unfold wiB
  rw [decide_eq_true ((nLe (by omega) (by omega)).mpr h1), decide_eq_true ((nLe (by omega) (by omega)).mpr h2)]
  rfl
theorem isWn (x : Int32) (lo hi : Nat) : mX11_isWithin x (nI lo) (nI hi) = some (bI (wiB (nI lo) (nI hi) x)) := isW_ok _ _ _
theorem inbT {c n : Nat} (h : c < n) (hn : n < 100000) : inb (nI c) n = true := nIn h (by omega)
theorem rInW {lo hi : Nat} (hl : lo < 100000) (hh : hi < 100000) (x : Int32) : mX12_in x.toInt64 (lN lo) (lN hi) = some (bI (wiB (nI lo) (nI hi) x)) := by
  rw [← nI_l (show lo < 2 ^ 31 by omega), ← nI_l (show hi < 2 ^ 31 by omega)]
  exact rIn32 _ _ _
section
variable {n : Nat} {K : Nat → Nat × Nat} {P : Nat → Nat → Nat} {I J : Nat → Nat → Int32} {L M : Nat → Nat → Int64} {Z : zT} {k : Nat}
theorem CI_S (C : CI (n, K, P, I, L) Z) : cS I (P 12 0) (wS (zW Z)) := C.1.1.1.1
theorem CI_A (C : CI (n, K, P, I, L) Z) : cA I L 24 (wS (zW Z)) (wA (zW Z)) := C.1.1.2.1
theorem CI_p (C : CI (n, K, P, I, L) Z) : P 12 0 = 13 ∨ 171 < P 12 0 := C.1.2.imp id (fun h => h.1)
theorem RI_S (R : RI I Z) : rSn I (wS (zW Z)) := R.1.1
theorem RI_A (R : RI I Z) : rAn I (wS (zW Z)) (wA (zW Z)) := R.1.2.1
theorem okZ_S (ok : okZ k Z) : okS (wS (zW Z)) := ok.1.1
theorem okZ_A (ok : okZ k Z) : okA (wS (zW Z)) (wA (zW Z)) := ok.1.2.2.1.1
theorem okZ_h (ok : okZ k Z) : (wA (zW Z)).2.2.1 ≤ k := ok.1.2.2.1.2
theorem RI_160 (ok : okZ k Z) (h : ∀ b, b ≠ 160 → J b = I b) (R : RI I Z) : RI J Z :=
  RI_congr ok (fun r i hi => by rw [h r (by intro e; rw [e] at hi; exact Nat.not_lt_zero i hi)]) (by rw [h 123 (by decide)]; exact ⟨rfl, rfl, rfl, rfl⟩) (fun b h1 h2 => h b (by omega)) (fun i _ => by rw [h 170 (by decide)]) (fun i _ => by rw [h 171 (by decide)]) R
theorem Inv_q (hI : Inv k (n, K, P, I, L)) (h : ∀ b, b ≠ 160 → J b = I b) : Inv (k + 1) (n, K, P, J, L) := by
  obtain ⟨⟨G, F⟩, Z, ok, C, R⟩ := hI
  exact Inv_ref G F (okZ_mono (Nat.le_succ k) ok) C (RI_160 ok h R) (fun b hb => h b (by omega)) (fun _ _ => rfl)
end
theorem rAn_m {I : Nat → Nat → Int32} {S : sT} {A : aT} (R : rAn I S A) {c : Nat} (h : c < sCe S) : I 131 c = nI (A.1 c).length := (R.2.2.2 c h).1
theorem rAn_p {I : Nat → Nat → Int32} {S : sT} {A : aT} (R : rAn I S A) {q : Nat} (h : q < sPa S) : I 128 q = nI (A.2.1 q) := R.2.2.1 q h
theorem rAn_h {I : Nat → Nat → Int32} {S : sT} {A : aT} (R : rAn I S A) : I 124 9 = nI A.2.2.1 := R.2.1
theorem rAn_b {I : Nat → Nat → Int32} {S : sT} {A : aT} (R : rAn I S A) : I 124 8 = nI A.2.2.2 := R.1
theorem rSn_fi {I : Nat → Nat → Int32} {S : sT} (R : rSn I S) {t : Nat} (h : t ≤ sTh S) : I 125 t = nI (sFi S t) := R.2.1 t h
theorem rSn_re {I : Nat → Nat → Int32} {S : sT} (R : rSn I S) {t : Nat} (h : t < sTh S) : I 126 t = nI (sRe S t) := R.2.2.1 t h
theorem rSn_co {I : Nat → Nat → Int32} {S : sT} (R : rSn I S) {q : Nat} (h : q < sPa S) : I 127 q = nI (sCo S q) := R.2.2.2.1 q h
theorem isCell_ok {P : Nat → Nat → Nat} {I : Nat → Nat → Int32} {S : sT} (O : okS S) (C : cS I (P 12 0) S) (x : Int32) : mX11_isCell P I x = some (bI (inb x (sCe S))) := by
  unfold mX11_isCell
  rw [cS_nce C]
  exact is3_ok (by have := O.1; omega)
theorem isThing_ok {P : Nat → Nat → Nat} {I : Nat → Nat → Int32} {S : sT} (O : okS S) (C : cS I (P 12 0) S) (x : Int32) : mX11_isThing P I x = some (bI (inb x (sTh S))) := by
  unfold mX11_isThing
  rw [cS_nth C]
  exact is3_ok (by have := O.1; omega)
theorem isPainter_ok {P : Nat → Nat → Nat} {I : Nat → Nat → Int32} {S : sT} (O : okS S) (C : cS I (P 12 0) S) (x : Int32) : mX11_isPainter P I x = some (bI (inb x (sPa S))) := by
  unfold mX11_isPainter
  rw [cS_npa C]
  exact is3_ok (by have := O.1; omega)
theorem rIsStreet_ok {I : Nat → Nat → Int32} {S : sT} (R : rSn I S) (O : okS S) : mX12_isStreet I = some (bI (decide (0 < sDry S))) := by
  have o1 := O.1
  unfold mX12_isStreet
  rw [rSn_dry R]
  by_cases h : 0 < sDry S
  · rw [decide_eq_true h]; simp (disch := omega) only [↓reduceIte, Option.bind_some, Option.some.injEq, Prod.mk.injEq, and_self, and_true, true_and, eq_self, reduceCtorEq, not_false_eq_true, not_true_eq_false, or_true, true_or, or_false, false_or, bft, nAdd, nMul, nSub, nDiv, nRem, nAm1, nIx, nIn, bI_z, bI_o, ite_b1, ite_b0, zI_add, zI_sub, li0, li1, li2, li3, li4, li5, li6, li7, li8, li9, li10, li11, li12, li13, li14, li15, li16, li17, li18, li19, li20, li21, li22, li23, li24, li25, li26, li27, li28, li29, li30, li31, li32, li33, li34, li35, li36, li37, li40, li42, li43, li45, li47, li48, li57, li59, li60, li61, li62, li64, li80, li91, li93, li97, li99, li100, li122, li182, li199, li255, li300, li380, li400, li999, li1000, li3640, li4100, li65536, li99999, ln1, ln2, ln3, ln100, ln100000, tLe, fLe, tLt, fLt, tEq, fEq, zLe_t, zLe_f, zLt_t, zLt_f, zEq_t, zEq_f, nzLe_t, nzLe_f, znLe_t, znLe_f, nzLt_t, nzLt_f, znLt_t, znLt_f, nzEq_t, nzEq_f, znEq_t, znEq_f]; rfl
  · rw [decide_eq_false h]; simp (disch := omega) only [↓reduceIte, Option.bind_some, Option.some.injEq, Prod.mk.injEq, and_self, and_true, true_and, eq_self, reduceCtorEq, not_false_eq_true, not_true_eq_false, or_true, true_or, or_false, false_or, bft, nAdd, nMul, nSub, nDiv, nRem, nAm1, nIx, nIn, bI_z, bI_o, ite_b1, ite_b0, zI_add, zI_sub, li0, li1, li2, li3, li4, li5, li6, li7, li8, li9, li10, li11, li12, li13, li14, li15, li16, li17, li18, li19, li20, li21, li22, li23, li24, li25, li26, li27, li28, li29, li30, li31, li32, li33, li34, li35, li36, li37, li40, li42, li43, li45, li47, li48, li57, li59, li60, li61, li62, li64, li80, li91, li93, li97, li99, li100, li122, li182, li199, li255, li300, li380, li400, li999, li1000, li3640, li4100, li65536, li99999, ln1, ln2, ln3, ln100, ln100000, tLe, fLe, tLt, fLt, tEq, fEq, zLe_t, zLe_f, zLt_t, zLt_f, zEq_t, zEq_f, nzLe_t, nzLe_f, znLe_t, znLe_f, nzLt_t, nzLt_f, znLt_t, znLt_f, nzEq_t, nzEq_f, znEq_t, znEq_f]; rfl
theorem ite_bI (b : Bool) : (if b = true then some (nI 1) else some (nI 0)) = some (bI b) := by cases b <;> rfl
theorem ite_bI0 (b : Bool) : (if b = false then some (nI 0) else some (nI 1)) = some (bI b) := by cases b <;> rfl
def rCell (S : sT) (A : aT) (c : Nat) (w : Int32) : Int32 := if w = 0 then nI (thOf S c) else if w = 1 then nI (A.1 c).length else if w = 2 then zI (ownA S A c) else if w = 3 then zI (topP (A.1 c)) else if w = 4 then bI (wetL (sDry S) (A.1 c) A.2.2.1) else -2
theorem q_cell {k : Nat} (hk : k < 512) : st_cell (Inv k) (Inv (k + 1)) := by
  intro h x w hI
  obtain ⟨n, K, P, I, L⟩ := h
  obtain ⟨⟨G, F⟩, Z, ok, C, R⟩ := id hI
  change RI I Z at R
  have O := okZ_S ok
  have o1 := O.1
  have hA := okZ_A ok
  have hh := okZ_h ok
  have cs := CI_S C
  have ca := CI_A C
  have rs := RI_S R
  have ra := RI_A R
  generalize hS : wS (zW Z) = S at O o1 hA cs ca rs ra
  generalize hAA : wA (zW Z) = A at hA hh ca ra
  have e1 := isCell_ok O cs x
  have e2 := rIsCell_ok rs O x
  have go : ∀ r, mX11_cell P I L x w = some r → mX12_cell I x w = some r → ∃ r h1 h2, oX_cell (n, K, P, I, L) x w = some (r, h1) ∧ GW h1.2.1 h1.2.2.1 ∧ oM_cell h1 x w = some (r, h2) ∧ Inv (k + 1) h2 := fun r a b => ⟨r, _, _, congrArg (Option.map (fun q => (q, (n, K, P, I, L)))) a, G, congrArg (Option.map (fun q => (q, (n, K, P, I, L)))) b, Inv_q hI (fun _ _ => rfl)⟩
  rcases inbC x (sCe S) with hx | ⟨c, hc, rfl⟩
  · refine go (-2) ?_ ?_
    · unfold mX11_cell; simp (disch := omega) only [↓reduceIte, Option.bind_some, Option.some.injEq, Prod.mk.injEq, and_self, and_true, true_and, eq_self, reduceCtorEq, not_false_eq_true, not_true_eq_false, or_true, true_or, or_false, false_or, bft, nAdd, nMul, nSub, nDiv, nRem, nAm1, nIx, nIn, bI_z, bI_o, ite_b1, ite_b0, zI_add, zI_sub, li0, li1, li2, li3, li4, li5, li6, li7, li8, li9, li10, li11, li12, li13, li14, li15, li16, li17, li18, li19, li20, li21, li22, li23, li24, li25, li26, li27, li28, li29, li30, li31, li32, li33, li34, li35, li36, li37, li40, li42, li43, li45, li47, li48, li57, li59, li60, li61, li62, li64, li80, li91, li93, li97, li99, li100, li122, li182, li199, li255, li300, li380, li400, li999, li1000, li3640, li4100, li65536, li99999, ln1, ln2, ln3, ln100, ln100000, tLe, fLe, tLt, fLt, tEq, fEq, zLe_t, zLe_f, zLt_t, zLt_f, zEq_t, zEq_f, nzLe_t, nzLe_f, znLe_t, znLe_f, nzLt_t, nzLt_f, znLt_t, znLt_f, nzEq_t, nzEq_f, znEq_t, znEq_f, e1, hx]
    · unfold mX12_cell; simp (disch := omega) only [↓reduceIte, Option.bind_some, Option.some.injEq, Prod.mk.injEq, and_self, and_true, true_and, eq_self, reduceCtorEq, not_false_eq_true, not_true_eq_false, or_true, true_or, or_false, false_or, bft, nAdd, nMul, nSub, nDiv, nRem, nAm1, nIx, nIn, bI_z, bI_o, ite_b1, ite_b0, zI_add, zI_sub, li0, li1, li2, li3, li4, li5, li6, li7, li8, li9, li10, li11, li12, li13, li14, li15, li16, li17, li18, li19, li20, li21, li22, li23, li24, li25, li26, li27, li28, li29, li30, li31, li32, li33, li34, li35, li36, li37, li40, li42, li43, li45, li47, li48, li57, li59, li60, li61, li62, li64, li80, li91, li93, li97, li99, li100, li122, li182, li199, li255, li300, li380, li400, li999, li1000, li3640, li4100, li65536, li99999, ln1, ln2, ln3, ln100, ln100000, tLe, fLe, tLt, fLt, tEq, fEq, zLe_t, zLe_f, zLt_t, zLt_f, zEq_t, zEq_f, nzLe_t, nzLe_f, znLe_t, znLe_f, nzLt_t, nzLt_f, znLt_t, znLt_f, nzEq_t, nzEq_f, znEq_t, znEq_f, e2, hx]
  · have hl := (hA.1 c hc).1
    rw [inbT hc (by omega)] at e1 e2
    refine go (rCell S A c w) ?_ ?_
    · unfold mX11_cell rCell
      have e3 := ownerOf_ok (I := I) (s := P 12 0) (cS_dry cs) (by omega) (cS_suit cs) (by omega) hl (show A.2.2.1 < 100000 by omega)
      change _ = some (zI (ownA S A c)) at e3
      simp (disch := omega) only [↓reduceIte, Option.bind_some, Option.some.injEq, Prod.mk.injEq, and_self, and_true, true_and, eq_self, reduceCtorEq, not_false_eq_true, not_true_eq_false, or_true, true_or, or_false, false_or, bft, nAdd, nMul, nSub, nDiv, nRem, nAm1, nIx, nIn, bI_z, bI_o, ite_b1, ite_b0, zI_add, zI_sub, li0, li1, li2, li3, li4, li5, li6, li7, li8, li9, li10, li11, li12, li13, li14, li15, li16, li17, li18, li19, li20, li21, li22, li23, li24, li25, li26, li27, li28, li29, li30, li31, li32, li33, li34, li35, li36, li37, li40, li42, li43, li45, li47, li48, li57, li59, li60, li61, li62, li64, li80, li91, li93, li97, li99, li100, li122, li182, li199, li255, li300, li380, li400, li999, li1000, li3640, li4100, li65536, li99999, ln1, ln2, ln3, ln100, ln100000, tLe, fLe, tLt, fLt, tEq, fEq, zLe_t, zLe_f, zLt_t, zLt_f, zEq_t, zEq_f, nzLe_t, nzLe_f, znLe_t, znLe_f, nzLt_t, nzLt_f, znLt_t, znLt_f, nzEq_t, nzEq_f, znEq_t, znEq_f, e1, cS_th cs O hc, cA_l ca hc, cA_h ca, height_ok hl, e3, topP_ok hl, isWet_ok (cS_dry cs) (show sDry S < 100 by omega) hl (show A.2.2.1 < 100000 by omega), some_ite]
    · unfold mX12_cell rCell
      simp (disch := omega) only [↓reduceIte, Option.bind_some, Option.some.injEq, Prod.mk.injEq, and_self, and_true, true_and, eq_self, reduceCtorEq, not_false_eq_true, not_true_eq_false, or_true, true_or, or_false, false_or, bft, nAdd, nMul, nSub, nDiv, nRem, nAm1, nIx, nIn, bI_z, bI_o, ite_b1, ite_b0, zI_add, zI_sub, li0, li1, li2, li3, li4, li5, li6, li7, li8, li9, li10, li11, li12, li13, li14, li15, li16, li17, li18, li19, li20, li21, li22, li23, li24, li25, li26, li27, li28, li29, li30, li31, li32, li33, li34, li35, li36, li37, li40, li42, li43, li45, li47, li48, li57, li59, li60, li61, li62, li64, li80, li91, li93, li97, li99, li100, li122, li182, li199, li255, li300, li380, li400, li999, li1000, li3640, li4100, li65536, li99999, ln1, ln2, ln3, ln100, ln100000, tLe, fLe, tLt, fLt, tEq, fEq, zLe_t, zLe_f, zLt_t, zLt_f, zEq_t, zEq_f, nzLe_t, nzLe_f, znLe_t, znLe_f, nzLt_t, nzLt_f, znLt_t, znLt_f, nzEq_t, nzEq_f, znEq_t, znEq_f, e2, rThingOf_ok rs O hc, rAn_m ra hc, rOwnerOf_ok rs O ra hA (by omega) hc, rTopOf_ok O ra hA hc, rIsTopWet_ok rs O ra hA (by omega) hc, some_ite]

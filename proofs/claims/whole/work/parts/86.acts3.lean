/-! vote, undo, hour. -/
theorem orB : ∀ b, b < 16 → ∀ t, t < 4 → (nI b ||| xshl (nI 1) (nI t)) = nI (b ||| 2 ^ t) := by decide +kernel
theorem orB_lt : ∀ b, b < 16 → ∀ t, t < 4 → b ||| 2 ^ t < 16 := by decide +kernel
theorem orB_bit {b t u : Nat} (h : (b ||| 2 ^ t).testBit u = true) : b.testBit u = true ∨ u = t := by
  rw [Nat.testBit_or, Bool.or_eq_true, Nat.testBit_two_pow] at h
  exact h.imp id (fun q => (of_decide_eq_true q).symm)
def voteA (S : sT) (A : aT) (t : Nat) : aT := (fun c => if sFi S t ≤ c ∧ c < sFi S (t + 1) then [] else A.1 c, A.2.1, A.2.2.1, A.2.2.2 ||| 2 ^ t)
def sumL (A : aT) : Nat → Nat → Nat
  | 0, _ => 0
  | n + 1, k => (A.1 k).length + sumL A n (k + 1)
theorem okA_vote {S : sT} {A : aT} (hA : okA S A) {t : Nat} (ht : t < 4) : okA S (voteA S A t) := by
  refine ⟨fun c hc => ?_, hA.2.1, orB_lt _ hA.2.2.1 _ ht, fun u hu hB c h1 h2 => ?_⟩
  · show okC (if sFi S t ≤ c ∧ c < sFi S (t + 1) then [] else A.1 c) ∧ ∀ x ∈ (if sFi S t ≤ c ∧ c < sFi S (t + 1) then [] else A.1 c), _
    by_cases w : sFi S t ≤ c ∧ c < sFi S (t + 1)
    · rw [if_pos w]; exact ⟨okC_nil, fun x hx => by simp at hx⟩
    · rw [if_neg w]; exact hA.1 c hc
  · show (if sFi S t ≤ c ∧ c < sFi S (t + 1) then [] else A.1 c) = []
    rcases orB_bit hB with q | q
    · split
      · rfl
      · exact hA.2.2.2 u hu q c h1 h2
    · subst q
      rw [if_pos ⟨h1, h2⟩]
section
variable {S : sT} {A : aT}
theorem strip_go {I : Nat → Nat → Int32} {s a : Nat} (O : okS S) (hA : okA S A) (C : cS I s S) {t : Nat} (ht : t < sTh S) : ∀ (f n k g : Nat) (L : Nat → Nat → Int64), n < f → n + k = sFi S (t + 1) → sFi S t ≤ k → (∀ c, k ≤ c → c < sCe S → L (a + 1) c = lN (enc (A.1 c))) → ∃ M, mX7_strip_14 I f L s a (nI t) (nI g) (nI (sFi S t)) (nI k) = some (nI (g + sumL A n k), M) ∧ (∀ c, k ≤ c → c < sFi S (t + 1) → M (a + 1) c = lN 0) ∧ (∀ c, c < k ∨ sFi S (t + 1) ≤ c → M (a + 1) c = L (a + 1) c) ∧ ∀ b, b ≠ a + 1 → M b = L b
  | 0, n, k, g, L, h1, _, _, _ => absurd h1 (by omega)
  | f + 1, n, k, g, L, h1, h2, h3, hL => by
    have o1 := O.1
    have ot := O.2.1.2.2 t ht
    rw [mX7_strip_14]
    cases n with
    | zero =>
      refine ⟨L, ?_, fun c q1 q2 => absurd q2 (by omega), fun _ _ => rfl, fun _ _ => rfl⟩
      simp (disch := omega) only [↓reduceIte, Option.bind_some, Option.some.injEq, Prod.mk.injEq, and_self, and_true, true_and, eq_self, reduceCtorEq, not_false_eq_true, not_true_eq_false, or_true, true_or, or_false, false_or, bft, nAdd, nMul, nSub, nDiv, nRem, nAm1, nIx, nIn, bI_z, bI_o, ite_b1, ite_b0, zI_add, zI_sub, li0, li1, li2, li3, li4, li5, li6, li7, li8, li9, li10, li11, li12, li13, li14, li15, li16, li17, li18, li19, li20, li21, li22, li23, li24, li25, li26, li27, li28, li29, li30, li31, li32, li33, li34, li35, li36, li37, li40, li42, li43, li45, li47, li48, li57, li59, li60, li61, li62, li64, li80, li91, li93, li97, li99, li100, li122, li182, li199, li255, li300, li380, li400, li999, li1000, li3640, li4100, li65536, li99999, ln1, ln2, ln3, ln100, ln100000, tLe, fLe, tLt, fLt, tEq, fEq, zLe_t, zLe_f, zLt_t, zLt_f, zEq_t, zEq_f, nzLe_t, nzLe_f, znLe_t, znLe_f, nzLt_t, nzLt_f, znLt_t, znLt_f, nzEq_t, nzEq_f, znEq_t, znEq_f, cS_cn C ht]
      rfl
    | succ n =>
      have hk : k < sCe S := by omega
      have e := height_ok (hA.1 k hk).1
      obtain ⟨M, m1, m2, m3, m4⟩ := strip_go (a := a) O hA C ht f n (k + 1) (g + (A.1 k).length) (xu L (a + 1) k (lN 0)) (by omega) (by omega) (by omega) (fun c q1 q2 => by rw [xu_c (by omega)]; exact hL c (by omega) q2)
      refine ⟨M, ?_, fun c q1 q2 => ?_, fun c q => ?_, fun b hb => (m4 b hb).trans (xu_r hb)⟩
      · simp (disch := omega) only [↓reduceIte, Option.bind_some, Option.some.injEq, Prod.mk.injEq, and_self, and_true, true_and, eq_self, reduceCtorEq, not_false_eq_true, not_true_eq_false, or_true, true_or, or_false, false_or, bft, nAdd, nMul, nSub, nDiv, nRem, nAm1, nIx, nIn, bI_z, bI_o, ite_b1, ite_b0, zI_add, zI_sub, li0, li1, li2, li3, li4, li5, li6, li7, li8, li9, li10, li11, li12, li13, li14, li15, li16, li17, li18, li19, li20, li21, li22, li23, li24, li25, li26, li27, li28, li29, li30, li31, li32, li33, li34, li35, li36, li37, li40, li42, li43, li45, li47, li48, li57, li59, li60, li61, li62, li64, li80, li91, li93, li97, li99, li100, li122, li182, li199, li255, li300, li380, li400, li999, li1000, li3640, li4100, li65536, li99999, ln1, ln2, ln3, ln100, ln100000, tLe, fLe, tLt, fLt, tEq, fEq, zLe_t, zLe_f, zLt_t, zLt_f, zEq_t, zEq_f, nzLe_t, nzLe_f, znLe_t, znLe_f, nzLt_t, nzLt_f, znLt_t, znLt_f, nzEq_t, nzEq_f, znEq_t, znEq_f, cS_cn C ht, hL k (by omega) hk, e]
        rw [show (0 : Int64) = lN 0 from rfl, m1, sumL, Nat.add_assoc]
      · by_cases w : c = k
        · subst w; rw [m3 c (by omega), xu_s]
        · exact m2 c (by omega) q2
      · rw [m3 c (by omega), xu_c (by omega)]
theorem strip_ok {I : Nat → Nat → Int32} {L : Nat → Nat → Int64} {s a : Nat} (O : okS S) (hA : okA S A) (C : cS I s S) (hL : ∀ c, c < sCe S → L (a + 1) c = lN (enc (A.1 c))) {t : Nat} (ht : t < sTh S) : ∃ M, mX7_strip I L s a (nI t) = some (nI (sumL A (sFi S (t + 1) - sFi S t) (sFi S t)), M) ∧ (∀ c, c < sCe S → M (a + 1) c = lN (enc ((voteA S A t).1 c))) ∧ ∀ b, b ≠ a + 1 → M b = L b := by
  have o1 := O.1
  have ot := O.2.1.2.2 t ht
  obtain ⟨M, m1, m2, m3, m4⟩ := strip_go (a := a) O hA C ht xf (sFi S (t + 1) - sFi S t) (sFi S t) 0 L (by unfold xf; omega) (by omega) (by omega) (fun c _ h => hL c h)
  refine ⟨M, ?_, fun c hc => ?_, m4⟩
  · unfold mX7_strip
    simp (disch := omega) only [↓reduceIte, Option.bind_some, Option.some.injEq, Prod.mk.injEq, and_self, and_true, true_and, eq_self, reduceCtorEq, not_false_eq_true, not_true_eq_false, or_true, true_or, or_false, false_or, bft, nAdd, nMul, nSub, nDiv, nRem, nAm1, nIx, nIn, bI_z, bI_o, ite_b1, ite_b0, zI_add, zI_sub, li0, li1, li2, li3, li4, li5, li6, li7, li8, li9, li10, li11, li12, li13, li14, li15, li16, li17, li18, li19, li20, li21, li22, li23, li24, li25, li26, li27, li28, li29, li30, li31, li32, li33, li34, li35, li36, li37, li40, li42, li43, li45, li47, li48, li57, li59, li60, li61, li62, li64, li80, li91, li93, li97, li99, li100, li122, li182, li199, li255, li300, li380, li400, li999, li1000, li3640, li4100, li65536, li99999, ln1, ln2, ln3, ln100, ln100000, tLe, fLe, tLt, fLt, tEq, fEq, zLe_t, zLe_f, zLt_t, zLt_f, zEq_t, zEq_f, nzLe_t, nzLe_f, znLe_t, znLe_f, nzLt_t, nzLt_f, znLt_t, znLt_f, nzEq_t, nzEq_f, znEq_t, znEq_f, cS_fi C ht]
    rw [m1, Nat.zero_add]
  · show _ = lN (enc (if sFi S t ≤ c ∧ c < sFi S (t + 1) then [] else A.1 c))
    by_cases w : sFi S t ≤ c ∧ c < sFi S (t + 1)
    · rw [if_pos w, m2 c w.1 w.2]; rfl
    · rw [if_neg w, m3 c (by omega)]; exact hL c hc
theorem barely_go (O : okS S) {t : Nat} (ht : t < sTh S) : ∀ (f n k g : Nat) (I : Nat → Nat → Int32), n < f → n + k = sFi S (t + 1) → sFi S t ≤ k → (∀ u, u ≤ sTh S → I 125 u = nI (sFi S u)) → (∀ c, k ≤ c → c < sFi S (t + 1) → I 131 c = nI (A.1 c).length) → ∃ J, mX12_barely_9 f I (nI t) (nI g) (nI k) = some (nI (g + sumL A n k), J) ∧ (∀ c, k ≤ c → c < sFi S (t + 1) → J 131 c = nI 0) ∧ (∀ c, c < k ∨ sFi S (t + 1) ≤ c → J 131 c = I 131 c) ∧ ∀ b, b ≠ 131 → J b = I b
  | 0, n, k, g, I, h1, _, _, _, _ => absurd h1 (by omega)
  | f + 1, n, k, g, I, h1, h2, h3, hF, hL => by
    have o1 := O.1
    have ot := O.2.1.2.2 t ht
    rw [mX12_barely_9]
    cases n with
    | zero =>
      refine ⟨I, ?_, fun c q1 q2 => absurd q2 (by omega), fun _ _ => rfl, fun _ _ => rfl⟩
      simp (disch := omega) only [↓reduceIte, Option.bind_some, Option.some.injEq, Prod.mk.injEq, and_self, and_true, true_and, eq_self, reduceCtorEq, not_false_eq_true, not_true_eq_false, or_true, true_or, or_false, false_or, bft, nAdd, nMul, nSub, nDiv, nRem, nAm1, nIx, nIn, bI_z, bI_o, ite_b1, ite_b0, zI_add, zI_sub, li0, li1, li2, li3, li4, li5, li6, li7, li8, li9, li10, li11, li12, li13, li14, li15, li16, li17, li18, li19, li20, li21, li22, li23, li24, li25, li26, li27, li28, li29, li30, li31, li32, li33, li34, li35, li36, li37, li40, li42, li43, li45, li47, li48, li57, li59, li60, li61, li62, li64, li80, li91, li93, li97, li99, li100, li122, li182, li199, li255, li300, li380, li400, li999, li1000, li3640, li4100, li65536, li99999, ln1, ln2, ln3, ln100, ln100000, tLe, fLe, tLt, fLt, tEq, fEq, zLe_t, zLe_f, zLt_t, zLt_f, zEq_t, zEq_f, nzLe_t, nzLe_f, znLe_t, znLe_f, nzLt_t, nzLt_f, znLt_t, znLt_f, nzEq_t, nzEq_f, znEq_t, znEq_f, hF (t + 1) (by omega)]
      rfl
    | succ n =>
      have hk : k < sCe S := by omega
      obtain ⟨M, m1, m2, m3, m4⟩ := barely_go O ht f n (k + 1) (g + (A.1 k).length) (xu I 131 k (nI 0)) (by omega) (by omega) (by omega) (fun u hu => by rw [xu_r (by decide)]; exact hF u hu) (fun c q1 q2 => by rw [xu_c (by omega)]; exact hL c (by omega) q2)
      refine ⟨M, ?_, fun c q1 q2 => ?_, fun c q => ?_, fun b hb => (m4 b hb).trans (xu_r hb)⟩
      · simp (disch := omega) only [↓reduceIte, Option.bind_some, Option.some.injEq, Prod.mk.injEq, and_self, and_true, true_and, eq_self, reduceCtorEq, not_false_eq_true, not_true_eq_false, or_true, true_or, or_false, false_or, bft, nAdd, nMul, nSub, nDiv, nRem, nAm1, nIx, nIn, bI_z, bI_o, ite_b1, ite_b0, zI_add, zI_sub, li0, li1, li2, li3, li4, li5, li6, li7, li8, li9, li10, li11, li12, li13, li14, li15, li16, li17, li18, li19, li20, li21, li22, li23, li24, li25, li26, li27, li28, li29, li30, li31, li32, li33, li34, li35, li36, li37, li40, li42, li43, li45, li47, li48, li57, li59, li60, li61, li62, li64, li80, li91, li93, li97, li99, li100, li122, li182, li199, li255, li300, li380, li400, li999, li1000, li3640, li4100, li65536, li99999, ln1, ln2, ln3, ln100, ln100000, tLe, fLe, tLt, fLt, tEq, fEq, zLe_t, zLe_f, zLt_t, zLt_f, zEq_t, zEq_f, nzLe_t, nzLe_f, znLe_t, znLe_f, nzLt_t, nzLt_f, znLt_t, znLt_f, nzEq_t, nzEq_f, znEq_t, znEq_f, hF (t + 1) (by omega), hL k (by omega) (by omega)]
        rw [m1, sumL, Nat.add_assoc]
      · by_cases w : c = k
        · subst w; rw [m3 c (by omega), xu_s]
        · exact m2 c (by omega) q2
      · rw [m3 c (by omega), xu_c (by omega)]
theorem barely_ok {I : Nat → Nat → Int32} (O : okS S) {t : Nat} (ht : t < sTh S) (hF : ∀ u, u ≤ sTh S → I 125 u = nI (sFi S u)) (hL : ∀ c, sFi S t ≤ c → c < sFi S (t + 1) → I 131 c = nI (A.1 c).length) : ∃ J, mX12_barely I (nI t) = some (nI (sumL A (sFi S (t + 1) - sFi S t) (sFi S t)), J) ∧ (∀ c, sFi S t ≤ c → c < sFi S (t + 1) → J 131 c = nI 0) ∧ (∀ c, c < sFi S t ∨ sFi S (t + 1) ≤ c → J 131 c = I 131 c) ∧ ∀ b, b ≠ 131 → J b = I b := by
  have o1 := O.1
  have ot := O.2.1.2.2 t ht
  obtain ⟨J, m1, m2, m3, m4⟩ := barely_go (A := A) O ht xf (sFi S (t + 1) - sFi S t) (sFi S t) 0 I (by unfold xf; omega) (by omega) (by omega) hF hL
  refine ⟨J, ?_, m2, m3, m4⟩
  unfold mX12_barely
  simp (disch := omega) only [↓reduceIte, Option.bind_some, Option.some.injEq, Prod.mk.injEq, and_self, and_true, true_and, eq_self, reduceCtorEq, not_false_eq_true, not_true_eq_false, or_true, true_or, or_false, false_or, bft, nAdd, nMul, nSub, nDiv, nRem, nAm1, nIx, nIn, bI_z, bI_o, ite_b1, ite_b0, zI_add, zI_sub, li0, li1, li2, li3, li4, li5, li6, li7, li8, li9, li10, li11, li12, li13, li14, li15, li16, li17, li18, li19, li20, li21, li22, li23, li24, li25, li26, li27, li28, li29, li30, li31, li32, li33, li34, li35, li36, li37, li40, li42, li43, li45, li47, li48, li57, li59, li60, li61, li62, li64, li80, li91, li93, li97, li99, li100, li122, li182, li199, li255, li300, li380, li400, li999, li1000, li3640, li4100, li65536, li99999, ln1, ln2, ln3, ln100, ln100000, tLe, fLe, tLt, fLt, tEq, fEq, zLe_t, zLe_f, zLt_t, zLt_f, zEq_t, zEq_f, nzLe_t, nzLe_f, znLe_t, znLe_f, nzLt_t, nzLt_f, znLt_t, znLt_f, nzEq_t, nzEq_f, znEq_t, znEq_f, hF t (by omega)]
  rw [m1, Nat.zero_add]
end
theorem q_vote {k : Nat} (hk : k < 512) : st_vote (Inv k) (Inv (k + 1)) := by
  intro h x hI
  obtain ⟨n, K, P, I, L⟩ := h
  obtain ⟨⟨G, F⟩, Z, ok, C, R⟩ := id hI
  change RI I Z at R
  have O := okZ_S ok
  have o1 := O.1
  have hA := okZ_A ok
  have hh := okZ_h ok
  have cs := CI_S C
  have ca := CI_A C
  have rs := RI_S R
  have ra := RI_A R
  generalize hS : wS (zW Z) = S at O o1 hA cs ca rs ra
  generalize hAA : wA (zW Z) = A at hA hh ca ra
  have e1 := isThing_ok O cs x
  have e2 := rIsThing_ok rs O x
  have no : mX11_vote P I L x = some (-1, P, I, L) → mX12_vote I x = some (-1, I) → ∃ r h1 h2, oX_vote (n, K, P, I, L) x = some (r, h1) ∧ GW h1.2.1 h1.2.2.1 ∧ oM_vote h1 x = some (r, h2) ∧ Inv (k + 1) h2 := fun a b => ⟨-1, (n, K, P, I, L), (n, K, P, I, L), by unfold oX_vote; simp only [a]; rfl, G, by unfold oM_vote; simp only [b]; rfl, Inv_q hI (fun _ _ => rfl)⟩
  rcases inbC x (sTh S) with hx | ⟨t, ht, rfl⟩
  · refine no ?_ ?_
    · unfold mX11_vote; simp (disch := omega) only [↓reduceIte, Option.bind_some, Option.some.injEq, Prod.mk.injEq, and_self, and_true, true_and, eq_self, reduceCtorEq, not_false_eq_true, not_true_eq_false, or_true, true_or, or_false, false_or, bft, nAdd, nMul, nSub, nDiv, nRem, nAm1, nIx, nIn, bI_z, bI_o, ite_b1, ite_b0, zI_add, zI_sub, li0, li1, li2, li3, li4, li5, li6, li7, li8, li9, li10, li11, li12, li13, li14, li15, li16, li17, li18, li19, li20, li21, li22, li23, li24, li25, li26, li27, li28, li29, li30, li31, li32, li33, li34, li35, li36, li37, li40, li42, li43, li45, li47, li48, li57, li59, li60, li61, li62, li64, li80, li91, li93, li97, li99, li100, li122, li182, li199, li255, li300, li380, li400, li999, li1000, li3640, li4100, li65536, li99999, ln1, ln2, ln3, ln100, ln100000, tLe, fLe, tLt, fLt, tEq, fEq, zLe_t, zLe_f, zLt_t, zLt_f, zEq_t, zEq_f, nzLe_t, nzLe_f, znLe_t, znLe_f, nzLt_t, nzLt_f, znLt_t, znLt_f, nzEq_t, nzEq_f, znEq_t, znEq_f, e1, hx]
    · unfold mX12_vote; simp (disch := omega) only [↓reduceIte, Option.bind_some, Option.some.injEq, Prod.mk.injEq, and_self, and_true, true_and, eq_self, reduceCtorEq, not_false_eq_true, not_true_eq_false, or_true, true_or, or_false, false_or, bft, nAdd, nMul, nSub, nDiv, nRem, nAm1, nIx, nIn, bI_z, bI_o, ite_b1, ite_b0, zI_add, zI_sub, li0, li1, li2, li3, li4, li5, li6, li7, li8, li9, li10, li11, li12, li13, li14, li15, li16, li17, li18, li19, li20, li21, li22, li23, li24, li25, li26, li27, li28, li29, li30, li31, li32, li33, li34, li35, li36, li37, li40, li42, li43, li45, li47, li48, li57, li59, li60, li61, li62, li64, li80, li91, li93, li97, li99, li100, li122, li182, li199, li255, li300, li380, li400, li999, li1000, li3640, li4100, li65536, li99999, ln1, ln2, ln3, ln100, ln100000, tLe, fLe, tLt, fLt, tEq, fEq, zLe_t, zLe_f, zLt_t, zLt_f, zEq_t, zEq_f, nzLe_t, nzLe_f, znLe_t, znLe_f, nzLt_t, nzLt_f, znLt_t, znLt_f, nzEq_t, nzEq_f, znEq_t, znEq_f, e2, hx]
  rw [inbT ht (by omega)] at e1 e2
  have ot := O.2.1.2.2 t ht
  have hb16 := hA.2.2.1
  have b1 := isBare11_ok (t := t) (cA_b ca) (by omega) (by omega)
  have b2 := rIsBare_ok (t := t) (rAn_b ra) (by omega) (by omega)
  cases hb : A.2.2.2.testBit t with
  | true =>
    rw [hb] at b1 b2
    refine no ?_ ?_
    · unfold mX11_vote; simp (disch := omega) only [↓reduceIte, Option.bind_some, Option.some.injEq, Prod.mk.injEq, and_self, and_true, true_and, eq_self, reduceCtorEq, not_false_eq_true, not_true_eq_false, or_true, true_or, or_false, false_or, bft, nAdd, nMul, nSub, nDiv, nRem, nAm1, nIx, nIn, bI_z, bI_o, ite_b1, ite_b0, zI_add, zI_sub, li0, li1, li2, li3, li4, li5, li6, li7, li8, li9, li10, li11, li12, li13, li14, li15, li16, li17, li18, li19, li20, li21, li22, li23, li24, li25, li26, li27, li28, li29, li30, li31, li32, li33, li34, li35, li36, li37, li40, li42, li43, li45, li47, li48, li57, li59, li60, li61, li62, li64, li80, li91, li93, li97, li99, li100, li122, li182, li199, li255, li300, li380, li400, li999, li1000, li3640, li4100, li65536, li99999, ln1, ln2, ln3, ln100, ln100000, tLe, fLe, tLt, fLt, tEq, fEq, zLe_t, zLe_f, zLt_t, zLt_f, zEq_t, zEq_f, nzLe_t, nzLe_f, znLe_t, znLe_f, nzLt_t, nzLt_f, znLt_t, znLt_f, nzEq_t, nzEq_f, znEq_t, znEq_f, e1, b1]
    · unfold mX12_vote; simp (disch := omega) only [↓reduceIte, Option.bind_some, Option.some.injEq, Prod.mk.injEq, and_self, and_true, true_and, eq_self, reduceCtorEq, not_false_eq_true, not_true_eq_false, or_true, true_or, or_false, false_or, bft, nAdd, nMul, nSub, nDiv, nRem, nAm1, nIx, nIn, bI_z, bI_o, ite_b1, ite_b0, zI_add, zI_sub, li0, li1, li2, li3, li4, li5, li6, li7, li8, li9, li10, li11, li12, li13, li14, li15, li16, li17, li18, li19, li20, li21, li22, li23, li24, li25, li26, li27, li28, li29, li30, li31, li32, li33, li34, li35, li36, li37, li40, li42, li43, li45, li47, li48, li57, li59, li60, li61, li62, li64, li80, li91, li93, li97, li99, li100, li122, li182, li199, li255, li300, li380, li400, li999, li1000, li3640, li4100, li65536, li99999, ln1, ln2, ln3, ln100, ln100000, tLe, fLe, tLt, fLt, tEq, fEq, zLe_t, zLe_f, zLt_t, zLt_f, zEq_t, zEq_f, nzLe_t, nzLe_f, znLe_t, znLe_f, nzLt_t, nzLt_f, znLt_t, znLt_f, nzEq_t, nzEq_f, znEq_t, znEq_f, e2, b2]
  | false =>
    rw [hb] at b1 b2
    obtain ⟨P1, I1, L1, k1, k2, k3, k4, k5⟩ := keep_ok (okZ_S ok) (CI_p C) C.2.1 ok.1.2.2.2.1.1 C.1.1
    have G1 := gw_X10_keep G k1
    have cs1 : cS I1 (P1 12 0) S := by rw [← hS]; exact k2.1.1
    have ca1 : cA I1 L1 24 S A := by rw [← hS, ← hAA]; exact k2.2.1
    have pl1 : P1 12 0 = 13 ∨ 171 < P1 12 0 := by rw [k4 12 (by decide)]; exact CI_p C
    have cs2 : cS (xu I1 24 3 (nI (A.2.2.2 ||| 2 ^ t))) (P1 12 0) S := cS_congr (fun b h1 h2 => xu_r (by omega)) cs1
    obtain ⟨M, p1, p2, p3⟩ := strip_ok (I := xu I1 24 3 (nI (A.2.2.2 ||| 2 ^ t))) (L := L1) (s := P1 12 0) (a := 24) O hA cs2 ca1.1 ht
    have cA2 : cA (xu I1 24 3 (nI (A.2.2.2 ||| 2 ^ t))) M 24 S (voteA S A t) := ⟨p2, fun q hq => by rw [xu_r (by decide)]; exact ca1.2.1 q hq, by rw [xu_c (by decide)]; exact ca1.2.2.1, xu_s⟩
    have hor := orB _ hb16 t (by omega)
    have hJ : ∀ b, 122 < b → xu I1 24 3 (nI (A.2.2.2 ||| 2 ^ t)) b = I b := fun b h => by rw [xu_r (by omega), (k5 b (by omega)).1]
    have R0 : RI (xu I1 24 3 (nI (A.2.2.2 ||| 2 ^ t))) Z := RI_cls ok (fun b q1 q2 => hJ b (by omega)) R
    obtain ⟨H, u1, u2, u3⟩ := keepsAct_ok ok.1 R0.1
    have rs1 : rSn H S := by rw [← hS]; exact u2.1
    have ra1 : rAn H S A := by rw [← hS, ← hAA]; exact u2.2.1
    obtain ⟨J, v1, v2, v3, v4⟩ := barely_ok (A := A) (I := xu H 124 8 (nI (A.2.2.2 ||| 2 ^ t))) O ht (fun u hu => by rw [xu_r (by decide)]; exact rSn_fi rs1 hu) (fun c q1 q2 => by rw [xu_r (by decide)]; exact rAn_m ra1 (by omega))
    have e3 := rIsThing_ok (I := xu I1 24 3 (nI (A.2.2.2 ||| 2 ^ t))) (by rw [← hS]; exact R0.1.1) O (nI t)
    rw [inbT ht (by omega)] at e3
    have b3 := rIsBare_ok (I := xu I1 24 3 (nI (A.2.2.2 ||| 2 ^ t))) (t := t) (b := A.2.2.2) (by have := R0.1.2.1.1; rw [hAA] at this; exact this) (by omega) (by omega)
    rw [hb] at b3
    have hJH : ∀ b, b ≠ 124 → b ≠ 131 → J b = H b := fun b h1 h2 => by rw [v4 b h2, xu_r h1]
    have ra2 : rAn J S (voteA S A t) := by
      refine ⟨?_, ?_, fun q hq => ?_, fun c hc => ?_⟩
      · rw [v4 124 (by decide), xu_s]; rfl
      · rw [v4 124 (by decide), xu_c (by decide)]; exact ra1.2.1
      · rw [hJH 128 (by decide) (by decide)]; exact ra1.2.2.1 q hq
      · rw [hJH 132 (by decide) (by decide), hJH 133 (by decide) (by decide)]
        show J 131 c = nI (if sFi S t ≤ c ∧ c < sFi S (t + 1) then [] else A.1 c).length ∧ rowB (if sFi S t ≤ c ∧ c < sFi S (t + 1) then [] else A.1 c) _ _
        by_cases w : sFi S t ≤ c ∧ c < sFi S (t + 1)
        · rw [if_pos w, v2 c w.1 w.2]; exact ⟨rfl, rowB_nil⟩
        · rw [if_neg w, v3 c (by omega), xu_r (by decide)]; exact ra1.2.2.2 c hc
    refine ⟨nI (sumL A (sFi S (t + 1) - sFi S t) (sFi S t)), (n, K, P1, xu I1 24 3 (nI (A.2.2.2 ||| 2 ^ t)), M), (n, K, P1, J, M), ?_, G1, ?_, ?_⟩
    · unfold oX_vote mX11_vote
      simp (disch := omega) only [↓reduceIte, Option.bind_some, Option.some.injEq, Prod.mk.injEq, and_self, and_true, true_and, eq_self, reduceCtorEq, not_false_eq_true, not_true_eq_false, or_true, true_or, or_false, false_or, bft, nAdd, nMul, nSub, nDiv, nRem, nAm1, nIx, nIn, bI_z, bI_o, ite_b1, ite_b0, zI_add, zI_sub, li0, li1, li2, li3, li4, li5, li6, li7, li8, li9, li10, li11, li12, li13, li14, li15, li16, li17, li18, li19, li20, li21, li22, li23, li24, li25, li26, li27, li28, li29, li30, li31, li32, li33, li34, li35, li36, li37, li40, li42, li43, li45, li47, li48, li57, li59, li60, li61, li62, li64, li80, li91, li93, li97, li99, li100, li122, li182, li199, li255, li300, li380, li400, li999, li1000, li3640, li4100, li65536, li99999, ln1, ln2, ln3, ln100, ln100000, tLe, fLe, tLt, fLt, tEq, fEq, zLe_t, zLe_f, zLt_t, zLt_f, zEq_t, zEq_f, nzLe_t, nzLe_f, znLe_t, znLe_f, nzLt_t, nzLt_f, znLt_t, znLt_f, nzEq_t, nzEq_f, znEq_t, znEq_f, e1, b1, k1, cA_b ca1, hor, p1, Option.map_some]
    · unfold oM_vote mX12_vote
      simp (disch := omega) only [↓reduceIte, Option.bind_some, Option.some.injEq, Prod.mk.injEq, and_self, and_true, true_and, eq_self, reduceCtorEq, not_false_eq_true, not_true_eq_false, or_true, true_or, or_false, false_or, bft, nAdd, nMul, nSub, nDiv, nRem, nAm1, nIx, nIn, bI_z, bI_o, ite_b1, ite_b0, zI_add, zI_sub, li0, li1, li2, li3, li4, li5, li6, li7, li8, li9, li10, li11, li12, li13, li14, li15, li16, li17, li18, li19, li20, li21, li22, li23, li24, li25, li26, li27, li28, li29, li30, li31, li32, li33, li34, li35, li36, li37, li40, li42, li43, li45, li47, li48, li57, li59, li60, li61, li62, li64, li80, li91, li93, li97, li99, li100, li122, li182, li199, li255, li300, li380, li400, li999, li1000, li3640, li4100, li65536, li99999, ln1, ln2, ln3, ln100, ln100000, tLe, fLe, tLt, fLt, tEq, fEq, zLe_t, zLe_f, zLt_t, zLt_f, zEq_t, zEq_f, nzLe_t, nzLe_f, znLe_t, znLe_f, nzLt_t, nzLt_f, znLt_t, znLt_f, nzEq_t, nzEq_f, znEq_t, znEq_f, e3, b3, u1, rAn_b ra1, hor, v1, Option.map_some]
    · exact act_mk (A := voteA S A t) (J := xu I1 24 3 (nI (A.2.2.2 ||| 2 ^ t))) (M := M) G1 F ok C R k2 k3 k4 k5 (fun b h => ⟨xu_r (by omega), p3 b (by omega)⟩) (by rw [hS]; exact cA2) u3 u2 (fun i h1 h2 => by rw [v4 124 (by decide), xu_c h1]) (fun b h1 h2 h3 _ _ _ _ => hJH b h1 h3) (by rw [hS]; exact ra2) (fun _ _ _ => rfl) (by rw [hS]; exact okA_vote hA (by omega)) (show A.2.2.1 ≤ k + 1 by omega)

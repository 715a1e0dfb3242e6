/-! then, byPart; force, end, seed. -/
theorem cntF_shift {own : Nat → Int} {q d : Nat} : ∀ (n k : Nat), cntF (fun j => own (d + j)) q n k = cntF own q n (d + k)
  | 0, _ => rfl
  | n + 1, k => by rw [cntF, cntF, cntF_shift n (k + 1), Nat.add_assoc]
theorem then_go {P : Nat → Nat → Nat} {I : Nat → Nat → Int32} {L : Nat → Nat → Int64} {S : sT} {A : aT} (O : okS S) (hA : okA S A) (cs : cS I (P 12 0) S) (ca : cA I L 24 S A) {t hr : Nat} (ht : t < sTh S) (hh : hr < 1000) : ∀ (f n k T : Nat), n < f → n + k = sFi S (t + 1) - sFi S t → T ≤ 4096 * k → mX11_then_58 P I L f (nI t) (nI hr) (nI (sFi S (t + 1) - sFi S t)) (nI T) (nI k) = Option.bind (mX7_ownerBy (nI (T + talF (fun j => ownV S A true hr (sFi S t + j)) n k)) (nI (sFi S (t + 1) - sFi S t)) (nI (sPart S))) (fun q => some q)
  | 0, n, k, T, h1, _, _ => absurd h1 (by omega)
  | f + 1, n, k, T, h1, h2, h3 => by
    have o1 := O.1
    have ot := O.2.1.2.2 t ht
    rw [mX11_then_58]
    cases n with
    | zero => simp (disch := omega) only [↓reduceIte, Option.bind_some, Option.some.injEq, Prod.mk.injEq, and_self, and_true, true_and, eq_self, reduceCtorEq, not_false_eq_true, not_true_eq_false, or_true, true_or, or_false, false_or, bft, nAdd, nMul, nSub, nDiv, nRem, nAm1, nIx, nIn, bI_z, bI_o, ite_b1, ite_b0, zI_add, zI_sub, li0, li1, li2, li3, li4, li5, li6, li7, li8, li9, li10, li11, li12, li13, li14, li15, li16, li17, li18, li19, li20, li21, li22, li23, li24, li25, li26, li27, li28, li29, li30, li31, li32, li33, li34, li35, li36, li37, li40, li42, li43, li45, li47, li48, li57, li59, li60, li61, li62, li64, li80, li91, li93, li97, li99, li100, li122, li182, li199, li255, li300, li380, li400, li999, li1000, li3640, li4100, li65536, li99999, ln1, ln2, ln3, ln100, ln100000, tLe, fLe, tLt, fLt, tEq, fEq, zLe_t, zLe_f, zLt_t, zLt_f, zEq_t, zEq_f, nzLe_t, nzLe_f, znLe_t, znLe_f, nzLt_t, nzLt_f, znLt_t, znLt_f, nzEq_t, nzEq_f, znEq_t, znEq_f, cS_part cs]; rfl
    | succ n =>
      have hc : sFi S t + k < sCe S := by omega
      have hl := (hA.1 _ hc).1
      have e1 := aheadOf_ok hl (show hr < 100000 by omega)
      have e2 := ownerOf_ok (I := I) (s := P 12 0) (cS_dry cs) (by omega) (cS_suit cs) (by omega) (aheadL_ok hr hl) (show hr < 100000 by omega)
      change _ = some (zI (ownV S A true hr (sFi S t + k))) at e2
      have hv : ownV S A true hr (sFi S t + k) = -1 ∨ ∃ q : Nat, q < 4 ∧ ownV S A true hr (sFi S t + k) = q := (ownV_rng hA true hr hc).imp id (fun ⟨q, h4, h5⟩ => ⟨q, by omega, h5⟩)
      have h16 := one16_le hv
      simp (disch := omega) only [↓reduceIte, Option.bind_some, Option.some.injEq, Prod.mk.injEq, and_self, and_true, true_and, eq_self, reduceCtorEq, not_false_eq_true, not_true_eq_false, or_true, true_or, or_false, false_or, bft, nAdd, nMul, nSub, nDiv, nRem, nAm1, nIx, nIn, bI_z, bI_o, ite_b1, ite_b0, zI_add, zI_sub, li0, li1, li2, li3, li4, li5, li6, li7, li8, li9, li10, li11, li12, li13, li14, li15, li16, li17, li18, li19, li20, li21, li22, li23, li24, li25, li26, li27, li28, li29, li30, li31, li32, li33, li34, li35, li36, li37, li40, li42, li43, li45, li47, li48, li57, li59, li60, li61, li62, li64, li80, li91, li93, li97, li99, li100, li122, li182, li199, li255, li300, li380, li400, li999, li1000, li3640, li4100, li65536, li99999, ln1, ln2, ln3, ln100, ln100000, tLe, fLe, tLt, fLt, tEq, fEq, zLe_t, zLe_f, zLt_t, zLt_f, zEq_t, zEq_f, nzLe_t, nzLe_f, znLe_t, znLe_f, nzLt_t, nzLt_f, znLt_t, znLt_f, nzEq_t, nzEq_f, znEq_t, znEq_f, cS_fi cs ht, cA_l ca hc, e1, e2, oneFor_ok hv]
      rw [then_go O hA cs ca ht hh f n (k + 1) _ (by omega) (by omega) (by omega), talF, Nat.add_assoc]
theorem q_then {k : Nat} (hk : k < 512) : st_then (Inv k) (Inv (k + 1)) := by
  intro h x y hI
  obtain ⟨n, K, P, I, L⟩ := h
  obtain ⟨⟨G, F⟩, Z, ok, C, R⟩ := id hI
  change RI I Z at R
  have O := okZ_S ok
  have o1 := O.1
  have hA := okZ_A ok
  have hh := okZ_h ok
  have cs := CI_S C
  have ca := CI_A C
  have rs := RI_S R
  have ra := RI_A R
  generalize hS : wS (zW Z) = S at O o1 hA cs ca rs ra
  generalize hAA : wA (zW Z) = A at hA hh ca ra
  have f1 := isThing_ok O cs x
  have f2 := rIsThing_ok rs O x
  have g1 := isWn y 0 A.2.2.1
  have g2 := rInW (lo := 0) (hi := A.2.2.1) (by decide) (by omega) y
  change mX12_in y.toInt64 (0 : Int64) (lN A.2.2.1) = _ at g2
  have go : ∀ r J, mX11_then P I L x y = some r → mX12_then I x y = some (r, J) → (∀ b, b ≠ 160 → J b = I b) → ∃ r h1 h2, oX_then (n, K, P, I, L) x y = some (r, h1) ∧ GW h1.2.1 h1.2.2.1 ∧ oM_then h1 x y = some (r, h2) ∧ Inv (k + 1) h2 := fun r J a b hj => ⟨r, _, _, congrArg (Option.map (fun q => (q, (n, K, P, I, L)))) a, G, congrArg (Option.map (fun q : Int32 × (Nat → Nat → Int32) => ((q.1, (n, K, P, q.2, L)) : Int32 × xH))) b, Inv_q hI hj⟩
  rcases inbC x (sTh S) with hx | ⟨t, ht, rfl⟩
  · refine go (-2) I ?_ ?_ (fun _ _ => rfl)
    · unfold mX11_then; simp (disch := omega) only [↓reduceIte, Option.bind_some, Option.some.injEq, Prod.mk.injEq, and_self, and_true, true_and, eq_self, reduceCtorEq, not_false_eq_true, not_true_eq_false, or_true, true_or, or_false, false_or, bft, nAdd, nMul, nSub, nDiv, nRem, nAm1, nIx, nIn, bI_z, bI_o, ite_b1, ite_b0, zI_add, zI_sub, li0, li1, li2, li3, li4, li5, li6, li7, li8, li9, li10, li11, li12, li13, li14, li15, li16, li17, li18, li19, li20, li21, li22, li23, li24, li25, li26, li27, li28, li29, li30, li31, li32, li33, li34, li35, li36, li37, li40, li42, li43, li45, li47, li48, li57, li59, li60, li61, li62, li64, li80, li91, li93, li97, li99, li100, li122, li182, li199, li255, li300, li380, li400, li999, li1000, li3640, li4100, li65536, li99999, ln1, ln2, ln3, ln100, ln100000, tLe, fLe, tLt, fLt, tEq, fEq, zLe_t, zLe_f, zLt_t, zLt_f, zEq_t, zEq_f, nzLe_t, nzLe_f, znLe_t, znLe_f, nzLt_t, nzLt_f, znLt_t, znLt_f, nzEq_t, nzEq_f, znEq_t, znEq_f, f1, hx]
    · unfold mX12_then; simp (disch := omega) only [↓reduceIte, Option.bind_some, Option.some.injEq, Prod.mk.injEq, and_self, and_true, true_and, eq_self, reduceCtorEq, not_false_eq_true, not_true_eq_false, or_true, true_or, or_false, false_or, bft, nAdd, nMul, nSub, nDiv, nRem, nAm1, nIx, nIn, bI_z, bI_o, ite_b1, ite_b0, zI_add, zI_sub, li0, li1, li2, li3, li4, li5, li6, li7, li8, li9, li10, li11, li12, li13, li14, li15, li16, li17, li18, li19, li20, li21, li22, li23, li24, li25, li26, li27, li28, li29, li30, li31, li32, li33, li34, li35, li36, li37, li40, li42, li43, li45, li47, li48, li57, li59, li60, li61, li62, li64, li80, li91, li93, li97, li99, li100, li122, li182, li199, li255, li300, li380, li400, li999, li1000, li3640, li4100, li65536, li99999, ln1, ln2, ln3, ln100, ln100000, tLe, fLe, tLt, fLt, tEq, fEq, zLe_t, zLe_f, zLt_t, zLt_f, zEq_t, zEq_f, nzLe_t, nzLe_f, znLe_t, znLe_f, nzLt_t, nzLt_f, znLt_t, znLt_f, nzEq_t, nzEq_f, znEq_t, znEq_f, f2, hx]
  rw [inbT ht (by omega)] at f1 f2
  rcases wiC (lo := 0) (hi := A.2.2.1) (by decide) (by omega) y with hw | ⟨hr, -, hp, rfl⟩
  · refine go (-2) I ?_ ?_ (fun _ _ => rfl)
    · unfold mX11_then; simp (disch := omega) only [↓reduceIte, Option.bind_some, Option.some.injEq, Prod.mk.injEq, and_self, and_true, true_and, eq_self, reduceCtorEq, not_false_eq_true, not_true_eq_false, or_true, true_or, or_false, false_or, bft, nAdd, nMul, nSub, nDiv, nRem, nAm1, nIx, nIn, bI_z, bI_o, ite_b1, ite_b0, zI_add, zI_sub, li0, li1, li2, li3, li4, li5, li6, li7, li8, li9, li10, li11, li12, li13, li14, li15, li16, li17, li18, li19, li20, li21, li22, li23, li24, li25, li26, li27, li28, li29, li30, li31, li32, li33, li34, li35, li36, li37, li40, li42, li43, li45, li47, li48, li57, li59, li60, li61, li62, li64, li80, li91, li93, li97, li99, li100, li122, li182, li199, li255, li300, li380, li400, li999, li1000, li3640, li4100, li65536, li99999, ln1, ln2, ln3, ln100, ln100000, tLe, fLe, tLt, fLt, tEq, fEq, zLe_t, zLe_f, zLt_t, zLt_f, zEq_t, zEq_f, nzLe_t, nzLe_f, znLe_t, znLe_f, nzLt_t, nzLt_f, znLt_t, znLt_f, nzEq_t, nzEq_f, znEq_t, znEq_f, f1, cA_h ca, g1, hw]
    · unfold mX12_then; simp (disch := omega) only [↓reduceIte, Option.bind_some, Option.some.injEq, Prod.mk.injEq, and_self, and_true, true_and, eq_self, reduceCtorEq, not_false_eq_true, not_true_eq_false, or_true, true_or, or_false, false_or, bft, nAdd, nMul, nSub, nDiv, nRem, nAm1, nIx, nIn, bI_z, bI_o, ite_b1, ite_b0, zI_add, zI_sub, li0, li1, li2, li3, li4, li5, li6, li7, li8, li9, li10, li11, li12, li13, li14, li15, li16, li17, li18, li19, li20, li21, li22, li23, li24, li25, li26, li27, li28, li29, li30, li31, li32, li33, li34, li35, li36, li37, li40, li42, li43, li45, li47, li48, li57, li59, li60, li61, li62, li64, li80, li91, li93, li97, li99, li100, li122, li182, li199, li255, li300, li380, li400, li999, li1000, li3640, li4100, li65536, li99999, ln1, ln2, ln3, ln100, ln100000, tLe, fLe, tLt, fLt, tEq, fEq, zLe_t, zLe_f, zLt_t, zLt_f, zEq_t, zEq_f, nzLe_t, nzLe_f, znLe_t, znLe_f, nzLt_t, nzLt_f, znLt_t, znLt_f, nzEq_t, nzEq_f, znEq_t, znEq_f, f2, rAn_h ra, nI_l, g2, hw]
  rw [wiB_t (by omega) hp (by omega)] at g1 g2
  rw [nI_l (show hr < 2 ^ 31 by omega)] at g2
  have ot := O.2.1.2.2 t ht
  have b1 := isBare11_ok (t := t) (cA_b ca) (by have := hA.2.2.1; omega) (by omega)
  have b2 := rIsBare_ok (t := t) (rAn_b ra) (by have := hA.2.2.1; omega) (by omega)
  cases hb : A.2.2.2.testBit t with
  | true =>
    rw [hb] at b1 b2
    refine go (-1) I ?_ ?_ (fun _ _ => rfl)
    · unfold mX11_then; simp (disch := omega) only [↓reduceIte, Option.bind_some, Option.some.injEq, Prod.mk.injEq, and_self, and_true, true_and, eq_self, reduceCtorEq, not_false_eq_true, not_true_eq_false, or_true, true_or, or_false, false_or, bft, nAdd, nMul, nSub, nDiv, nRem, nAm1, nIx, nIn, bI_z, bI_o, ite_b1, ite_b0, zI_add, zI_sub, li0, li1, li2, li3, li4, li5, li6, li7, li8, li9, li10, li11, li12, li13, li14, li15, li16, li17, li18, li19, li20, li21, li22, li23, li24, li25, li26, li27, li28, li29, li30, li31, li32, li33, li34, li35, li36, li37, li40, li42, li43, li45, li47, li48, li57, li59, li60, li61, li62, li64, li80, li91, li93, li97, li99, li100, li122, li182, li199, li255, li300, li380, li400, li999, li1000, li3640, li4100, li65536, li99999, ln1, ln2, ln3, ln100, ln100000, tLe, fLe, tLt, fLt, tEq, fEq, zLe_t, zLe_f, zLt_t, zLt_f, zEq_t, zEq_f, nzLe_t, nzLe_f, znLe_t, znLe_f, nzLt_t, nzLt_f, znLt_t, znLt_f, nzEq_t, nzEq_f, znEq_t, znEq_f, f1, cA_h ca, g1, b1]
    · unfold mX12_then; simp (disch := omega) only [↓reduceIte, Option.bind_some, Option.some.injEq, Prod.mk.injEq, and_self, and_true, true_and, eq_self, reduceCtorEq, not_false_eq_true, not_true_eq_false, or_true, true_or, or_false, false_or, bft, nAdd, nMul, nSub, nDiv, nRem, nAm1, nIx, nIn, bI_z, bI_o, ite_b1, ite_b0, zI_add, zI_sub, li0, li1, li2, li3, li4, li5, li6, li7, li8, li9, li10, li11, li12, li13, li14, li15, li16, li17, li18, li19, li20, li21, li22, li23, li24, li25, li26, li27, li28, li29, li30, li31, li32, li33, li34, li35, li36, li37, li40, li42, li43, li45, li47, li48, li57, li59, li60, li61, li62, li64, li80, li91, li93, li97, li99, li100, li122, li182, li199, li255, li300, li380, li400, li999, li1000, li3640, li4100, li65536, li99999, ln1, ln2, ln3, ln100, ln100000, tLe, fLe, tLt, fLt, tEq, fEq, zLe_t, zLe_f, zLt_t, zLt_f, zEq_t, zEq_f, nzLe_t, nzLe_f, znLe_t, znLe_f, nzLt_t, nzLt_f, znLt_t, znLt_f, nzEq_t, nzEq_f, znEq_t, znEq_f, f2, rAn_h ra, nI_l, g2, b2]
  | false =>
    rw [hb] at b1 b2
    obtain ⟨J, j1, j2, j3⟩ := rCountsCells_ok O hA (show hr < 100000 by omega) ht true rs ra
    change mX12_countsCells I (nI t) (nI hr) (nI 1) = some J at j1
    have RJ := rSn_congr j2 rs
    have e5 := rCellsIn_ok RJ O ht
    have e6 := rOwnerByCells_ok (part := sPart S) (cells := sFi S (t + 1) - sFi S t) RJ O j3 (fun q => Nat.le_trans (cntV_le O ht _ _ _) (by decide)) (fun q h1 h2 => cntV_zero O hA ht h1) (by omega) (by omega)
    have u1 := then_go (hr := hr) O hA cs ca ht (by omega) xf (sFi S (t + 1) - sFi S t) 0 0 (by unfold xf; omega) (by omega) (by omega)
    have hrg : ∀ j, 0 ≤ j → j < 0 + (sFi S (t + 1) - sFi S t) → (fun j => ownV S A true hr (sFi S t + j)) j = -1 ∨ ∃ q : Nat, q < 4 ∧ (fun j => ownV S A true hr (sFi S t + j)) j = q := fun j _ h2 => (ownV_rng hA true hr (show sFi S t + j < sCe S by omega)).imp id (fun ⟨q, h4, h5⟩ => ⟨q, by omega, h5⟩)
    have hT := talF_lt (own := fun j => ownV S A true hr (sFi S t + j)) (n := sFi S (t + 1) - sFi S t) (k := 0) (by omega) hrg
    rw [Nat.zero_add] at u1
    have u2 := ownerBy_ok (T := talF (fun j => ownV S A true hr (sFi S t + j)) (sFi S (t + 1) - sFi S t) 0) (cells := sFi S (t + 1) - sFi S t) (part := sPart S) (by omega) (by omega) (by omega)
    have u3 : ownC (fun q => talF (fun j => ownV S A true hr (sFi S t + j)) (sFi S (t + 1) - sFi S t) 0 / 16 ^ q % 16) 4 (sFi S (t + 1) - sFi S t) (sPart S) = ownC (cntV S A true hr t) 4 (sFi S (t + 1) - sFi S t) (sPart S) := ownC_congr (fun q hq => by
      rw [talF_at (by omega) hrg hq, cntF_shift]
      rfl) _ _
    rw [u3] at u2
    rw [u2] at u1
    refine go (zI (ownC (cntV S A true hr t) 4 (sFi S (t + 1) - sFi S t) (sPart S))) J ?_ ?_ j2
    · unfold mX11_then; simp (disch := omega) only [↓reduceIte, Option.bind_some, Option.some.injEq, Prod.mk.injEq, and_self, and_true, true_and, eq_self, reduceCtorEq, not_false_eq_true, not_true_eq_false, or_true, true_or, or_false, false_or, bft, nAdd, nMul, nSub, nDiv, nRem, nAm1, nIx, nIn, bI_z, bI_o, ite_b1, ite_b0, zI_add, zI_sub, li0, li1, li2, li3, li4, li5, li6, li7, li8, li9, li10, li11, li12, li13, li14, li15, li16, li17, li18, li19, li20, li21, li22, li23, li24, li25, li26, li27, li28, li29, li30, li31, li32, li33, li34, li35, li36, li37, li40, li42, li43, li45, li47, li48, li57, li59, li60, li61, li62, li64, li80, li91, li93, li97, li99, li100, li122, li182, li199, li255, li300, li380, li400, li999, li1000, li3640, li4100, li65536, li99999, ln1, ln2, ln3, ln100, ln100000, tLe, fLe, tLt, fLt, tEq, fEq, zLe_t, zLe_f, zLt_t, zLt_f, zEq_t, zEq_f, nzLe_t, nzLe_f, znLe_t, znLe_f, nzLt_t, nzLt_f, znLt_t, znLt_f, nzEq_t, nzEq_f, znEq_t, znEq_f, f1, cA_h ca, g1, b1, cS_cn cs ht, u1]
    · unfold mX12_then; simp (disch := omega) only [↓reduceIte, Option.bind_some, Option.some.injEq, Prod.mk.injEq, and_self, and_true, true_and, eq_self, reduceCtorEq, not_false_eq_true, not_true_eq_false, or_true, true_or, or_false, false_or, bft, nAdd, nMul, nSub, nDiv, nRem, nAm1, nIx, nIn, bI_z, bI_o, ite_b1, ite_b0, zI_add, zI_sub, li0, li1, li2, li3, li4, li5, li6, li7, li8, li9, li10, li11, li12, li13, li14, li15, li16, li17, li18, li19, li20, li21, li22, li23, li24, li25, li26, li27, li28, li29, li30, li31, li32, li33, li34, li35, li36, li37, li40, li42, li43, li45, li47, li48, li57, li59, li60, li61, li62, li64, li80, li91, li93, li97, li99, li100, li122, li182, li199, li255, li300, li380, li400, li999, li1000, li3640, li4100, li65536, li99999, ln1, ln2, ln3, ln100, ln100000, tLe, fLe, tLt, fLt, tEq, fEq, zLe_t, zLe_f, zLt_t, zLt_f, zEq_t, zEq_f, nzLe_t, nzLe_f, znLe_t, znLe_f, nzLt_t, nzLt_f, znLt_t, znLt_f, nzEq_t, nzEq_f, znEq_t, znEq_f, f2, rAn_h ra, nI_l, g2, b2, j1, e5, rSn_part RJ, e6]
theorem q_byPart {k : Nat} (hk : k < 512) : st_byPart (Inv k) (Inv (k + 1)) := by
  intro h x y hI
  obtain ⟨n, K, P, I, L⟩ := h
  obtain ⟨⟨G, F⟩, Z, ok, C, R⟩ := id hI
  change RI I Z at R
  have O := okZ_S ok
  have o1 := O.1
  have hA := okZ_A ok
  have hh := okZ_h ok
  have cs := CI_S C
  have ca := CI_A C
  have rs := RI_S R
  have ra := RI_A R
  generalize hS : wS (zW Z) = S at O o1 hA cs ca rs ra
  generalize hAA : wA (zW Z) = A at hA hh ca ra
  have f1 := isThing_ok O cs x
  have f2 := rIsThing_ok rs O x
  have g1 := isWn y 1 100
  have g2 := rInW (lo := 1) (hi := 100) (by decide) (by omega) y
  change mX12_in y.toInt64 (1 : Int64) (100 : Int64) = _ at g2
  have go : ∀ r J, mX11_byPart P I L x y = some r → mX12_byPart I x y = some (r, J) → (∀ b, b ≠ 160 → J b = I b) → ∃ r h1 h2, oX_byPart (n, K, P, I, L) x y = some (r, h1) ∧ GW h1.2.1 h1.2.2.1 ∧ oM_byPart h1 x y = some (r, h2) ∧ Inv (k + 1) h2 := fun r J a b hj => ⟨r, _, _, congrArg (Option.map (fun q => (q, (n, K, P, I, L)))) a, G, congrArg (Option.map (fun q : Int32 × (Nat → Nat → Int32) => ((q.1, (n, K, P, q.2, L)) : Int32 × xH))) b, Inv_q hI hj⟩
  rcases inbC x (sTh S) with hx | ⟨t, ht, rfl⟩
  · refine go (-2) I ?_ ?_ (fun _ _ => rfl)
    · unfold mX11_byPart; simp (disch := omega) only [↓reduceIte, Option.bind_some, Option.some.injEq, Prod.mk.injEq, and_self, and_true, true_and, eq_self, reduceCtorEq, not_false_eq_true, not_true_eq_false, or_true, true_or, or_false, false_or, bft, nAdd, nMul, nSub, nDiv, nRem, nAm1, nIx, nIn, bI_z, bI_o, ite_b1, ite_b0, zI_add, zI_sub, li0, li1, li2, li3, li4, li5, li6, li7, li8, li9, li10, li11, li12, li13, li14, li15, li16, li17, li18, li19, li20, li21, li22, li23, li24, li25, li26, li27, li28, li29, li30, li31, li32, li33, li34, li35, li36, li37, li40, li42, li43, li45, li47, li48, li57, li59, li60, li61, li62, li64, li80, li91, li93, li97, li99, li100, li122, li182, li199, li255, li300, li380, li400, li999, li1000, li3640, li4100, li65536, li99999, ln1, ln2, ln3, ln100, ln100000, tLe, fLe, tLt, fLt, tEq, fEq, zLe_t, zLe_f, zLt_t, zLt_f, zEq_t, zEq_f, nzLe_t, nzLe_f, znLe_t, znLe_f, nzLt_t, nzLt_f, znLt_t, znLt_f, nzEq_t, nzEq_f, znEq_t, znEq_f, f1, hx]
    · unfold mX12_byPart; simp (disch := omega) only [↓reduceIte, Option.bind_some, Option.some.injEq, Prod.mk.injEq, and_self, and_true, true_and, eq_self, reduceCtorEq, not_false_eq_true, not_true_eq_false, or_true, true_or, or_false, false_or, bft, nAdd, nMul, nSub, nDiv, nRem, nAm1, nIx, nIn, bI_z, bI_o, ite_b1, ite_b0, zI_add, zI_sub, li0, li1, li2, li3, li4, li5, li6, li7, li8, li9, li10, li11, li12, li13, li14, li15, li16, li17, li18, li19, li20, li21, li22, li23, li24, li25, li26, li27, li28, li29, li30, li31, li32, li33, li34, li35, li36, li37, li40, li42, li43, li45, li47, li48, li57, li59, li60, li61, li62, li64, li80, li91, li93, li97, li99, li100, li122, li182, li199, li255, li300, li380, li400, li999, li1000, li3640, li4100, li65536, li99999, ln1, ln2, ln3, ln100, ln100000, tLe, fLe, tLt, fLt, tEq, fEq, zLe_t, zLe_f, zLt_t, zLt_f, zEq_t, zEq_f, nzLe_t, nzLe_f, znLe_t, znLe_f, nzLt_t, nzLt_f, znLt_t, znLt_f, nzEq_t, nzEq_f, znEq_t, znEq_f, f2, hx]
  rw [inbT ht (by omega)] at f1 f2
  rcases wiC (lo := 1) (hi := 100) (by decide) (by omega) y with hw | ⟨p, hp1, hp, rfl⟩
  · refine go (-2) I ?_ ?_ (fun _ _ => rfl)
    · unfold mX11_byPart; simp (disch := omega) only [↓reduceIte, Option.bind_some, Option.some.injEq, Prod.mk.injEq, and_self, and_true, true_and, eq_self, reduceCtorEq, not_false_eq_true, not_true_eq_false, or_true, true_or, or_false, false_or, bft, nAdd, nMul, nSub, nDiv, nRem, nAm1, nIx, nIn, bI_z, bI_o, ite_b1, ite_b0, zI_add, zI_sub, li0, li1, li2, li3, li4, li5, li6, li7, li8, li9, li10, li11, li12, li13, li14, li15, li16, li17, li18, li19, li20, li21, li22, li23, li24, li25, li26, li27, li28, li29, li30, li31, li32, li33, li34, li35, li36, li37, li40, li42, li43, li45, li47, li48, li57, li59, li60, li61, li62, li64, li80, li91, li93, li97, li99, li100, li122, li182, li199, li255, li300, li380, li400, li999, li1000, li3640, li4100, li65536, li99999, ln1, ln2, ln3, ln100, ln100000, tLe, fLe, tLt, fLt, tEq, fEq, zLe_t, zLe_f, zLt_t, zLt_f, zEq_t, zEq_f, nzLe_t, nzLe_f, znLe_t, znLe_f, nzLt_t, nzLt_f, znLt_t, znLt_f, nzEq_t, nzEq_f, znEq_t, znEq_f, f1, g1, hw]
    · unfold mX12_byPart; simp (disch := omega) only [↓reduceIte, Option.bind_some, Option.some.injEq, Prod.mk.injEq, and_self, and_true, true_and, eq_self, reduceCtorEq, not_false_eq_true, not_true_eq_false, or_true, true_or, or_false, false_or, bft, nAdd, nMul, nSub, nDiv, nRem, nAm1, nIx, nIn, bI_z, bI_o, ite_b1, ite_b0, zI_add, zI_sub, li0, li1, li2, li3, li4, li5, li6, li7, li8, li9, li10, li11, li12, li13, li14, li15, li16, li17, li18, li19, li20, li21, li22, li23, li24, li25, li26, li27, li28, li29, li30, li31, li32, li33, li34, li35, li36, li37, li40, li42, li43, li45, li47, li48, li57, li59, li60, li61, li62, li64, li80, li91, li93, li97, li99, li100, li122, li182, li199, li255, li300, li380, li400, li999, li1000, li3640, li4100, li65536, li99999, ln1, ln2, ln3, ln100, ln100000, tLe, fLe, tLt, fLt, tEq, fEq, zLe_t, zLe_f, zLt_t, zLt_f, zEq_t, zEq_f, nzLe_t, nzLe_f, znLe_t, znLe_f, nzLt_t, nzLt_f, znLt_t, znLt_f, nzEq_t, nzEq_f, znEq_t, znEq_f, f2, g2, hw]
  rw [wiB_t hp1 hp (by omega)] at g1 g2
  have ot := O.2.1.2.2 t ht
  have b2 := rIsBare_ok (t := t) (rAn_b ra) (by have := hA.2.2.1; omega) (by omega)
  have t1 := tallyOf_ok cs O ca hA (by omega) ht
  have t2 := ownerByT_ok O hA ht (show p < 1000 by omega)
  have cl : mX11_byPart P I L (nI t) (nI p) = some (zI (ownT S A t p)) := by
    unfold mX11_byPart; simp (disch := omega) only [↓reduceIte, Option.bind_some, Option.some.injEq, Prod.mk.injEq, and_self, and_true, true_and, eq_self, reduceCtorEq, not_false_eq_true, not_true_eq_false, or_true, true_or, or_false, false_or, bft, nAdd, nMul, nSub, nDiv, nRem, nAm1, nIx, nIn, bI_z, bI_o, ite_b1, ite_b0, zI_add, zI_sub, li0, li1, li2, li3, li4, li5, li6, li7, li8, li9, li10, li11, li12, li13, li14, li15, li16, li17, li18, li19, li20, li21, li22, li23, li24, li25, li26, li27, li28, li29, li30, li31, li32, li33, li34, li35, li36, li37, li40, li42, li43, li45, li47, li48, li57, li59, li60, li61, li62, li64, li80, li91, li93, li97, li99, li100, li122, li182, li199, li255, li300, li380, li400, li999, li1000, li3640, li4100, li65536, li99999, ln1, ln2, ln3, ln100, ln100000, tLe, fLe, tLt, fLt, tEq, fEq, zLe_t, zLe_f, zLt_t, zLt_f, zEq_t, zEq_f, nzLe_t, nzLe_f, znLe_t, znLe_f, nzLt_t, nzLt_f, znLt_t, znLt_f, nzEq_t, nzEq_f, znEq_t, znEq_f, f1, g1, t1, cS_cn cs ht, t2]
  cases hb : A.2.2.2.testBit t with
  | true =>
    rw [hb] at b2
    refine go (zI (ownT S A t p)) I cl ?_ (fun _ _ => rfl)
    rw [ownT_bare hA ht hb]
    unfold mX12_byPart; simp (disch := omega) only [↓reduceIte, Option.bind_some, Option.some.injEq, Prod.mk.injEq, and_self, and_true, true_and, eq_self, reduceCtorEq, not_false_eq_true, not_true_eq_false, or_true, true_or, or_false, false_or, bft, nAdd, nMul, nSub, nDiv, nRem, nAm1, nIx, nIn, bI_z, bI_o, ite_b1, ite_b0, zI_add, zI_sub, li0, li1, li2, li3, li4, li5, li6, li7, li8, li9, li10, li11, li12, li13, li14, li15, li16, li17, li18, li19, li20, li21, li22, li23, li24, li25, li26, li27, li28, li29, li30, li31, li32, li33, li34, li35, li36, li37, li40, li42, li43, li45, li47, li48, li57, li59, li60, li61, li62, li64, li80, li91, li93, li97, li99, li100, li122, li182, li199, li255, li300, li380, li400, li999, li1000, li3640, li4100, li65536, li99999, ln1, ln2, ln3, ln100, ln100000, tLe, fLe, tLt, fLt, tEq, fEq, zLe_t, zLe_f, zLt_t, zLt_f, zEq_t, zEq_f, nzLe_t, nzLe_f, znLe_t, znLe_f, nzLt_t, nzLt_f, znLt_t, znLt_f, nzEq_t, nzEq_f, znEq_t, znEq_f, f2, g2, b2]
  | false =>
    rw [hb] at b2
    obtain ⟨J, j1, j2, j3⟩ := rCountsCells_ok O hA (show A.2.2.1 < 100000 by omega) ht false rs ra
    change mX12_countsCells I (nI t) (nI A.2.2.1) (nI 0) = some J at j1
    have RJ := rSn_congr j2 rs
    have e5 := rCellsIn_ok RJ O ht
    have e6 := rOwnerByCells_ok (part := p) (cells := sFi S (t + 1) - sFi S t) RJ O j3 (fun q => Nat.le_trans (cntV_le O ht _ _ _) (by decide)) (fun q h1 h2 => cntV_zero O hA ht h1) (by omega) (by omega)
    refine go (zI (ownT S A t p)) J cl ?_ j2
    unfold mX12_byPart; simp (disch := omega) only [↓reduceIte, Option.bind_some, Option.some.injEq, Prod.mk.injEq, and_self, and_true, true_and, eq_self, reduceCtorEq, not_false_eq_true, not_true_eq_false, or_true, true_or, or_false, false_or, bft, nAdd, nMul, nSub, nDiv, nRem, nAm1, nIx, nIn, bI_z, bI_o, ite_b1, ite_b0, zI_add, zI_sub, li0, li1, li2, li3, li4, li5, li6, li7, li8, li9, li10, li11, li12, li13, li14, li15, li16, li17, li18, li19, li20, li21, li22, li23, li24, li25, li26, li27, li28, li29, li30, li31, li32, li33, li34, li35, li36, li37, li40, li42, li43, li45, li47, li48, li57, li59, li60, li61, li62, li64, li80, li91, li93, li97, li99, li100, li122, li182, li199, li255, li300, li380, li400, li999, li1000, li3640, li4100, li65536, li99999, ln1, ln2, ln3, ln100, ln100000, tLe, fLe, tLt, fLt, tEq, fEq, zLe_t, zLe_f, zLt_t, zLt_f, zEq_t, zEq_f, nzLe_t, nzLe_f, znLe_t, znLe_f, nzLt_t, nzLt_f, znLt_t, znLt_f, nzEq_t, nzEq_f, znEq_t, znEq_f, f2, rAn_h ra, g2, b2, j1, e5, e6]
    rfl

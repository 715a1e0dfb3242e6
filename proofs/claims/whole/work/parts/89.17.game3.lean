/-! game: both. -/
theorem xcb6 : ∀ a, a < 17 → ∀ c, c < 7 → a + c ≤ 16 → xcb (nI a) (nI 0) (nI c) 16 6 = true := by decide +kernel
theorem cpyD {α : Type} {f g : Nat → α} {a n j : Nat} (h : j < n) : va_cpy f g a 0 n j = f (a + j) := by
  unfold va_cpy
  rw [if_pos ⟨by omega, by omega⟩]
  rfl
section
variable {S : sT} {A : aT} {q1 q2 N t s : Nat}
def gmT (S : sT) (A : aT) (q1 q2 N t : Nat) : Int × Int := gmV S q1 q2 (sFi S (t + 1) - sFi S t) A.2.2.1 N 0 (fun j => A.1 (sFi S t + j))
theorem cGame_ok {I : Nat → Nat → Int32} {L : Nat → Nat → Int64} (O : okS S) (hA : okA S A) (ps : s = 13 ∨ 171 < s) (ht : t < sTh S) (hh : A.2.2.1 < 900) (h1 : q1 < sPa S) (h2 : q2 < sPa S) (h12 : q1 ≠ q2) (hN : N ≤ 4) (hN1 : 1 ≤ N) (cs : cS I s S) (hL : ∀ c, c < sCe S → L 25 c = lN (enc (A.1 c))) (ha : I 24 2 = nI A.2.2.1) : ∃ I1 L1 I2 J M, mX1_lay I L s 24 (nI t) = some (I1, L1) ∧ mX1_seat I1 (nI q1) (nI q2) (nI N) = some I2 ∧ zX1_play 10 I2 L1 s (0 : Int32) = some (zI (gmT S A q1 q2 N t).1, J, M) ∧ J 102 6 = zI (gmT S A q1 q2 N t).2 ∧ ∀ b, b < 102 ∨ 108 < b → J b = I b ∧ M b = L b := by
  have o1 := O.1
  have ot := O.2.1.2.2 t ht
  have xc := xcb6 (sFi S t) (by omega) (sFi S (t + 1) - sFi S t) (by omega) (by omega)
  have e1 : mX1_lay I L s 24 (nI t) = some (xu (xu I 102 1 (nI A.2.2.1)) 102 2 (nI (sFi S (t + 1) - sFi S t)), xrow L 104 (va_cpy (L 25) (L 104) (sFi S t) 0 (sFi S (t + 1) - sFi S t))) := by
    unfold mX1_lay
    rw [if_pos (nIn (by omega) (by omega)), if_pos (nIn (by omega) (by omega)), nIx (by omega), ha, xu_r (b := s + 2) (by omega), cS_cn cs ht, xu_s, xu_r (b := s + 1) (by omega), xu_r (b := s + 1) (by omega), cS_fi cs ht, show (0 : Int32) = nI 0 from rfl, if_pos xc, nIx (by omega), nIx (by omega), nIx (by omega)]
  have e2 : mX1_seat (xu (xu I 102 1 (nI A.2.2.1)) 102 2 (nI (sFi S (t + 1) - sFi S t))) (nI q1) (nI q2) (nI N) = some (xu (xu (xu (xu (xu (xu I 102 1 (nI A.2.2.1)) 102 2 (nI (sFi S (t + 1) - sFi S t))) 102 3 (nI q1)) 102 4 (nI q2)) 102 5 (nI N)) 102 6 (-1 : Int32)) := by
    unfold mX1_seat mJ9_min_7cf53
    rw [if_neg (show ¬ (4 : Int32) < nI N from fun y => absurd ((nLt (a := 4) (by omega) (by omega)).mp y) (by omega)), Option.bind_some]
  have z : ∀ b, b ≠ 102 → xu (xu (xu (xu (xu (xu I 102 1 (nI A.2.2.1)) 102 2 (nI (sFi S (t + 1) - sFi S t))) 102 3 (nI q1)) 102 4 (nI q2)) 102 5 (nI N)) 102 6 (-1 : Int32) b = I b := fun b hb => by rw [xu_r hb, xu_r hb, xu_r hb, xu_r hb, xu_r hb, xu_r hb]
  obtain ⟨M, m1, m2⟩ := gm_play (C := sFi S (t + 1) - sFi S t) (h := A.2.2.1) O ps (by omega) hh h1 h2 h12 hN hN1 N 0 10 (fun j => A.1 (sFi S t + j)) (xu (xu (xu (xu (xu (xu I 102 1 (nI A.2.2.1)) 102 2 (nI (sFi S (t + 1) - sFi S t))) 102 3 (nI q1)) 102 4 (nI q2)) 102 5 (nI N)) 102 6 (-1 : Int32)) (xrow L 104 (va_cpy (L 25) (L 104) (sFi S t) 0 (sFi S (t + 1) - sFi S t))) (by omega) (by omega) (cS_congr (fun b _ _ => z b (by omega)) cs) ⟨by simp (disch := omega) only [↓reduceIte, Option.bind_some, Option.some.injEq, Prod.mk.injEq, and_self, and_true, true_and, eq_self, reduceCtorEq, not_false_eq_true, not_true_eq_false, or_true, true_or, or_false, false_or, bft, nAdd, nMul, nSub, nDiv, nRem, nAm1, nIx, nIn, bI_z, bI_o, ite_b1, ite_b0, zI_add, zI_sub, li0, li1, li2, li3, li4, li5, li6, li7, li8, li9, li10, li11, li12, li13, li14, li15, li16, li17, li18, li19, li20, li21, li22, li23, li24, li25, li26, li27, li28, li29, li30, li31, li32, li33, li34, li35, li36, li37, li40, li42, li43, li45, li47, li48, li57, li59, li60, li61, li62, li64, li80, li91, li93, li97, li99, li100, li122, li182, li199, li255, li300, li380, li400, li999, li1000, li3640, li4100, li65536, li99999, ln1, ln2, ln3, ln100, ln100000, tLe, fLe, tLt, fLt, tEq, fEq, zLe_t, zLe_f, zLt_t, zLt_f, zEq_t, zEq_f, nzLe_t, nzLe_f, znLe_t, znLe_f, nzLt_t, nzLt_f, znLt_t, znLt_f, nzEq_t, nzEq_f, znEq_t, znEq_f, xu_s, xu_r, xu_c, xrow_at, xrow_r], by simp (disch := omega) only [↓reduceIte, Option.bind_some, Option.some.injEq, Prod.mk.injEq, and_self, and_true, true_and, eq_self, reduceCtorEq, not_false_eq_true, not_true_eq_false, or_true, true_or, or_false, false_or, bft, nAdd, nMul, nSub, nDiv, nRem, nAm1, nIx, nIn, bI_z, bI_o, ite_b1, ite_b0, zI_add, zI_sub, li0, li1, li2, li3, li4, li5, li6, li7, li8, li9, li10, li11, li12, li13, li14, li15, li16, li17, li18, li19, li20, li21, li22, li23, li24, li25, li26, li27, li28, li29, li30, li31, li32, li33, li34, li35, li36, li37, li40, li42, li43, li45, li47, li48, li57, li59, li60, li61, li62, li64, li80, li91, li93, li97, li99, li100, li122, li182, li199, li255, li300, li380, li400, li999, li1000, li3640, li4100, li65536, li99999, ln1, ln2, ln3, ln100, ln100000, tLe, fLe, tLt, fLt, tEq, fEq, zLe_t, zLe_f, zLt_t, zLt_f, zEq_t, zEq_f, nzLe_t, nzLe_f, znLe_t, znLe_f, nzLt_t, nzLt_f, znLt_t, znLt_f, nzEq_t, nzEq_f, znEq_t, znEq_f, xu_s, xu_r, xu_c, xrow_at, xrow_r], by simp (disch := omega) only [↓reduceIte, Option.bind_some, Option.some.injEq, Prod.mk.injEq, and_self, and_true, true_and, eq_self, reduceCtorEq, not_false_eq_true, not_true_eq_false, or_true, true_or, or_false, false_or, bft, nAdd, nMul, nSub, nDiv, nRem, nAm1, nIx, nIn, bI_z, bI_o, ite_b1, ite_b0, zI_add, zI_sub, li0, li1, li2, li3, li4, li5, li6, li7, li8, li9, li10, li11, li12, li13, li14, li15, li16, li17, li18, li19, li20, li21, li22, li23, li24, li25, li26, li27, li28, li29, li30, li31, li32, li33, li34, li35, li36, li37, li40, li42, li43, li45, li47, li48, li57, li59, li60, li61, li62, li64, li80, li91, li93, li97, li99, li100, li122, li182, li199, li255, li300, li380, li400, li999, li1000, li3640, li4100, li65536, li99999, ln1, ln2, ln3, ln100, ln100000, tLe, fLe, tLt, fLt, tEq, fEq, zLe_t, zLe_f, zLt_t, zLt_f, zEq_t, zEq_f, nzLe_t, nzLe_f, znLe_t, znLe_f, nzLt_t, nzLt_f, znLt_t, znLt_f, nzEq_t, nzEq_f, znEq_t, znEq_f, xu_s, xu_r, xu_c, xrow_at, xrow_r], by simp (disch := omega) only [↓reduceIte, Option.bind_some, Option.some.injEq, Prod.mk.injEq, and_self, and_true, true_and, eq_self, reduceCtorEq, not_false_eq_true, not_true_eq_false, or_true, true_or, or_false, false_or, bft, nAdd, nMul, nSub, nDiv, nRem, nAm1, nIx, nIn, bI_z, bI_o, ite_b1, ite_b0, zI_add, zI_sub, li0, li1, li2, li3, li4, li5, li6, li7, li8, li9, li10, li11, li12, li13, li14, li15, li16, li17, li18, li19, li20, li21, li22, li23, li24, li25, li26, li27, li28, li29, li30, li31, li32, li33, li34, li35, li36, li37, li40, li42, li43, li45, li47, li48, li57, li59, li60, li61, li62, li64, li80, li91, li93, li97, li99, li100, li122, li182, li199, li255, li300, li380, li400, li999, li1000, li3640, li4100, li65536, li99999, ln1, ln2, ln3, ln100, ln100000, tLe, fLe, tLt, fLt, tEq, fEq, zLe_t, zLe_f, zLt_t, zLt_f, zEq_t, zEq_f, nzLe_t, nzLe_f, znLe_t, znLe_f, nzLt_t, nzLt_f, znLt_t, znLt_f, nzEq_t, nzEq_f, znEq_t, znEq_f, xu_s, xu_r, xu_c, xrow_at, xrow_r], by simp (disch := omega) only [↓reduceIte, Option.bind_some, Option.some.injEq, Prod.mk.injEq, and_self, and_true, true_and, eq_self, reduceCtorEq, not_false_eq_true, not_true_eq_false, or_true, true_or, or_false, false_or, bft, nAdd, nMul, nSub, nDiv, nRem, nAm1, nIx, nIn, bI_z, bI_o, ite_b1, ite_b0, zI_add, zI_sub, li0, li1, li2, li3, li4, li5, li6, li7, li8, li9, li10, li11, li12, li13, li14, li15, li16, li17, li18, li19, li20, li21, li22, li23, li24, li25, li26, li27, li28, li29, li30, li31, li32, li33, li34, li35, li36, li37, li40, li42, li43, li45, li47, li48, li57, li59, li60, li61, li62, li64, li80, li91, li93, li97, li99, li100, li122, li182, li199, li255, li300, li380, li400, li999, li1000, li3640, li4100, li65536, li99999, ln1, ln2, ln3, ln100, ln100000, tLe, fLe, tLt, fLt, tEq, fEq, zLe_t, zLe_f, zLt_t, zLt_f, zEq_t, zEq_f, nzLe_t, nzLe_f, znLe_t, znLe_f, nzLt_t, nzLt_f, znLt_t, znLt_f, nzEq_t, nzEq_f, znEq_t, znEq_f, xu_s, xu_r, xu_c, xrow_at, xrow_r]⟩ (fun j hj => hA.1 _ (by omega)) (fun j hj => by
    show xrow L 104 _ 104 j = _
    rw [xrow_at, cpyD hj, hL _ (by omega)])
  refine ⟨_, _, _, _, M, e1, e2, m1, ?_, fun b hb => ⟨?_, ?_⟩⟩
  · unfold k0G
    rw [if_pos rfl, xu_s]
    rfl
  · rw [k0G_r (by omega), z b (by omega)]
  · rw [m2 b (by omega), xrow_r (by omega)]
theorem rGame_ok {I : Nat → Nat → Int32} (O : okS S) (hA : okA S A) (ht : t < sTh S) (hh : A.2.2.1 < 900) (h1 : q1 < sPa S) (h2 : q2 < sPa S) (hN : N ≤ 4) (hN1 : 1 ≤ N) (hb : A.2.2.2.testBit t = false) (R : rSn I S) (RA : rAn I S A) : ∃ J, mX12_playsGame I (nI q1) (nI q2) (nI t) (nI N) = some (zI (gmT S A q1 q2 N t).1, J) ∧ J 123 58 = zI (fcG (sFi S t) (gmT S A q1 q2 N t).2) ∧ f5 I J ∧ aR I J := by
  have o1 := O.1
  have ot := O.2.1.2.2 t ht
  obtain ⟨H0, k1, k2, k3, k4, k5⟩ := keepsAll_ok I
  have k6 : f5 I H0 := fun r i h1 h2 => k5 r i (by unfold fv at h1; omega) (by unfold fv at h1; omega) (Or.inl (by unfold fv at h1; omega))
  have hg : inG I (xu (xu H0 166 0 (zI (-2))) 167 0 (nI 1000)) := inG_w (I := H0) ⟨k6, k4, k2⟩ (fun b i w1 w2 _ => by rw [xu_r w2, xu_r w1])
  have hc := gCo_le (show sFi S (t + 1) - sFi S t ≤ 6 by omega) N
  have hc4 := gCo_4 N (by omega)
  obtain ⟨g, hgf⟩ : ∃ g, 1000000 = gCo (sFi S (t + 1) - sFi S t) N + (g + 1) := ⟨999999 - gCo (sFi S (t + 1) - sFi S t) N, by omega⟩
  obtain ⟨J, p1, p2, -, p4⟩ := pg_go (C := sFi S (t + 1) - sFi S t) O hA ht rfl hh h1 h2 hN hN1 hb R RA N 0 (g + 1) (xu (xu H0 166 0 (zI (-2))) 167 0 (nI 1000)) (fun _ => -1) (by omega) hg (fun j hj => absurd hj (by omega)) (fun j hj => absurd hj (by omega)) (by rw [xu_r (by decide), xu_s]) xu_s
  obtain ⟨p5, p6⟩ := p4 rfl
  change J 167 0 = zI (gmT S A q1 q2 N t).1 at p5
  refine ⟨J, ?_, p6, p2.1, p2.2.1⟩
  unfold fnG at p1
  rw [if_pos rfl, ← hgf] at p1
  unfold mX12_playsGame
  rw [k1, Option.bind_some, lm2]
  refine Eq.trans p1 ?_
  unfold PG
  rw [mX12_playsGame_24, if_pos (by decide +kernel), p5]
end
theorem q_game {k : Nat} (hk : k < 512) : st_game (Inv k) (Inv (k + 1)) := by
  intro h x x2 y z w hI
  obtain ⟨n, K, P, I, L⟩ := h
  obtain ⟨⟨G, F⟩, Z, ok, C, R⟩ := id hI
  change RI I Z at R
  have O := okZ_S ok
  have o1 := O.1
  have hA := okZ_A ok
  have hh := okZ_h ok
  have cs := CI_S C
  have ca := CI_A C
  have rs := RI_S R
  have ra := RI_A R
  generalize hS : wS (zW Z) = S at O o1 hA cs ca rs ra
  generalize hAA : wA (zW Z) = A at hA hh ca ra
  have pl := CI_p C
  have hf := ok.1.2.2.2.2.2.2
  have hrl := ok.2.2.1
  have hX := CI_ruX C
  have hro : ∀ J, J 124 12 = I 124 12 → (∀ b, 150 ≤ b → b ≤ 156 → J b = I b) → rRo J (ruF (zR Z) (wF (zW Z))) := fun J h1 h2 => rRo_of hrl.1 hrl.2 (h1.trans R.1.2.2.2.2.2.2) (fun r ru hr => rR_congr (fun b h3 h4 => h2 b (by omega) h4) (R.2.2.1.2 r ru hr)) hf.1 hf.2
  have no : mX11_game P I L x x2 y z w = some (-100, I, L) → mX12_game I x x2 y z w = some (-100, I) → ∃ r h1 h2, oX_game (n, K, P, I, L) x x2 y z w = some (r, h1) ∧ GW h1.2.1 h1.2.2.1 ∧ oM_game h1 x x2 y z w = some (r, h2) ∧ Inv (k + 1) h2 := fun a b => ⟨-100, (n, K, P, I, L), (n, K, P, I, L), by unfold oX_game; simp only [a]; rfl, G, by unfold oM_game; simp only [b]; rfl, Inv_q hI (fun _ _ => rfl)⟩
  have a1 := isPainter_ok O cs x
  have a2 := rIsPainter_ok rs O x
  have c1 := isPainter_ok O cs x2
  have c2 := rIsPainter_ok rs O x2
  have b1 := isThing_ok O cs y
  have b2 := rIsThing_ok rs O y
  have z1 := isWn z 1 4
  have z2 := rInW (lo := 1) (hi := 4) (by decide) (by decide) z
  change mX12_in z.toInt64 (1 : Int64) (4 : Int64) = _ at z2
  have w1 := isWn w 0 1
  have w2 := rInW (lo := 0) (hi := 1) (by decide) (by decide) w
  change mX12_in w.toInt64 (0 : Int64) (1 : Int64) = _ at w2
  rcases inbC x (sPa S) with hx | ⟨q1, hq1, rfl⟩
  · refine no ?_ ?_
    · unfold mX11_game
      rw [a1, Option.bind_some, hx, if_pos (show bI false = 0 by decide)]
    · unfold mX12_game
      rw [a2, Option.bind_some, hx, if_pos (show bI false = 0 by decide)]
  rw [inbT hq1 (by omega)] at a1 a2
  rcases inbC x2 (sPa S) with hx | ⟨q2, hq2, rfl⟩
  · refine no ?_ ?_
    · unfold mX11_game
      rw [a1, Option.bind_some, if_neg (show ¬ bI true = 0 by decide), c1, Option.bind_some, hx, if_pos (show bI false = 0 by decide)]
    · unfold mX12_game
      rw [a2, Option.bind_some, if_neg (show ¬ bI true = 0 by decide), c2, Option.bind_some, hx, if_pos (show bI false = 0 by decide)]
  rw [inbT hq2 (by omega)] at c1 c2
  by_cases h12 : q1 = q2
  · subst h12
    refine no ?_ ?_
    · unfold mX11_game
      rw [a1, Option.bind_some, if_neg (show ¬ bI true = 0 by decide), Option.bind_some, if_neg (show ¬ bI true = 0 by decide), if_pos rfl]
    · unfold mX12_game
      rw [a2, Option.bind_some, if_neg (show ¬ bI true = 0 by decide), Option.bind_some, if_neg (show ¬ bI true = 0 by decide), if_pos rfl]
  rcases inbC y (sTh S) with hy | ⟨t, ht, rfl⟩
  · refine no ?_ ?_
    · unfold mX11_game
      rw [a1, Option.bind_some, if_neg (show ¬ bI true = 0 by decide), c1, Option.bind_some, if_neg (show ¬ bI true = 0 by decide), if_neg (fun y => h12 ((nEq (by omega) (by omega)).mp y)), b1, Option.bind_some, hy, if_pos (show bI false = 0 by decide)]
    · unfold mX12_game; simp (disch := omega) only [↓reduceIte, Option.bind_some, Option.some.injEq, Prod.mk.injEq, and_self, and_true, true_and, eq_self, reduceCtorEq, not_false_eq_true, not_true_eq_false, or_true, true_or, or_false, false_or, bft, nAdd, nMul, nSub, nDiv, nRem, nAm1, nIx, nIn, bI_z, bI_o, ite_b1, ite_b0, zI_add, zI_sub, li0, li1, li2, li3, li4, li5, li6, li7, li8, li9, li10, li11, li12, li13, li14, li15, li16, li17, li18, li19, li20, li21, li22, li23, li24, li25, li26, li27, li28, li29, li30, li31, li32, li33, li34, li35, li36, li37, li40, li42, li43, li45, li47, li48, li57, li59, li60, li61, li62, li64, li80, li91, li93, li97, li99, li100, li122, li182, li199, li255, li300, li380, li400, li999, li1000, li3640, li4100, li65536, li99999, ln1, ln2, ln3, ln100, ln100000, tLe, fLe, tLt, fLt, tEq, fEq, zLe_t, zLe_f, zLt_t, zLt_f, zEq_t, zEq_f, nzLe_t, nzLe_f, znLe_t, znLe_f, nzLt_t, nzLt_f, znLt_t, znLt_f, nzEq_t, nzEq_f, znEq_t, znEq_f, a2, c2, b2, hy]
  rw [inbT ht (by omega)] at b1 b2
  have ot := O.2.1.2.2 t ht
  have d1 := isBare11_ok (t := t) (cA_b ca) (by have := hA.2.2.1; omega) (by omega)
  have d2 := rIsBare_ok (t := t) (rAn_b ra) (by have := hA.2.2.1; omega) (by omega)
  cases hb : A.2.2.2.testBit t with
  | true =>
    rw [hb] at d1 d2
    refine no ?_ ?_
    · unfold mX11_game; simp (disch := omega) only [↓reduceIte, Option.bind_some, Option.some.injEq, Prod.mk.injEq, and_self, and_true, true_and, eq_self, reduceCtorEq, not_false_eq_true, not_true_eq_false, or_true, true_or, or_false, false_or, bft, nAdd, nMul, nSub, nDiv, nRem, nAm1, nIx, nIn, bI_z, bI_o, ite_b1, ite_b0, zI_add, zI_sub, li0, li1, li2, li3, li4, li5, li6, li7, li8, li9, li10, li11, li12, li13, li14, li15, li16, li17, li18, li19, li20, li21, li22, li23, li24, li25, li26, li27, li28, li29, li30, li31, li32, li33, li34, li35, li36, li37, li40, li42, li43, li45, li47, li48, li57, li59, li60, li61, li62, li64, li80, li91, li93, li97, li99, li100, li122, li182, li199, li255, li300, li380, li400, li999, li1000, li3640, li4100, li65536, li99999, ln1, ln2, ln3, ln100, ln100000, tLe, fLe, tLt, fLt, tEq, fEq, zLe_t, zLe_f, zLt_t, zLt_f, zEq_t, zEq_f, nzLe_t, nzLe_f, znLe_t, znLe_f, nzLt_t, nzLt_f, znLt_t, znLt_f, nzEq_t, nzEq_f, znEq_t, znEq_f, a1, c1, b1, d1]
    · unfold mX12_game; simp (disch := omega) only [↓reduceIte, Option.bind_some, Option.some.injEq, Prod.mk.injEq, and_self, and_true, true_and, eq_self, reduceCtorEq, not_false_eq_true, not_true_eq_false, or_true, true_or, or_false, false_or, bft, nAdd, nMul, nSub, nDiv, nRem, nAm1, nIx, nIn, bI_z, bI_o, ite_b1, ite_b0, zI_add, zI_sub, li0, li1, li2, li3, li4, li5, li6, li7, li8, li9, li10, li11, li12, li13, li14, li15, li16, li17, li18, li19, li20, li21, li22, li23, li24, li25, li26, li27, li28, li29, li30, li31, li32, li33, li34, li35, li36, li37, li40, li42, li43, li45, li47, li48, li57, li59, li60, li61, li62, li64, li80, li91, li93, li97, li99, li100, li122, li182, li199, li255, li300, li380, li400, li999, li1000, li3640, li4100, li65536, li99999, ln1, ln2, ln3, ln100, ln100000, tLe, fLe, tLt, fLt, tEq, fEq, zLe_t, zLe_f, zLt_t, zLt_f, zEq_t, zEq_f, nzLe_t, nzLe_f, znLe_t, znLe_f, nzLt_t, nzLt_f, znLt_t, znLt_f, nzEq_t, nzEq_f, znEq_t, znEq_f, a2, c2, b2, d2]
  | false =>
    rw [hb] at d1 d2
    rcases wiC (lo := 1) (hi := 4) (by decide) (by decide) z with hz | ⟨m, hm1, hm, rfl⟩
    · refine no ?_ ?_
      · unfold mX11_game; simp (disch := omega) only [↓reduceIte, Option.bind_some, Option.some.injEq, Prod.mk.injEq, and_self, and_true, true_and, eq_self, reduceCtorEq, not_false_eq_true, not_true_eq_false, or_true, true_or, or_false, false_or, bft, nAdd, nMul, nSub, nDiv, nRem, nAm1, nIx, nIn, bI_z, bI_o, ite_b1, ite_b0, zI_add, zI_sub, li0, li1, li2, li3, li4, li5, li6, li7, li8, li9, li10, li11, li12, li13, li14, li15, li16, li17, li18, li19, li20, li21, li22, li23, li24, li25, li26, li27, li28, li29, li30, li31, li32, li33, li34, li35, li36, li37, li40, li42, li43, li45, li47, li48, li57, li59, li60, li61, li62, li64, li80, li91, li93, li97, li99, li100, li122, li182, li199, li255, li300, li380, li400, li999, li1000, li3640, li4100, li65536, li99999, ln1, ln2, ln3, ln100, ln100000, tLe, fLe, tLt, fLt, tEq, fEq, zLe_t, zLe_f, zLt_t, zLt_f, zEq_t, zEq_f, nzLe_t, nzLe_f, znLe_t, znLe_f, nzLt_t, nzLt_f, znLt_t, znLt_f, nzEq_t, nzEq_f, znEq_t, znEq_f, a1, c1, b1, d1, z1, hz]
      · unfold mX12_game; simp (disch := omega) only [↓reduceIte, Option.bind_some, Option.some.injEq, Prod.mk.injEq, and_self, and_true, true_and, eq_self, reduceCtorEq, not_false_eq_true, not_true_eq_false, or_true, true_or, or_false, false_or, bft, nAdd, nMul, nSub, nDiv, nRem, nAm1, nIx, nIn, bI_z, bI_o, ite_b1, ite_b0, zI_add, zI_sub, li0, li1, li2, li3, li4, li5, li6, li7, li8, li9, li10, li11, li12, li13, li14, li15, li16, li17, li18, li19, li20, li21, li22, li23, li24, li25, li26, li27, li28, li29, li30, li31, li32, li33, li34, li35, li36, li37, li40, li42, li43, li45, li47, li48, li57, li59, li60, li61, li62, li64, li80, li91, li93, li97, li99, li100, li122, li182, li199, li255, li300, li380, li400, li999, li1000, li3640, li4100, li65536, li99999, ln1, ln2, ln3, ln100, ln100000, tLe, fLe, tLt, fLt, tEq, fEq, zLe_t, zLe_f, zLt_t, zLt_f, zEq_t, zEq_f, nzLe_t, nzLe_f, znLe_t, znLe_f, nzLt_t, nzLt_f, znLt_t, znLt_f, nzEq_t, nzEq_f, znEq_t, znEq_f, a2, c2, b2, d2, z2, hz]
    rw [wiB_t hm1 hm (by omega)] at z1 z2
    rcases wiC (lo := 0) (hi := 1) (by decide) (by decide) w with hw | ⟨p, -, hp, rfl⟩
    · refine no ?_ ?_
      · unfold mX11_game; simp (disch := omega) only [↓reduceIte, Option.bind_some, Option.some.injEq, Prod.mk.injEq, and_self, and_true, true_and, eq_self, reduceCtorEq, not_false_eq_true, not_true_eq_false, or_true, true_or, or_false, false_or, bft, nAdd, nMul, nSub, nDiv, nRem, nAm1, nIx, nIn, bI_z, bI_o, ite_b1, ite_b0, zI_add, zI_sub, li0, li1, li2, li3, li4, li5, li6, li7, li8, li9, li10, li11, li12, li13, li14, li15, li16, li17, li18, li19, li20, li21, li22, li23, li24, li25, li26, li27, li28, li29, li30, li31, li32, li33, li34, li35, li36, li37, li40, li42, li43, li45, li47, li48, li57, li59, li60, li61, li62, li64, li80, li91, li93, li97, li99, li100, li122, li182, li199, li255, li300, li380, li400, li999, li1000, li3640, li4100, li65536, li99999, ln1, ln2, ln3, ln100, ln100000, tLe, fLe, tLt, fLt, tEq, fEq, zLe_t, zLe_f, zLt_t, zLt_f, zEq_t, zEq_f, nzLe_t, nzLe_f, znLe_t, znLe_f, nzLt_t, nzLt_f, znLt_t, znLt_f, nzEq_t, nzEq_f, znEq_t, znEq_f, a1, c1, b1, d1, z1, w1, hw]
      · unfold mX12_game; simp (disch := omega) only [↓reduceIte, Option.bind_some, Option.some.injEq, Prod.mk.injEq, and_self, and_true, true_and, eq_self, reduceCtorEq, not_false_eq_true, not_true_eq_false, or_true, true_or, or_false, false_or, bft, nAdd, nMul, nSub, nDiv, nRem, nAm1, nIx, nIn, bI_z, bI_o, ite_b1, ite_b0, zI_add, zI_sub, li0, li1, li2, li3, li4, li5, li6, li7, li8, li9, li10, li11, li12, li13, li14, li15, li16, li17, li18, li19, li20, li21, li22, li23, li24, li25, li26, li27, li28, li29, li30, li31, li32, li33, li34, li35, li36, li37, li40, li42, li43, li45, li47, li48, li57, li59, li60, li61, li62, li64, li80, li91, li93, li97, li99, li100, li122, li182, li199, li255, li300, li380, li400, li999, li1000, li3640, li4100, li65536, li99999, ln1, ln2, ln3, ln100, ln100000, tLe, fLe, tLt, fLt, tEq, fEq, zLe_t, zLe_f, zLt_t, zLt_f, zEq_t, zEq_f, nzLe_t, nzLe_f, znLe_t, znLe_f, nzLt_t, nzLt_f, znLt_t, znLt_f, nzEq_t, nzEq_f, znEq_t, znEq_f, a2, c2, b2, d2, z2, w2, hw]
    rw [wiB_t (by omega) hp (by omega)] at w1 w2
    obtain ⟨I1, L1, I2, J, M, e1, e2, e3, e4, e5⟩ := cGame_ok (N := m) (L := L) O hA pl ht (by omega) hq1 hq2 h12 (by omega) (by omega) cs ca.1 (cA_h ca)
    have hJ : ∀ b, b < 92 ∨ 122 < b → J b = I b ∧ M b = L b := fun b hb => e5 b (by omega)
    have csJ : cS J (P 12 0) S := cS_congr (fun b q1 q2 => (e5 b (by omega)).1) cs
    have R0 : RI J Z := RI_cls ok (fun b h1 h2 => (hJ b (by omega)).1) R
    have rsJ : rSn J S := by rw [← hS]; exact R0.1.1
    have raJ : rAn J S A := by rw [← hS, ← hAA]; exact R0.1.2.1
    obtain ⟨H, u1, u2, u3, u4⟩ := rGame_ok (N := m) O hA ht (by omega) hq1 hq2 (by omega) (by omega) hb rsJ raJ
    have a3 := rIsPainter_ok rsJ O (nI q1)
    rw [inbT hq1 (by omega)] at a3
    have c3 := rIsPainter_ok rsJ O (nI q2)
    rw [inbT hq2 (by omega)] at c3
    have b3 := rIsThing_ok rsJ O (nI t)
    rw [inbT ht (by omega)] at b3
    have d3 := rIsBare_ok (t := t) (rAn_b raJ) (by have := hA.2.2.1; omega) (by omega)
    rw [hb] at d3
    have vr := gmV_rng (S := S) (q1 := q1) (q2 := q2) (C := sFi S (t + 1) - sFi S t) (h := A.2.2.1) m 0 (fun j => A.1 (sFi S t + j))
    change (_ ≤ (gmT S A q1 q2 m t).1 ∧ (gmT S A q1 q2 m t).1 ≤ _) ∧ (-1 ≤ (gmT S A q1 q2 m t).2 ∧ (gmT S A q1 q2 m t).2 < _) at vr
    generalize gmT S A q1 q2 m t = v at e3 e4 u1 u2 vr
    have fin : ∀ r, mX11_game P I L (nI q1) (nI q2) (nI t) (nI m) (nI p) = some (r, J, M) → mX12_game J (nI q1) (nI q2) (nI t) (nI m) (nI p) = some (r, H) → ∃ r h1 h2, oX_game (n, K, P, I, L) (nI q1) (nI q2) (nI t) (nI m) (nI p) = some (r, h1) ∧ GW h1.2.1 h1.2.2.1 ∧ oM_game h1 (nI q1) (nI q2) (nI t) (nI m) (nI p) = some (r, h2) ∧ Inv (k + 1) h2 := fun r h1 h2 => ⟨r, (n, K, P, J, M), (n, K, P, H, M), by unfold oX_game; simp only [h1]; rfl, G, by unfold oM_game; simp only [h2]; rfl, Inv_asked G F ok C R hJ u4 u3 (fun _ _ _ => rfl)⟩
    have z1' : mX11_isWithin (nI m) (1 : Int32) (4 : Int32) = some (bI true) := z1
    have w1' : mX11_isWithin (nI p) (0 : Int32) (1 : Int32) = some (bI true) := w1
    have eX : mX11_game P I L (nI q1) (nI q2) (nI t) (nI m) (nI p) = (if nI p = 0 then (some (zI v.1, J, M)) else (if (J 102 6) = (-1 : Int32) then (some ((-1 : Int32), J, M)) else (if inb (nI t) 4 = true then (some (((J ((P 12 0) + 1) (ix (nI t))) + (J 102 6)), J, M)) else none))) := by
      unfold mX11_game
      rw [a1, Option.bind_some, if_neg (show ¬ bI true = 0 by decide), c1, Option.bind_some, if_neg (show ¬ bI true = 0 by decide), if_neg (fun y => h12 ((nEq (by omega) (by omega)).mp y)), b1, Option.bind_some, if_neg (show ¬ bI true = 0 by decide), d1, Option.bind_some, if_pos (show bI false = 0 by decide), z1', Option.bind_some, if_neg (show ¬ bI true = 0 by decide), w1', Option.bind_some, if_neg (show ¬ bI true = 0 by decide), e1, Option.bind_some, e2, Option.bind_some, e3, Option.bind_some]
    have eM : mX12_game J (nI q1) (nI q2) (nI t) (nI m) (nI p) = (if nI p = 0 then (some (zI v.1, H)) else (some ((H 123 58), H))) := by
      unfold mX12_game
      rw [a3, Option.bind_some, if_neg (show ¬ bI true = 0 by decide), c3, Option.bind_some, if_neg (show ¬ bI true = 0 by decide), if_neg (fun y => h12 ((nEq (by omega) (by omega)).mp y)), b3, Option.bind_some, if_neg (show ¬ bI true = 0 by decide), d3, Option.bind_some, if_pos (show bI false = 0 by decide), z2, Option.bind_some, if_neg (show ¬ bI true = 0 by decide), w2, Option.bind_some, if_neg (show ¬ bI true = 0 by decide), u1, Option.bind_some]
    rcases (show p = 0 ∨ p = 1 by omega) with rfl | rfl
    · refine fin (zI v.1) ?_ ?_
      · rw [eX]; simp (disch := omega) only [↓reduceIte, Option.bind_some, Option.some.injEq, Prod.mk.injEq, and_self, and_true, true_and, eq_self, reduceCtorEq, not_false_eq_true, not_true_eq_false, or_true, true_or, or_false, false_or, bft, nAdd, nMul, nSub, nDiv, nRem, nAm1, nIx, nIn, bI_z, bI_o, ite_b1, ite_b0, zI_add, zI_sub, li0, li1, li2, li3, li4, li5, li6, li7, li8, li9, li10, li11, li12, li13, li14, li15, li16, li17, li18, li19, li20, li21, li22, li23, li24, li25, li26, li27, li28, li29, li30, li31, li32, li33, li34, li35, li36, li37, li40, li42, li43, li45, li47, li48, li57, li59, li60, li61, li62, li64, li80, li91, li93, li97, li99, li100, li122, li182, li199, li255, li300, li380, li400, li999, li1000, li3640, li4100, li65536, li99999, ln1, ln2, ln3, ln100, ln100000, tLe, fLe, tLt, fLt, tEq, fEq, zLe_t, zLe_f, zLt_t, zLt_f, zEq_t, zEq_f, nzLe_t, nzLe_f, znLe_t, znLe_f, nzLt_t, nzLt_f, znLt_t, znLt_f, nzEq_t, nzEq_f, znEq_t, znEq_f]
      · rw [eM]; simp (disch := omega) only [↓reduceIte, Option.bind_some, Option.some.injEq, Prod.mk.injEq, and_self, and_true, true_and, eq_self, reduceCtorEq, not_false_eq_true, not_true_eq_false, or_true, true_or, or_false, false_or, bft, nAdd, nMul, nSub, nDiv, nRem, nAm1, nIx, nIn, bI_z, bI_o, ite_b1, ite_b0, zI_add, zI_sub, li0, li1, li2, li3, li4, li5, li6, li7, li8, li9, li10, li11, li12, li13, li14, li15, li16, li17, li18, li19, li20, li21, li22, li23, li24, li25, li26, li27, li28, li29, li30, li31, li32, li33, li34, li35, li36, li37, li40, li42, li43, li45, li47, li48, li57, li59, li60, li61, li62, li64, li80, li91, li93, li97, li99, li100, li122, li182, li199, li255, li300, li380, li400, li999, li1000, li3640, li4100, li65536, li99999, ln1, ln2, ln3, ln100, ln100000, tLe, fLe, tLt, fLt, tEq, fEq, zLe_t, zLe_f, zLt_t, zLt_f, zEq_t, zEq_f, nzLe_t, nzLe_f, znLe_t, znLe_f, nzLt_t, nzLt_f, znLt_t, znLt_f, nzEq_t, nzEq_f, znEq_t, znEq_f]
    · unfold fcG at u2
      by_cases hv : v.2 = -1
      · rw [hv] at e4
        rw [if_pos hv] at u2
        refine fin (zI (-1)) ?_ ?_
        · rw [eX]; simp (disch := omega) only [↓reduceIte, Option.bind_some, Option.some.injEq, Prod.mk.injEq, and_self, and_true, true_and, eq_self, reduceCtorEq, not_false_eq_true, not_true_eq_false, or_true, true_or, or_false, false_or, bft, nAdd, nMul, nSub, nDiv, nRem, nAm1, nIx, nIn, bI_z, bI_o, ite_b1, ite_b0, zI_add, zI_sub, li0, li1, li2, li3, li4, li5, li6, li7, li8, li9, li10, li11, li12, li13, li14, li15, li16, li17, li18, li19, li20, li21, li22, li23, li24, li25, li26, li27, li28, li29, li30, li31, li32, li33, li34, li35, li36, li37, li40, li42, li43, li45, li47, li48, li57, li59, li60, li61, li62, li64, li80, li91, li93, li97, li99, li100, li122, li182, li199, li255, li300, li380, li400, li999, li1000, li3640, li4100, li65536, li99999, ln1, ln2, ln3, ln100, ln100000, tLe, fLe, tLt, fLt, tEq, fEq, zLe_t, zLe_f, zLt_t, zLt_f, zEq_t, zEq_f, nzLe_t, nzLe_f, znLe_t, znLe_f, nzLt_t, nzLt_f, znLt_t, znLt_f, nzEq_t, nzEq_f, znEq_t, znEq_f, e4]
        · rw [eM]; simp (disch := omega) only [↓reduceIte, Option.bind_some, Option.some.injEq, Prod.mk.injEq, and_self, and_true, true_and, eq_self, reduceCtorEq, not_false_eq_true, not_true_eq_false, or_true, true_or, or_false, false_or, bft, nAdd, nMul, nSub, nDiv, nRem, nAm1, nIx, nIn, bI_z, bI_o, ite_b1, ite_b0, zI_add, zI_sub, li0, li1, li2, li3, li4, li5, li6, li7, li8, li9, li10, li11, li12, li13, li14, li15, li16, li17, li18, li19, li20, li21, li22, li23, li24, li25, li26, li27, li28, li29, li30, li31, li32, li33, li34, li35, li36, li37, li40, li42, li43, li45, li47, li48, li57, li59, li60, li61, li62, li64, li80, li91, li93, li97, li99, li100, li122, li182, li199, li255, li300, li380, li400, li999, li1000, li3640, li4100, li65536, li99999, ln1, ln2, ln3, ln100, ln100000, tLe, fLe, tLt, fLt, tEq, fEq, zLe_t, zLe_f, zLt_t, zLt_f, zEq_t, zEq_f, nzLe_t, nzLe_f, znLe_t, znLe_f, nzLt_t, nzLt_f, znLt_t, znLt_f, nzEq_t, nzEq_f, znEq_t, znEq_f, u2]
      · rw [if_neg hv] at u2
        obtain ⟨c, hc⟩ : ∃ c : Nat, v.2 = c := ⟨v.2.toNat, by omega⟩
        rw [hc, zI_nat] at e4
        rw [hc] at u2
        refine fin (nI (sFi S t + c)) ?_ ?_
        · rw [eX]; simp (disch := omega) only [↓reduceIte, Option.bind_some, Option.some.injEq, Prod.mk.injEq, and_self, and_true, true_and, eq_self, reduceCtorEq, not_false_eq_true, not_true_eq_false, or_true, true_or, or_false, false_or, bft, nAdd, nMul, nSub, nDiv, nRem, nAm1, nIx, nIn, bI_z, bI_o, ite_b1, ite_b0, zI_add, zI_sub, li0, li1, li2, li3, li4, li5, li6, li7, li8, li9, li10, li11, li12, li13, li14, li15, li16, li17, li18, li19, li20, li21, li22, li23, li24, li25, li26, li27, li28, li29, li30, li31, li32, li33, li34, li35, li36, li37, li40, li42, li43, li45, li47, li48, li57, li59, li60, li61, li62, li64, li80, li91, li93, li97, li99, li100, li122, li182, li199, li255, li300, li380, li400, li999, li1000, li3640, li4100, li65536, li99999, ln1, ln2, ln3, ln100, ln100000, tLe, fLe, tLt, fLt, tEq, fEq, zLe_t, zLe_f, zLt_t, zLt_f, zEq_t, zEq_f, nzLe_t, nzLe_f, znLe_t, znLe_f, nzLt_t, nzLt_f, znLt_t, znLt_f, nzEq_t, nzEq_f, znEq_t, znEq_f, e4, cS_fi csJ ht]
        · rw [eM]; simp (disch := omega) only [↓reduceIte, Option.bind_some, Option.some.injEq, Prod.mk.injEq, and_self, and_true, true_and, eq_self, reduceCtorEq, not_false_eq_true, not_true_eq_false, or_true, true_or, or_false, false_or, bft, nAdd, nMul, nSub, nDiv, nRem, nAm1, nIx, nIn, bI_z, bI_o, ite_b1, ite_b0, zI_add, zI_sub, li0, li1, li2, li3, li4, li5, li6, li7, li8, li9, li10, li11, li12, li13, li14, li15, li16, li17, li18, li19, li20, li21, li22, li23, li24, li25, li26, li27, li28, li29, li30, li31, li32, li33, li34, li35, li36, li37, li40, li42, li43, li45, li47, li48, li57, li59, li60, li61, li62, li64, li80, li91, li93, li97, li99, li100, li122, li182, li199, li255, li300, li380, li400, li999, li1000, li3640, li4100, li65536, li99999, ln1, ln2, ln3, ln100, ln100000, tLe, fLe, tLt, fLt, tEq, fEq, zLe_t, zLe_f, zLt_t, zLt_f, zEq_t, zEq_f, nzLe_t, nzLe_f, znLe_t, znLe_f, nzLt_t, nzLt_f, znLt_t, znLt_f, nzEq_t, nzEq_f, znEq_t, znEq_f, u2]

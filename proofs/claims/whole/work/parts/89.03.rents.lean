/-! rents, worth. -/
theorem q_rents {k : Nat} (hk : k < 512) : st_rents (Inv k) (Inv (k + 1)) := by
  intro h x y hI
  obtain ⟨n, K, P, I, L⟩ := h
  obtain ⟨⟨G, F⟩, Z, ok, C, R⟩ := id hI
  change RI I Z at R
  have O := okZ_S ok
  have o1 := O.1
  have hA := okZ_A ok
  have hh := okZ_h ok
  have cs := CI_S C
  have ca := CI_A C
  have rs := RI_S R
  have ra := RI_A R
  generalize hS : wS (zW Z) = S at O o1 hA cs ca rs ra
  generalize hAA : wA (zW Z) = A at hA hh ca ra
  have pl := CI_p C
  have hf := ok.1.2.2.2.2.2.2
  have hrl := ok.2.2.1
  have hX := CI_ruX C
  have hro : ∀ J, J 124 12 = I 124 12 → (∀ b, 150 ≤ b → b ≤ 156 → J b = I b) → rRo J (ruF (zR Z) (wF (zW Z))) := fun J h1 h2 => rRo_of hrl.1 hrl.2 (h1.trans R.1.2.2.2.2.2.2) (fun r ru hr => rR_congr (fun b h3 h4 => h2 b (by omega) h4) (R.2.2.1.2 r ru hr)) hf.1 hf.2
  have no : mX11_rents K P I L x y = some (-1, I, L) → mX12_rents I L x y = some (-1, I, L) → ∃ r h1 h2, oX_rents (n, K, P, I, L) x y = some (r, h1) ∧ GW h1.2.1 h1.2.2.1 ∧ oM_rents h1 x y = some (r, h2) ∧ Inv (k + 1) h2 := fun a b => ⟨-1, (n, K, P, I, L), (n, K, P, I, L), by unfold oX_rents; simp only [a]; rfl, G, by unfold oM_rents; simp only [b]; rfl, Inv_q hI (fun _ _ => rfl)⟩
  have g1 := isWn y 1 100
  have g2 := rInW (lo := 1) (hi := 100) (by decide) (by decide) y
  change mX12_in y.toInt64 (1 : Int64) (100 : Int64) = _ at g2
  have b1 := isPainter_ok O cs x
  have b2 := rIsPainter_ok rs O x
  rcases inbC x (sPa S) with hx | ⟨q, hq, rfl⟩
  · refine no ?_ ?_
    · unfold mX11_rents; simp (disch := omega) only [↓reduceIte, Option.bind_some, Option.some.injEq, Prod.mk.injEq, and_self, and_true, true_and, eq_self, reduceCtorEq, not_false_eq_true, not_true_eq_false, or_true, true_or, or_false, false_or, bft, nAdd, nMul, nSub, nDiv, nRem, nAm1, nIx, nIn, bI_z, bI_o, ite_b1, ite_b0, zI_add, zI_sub, li0, li1, li2, li3, li4, li5, li6, li7, li8, li9, li10, li11, li12, li13, li14, li15, li16, li17, li18, li19, li20, li21, li22, li23, li24, li25, li26, li27, li28, li29, li30, li31, li32, li33, li34, li35, li36, li37, li40, li42, li43, li45, li47, li48, li57, li59, li60, li61, li62, li64, li80, li91, li93, li97, li99, li100, li122, li182, li199, li255, li300, li380, li400, li999, li1000, li3640, li4100, li65536, li99999, ln1, ln2, ln3, ln100, ln100000, tLe, fLe, tLt, fLt, tEq, fEq, zLe_t, zLe_f, zLt_t, zLt_f, zEq_t, zEq_f, nzLe_t, nzLe_f, znLe_t, znLe_f, nzLt_t, nzLt_f, znLt_t, znLt_f, nzEq_t, nzEq_f, znEq_t, znEq_f, b1, hx]
    · unfold mX12_rents; simp (disch := omega) only [↓reduceIte, Option.bind_some, Option.some.injEq, Prod.mk.injEq, and_self, and_true, true_and, eq_self, reduceCtorEq, not_false_eq_true, not_true_eq_false, or_true, true_or, or_false, false_or, bft, nAdd, nMul, nSub, nDiv, nRem, nAm1, nIx, nIn, bI_z, bI_o, ite_b1, ite_b0, zI_add, zI_sub, li0, li1, li2, li3, li4, li5, li6, li7, li8, li9, li10, li11, li12, li13, li14, li15, li16, li17, li18, li19, li20, li21, li22, li23, li24, li25, li26, li27, li28, li29, li30, li31, li32, li33, li34, li35, li36, li37, li40, li42, li43, li45, li47, li48, li57, li59, li60, li61, li62, li64, li80, li91, li93, li97, li99, li100, li122, li182, li199, li255, li300, li380, li400, li999, li1000, li3640, li4100, li65536, li99999, ln1, ln2, ln3, ln100, ln100000, tLe, fLe, tLt, fLt, tEq, fEq, zLe_t, zLe_f, zLt_t, zLt_f, zEq_t, zEq_f, nzLe_t, nzLe_f, znLe_t, znLe_f, nzLt_t, nzLt_f, znLt_t, znLt_f, nzEq_t, nzEq_f, znEq_t, znEq_f, b2, hx]
  rw [inbT hq (by omega)] at b1 b2
  rcases wiC (lo := 1) (hi := 100) (by decide) (by decide) y with hy | ⟨m, hm1, hm, rfl⟩
  · refine no ?_ ?_
    · unfold mX11_rents; simp (disch := omega) only [↓reduceIte, Option.bind_some, Option.some.injEq, Prod.mk.injEq, and_self, and_true, true_and, eq_self, reduceCtorEq, not_false_eq_true, not_true_eq_false, or_true, true_or, or_false, false_or, bft, nAdd, nMul, nSub, nDiv, nRem, nAm1, nIx, nIn, bI_z, bI_o, ite_b1, ite_b0, zI_add, zI_sub, li0, li1, li2, li3, li4, li5, li6, li7, li8, li9, li10, li11, li12, li13, li14, li15, li16, li17, li18, li19, li20, li21, li22, li23, li24, li25, li26, li27, li28, li29, li30, li31, li32, li33, li34, li35, li36, li37, li40, li42, li43, li45, li47, li48, li57, li59, li60, li61, li62, li64, li80, li91, li93, li97, li99, li100, li122, li182, li199, li255, li300, li380, li400, li999, li1000, li3640, li4100, li65536, li99999, ln1, ln2, ln3, ln100, ln100000, tLe, fLe, tLt, fLt, tEq, fEq, zLe_t, zLe_f, zLt_t, zLt_f, zEq_t, zEq_f, nzLe_t, nzLe_f, znLe_t, znLe_f, nzLt_t, nzLt_f, znLt_t, znLt_f, nzEq_t, nzEq_f, znEq_t, znEq_f, b1, g1, hy]
    · unfold mX12_rents; simp (disch := omega) only [↓reduceIte, Option.bind_some, Option.some.injEq, Prod.mk.injEq, and_self, and_true, true_and, eq_self, reduceCtorEq, not_false_eq_true, not_true_eq_false, or_true, true_or, or_false, false_or, bft, nAdd, nMul, nSub, nDiv, nRem, nAm1, nIx, nIn, bI_z, bI_o, ite_b1, ite_b0, zI_add, zI_sub, li0, li1, li2, li3, li4, li5, li6, li7, li8, li9, li10, li11, li12, li13, li14, li15, li16, li17, li18, li19, li20, li21, li22, li23, li24, li25, li26, li27, li28, li29, li30, li31, li32, li33, li34, li35, li36, li37, li40, li42, li43, li45, li47, li48, li57, li59, li60, li61, li62, li64, li80, li91, li93, li97, li99, li100, li122, li182, li199, li255, li300, li380, li400, li999, li1000, li3640, li4100, li65536, li99999, ln1, ln2, ln3, ln100, ln100000, tLe, fLe, tLt, fLt, tEq, fEq, zLe_t, zLe_f, zLt_t, zLt_f, zEq_t, zEq_f, nzLe_t, nzLe_f, znLe_t, znLe_f, nzLt_t, nzLt_f, znLt_t, znLt_f, nzEq_t, nzEq_f, znEq_t, znEq_f, b2, g2, hy]
  rw [wiB_t hm1 hm (by omega)] at g1 g2
  obtain ⟨I1, L1, i1, i2, i3, i4⟩ := copyState_ok (I := I) (L := L) (a0 := 92) (a1 := 24) O (by decide) ca
  have cs1 : cS I1 (P 12 0) S := cS_congr (fun b h1 h2 => i3 b (by omega) (by omega)) cs
  obtain ⟨J, M, t1, t2, t3, t4⟩ := tryH_ok (N := m) O hrl.1 hrl.2 hf.1 hf.2 hA (by omega) pl cs1 i2 (ruX_congr (fun b hb => i3 b (by omega) (by omega)) hX)
  have hJ : ∀ b, b < 92 ∨ 122 < b → J b = I b ∧ M b = L b := fun b hb => ⟨((t4 b (by omega)).1).trans (i3 b (by omega) (by omega)), ((t4 b (by omega)).2).trans (i4 b (by omega))⟩
  have R0 : RI J Z := RI_cls ok (fun b h1 h2 => (hJ b (by omega)).1) R
  have rsJ : rSn J S := by rw [← hS]; exact R0.1.1
  have raJ : rAn J S A := by rw [← hS, ← hAA]; exact R0.1.2.1
  obtain ⟨H1, H2, M2, u1, u2, u3, u4, u5, u6, u7, u8⟩ := rAsk_ok (N := m) (L := M) O hA (by omega) rsJ raJ (hro J (by rw [(hJ 124 (by omega)).1]) (fun b h1 h2 => (hJ b (by omega)).1))
  obtain ⟨H, l1, l2, l3, l4⟩ := laysBack_ok u6
  have e1 := t3 q (by omega)
  have e2 : H 161 q = _ := (l4 161 q (by unfold fv; decide) (Or.inl (by decide))).trans (u5 q (by omega))
  have b3 := rIsPainter_ok rsJ O (nI q)
  rw [inbT hq (by omega)] at b3
  refine ⟨nI ((goA S (ruF (zR Z) (wF (zW Z))) m (A, fun _ => 0)).2 q), (n, K, P, J, M), (n, K, P, H, M2), ?_, G, ?_, ?_⟩
  · unfold oX_rents mX11_rents
    simp (disch := omega) only [↓reduceIte, Option.bind_some, Option.some.injEq, Prod.mk.injEq, and_self, and_true, true_and, eq_self, reduceCtorEq, not_false_eq_true, not_true_eq_false, or_true, true_or, or_false, false_or, bft, nAdd, nMul, nSub, nDiv, nRem, nAm1, nIx, nIn, bI_z, bI_o, ite_b1, ite_b0, zI_add, zI_sub, li0, li1, li2, li3, li4, li5, li6, li7, li8, li9, li10, li11, li12, li13, li14, li15, li16, li17, li18, li19, li20, li21, li22, li23, li24, li25, li26, li27, li28, li29, li30, li31, li32, li33, li34, li35, li36, li37, li40, li42, li43, li45, li47, li48, li57, li59, li60, li61, li62, li64, li80, li91, li93, li97, li99, li100, li122, li182, li199, li255, li300, li380, li400, li999, li1000, li3640, li4100, li65536, li99999, ln1, ln2, ln3, ln100, ln100000, tLe, fLe, tLt, fLt, tEq, fEq, zLe_t, zLe_f, zLt_t, zLt_f, zEq_t, zEq_f, nzLe_t, nzLe_f, znLe_t, znLe_f, nzLt_t, nzLt_f, znLt_t, znLt_f, nzEq_t, nzEq_f, znEq_t, znEq_f, b1, g1, i1, t1, e1, Option.map_some]
  · unfold oM_rents mX12_rents
    simp (disch := omega) only [↓reduceIte, Option.bind_some, Option.some.injEq, Prod.mk.injEq, and_self, and_true, true_and, eq_self, reduceCtorEq, not_false_eq_true, not_true_eq_false, or_true, true_or, or_false, false_or, bft, nAdd, nMul, nSub, nDiv, nRem, nAm1, nIx, nIn, bI_z, bI_o, ite_b1, ite_b0, zI_add, zI_sub, li0, li1, li2, li3, li4, li5, li6, li7, li8, li9, li10, li11, li12, li13, li14, li15, li16, li17, li18, li19, li20, li21, li22, li23, li24, li25, li26, li27, li28, li29, li30, li31, li32, li33, li34, li35, li36, li37, li40, li42, li43, li45, li47, li48, li57, li59, li60, li61, li62, li64, li80, li91, li93, li97, li99, li100, li122, li182, li199, li255, li300, li380, li400, li999, li1000, li3640, li4100, li65536, li99999, ln1, ln2, ln3, ln100, ln100000, tLe, fLe, tLt, fLt, tEq, fEq, zLe_t, zLe_f, zLt_t, zLt_f, zEq_t, zEq_f, nzLe_t, nzLe_f, znLe_t, znLe_f, nzLt_t, nzLt_f, znLt_t, znLt_f, nzEq_t, nzEq_f, znEq_t, znEq_f, b3, g2, u1, u2, l1, e2, Option.map_some]
  · exact Inv_asked G F ok C R hJ (aR_trans u7 l3) l2 u8
/-- another state of the reference under way, and back -/
theorem rAsk2_ok {ru : Option ruT} {S : sT} {A : aT} {N : Nat} {I J : Nat → Nat → Int32} {L : Nat → Nat → Int64} (O : okS S) (hA : okA S A) (hh : A.2.2.1 + N < 1000) (R : rSn J S) (RA : rAn J S A) (U : rRo J ru) (hg : gotR 161 J (fun _ => 0)) (s : sv I J) (a : aR I J) : ∃ J2 M H, mX12_goes J L (nI N) = some (J2, M) ∧ mX12_laysBack J2 = some H ∧ f5 I H ∧ aR I H ∧ gotR 161 H (goA S ru N (A, fun _ => 0)).2 ∧ (∀ b, b ≠ 158 → b ≠ 159 → M b = L b) := by
  obtain ⟨J2, M, g1, g2, g3, g4, g5⟩ := goes_ok (L := L) (n := N) O hA hh R RA U hg
  obtain ⟨H, l1, l2, l3, l4⟩ := laysBack_ok (sv_f g4 s)
  exact ⟨J2, M, H, g1, l1, l2, aR_trans (aR_trans a (aR_f g4)) l3, fun q hq => (l4 161 q (by unfold fv; decide) (Or.inl (by decide))).trans (g3 q hq), g5⟩
theorem keepsAll_r {ru : Option ruT} {S : sT} {A : aT} {I J : Nat → Nat → Int32} (O : okS S) (hA : okA S A) (e : ∀ b i, b ≠ 170 → b ≠ 161 → b ≠ 123 ∨ (i ≠ 63 ∧ i ≠ 64) → J b i = I b i) (R : rSn I S) (RA : rAn I S A) (U : rRo I ru) : rSn J S ∧ rAn J S A ∧ rRo J ru := by
  have e : ∀ b i, b ≠ 170 → b ≠ 161 → b ≠ 123 → J b i = I b i := fun b i h1 h2 h3 => e b i h1 h2 (Or.inl h3)
  refine ⟨rS_congr O (fun i _ => e 124 i (by decide) (by decide) (by decide)) (fun i _ => e 125 i (by decide) (by decide) (by decide)) (fun i _ => e 126 i (by decide) (by decide) (by decide)) (fun i _ => e 127 i (by decide) (by decide) (by decide)) (fun i _ => e 129 i (by decide) (by decide) (by decide)) (fun i _ => e 130 i (by decide) (by decide) (by decide)) R, rA_congr O hA (e 124 8 (by decide) (by decide) (by decide)) (e 124 9 (by decide) (by decide) (by decide)) (fun i _ => e 128 i (by decide) (by decide) (by decide)) (fun i _ => e 131 i (by decide) (by decide) (by decide)) (fun i _ => e 132 i (by decide) (by decide) (by decide)) (fun i _ => e 133 i (by decide) (by decide) (by decide)) RA, ?_⟩
  cases ru with
  | none => exact (e 124 12 (by decide) (by decide) (by decide)).trans U
  | some r =>
    obtain ⟨s, h1, h2, h3, h4⟩ := U
    exact ⟨s, h1, (e 124 12 (by decide) (by decide) (by decide)).trans h2, rR_congr (fun b h5 h6 => funext (fun i => e b i (by omega) (by omega) (by omega))) h3, h4⟩
theorem f5_r {ru : Option ruT} {S : sT} {A : aT} {I H : Nat → Nat → Int32} (O : okS S) (hA : okA S A) (f : f5 I H) (a : aR I H) (R : rSn I S) (RA : rAn I S A) (U : rRo I ru) : rSn H S ∧ rAn H S A ∧ rRo H ru := by
  have e : ∀ b i, 124 < b → b < 157 → ¬ fv b → H b i = I b i := fun b i h1 h2 h3 => a.1 b i h3 (by omega) (by omega) (Or.inl (by omega))
  refine ⟨rS_congr O (fun i hi => f 124 i (Or.inl rfl) (show i < 13 by omega)) (fun i _ => e 125 i (by decide) (by decide) (by unfold fv; decide)) (fun i _ => e 126 i (by decide) (by decide) (by unfold fv; decide)) (fun i _ => e 127 i (by decide) (by decide) (by unfold fv; decide)) (fun i _ => e 129 i (by decide) (by decide) (by unfold fv; decide)) (fun i _ => e 130 i (by decide) (by decide) (by unfold fv; decide)) R, rA_congr O hA (f 124 8 (by unfold fv; decide) (show 8 < 13 by decide)) (f 124 9 (by unfold fv; decide) (show 9 < 13 by decide)) (fun i hi => f 128 i (by unfold fv; decide) hi) (fun i hi => f 131 i (by unfold fv; decide) hi) (fun i hi => f 132 i (by unfold fv; decide) hi) (fun i hi => f 133 i (by unfold fv; decide) hi) RA, ?_⟩
  cases ru with
  | none => exact (f 124 12 (by unfold fv; decide) (show 12 < 13 by decide)).trans U
  | some r =>
    obtain ⟨s, h1, h2, h3, h4⟩ := U
    exact ⟨s, h1, (f 124 12 (by unfold fv; decide) (show 12 < 13 by decide)).trans h2, rR_congr (fun b h5 h6 => funext (fun i => e b i (by omega) (by omega) (by unfold fv; omega))) h3, h4⟩
theorem f5_trans {I J H : Nat → Nat → Int32} (a : f5 I J) (b : f5 J H) : f5 I H := fun r i h1 h2 => (b r i h1 h2).trans (a r i h1 h2)
theorem sv_f5 {I J H : Nat → Nat → Int32} (a : f5 I J) (b : sv J H) : sv I H := fun r i h1 h2 => (b r i h1 h2).trans (a r i h1 h2)
theorem q_worth {k : Nat} (hk : k < 512) : st_worth (Inv k) (Inv (k + 1)) := by
  intro h x y z hI
  obtain ⟨n, K, P, I, L⟩ := h
  obtain ⟨⟨G, F⟩, Z, ok, C, R⟩ := id hI
  change RI I Z at R
  have O := okZ_S ok
  have o1 := O.1
  have hA := okZ_A ok
  have hh := okZ_h ok
  have cs := CI_S C
  have ca := CI_A C
  have rs := RI_S R
  have ra := RI_A R
  generalize hS : wS (zW Z) = S at O o1 hA cs ca rs ra
  generalize hAA : wA (zW Z) = A at hA hh ca ra
  have pl := CI_p C
  have hf := ok.1.2.2.2.2.2.2
  have hrl := ok.2.2.1
  have hX := CI_ruX C
  have hro : ∀ J, J 124 12 = I 124 12 → (∀ b, 150 ≤ b → b ≤ 156 → J b = I b) → rRo J (ruF (zR Z) (wF (zW Z))) := fun J h1 h2 => rRo_of hrl.1 hrl.2 (h1.trans R.1.2.2.2.2.2.2) (fun r ru hr => rR_congr (fun b h3 h4 => h2 b (by omega) h4) (R.2.2.1.2 r ru hr)) hf.1 hf.2
  have no : mX11_worth K P I L x y z = some (-100000, I, L) → mX12_worth I L x y z = some (-100000, I, L) → ∃ r h1 h2, oX_worth (n, K, P, I, L) x y z = some (r, h1) ∧ GW h1.2.1 h1.2.2.1 ∧ oM_worth h1 x y z = some (r, h2) ∧ Inv (k + 1) h2 := fun a b => ⟨-100000, (n, K, P, I, L), (n, K, P, I, L), by unfold oX_worth; simp only [a]; rfl, G, by unfold oM_worth; simp only [b]; rfl, Inv_q hI (fun _ _ => rfl)⟩
  have g1 := isWn z 1 100
  have g2 := rInW (lo := 1) (hi := 100) (by decide) (by decide) z
  change mX12_in z.toInt64 (1 : Int64) (100 : Int64) = _ at g2
  have a1 := isCell_ok O cs x
  have a2 := rIsCell_ok rs O x
  have b1 := isPainter_ok O cs y
  have b2 := rIsPainter_ok rs O y
  rcases inbC x (sCe S) with hx | ⟨c, hc, rfl⟩
  · refine no ?_ ?_
    · unfold mX11_worth; simp (disch := omega) only [↓reduceIte, Option.bind_some, Option.some.injEq, Prod.mk.injEq, and_self, and_true, true_and, eq_self, reduceCtorEq, not_false_eq_true, not_true_eq_false, or_true, true_or, or_false, false_or, bft, nAdd, nMul, nSub, nDiv, nRem, nAm1, nIx, nIn, bI_z, bI_o, ite_b1, ite_b0, zI_add, zI_sub, li0, li1, li2, li3, li4, li5, li6, li7, li8, li9, li10, li11, li12, li13, li14, li15, li16, li17, li18, li19, li20, li21, li22, li23, li24, li25, li26, li27, li28, li29, li30, li31, li32, li33, li34, li35, li36, li37, li40, li42, li43, li45, li47, li48, li57, li59, li60, li61, li62, li64, li80, li91, li93, li97, li99, li100, li122, li182, li199, li255, li300, li380, li400, li999, li1000, li3640, li4100, li65536, li99999, ln1, ln2, ln3, ln100, ln100000, tLe, fLe, tLt, fLt, tEq, fEq, zLe_t, zLe_f, zLt_t, zLt_f, zEq_t, zEq_f, nzLe_t, nzLe_f, znLe_t, znLe_f, nzLt_t, nzLt_f, znLt_t, znLt_f, nzEq_t, nzEq_f, znEq_t, znEq_f, a1, hx]
    · unfold mX12_worth; simp (disch := omega) only [↓reduceIte, Option.bind_some, Option.some.injEq, Prod.mk.injEq, and_self, and_true, true_and, eq_self, reduceCtorEq, not_false_eq_true, not_true_eq_false, or_true, true_or, or_false, false_or, bft, nAdd, nMul, nSub, nDiv, nRem, nAm1, nIx, nIn, bI_z, bI_o, ite_b1, ite_b0, zI_add, zI_sub, li0, li1, li2, li3, li4, li5, li6, li7, li8, li9, li10, li11, li12, li13, li14, li15, li16, li17, li18, li19, li20, li21, li22, li23, li24, li25, li26, li27, li28, li29, li30, li31, li32, li33, li34, li35, li36, li37, li40, li42, li43, li45, li47, li48, li57, li59, li60, li61, li62, li64, li80, li91, li93, li97, li99, li100, li122, li182, li199, li255, li300, li380, li400, li999, li1000, li3640, li4100, li65536, li99999, ln1, ln2, ln3, ln100, ln100000, tLe, fLe, tLt, fLt, tEq, fEq, zLe_t, zLe_f, zLt_t, zLt_f, zEq_t, zEq_f, nzLe_t, nzLe_f, znLe_t, znLe_f, nzLt_t, nzLt_f, znLt_t, znLt_f, nzEq_t, nzEq_f, znEq_t, znEq_f, a2, hx]
  rw [inbT hc (by omega)] at a1 a2
  obtain ⟨th1, th2, th3⟩ := thOf_ok O hc
  have ot := O.2.1.2.2 _ th1
  have d1 := isBare11_ok (t := thOf S c) (cA_b ca) (by have := hA.2.2.1; omega) (by omega)
  have d2 := rIsBare_ok (t := thOf S c) (rAn_b ra) (by have := hA.2.2.1; omega) (by omega)
  have e1 := cS_th cs O hc
  have e2 := rThingOf_ok rs O hc
  cases hb : A.2.2.2.testBit (thOf S c) with
  | true =>
    rw [hb] at d1 d2
    refine no ?_ ?_
    · unfold mX11_worth; simp (disch := omega) only [↓reduceIte, Option.bind_some, Option.some.injEq, Prod.mk.injEq, and_self, and_true, true_and, eq_self, reduceCtorEq, not_false_eq_true, not_true_eq_false, or_true, true_or, or_false, false_or, bft, nAdd, nMul, nSub, nDiv, nRem, nAm1, nIx, nIn, bI_z, bI_o, ite_b1, ite_b0, zI_add, zI_sub, li0, li1, li2, li3, li4, li5, li6, li7, li8, li9, li10, li11, li12, li13, li14, li15, li16, li17, li18, li19, li20, li21, li22, li23, li24, li25, li26, li27, li28, li29, li30, li31, li32, li33, li34, li35, li36, li37, li40, li42, li43, li45, li47, li48, li57, li59, li60, li61, li62, li64, li80, li91, li93, li97, li99, li100, li122, li182, li199, li255, li300, li380, li400, li999, li1000, li3640, li4100, li65536, li99999, ln1, ln2, ln3, ln100, ln100000, tLe, fLe, tLt, fLt, tEq, fEq, zLe_t, zLe_f, zLt_t, zLt_f, zEq_t, zEq_f, nzLe_t, nzLe_f, znLe_t, znLe_f, nzLt_t, nzLt_f, znLt_t, znLt_f, nzEq_t, nzEq_f, znEq_t, znEq_f, a1, e1, d1]
    · unfold mX12_worth; simp (disch := omega) only [↓reduceIte, Option.bind_some, Option.some.injEq, Prod.mk.injEq, and_self, and_true, true_and, eq_self, reduceCtorEq, not_false_eq_true, not_true_eq_false, or_true, true_or, or_false, false_or, bft, nAdd, nMul, nSub, nDiv, nRem, nAm1, nIx, nIn, bI_z, bI_o, ite_b1, ite_b0, zI_add, zI_sub, li0, li1, li2, li3, li4, li5, li6, li7, li8, li9, li10, li11, li12, li13, li14, li15, li16, li17, li18, li19, li20, li21, li22, li23, li24, li25, li26, li27, li28, li29, li30, li31, li32, li33, li34, li35, li36, li37, li40, li42, li43, li45, li47, li48, li57, li59, li60, li61, li62, li64, li80, li91, li93, li97, li99, li100, li122, li182, li199, li255, li300, li380, li400, li999, li1000, li3640, li4100, li65536, li99999, ln1, ln2, ln3, ln100, ln100000, tLe, fLe, tLt, fLt, tEq, fEq, zLe_t, zLe_f, zLt_t, zLt_f, zEq_t, zEq_f, nzLe_t, nzLe_f, znLe_t, znLe_f, nzLt_t, nzLt_f, znLt_t, znLt_f, nzEq_t, nzEq_f, znEq_t, znEq_f, a2, e2, d2]
  | false =>
    rw [hb] at d1 d2
    rcases inbC y (sPa S) with hy | ⟨q, hq, rfl⟩
    · refine no ?_ ?_
      · unfold mX11_worth; simp (disch := omega) only [↓reduceIte, Option.bind_some, Option.some.injEq, Prod.mk.injEq, and_self, and_true, true_and, eq_self, reduceCtorEq, not_false_eq_true, not_true_eq_false, or_true, true_or, or_false, false_or, bft, nAdd, nMul, nSub, nDiv, nRem, nAm1, nIx, nIn, bI_z, bI_o, ite_b1, ite_b0, zI_add, zI_sub, li0, li1, li2, li3, li4, li5, li6, li7, li8, li9, li10, li11, li12, li13, li14, li15, li16, li17, li18, li19, li20, li21, li22, li23, li24, li25, li26, li27, li28, li29, li30, li31, li32, li33, li34, li35, li36, li37, li40, li42, li43, li45, li47, li48, li57, li59, li60, li61, li62, li64, li80, li91, li93, li97, li99, li100, li122, li182, li199, li255, li300, li380, li400, li999, li1000, li3640, li4100, li65536, li99999, ln1, ln2, ln3, ln100, ln100000, tLe, fLe, tLt, fLt, tEq, fEq, zLe_t, zLe_f, zLt_t, zLt_f, zEq_t, zEq_f, nzLe_t, nzLe_f, znLe_t, znLe_f, nzLt_t, nzLt_f, znLt_t, znLt_f, nzEq_t, nzEq_f, znEq_t, znEq_f, a1, e1, d1, b1, hy]
      · unfold mX12_worth; simp (disch := omega) only [↓reduceIte, Option.bind_some, Option.some.injEq, Prod.mk.injEq, and_self, and_true, true_and, eq_self, reduceCtorEq, not_false_eq_true, not_true_eq_false, or_true, true_or, or_false, false_or, bft, nAdd, nMul, nSub, nDiv, nRem, nAm1, nIx, nIn, bI_z, bI_o, ite_b1, ite_b0, zI_add, zI_sub, li0, li1, li2, li3, li4, li5, li6, li7, li8, li9, li10, li11, li12, li13, li14, li15, li16, li17, li18, li19, li20, li21, li22, li23, li24, li25, li26, li27, li28, li29, li30, li31, li32, li33, li34, li35, li36, li37, li40, li42, li43, li45, li47, li48, li57, li59, li60, li61, li62, li64, li80, li91, li93, li97, li99, li100, li122, li182, li199, li255, li300, li380, li400, li999, li1000, li3640, li4100, li65536, li99999, ln1, ln2, ln3, ln100, ln100000, tLe, fLe, tLt, fLt, tEq, fEq, zLe_t, zLe_f, zLt_t, zLt_f, zEq_t, zEq_f, nzLe_t, nzLe_f, znLe_t, znLe_f, nzLt_t, nzLt_f, znLt_t, znLt_f, nzEq_t, nzEq_f, znEq_t, znEq_f, a2, e2, d2, b2, hy]
    rw [inbT hq (by omega)] at b1 b2
    rcases wiC (lo := 1) (hi := 100) (by decide) (by decide) z with hz | ⟨m, hm1, hm, rfl⟩
    · refine no ?_ ?_
      · unfold mX11_worth; simp (disch := omega) only [↓reduceIte, Option.bind_some, Option.some.injEq, Prod.mk.injEq, and_self, and_true, true_and, eq_self, reduceCtorEq, not_false_eq_true, not_true_eq_false, or_true, true_or, or_false, false_or, bft, nAdd, nMul, nSub, nDiv, nRem, nAm1, nIx, nIn, bI_z, bI_o, ite_b1, ite_b0, zI_add, zI_sub, li0, li1, li2, li3, li4, li5, li6, li7, li8, li9, li10, li11, li12, li13, li14, li15, li16, li17, li18, li19, li20, li21, li22, li23, li24, li25, li26, li27, li28, li29, li30, li31, li32, li33, li34, li35, li36, li37, li40, li42, li43, li45, li47, li48, li57, li59, li60, li61, li62, li64, li80, li91, li93, li97, li99, li100, li122, li182, li199, li255, li300, li380, li400, li999, li1000, li3640, li4100, li65536, li99999, ln1, ln2, ln3, ln100, ln100000, tLe, fLe, tLt, fLt, tEq, fEq, zLe_t, zLe_f, zLt_t, zLt_f, zEq_t, zEq_f, nzLe_t, nzLe_f, znLe_t, znLe_f, nzLt_t, nzLt_f, znLt_t, znLt_f, nzEq_t, nzEq_f, znEq_t, znEq_f, a1, e1, d1, b1, g1, hz]
      · unfold mX12_worth; simp (disch := omega) only [↓reduceIte, Option.bind_some, Option.some.injEq, Prod.mk.injEq, and_self, and_true, true_and, eq_self, reduceCtorEq, not_false_eq_true, not_true_eq_false, or_true, true_or, or_false, false_or, bft, nAdd, nMul, nSub, nDiv, nRem, nAm1, nIx, nIn, bI_z, bI_o, ite_b1, ite_b0, zI_add, zI_sub, li0, li1, li2, li3, li4, li5, li6, li7, li8, li9, li10, li11, li12, li13, li14, li15, li16, li17, li18, li19, li20, li21, li22, li23, li24, li25, li26, li27, li28, li29, li30, li31, li32, li33, li34, li35, li36, li37, li40, li42, li43, li45, li47, li48, li57, li59, li60, li61, li62, li64, li80, li91, li93, li97, li99, li100, li122, li182, li199, li255, li300, li380, li400, li999, li1000, li3640, li4100, li65536, li99999, ln1, ln2, ln3, ln100, ln100000, tLe, fLe, tLt, fLt, tEq, fEq, zLe_t, zLe_f, zLt_t, zLt_f, zEq_t, zEq_f, nzLe_t, nzLe_f, znLe_t, znLe_f, nzLt_t, nzLt_f, znLt_t, znLt_f, nzEq_t, nzEq_f, znEq_t, znEq_f, a2, e2, d2, b2, g2, hz]
    rw [wiB_t hm1 hm (by omega)] at g1 g2
    -- the class
    obtain ⟨I1, L1, i1, i2, i3, i4⟩ := copyState_ok (I := I) (L := L) (a0 := 92) (a1 := 24) O (by decide) ca
    have cs1 : cS I1 (P 12 0) S := cS_congr (fun b h1 h2 => i3 b (by omega) (by omega)) cs
    have hX1 := ruX_congr (fun b hb => i3 b (by omega) (by omega)) hX
    obtain ⟨J, M, t1, t2, t3, t4⟩ := tryH_ok (N := m) O hrl.1 hrl.2 hf.1 hf.2 hA (by omega) pl cs1 i2 hX1
    have caJ : cA J M 24 S A := cA_congr (((t4 24 (by omega)).1).trans (i3 24 (by decide) (by decide))) (((t4 26 (by omega)).1).trans (i3 26 (by decide) (by decide))) (((t4 25 (by omega)).2).trans (i4 25 (by decide))) ca
    have csJ : cS J (P 12 0) S := cS_congr (fun b h1 h2 => (t4 b (by omega)).1) cs1
    have hXJ := ruX_congr (fun b hb => (t4 b (by omega)).1) hX1
    obtain ⟨I2, L2, p1, p2, p3, p4⟩ := copyState_ok (I := J) (L := M) (a0 := 92) (a1 := 24) O (by decide) caJ
    have cs2 : cS I2 (P 12 0) S := cS_congr (fun b h1 h2 => p3 b (by omega) (by omega)) csJ
    have hX2 := ruX_congr (fun b hb => p3 b (by omega) (by omega)) hXJ
    have wi := with_ok (q := q) (hA.1 c hc).1 (by omega) (show A.2.2.1 < 1000 by omega)
    have hA2 := okA_put1 O hA hc hq (by omega) hb
    have p5 : L2 93 c = lN (enc (A.1 c)) := p2.1 c hc
    have p6 : I2 92 2 = nI A.2.2.1 := p2.2.2.1
    have p7 : cA I2 (xu L2 93 c (lN (enc (putC (A.1 c) q A.2.2.1)))) 92 S (coA A c (putC (A.1 c) q A.2.2.1)) := by
      refine ⟨fun d hd => ?_, p2.2.1, p2.2.2.1, p2.2.2.2⟩
      show xu L2 93 c _ 93 d = lN (enc (updF A.1 c _ d))
      by_cases w : d = c
      · subst w; rw [xu_s, updF_s]
      · rw [xu_c w, updF_n w]; exact p2.1 d hd
    obtain ⟨J2, M2, v1, v2, v3, v4⟩ := tryH_ok (N := m) O hrl.1 hrl.2 hf.1 hf.2 hA2 (show A.2.2.1 + m < 990 by omega) pl cs2 p7 hX2
    have hJ : ∀ b, b < 92 ∨ 122 < b → J2 b = I b ∧ M2 b = L b := fun b hb => ⟨by rw [(v4 b (by omega)).1, p3 b (by omega) (by omega), (t4 b (by omega)).1, i3 b (by omega) (by omega)], by rw [(v4 b (by omega)).2, xu_r (by omega), p4 b (by omega), (t4 b (by omega)).2, i4 b (by omega)]⟩
    -- the reference
    have R0 : RI J2 Z := RI_cls ok (fun b h1 h2 => (hJ b (by omega)).1) R
    have rsJ : rSn J2 S := by rw [← hS]; exact R0.1.1
    have raJ : rAn J2 S A := by rw [← hS, ← hAA]; exact R0.1.2.1
    have roJ := hro J2 (by rw [(hJ 124 (by omega)).1]) (fun b h1 h2 => (hJ b (by omega)).1)
    obtain ⟨H0, k1, k2, k3, k4, k5⟩ := keepsAll_ok J2
    obtain ⟨q1, q2, q3⟩ := keepsAll_r O hA k5 rsJ raJ roJ
    obtain ⟨H1, s1, s2, s3⟩ := rPaints_ok (q := q) O hA (by omega) hc (by omega) q2
    have FH : fR H0 H1 := fR_of (fun b _ h2 h3 h4 _ _ => s3 b h2 h3 h4)
    obtain ⟨H2, N2, H3, r1, r2, r3, r4, r5, r6⟩ := rAsk2_ok (L := M2) (N := m) O hA2 (show A.2.2.1 + m < 1000 by omega) (rSn_f FH q1) s2 (rRo_f FH q3) (fun u hu => by rw [s3 161 (by decide) (by decide) (by decide)]; exact k3 u hu) (sv_f FH k2) (aR_trans k4 (aR_f FH))
    obtain ⟨y1, y2, y3⟩ := f5_r O hA r3 r4 rsJ raJ roJ
    obtain ⟨H4, l1, l2, l3, l4, l5⟩ := keepsAll_ok H3
    obtain ⟨x1, x2, x3⟩ := keepsAll_r O hA l5 y1 y2 y3
    obtain ⟨H5, N3, H6, z1, z2, z3, z4, z5, z6⟩ := rAsk2_ok (L := N2) (N := m) O hA (by omega) x1 x2 x3 l3 l2 l4
    have a3 := rIsCell_ok rsJ O (nI c)
    rw [inbT hc (by omega)] at a3
    have b3 := rIsPainter_ok rsJ O (nI q)
    rw [inbT hq (by omega)] at b3
    have e3 := rThingOf_ok rsJ O hc
    have d3 := rIsBare_ok (t := thOf S c) (rAn_b raJ) (by have := hA.2.2.1; omega) (by omega)
    rw [hb] at d3
    refine ⟨nI ((goA S (ruF (zR Z) (wF (zW Z))) m (coA A c (putC (A.1 c) q A.2.2.1), fun _ => 0)).2 q) - nI ((goA S (ruF (zR Z) (wF (zW Z))) m (A, fun _ => 0)).2 q), (n, K, P, J2, M2), (n, K, P, H6, N3), ?_, G, ?_, ?_⟩
    · have f1 := t3 q (by omega)
      have f2 := v3 q (by omega)
      unfold oX_worth mX11_worth
      simp (disch := omega) only [↓reduceIte, Option.bind_some, Option.some.injEq, Prod.mk.injEq, and_self, and_true, true_and, eq_self, reduceCtorEq, not_false_eq_true, not_true_eq_false, or_true, true_or, or_false, false_or, bft, nAdd, nMul, nSub, nDiv, nRem, nAm1, nIx, nIn, bI_z, bI_o, ite_b1, ite_b0, zI_add, zI_sub, li0, li1, li2, li3, li4, li5, li6, li7, li8, li9, li10, li11, li12, li13, li14, li15, li16, li17, li18, li19, li20, li21, li22, li23, li24, li25, li26, li27, li28, li29, li30, li31, li32, li33, li34, li35, li36, li37, li40, li42, li43, li45, li47, li48, li57, li59, li60, li61, li62, li64, li80, li91, li93, li97, li99, li100, li122, li182, li199, li255, li300, li380, li400, li999, li1000, li3640, li4100, li65536, li99999, ln1, ln2, ln3, ln100, ln100000, tLe, fLe, tLt, fLt, tEq, fEq, zLe_t, zLe_f, zLt_t, zLt_f, zEq_t, zEq_f, nzLe_t, nzLe_f, znLe_t, znLe_f, nzLt_t, nzLt_f, znLt_t, znLt_f, nzEq_t, nzEq_f, znEq_t, znEq_f, a1, e1, d1, b1, g1, i1, t1, p1, p5, p6, wi, v1, f1, f2, Option.map_some]
    · have f1 := r5 q (by omega)
      have f2 := z5 q (by omega)
      unfold oM_worth mX12_worth
      simp (disch := omega) only [↓reduceIte, Option.bind_some, Option.some.injEq, Prod.mk.injEq, and_self, and_true, true_and, eq_self, reduceCtorEq, not_false_eq_true, not_true_eq_false, or_true, true_or, or_false, false_or, bft, nAdd, nMul, nSub, nDiv, nRem, nAm1, nIx, nIn, bI_z, bI_o, ite_b1, ite_b0, zI_add, zI_sub, li0, li1, li2, li3, li4, li5, li6, li7, li8, li9, li10, li11, li12, li13, li14, li15, li16, li17, li18, li19, li20, li21, li22, li23, li24, li25, li26, li27, li28, li29, li30, li31, li32, li33, li34, li35, li36, li37, li40, li42, li43, li45, li47, li48, li57, li59, li60, li61, li62, li64, li80, li91, li93, li97, li99, li100, li122, li182, li199, li255, li300, li380, li400, li999, li1000, li3640, li4100, li65536, li99999, ln1, ln2, ln3, ln100, ln100000, tLe, fLe, tLt, fLt, tEq, fEq, zLe_t, zLe_f, zLt_t, zLt_f, zEq_t, zEq_f, nzLe_t, nzLe_f, znLe_t, znLe_f, nzLt_t, nzLt_f, znLt_t, znLt_f, nzEq_t, nzEq_f, znEq_t, znEq_f, a3, e3, d3, b3, g2, k1, s1, r1, r2, l1, z1, z2, f1, f2, Option.map_some]
    · exact Inv_asked G F ok C R hJ (aR_trans r4 z4) (f5_trans r3 z3) (fun b h1 h2 => (z6 b h1 h2).trans (r6 b h1 h2))

/-! undo. -/
theorem q_undo {k : Nat} (hk : k < 512) : st_undo (Inv k) (Inv (k + 1)) := by
  intro h hI
  obtain ⟨n, K, P, I, L⟩ := h
  obtain ⟨⟨G, F⟩, Z, ok, C, R⟩ := id hI
  change RI I Z at R
  have O := okZ_S ok
  have o1 := O.1
  have hA := okZ_A ok
  have hh := okZ_h ok
  have cs := CI_S C
  have ca := CI_A C
  have rs := RI_S R
  have ra := RI_A R
  generalize hS : wS (zW Z) = S at O o1 hA cs ca rs ra
  generalize hAA : wA (zW Z) = A at hA hh ca ra
  have c3 : I 12 3 = nI (wK (zW Z)).length := C.1.1.2.2.1.1
  have s3 : I 123 51 = nI (wK (zW Z)).length := R.1.2.2.2.1.1
  have hl := ok.1.2.2.2.1
  have hkp : kpl P := C.2.1
  have pl := CI_p C
  by_cases h0 : (wK (zW Z)).length = 0
  · refine ⟨-2, (n, K, P, I, L), (n, K, P, I, L), ?_, G, ?_, Inv_q hI (fun _ _ => rfl)⟩
    · unfold oX_undo mX11_undo mX10_takeBack
      simp (disch := omega) only [↓reduceIte, Option.bind_some, Option.some.injEq, Prod.mk.injEq, and_self, and_true, true_and, eq_self, reduceCtorEq, not_false_eq_true, not_true_eq_false, or_true, true_or, or_false, false_or, bft, nAdd, nMul, nSub, nDiv, nRem, nAm1, nIx, nIn, bI_z, bI_o, ite_b1, ite_b0, zI_add, zI_sub, li0, li1, li2, li3, li4, li5, li6, li7, li8, li9, li10, li11, li12, li13, li14, li15, li16, li17, li18, li19, li20, li21, li22, li23, li24, li25, li26, li27, li28, li29, li30, li31, li32, li33, li34, li35, li36, li37, li40, li42, li43, li45, li47, li48, li57, li59, li60, li61, li62, li64, li80, li91, li93, li97, li99, li100, li122, li182, li199, li255, li300, li380, li400, li999, li1000, li3640, li4100, li65536, li99999, ln1, ln2, ln3, ln100, ln100000, tLe, fLe, tLt, fLt, tEq, fEq, zLe_t, zLe_f, zLt_t, zLt_f, zEq_t, zEq_f, nzLe_t, nzLe_f, znLe_t, znLe_f, nzLt_t, nzLt_f, znLt_t, znLt_f, nzEq_t, nzEq_f, znEq_t, znEq_f, c3, Option.map_some]
    · unfold oM_undo mX12_undo
      simp (disch := omega) only [↓reduceIte, Option.bind_some, Option.some.injEq, Prod.mk.injEq, and_self, and_true, true_and, eq_self, reduceCtorEq, not_false_eq_true, not_true_eq_false, or_true, true_or, or_false, false_or, bft, nAdd, nMul, nSub, nDiv, nRem, nAm1, nIx, nIn, bI_z, bI_o, ite_b1, ite_b0, zI_add, zI_sub, li0, li1, li2, li3, li4, li5, li6, li7, li8, li9, li10, li11, li12, li13, li14, li15, li16, li17, li18, li19, li20, li21, li22, li23, li24, li25, li26, li27, li28, li29, li30, li31, li32, li33, li34, li35, li36, li37, li40, li42, li43, li45, li47, li48, li57, li59, li60, li61, li62, li64, li80, li91, li93, li97, li99, li100, li122, li182, li199, li255, li300, li380, li400, li999, li1000, li3640, li4100, li65536, li99999, ln1, ln2, ln3, ln100, ln100000, tLe, fLe, tLt, fLt, tEq, fEq, zLe_t, zLe_f, zLt_t, zLt_f, zEq_t, zEq_f, nzLe_t, nzLe_f, znLe_t, znLe_f, nzLt_t, nzLt_f, znLt_t, znLt_f, nzEq_t, nzEq_f, znEq_t, znEq_f, s3, Option.map_some]
  · obtain ⟨m, hm⟩ : ∃ m, (wK (zW Z)).length = m + 1 := ⟨(wK (zW Z)).length - 1, by omega⟩
    rw [hm] at c3 s3
    have hm20 := hl.1
    have hB : (wK (zW Z))[m]? = some ((wK (zW Z))[m]'(by omega)) := List.getElem?_eq_getElem (by omega)
    generalize (wK (zW Z))[m]'(by omega) = B at hB
    have oB := hl.2 B (List.mem_of_getElem? hB)
    rw [hS] at oB
    obtain ⟨i, hi, e27⟩ := hkp.1 m (by omega)
    have cB : cA I L (P 27 m) S B := by have := C.1.1.2.2.1.2 m B hB; rw [hS] at this; exact this
    obtain ⟨J, M, j1, j2, j3, j4⟩ := copyState_ok (I := xu I 12 3 (nI m)) (L := L) (a0 := 24) (a1 := P 27 m) O (by omega) (cA_congr (xu_r (by omega)) (xu_r (by omega)) rfl cB)
    have hJ : ∀ b, b ≠ 12 → b ≠ 24 → b ≠ 26 → J b = I b := fun b h1 h2 h3 => by rw [j3 b h2 h3, xu_r h1]
    have hJ12 : ∀ i, i ≠ 3 → J 12 i = I 12 i := fun i hi => by rw [j3 12 (by decide) (by decide), xu_c hi]
    have hJ3 : J 12 3 = nI m := by rw [j3 12 (by decide) (by decide), xu_s]
    have htk : ((wK (zW Z)).take m).length = m := by rw [List.length_take]; omega
    have hget : ∀ j B', ((wK (zW Z)).take m)[j]? = some B' → j < m ∧ (wK (zW Z))[j]? = some B' := fun j B' hj => by
      rw [List.getElem?_take] at hj
      split at hj
      · exact ⟨by assumption, hj⟩
      · exact absurd hj (by simp)
    have C1 : CI (n, K, P, J, M) ((wS (zW Z), wT0 (zW Z), B, (wK (zW Z)).take m, wL (zW Z), wX (zW Z), wF (zW Z)), Z.2) := by
      refine CI_now ok C ?_ C.1.2 C.2.1 (fun b hb => ⟨hJ b (by omega) (by omega) (by omega), j4 b (by omega)⟩) (fun _ _ => rfl)
      obtain ⟨c1, -, ⟨-, c5⟩, c6, c8, c9⟩ := C.1.1
      refine ⟨⟨cS_congr (fun b h1 h2 => ?_) c1.1, cA_congr ?_ ?_ ?_ c1.2⟩, by show cA J M 24 (wS (zW Z)) B; rw [hS]; exact j2, ⟨by rw [hJ3]; show nI m = nI ((wK (zW Z)).take m).length; rw [htk], fun j B' hj => ?_⟩, ⟨(hJ12 7 (by decide)).trans c6.1, fun j a t o hj => ?_⟩, (hJ12 8 (by decide)).trans c8, (hJ12 9 (by decide)).trans c9⟩
      · change P 12 0 ≤ b at h1
        change b ≤ P 12 0 + 7 at h2
        exact hJ b (by omega) (by omega) (by omega)
      · show J (P 12 0 + 8) = I (P 12 0 + 8)
        exact hJ _ (by omega) (by omega) (by omega)
      · show J (P 12 0 + 8 + 2) = I (P 12 0 + 8 + 2)
        exact hJ _ (by omega) (by omega) (by omega)
      · show M (P 12 0 + 8 + 1) = L (P 12 0 + 8 + 1)
        exact j4 _ (by omega)
      · obtain ⟨q1, q2⟩ := hget j B' hj
        obtain ⟨i2, hi2, e2⟩ := hkp.1 j (by omega)
        show cA J M (P 27 j) (wS (zW Z)) B'
        exact cA_congr (hJ _ (by omega) (by omega) (by omega)) (hJ _ (by omega) (by omega) (by omega)) (j4 _ (by omega)) (c5 j B' q2)
      · show J 28 j = _ ∧ J 29 j = _ ∧ J 30 j = _
        rw [hJ 28 (by decide) (by decide) (by decide), hJ 29 (by decide) (by decide) (by decide), hJ 30 (by decide) (by decide) (by decide)]
        exact c6.2 j a t o hj
    have R0 : RI J Z := RI_cls ok (fun b q1 q2 => hJ b (by omega) (by omega) (by omega)) R
    have rP : rPa (J 162) m S B := by have := R0.1.2.2.2.1.2 m B hB; rw [hS] at this; exact this
    have s3' : J 123 51 = nI (m + 1) := by rw [hJ 123 (by decide) (by decide) (by decide)]; exact s3
    obtain ⟨H, u1, u2, u3, u4⟩ := movesAll1 (I := xu J 123 51 (nI m)) (m := m) O oB.1 (by omega) (by rw [xu_r (by decide)]; exact rP)
    have hH : ∀ b i, b ≠ 124 → b ≠ 128 → b ≠ 131 → b ≠ 132 → b ≠ 133 → b ≠ 123 → H b i = J b i := fun b i q1 q2 q3 q4 q5 q6 => by rw [u4 b i q1 q2 q3 q4 q5 (Or.inl q6), xu_r q6]
    have hH23 : ∀ i, i ≠ 51 → i ≠ 52 → i ≠ 53 → H 123 i = J 123 i := fun i q1 q2 q3 => by rw [u4 123 i (by decide) (by decide) (by decide) (by decide) (by decide) (Or.inr ⟨q2, q3⟩), xu_c q1]
    have h51 : H 123 51 = nI m := by rw [u4 123 51 (by decide) (by decide) (by decide) (by decide) (by decide) (Or.inr ⟨by decide, by decide⟩), xu_s]
    have hH24 : ∀ i, i ≠ 8 → i ≠ 9 → H 124 i = J 124 i := fun i q1 q2 => by rw [u3 i q1 q2, xu_r (by decide)]
    have R1 : RI H ((wS (zW Z), wT0 (zW Z), B, (wK (zW Z)).take m, wL (zW Z), wX (zW Z), wF (zW Z)), Z.2) := by
      refine RI_now ok R0 ?_ ⟨hH23 31 (by decide) (by decide) (by decide), hH23 27 (by decide) (by decide) (by decide), hH23 36 (by decide) (by decide) (by decide)⟩ (fun b q1 q2 => funext (fun i => hH b i (by omega) (by omega) (by omega) (by omega) (by omega) (by omega))) (fun i _ => hH 170 i (by decide) (by decide) (by decide) (by decide) (by decide) (by decide)) (fun i _ => hH 171 i (by decide) (by decide) (by decide) (by decide) (by decide) (by decide))
      obtain ⟨r1, -, r3, r4, r5, r6, r7⟩ := R0.1
      have O' := okZ_S ok
      refine ⟨rS_congr O' (fun i hi => hH24 i (by omega) (by omega)) (fun i _ => hH 125 i (by decide) (by decide) (by decide) (by decide) (by decide) (by decide)) (fun i _ => hH 126 i (by decide) (by decide) (by decide) (by decide) (by decide) (by decide)) (fun i _ => hH 127 i (by decide) (by decide) (by decide) (by decide) (by decide) (by decide)) (fun i _ => hH 129 i (by decide) (by decide) (by decide) (by decide) (by decide) (by decide)) (fun i _ => hH 130 i (by decide) (by decide) (by decide) (by decide) (by decide) (by decide)) r1, by show rAn H (wS (zW Z)) B; rw [hS]; exact u2, ⟨fun c hc hb => ⟨(hH 137 c (by decide) (by decide) (by decide) (by decide) (by decide) (by decide)).trans (r3.1 c hc hb).1, fun i x hx => (hH 138 _ (by decide) (by decide) (by decide) (by decide) (by decide) (by decide)).trans ((r3.1 c hc hb).2 i x hx)⟩, fun q hq => (hH 139 q (by decide) (by decide) (by decide) (by decide) (by decide) (by decide)).trans (r3.2.1 q hq), (hH 140 0 (by decide) (by decide) (by decide) (by decide) (by decide) (by decide)).trans r3.2.2⟩, ⟨?_, fun j B' hj => ?_⟩, ⟨(hH24 10 (by decide) (by decide)).trans r5.1, fun j a t o hj => ?_⟩, (hH24 11 (by decide) (by decide)).trans r6, (hH24 12 (by decide) (by decide)).trans r7⟩
      · show H 123 51 = nI ((wK (zW Z)).take m).length
        rw [h51, htk]
      · obtain ⟨q1, q2⟩ := hget j B' hj
        exact rPa_congr O' (hl.2 B' (List.mem_of_getElem? q2)).1 (fun i _ => hH 162 _ (by decide) (by decide) (by decide) (by decide) (by decide) (by decide)) (r4.2 j B' q2)
      · rw [hH 134 j (by decide) (by decide) (by decide) (by decide) (by decide) (by decide), hH 135 j (by decide) (by decide) (by decide) (by decide) (by decide) (by decide), hH 136 j (by decide) (by decide) (by decide) (by decide) (by decide) (by decide)]
        exact r5.2 j a t o hj
    have ok1 : okZ (k + 1) ((wS (zW Z), wT0 (zW Z), B, (wK (zW Z)).take m, wL (zW Z), wX (zW Z), wF (zW Z)), Z.2) := by
      refine okZ_now ok (Nat.le_succ k) ?_
      obtain ⟨p1, p2, p3, p4, p5, p6, p7, p8⟩ := okW_mono (Nat.le_succ k) (Nat.le_refl _) ok.1
      refine ⟨p1, p2, ⟨by show okA (wS (zW Z)) B; rw [hS]; exact oB.1, by show B.2.2.1 ≤ k + 1; omega⟩, ⟨by show ((wK (zW Z)).take m).length ≤ 20; omega, fun B' hB' => p4.2 B' (List.mem_of_mem_take hB')⟩, p5, p6, p7, p8⟩
    refine ⟨nI m, (n, K, P, J, M), (n, K, P, H, M), ?_, G, ?_, ?_⟩
    · unfold oX_undo mX11_undo mX10_takeBack
      simp (disch := omega) only [↓reduceIte, Option.bind_some, Option.some.injEq, Prod.mk.injEq, and_self, and_true, true_and, eq_self, reduceCtorEq, not_false_eq_true, not_true_eq_false, or_true, true_or, or_false, false_or, bft, nAdd, nMul, nSub, nDiv, nRem, nAm1, nIx, nIn, bI_z, bI_o, ite_b1, ite_b0, zI_add, zI_sub, li0, li1, li2, li3, li4, li5, li6, li7, li8, li9, li10, li11, li12, li13, li14, li15, li16, li17, li18, li19, li20, li21, li22, li23, li24, li25, li26, li27, li28, li29, li30, li31, li32, li33, li34, li35, li36, li37, li40, li42, li43, li45, li47, li48, li57, li59, li60, li61, li62, li64, li80, li91, li93, li97, li99, li100, li122, li182, li199, li255, li300, li380, li400, li999, li1000, li3640, li4100, li65536, li99999, ln1, ln2, ln3, ln100, ln100000, tLe, fLe, tLt, fLt, tEq, fEq, zLe_t, zLe_f, zLt_t, zLt_f, zEq_t, zEq_f, nzLe_t, nzLe_f, znLe_t, znLe_f, nzLt_t, nzLt_f, znLt_t, znLt_f, nzEq_t, nzEq_f, znEq_t, znEq_f, xu_s, xu_r, xu_c, xrow_at, xrow_r, c3, Nat.add_sub_cancel, j1, hJ3, Option.map_some]
    · unfold oM_undo mX12_undo
      simp (disch := omega) only [↓reduceIte, Option.bind_some, Option.some.injEq, Prod.mk.injEq, and_self, and_true, true_and, eq_self, reduceCtorEq, not_false_eq_true, not_true_eq_false, or_true, true_or, or_false, false_or, bft, nAdd, nMul, nSub, nDiv, nRem, nAm1, nIx, nIn, bI_z, bI_o, ite_b1, ite_b0, zI_add, zI_sub, li0, li1, li2, li3, li4, li5, li6, li7, li8, li9, li10, li11, li12, li13, li14, li15, li16, li17, li18, li19, li20, li21, li22, li23, li24, li25, li26, li27, li28, li29, li30, li31, li32, li33, li34, li35, li36, li37, li40, li42, li43, li45, li47, li48, li57, li59, li60, li61, li62, li64, li80, li91, li93, li97, li99, li100, li122, li182, li199, li255, li300, li380, li400, li999, li1000, li3640, li4100, li65536, li99999, ln1, ln2, ln3, ln100, ln100000, tLe, fLe, tLt, fLt, tEq, fEq, zLe_t, zLe_f, zLt_t, zLt_f, zEq_t, zEq_f, nzLe_t, nzLe_f, znLe_t, znLe_f, nzLt_t, nzLt_f, znLt_t, znLt_f, nzEq_t, nzEq_f, znEq_t, znEq_f, xu_s, xu_r, xu_c, xrow_at, xrow_r, s3', Nat.add_sub_cancel, u1, h51, Option.map_some]
    · refine Inv_ref (I := J) (L := M) G F ok1 C1 R1 (fun b hb => funext (fun i => hH b i (by omega) (by omega) (by omega) (by omega) (by omega) (by omega))) (fun _ _ => rfl)

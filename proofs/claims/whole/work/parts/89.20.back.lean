/-! back. -/
theorem lenR_ne {r i : Nat} (h : i < lenR r) : r ≠ 170 ∧ r ≠ 163 ∧ r ≠ 123 ∧ r ≠ 171 := by
  refine ⟨?_, ?_, ?_, ?_⟩ <;> (rintro rfl; exact absurd h (Nat.not_lt_zero _))
theorem lenR_off {b : Nat} (h : b < 124 ∨ (140 < b ∧ b ≠ 162)) : lenR b = 0 := by
  unfold lenR
  split <;> first | omega | rfl
theorem kp20_of {P : Nat → Nat → Nat} {w : Nat} (h : ∀ j, j < 20 → P (w + 15) j = w + 19 + 3 * j) : kp20 P w :=
  ⟨fun j hj => ⟨j, hj, h j hj⟩, fun i j hi hj e => by rw [h i hi, h j hj] at e; omega⟩
theorem q_back {k : Nat} (hk : k < 512) : st_back (Inv k) (Inv (k + 1)) := by
  intro h x hI
  obtain ⟨n, K, P, I, L⟩ := h
  obtain ⟨⟨G, F⟩, Z, ok, C, R⟩ := id hI
  change RI I Z at R
  have O := okZ_S ok
  have o1 := O.1
  have hA := okZ_A ok
  have hh := okZ_h ok
  have cs := CI_S C
  have ca := CI_A C
  have rs := RI_S R
  have ra := RI_A R
  generalize hS : wS (zW Z) = S at O o1 hA cs ca rs ra
  generalize hAA : wA (zW Z) = A at hA hh ca ra
  have no : mX11_back P I L x = some (-1, P, I, L) → mX12_back I x = some (-1, I) → ∃ r h1 h2, oX_back (n, K, P, I, L) x = some (r, h1) ∧ GW h1.2.1 h1.2.2.1 ∧ oM_back h1 x = some (r, h2) ∧ Inv (k + 1) h2 := fun a b => ⟨-1, (n, K, P, I, L), (n, K, P, I, L), by unfold oX_back; simp only [a]; rfl, G, by unfold oM_back; simp only [b]; rfl, Inv_q hI (fun _ _ => rfl)⟩
  have e1 := isWn x 0 3
  have e2 := rInW (lo := 0) (hi := 3) (by decide) (by decide) x
  change mX12_in x.toInt64 (0 : Int64) (3 : Int64) = _ at e2
  rcases wiC (lo := 0) (hi := 3) (by decide) (by decide) x with hx | ⟨i, -, hi, rfl⟩
  · rw [hx] at e1 e2
    refine no ?_ ?_
    · unfold mX11_back; simp (disch := omega) only [↓reduceIte, Option.bind_some, Option.some.injEq, Prod.mk.injEq, and_self, and_true, true_and, eq_self, reduceCtorEq, not_false_eq_true, not_true_eq_false, or_true, true_or, or_false, false_or, bft, nAdd, nMul, nSub, nDiv, nRem, nAm1, nIx, nIn, bI_z, bI_o, ite_b1, ite_b0, zI_add, zI_sub, li0, li1, li2, li3, li4, li5, li6, li7, li8, li9, li10, li11, li12, li13, li14, li15, li16, li17, li18, li19, li20, li21, li22, li23, li24, li25, li26, li27, li28, li29, li30, li31, li32, li33, li34, li35, li36, li37, li40, li42, li43, li45, li47, li48, li57, li59, li60, li61, li62, li64, li80, li91, li93, li97, li99, li100, li122, li182, li199, li255, li300, li380, li400, li999, li1000, li3640, li4100, li65536, li99999, ln1, ln2, ln3, ln100, ln100000, tLe, fLe, tLt, fLt, tEq, fEq, zLe_t, zLe_f, zLt_t, zLt_f, zEq_t, zEq_f, nzLe_t, nzLe_f, znLe_t, znLe_f, nzLt_t, nzLt_f, znLt_t, znLt_f, nzEq_t, nzEq_f, znEq_t, znEq_f, e1]
    · unfold mX12_back; simp (disch := omega) only [↓reduceIte, Option.bind_some, Option.some.injEq, Prod.mk.injEq, and_self, and_true, true_and, eq_self, reduceCtorEq, not_false_eq_true, not_true_eq_false, or_true, true_or, or_false, false_or, bft, nAdd, nMul, nSub, nDiv, nRem, nAm1, nIx, nIn, bI_z, bI_o, ite_b1, ite_b0, zI_add, zI_sub, li0, li1, li2, li3, li4, li5, li6, li7, li8, li9, li10, li11, li12, li13, li14, li15, li16, li17, li18, li19, li20, li21, li22, li23, li24, li25, li26, li27, li28, li29, li30, li31, li32, li33, li34, li35, li36, li37, li40, li42, li43, li45, li47, li48, li57, li59, li60, li61, li62, li64, li80, li91, li93, li97, li99, li100, li122, li182, li199, li255, li300, li380, li400, li999, li1000, li3640, li4100, li65536, li99999, ln1, ln2, ln3, ln100, ln100000, tLe, fLe, tLt, fLt, tEq, fEq, zLe_t, zLe_f, zLt_t, zLt_f, zEq_t, zEq_f, nzLe_t, nzLe_f, znLe_t, znLe_f, nzLt_t, nzLt_f, znLt_t, znLt_f, nzEq_t, nzEq_f, znEq_t, znEq_f, e2]
  rw [wiB_t (by omega) hi (by omega)] at e1 e2
  have mc := C.2.2.1.1 i (by omega)
  have mr := R.2.1 i (by omega)
  change cM n P I L i (zM Z i) at mc
  cases hz : zM Z i with
  | none =>
    rw [hz] at mc mr
    have m1 : P 91 i = 0 := mc
    have m2 : I 171 i = nI 0 := mr
    refine no ?_ ?_
    · unfold mX11_back; simp (disch := omega) only [↓reduceIte, Option.bind_some, Option.some.injEq, Prod.mk.injEq, and_self, and_true, true_and, eq_self, reduceCtorEq, not_false_eq_true, not_true_eq_false, or_true, true_or, or_false, false_or, bft, nAdd, nMul, nSub, nDiv, nRem, nAm1, nIx, nIn, bI_z, bI_o, ite_b1, ite_b0, zI_add, zI_sub, li0, li1, li2, li3, li4, li5, li6, li7, li8, li9, li10, li11, li12, li13, li14, li15, li16, li17, li18, li19, li20, li21, li22, li23, li24, li25, li26, li27, li28, li29, li30, li31, li32, li33, li34, li35, li36, li37, li40, li42, li43, li45, li47, li48, li57, li59, li60, li61, li62, li64, li80, li91, li93, li97, li99, li100, li122, li182, li199, li255, li300, li380, li400, li999, li1000, li3640, li4100, li65536, li99999, ln1, ln2, ln3, ln100, ln100000, tLe, fLe, tLt, fLt, tEq, fEq, zLe_t, zLe_f, zLt_t, zLt_f, zEq_t, zEq_f, nzLe_t, nzLe_f, znLe_t, znLe_f, nzLt_t, nzLt_f, znLt_t, znLt_f, nzEq_t, nzEq_f, znEq_t, znEq_f, e1, m1, ne_eq]
    · unfold mX12_back; simp (disch := omega) only [↓reduceIte, Option.bind_some, Option.some.injEq, Prod.mk.injEq, and_self, and_true, true_and, eq_self, reduceCtorEq, not_false_eq_true, not_true_eq_false, or_true, true_or, or_false, false_or, bft, nAdd, nMul, nSub, nDiv, nRem, nAm1, nIx, nIn, bI_z, bI_o, ite_b1, ite_b0, zI_add, zI_sub, li0, li1, li2, li3, li4, li5, li6, li7, li8, li9, li10, li11, li12, li13, li14, li15, li16, li17, li18, li19, li20, li21, li22, li23, li24, li25, li26, li27, li28, li29, li30, li31, li32, li33, li34, li35, li36, li37, li40, li42, li43, li45, li47, li48, li57, li59, li60, li61, li62, li64, li80, li91, li93, li97, li99, li100, li122, li182, li199, li255, li300, li380, li400, li999, li1000, li3640, li4100, li65536, li99999, ln1, ln2, ln3, ln100, ln100000, tLe, fLe, tLt, fLt, tEq, fEq, zLe_t, zLe_f, zLt_t, zLt_f, zEq_t, zEq_f, nzLe_t, nzLe_f, znLe_t, znLe_f, nzLt_t, nzLt_f, znLt_t, znLt_f, nzEq_t, nzEq_f, znEq_t, znEq_f, e2, m2]
  | some W =>
    rw [hz] at mc mr
    obtain ⟨⟨w1, w2⟩, w3, w4, w5⟩ := mc
    obtain ⟨m1, m2⟩ := mr
    have okWi := ok.2.1 i W hz
    have w4' : P (P 91 i) 0 = 13 ∨ 171 < P (P 91 i) 0 := w4.imp id (fun h => h.1)
    obtain ⟨J, M, p1, p2, p3, p4⟩ := cpW_ok (P := P) (w0 := 12) (w1 := P 91 i) okWi C.2.1 (kp20_of w5) (Or.inl (by omega)) (fun b h1 h2 => by omega) w3
    have k91 : K (P 91 i) = (9, 0) := by
      rcases G.2.2.2.2.2.2.2.2.1 i (by omega) with e | e
      · change P 91 i = 0 at e
        omega
      · exact e
    have G1 := gw_X10_copyFrom (K := K) G (g_K12 G) k91 p1
    change GW K (xu P 12 0 (P (P 91 i) 0)) at G1
    have C1 : CI (n, K, xu P 12 0 (P (P 91 i) 0), J, M) (W, Z.2) := CI_now ok C p2 (by rw [xu_s]; exact w4) (by rw [xu_r (by decide)]; exact C.2.1) (fun b hb => p4 b (by omega) (by omega)) (fun b hb => xu_r (by omega))
    have R1 : RI J Z := RI_cls ok (fun b h1 h2 => (p4 b (by omega) (by omega)).1) R
    have ok1 : okZ (k + 1) (W, Z.2) := okZ_now ok (Nat.le_succ k) (okW_mono (Nat.le_succ k) (Nat.le_refl _) okWi)
    obtain ⟨H, q1, q2, q3, q4⟩ := restK (k := i) (by omega) J
    have hh9 : H 124 9 = nI (wA W).2.2.1 := by
      rw [q2 124 9 (show 9 < 13 by decide), (p4 170 (by omega) (by omega)).1]
      exact m2.2.1.2.1
    have R2 : RI H (W, Z.2) := by
      refine RI_now ok R1 (rW_congr okWi (fun r j hj => ?_) ?_ m2) ⟨?_, ?_, ?_⟩ (fun b h1 h2 => ?_) (fun j hj => ?_) (fun j hj => ?_)
      · rw [q2 r j hj, (p4 170 (by omega) (by omega)).1]; rfl
      · rw [q3, (p4 170 (by omega) (by omega)).1]
      · exact q4 123 31 (Nat.zero_le _) (by decide) (by decide)
      · exact q4 123 27 (Nat.zero_le _) (by decide) (by decide)
      · exact q4 123 36 (Nat.zero_le _) (by decide) (by decide)
      · funext j
        exact q4 b j (by rw [lenR_off (by omega)]; omega) (by omega) (by omega)
      · exact q4 170 j (Nat.zero_le _) (by decide) (Or.inl (by decide))
      · exact q4 171 j (Nat.zero_le _) (by decide) (Or.inl (by decide))
    refine ⟨nI (wA W).2.2.1, (n, K, xu P 12 0 (P (P 91 i) 0), J, M), (n, K, xu P 12 0 (P (P 91 i) 0), H, M), ?_, G1, ?_, Inv_ref G1 F ok1 C1 R2 (fun b hb => ?_) (fun _ _ => rfl)⟩
    · have e : mX11_back P I L (nI i) = some (nI (wA W).2.2.1, xu P 12 0 (P (P 91 i) 0), J, M) := by
        unfold mX11_back
        simp (disch := omega) only [↓reduceIte, Option.bind_some, Option.some.injEq, Prod.mk.injEq, and_self, and_true, true_and, eq_self, reduceCtorEq, not_false_eq_true, not_true_eq_false, or_true, true_or, or_false, false_or, bft, nAdd, nMul, nSub, nDiv, nRem, nAm1, nIx, nIn, bI_z, bI_o, ite_b1, ite_b0, zI_add, zI_sub, li0, li1, li2, li3, li4, li5, li6, li7, li8, li9, li10, li11, li12, li13, li14, li15, li16, li17, li18, li19, li20, li21, li22, li23, li24, li25, li26, li27, li28, li29, li30, li31, li32, li33, li34, li35, li36, li37, li40, li42, li43, li45, li47, li48, li57, li59, li60, li61, li62, li64, li80, li91, li93, li97, li99, li100, li122, li182, li199, li255, li300, li380, li400, li999, li1000, li3640, li4100, li65536, li99999, ln1, ln2, ln3, ln100, ln100000, tLe, fLe, tLt, fLt, tEq, fEq, zLe_t, zLe_f, zLt_t, zLt_f, zEq_t, zEq_f, nzLe_t, nzLe_f, znLe_t, znLe_f, nzLt_t, nzLt_f, znLt_t, znLt_f, nzEq_t, nzEq_f, znEq_t, znEq_f, e1, ne_eq, show ¬ P 91 i = 0 by omega, p1]
        exact p3
      unfold oX_back
      rw [e]; rfl
    · have e : mX12_back J (nI i) = some (nI (wA W).2.2.1, H) := by
        unfold mX12_back
        simp (disch := omega) only [↓reduceIte, Option.bind_some, Option.some.injEq, Prod.mk.injEq, and_self, and_true, true_and, eq_self, reduceCtorEq, not_false_eq_true, not_true_eq_false, or_true, true_or, or_false, false_or, bft, nAdd, nMul, nSub, nDiv, nRem, nAm1, nIx, nIn, bI_z, bI_o, ite_b1, ite_b0, zI_add, zI_sub, li0, li1, li2, li3, li4, li5, li6, li7, li8, li9, li10, li11, li12, li13, li14, li15, li16, li17, li18, li19, li20, li21, li22, li23, li24, li25, li26, li27, li28, li29, li30, li31, li32, li33, li34, li35, li36, li37, li40, li42, li43, li45, li47, li48, li57, li59, li60, li61, li62, li64, li80, li91, li93, li97, li99, li100, li122, li182, li199, li255, li300, li380, li400, li999, li1000, li3640, li4100, li65536, li99999, ln1, ln2, ln3, ln100, ln100000, tLe, fLe, tLt, fLt, tEq, fEq, zLe_t, zLe_f, zLt_t, zLt_f, zEq_t, zEq_f, nzLe_t, nzLe_f, znLe_t, znLe_f, nzLt_t, nzLt_f, znLt_t, znLt_f, nzEq_t, nzEq_f, znEq_t, znEq_f, e2, show J 171 i = nI 1 by rw [(p4 171 (by omega) (by omega)).1]; exact m1, q1, hh9]
      unfold oM_back
      change Option.map _ (mX12_back J (nI i)) = _
      rw [e]; rfl
    · funext j
      exact q4 b j (by rw [lenR_off (by omega)]; omega) (by omega) (by omega)

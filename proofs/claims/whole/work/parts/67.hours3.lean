/-! Hours of the class: all painters; the hour's end. -/
theorem talF_congr {o1 o2 : Nat → Int} : ∀ (n k : Nat), (∀ j, k ≤ j → j < k + n → o1 j = o2 j) → talF o1 n k = talF o2 n k
  | 0, _, _ => rfl
  | n + 1, k, h => by rw [talF, talF, h k (by omega) (by omega), talF_congr n (k + 1) (fun j h1 h2 => h j (by omega) (by omega))]
theorem ownT_congr {S : sT} {A B : aT} {t part : Nat} (h : ∀ c, sFi S t ≤ c → c < sFi S (t + 1) → ownA S B c = ownA S A c) : ownT S B t part = ownT S A t part := by
  unfold ownT
  refine ownC_congr (fun q _ => ?_) _ _
  unfold cntT
  exact cntF_congr _ _ (fun j h1 h2 => h j h1 (by omega))
theorem seeT_other {I : Nat → Nat → Int32} {S : sT} {A B : aT} {t : Nat} (hs : seeT I S A t) (h : ∀ c, sFi S t ≤ c → c < sFi S (t + 1) → B.1 c = A.1 c) (hh : B.2.2.1 = A.2.2.1) : seeT I S B t := by
  have e : ∀ c, sFi S t ≤ c → c < sFi S (t + 1) → ownA S B c = ownA S A c := fun c h1 h2 => by unfold ownA; rw [h c h1 h2, hh]
  refine ⟨fun c h1 h2 => by rw [e c h1 h2]; exact hs.1 c h1 h2, ?_, ?_⟩
  · rw [talF_congr (o1 := ownA S B) (o2 := ownA S A) _ _ (fun j h1 h2 => e j h1 (by omega))]; exact hs.2.1
  · rw [ownT_congr e]; exact hs.2.2
theorem paF_ok {S : sT} {ru : ruT} (O : okS S) : ∀ (n q : Nat) (A : aT) (m : Nat), n + q = sPa S → okA S A → A.2.2.1 < 1000 → okA S (paF S ru n q A m).1 ∧ (paF S ru n q A m).1.2.2 = A.2.2
  | 0, _, _, _, _, hA, _ => ⟨hA, rfl⟩
  | n + 1, q, A, m, hn, hA, hh => by
    rw [paF]
    rcases chA_rng S ru A q with e | ⟨c, hc, e, hb⟩
    · rw [e, if_pos (by decide)]
      exact paF_ok O n (q + 1) A m (by omega) hA hh
    · rw [e, if_neg (by omega)]
      exact paF_ok O n (q + 1) (putA S A c q) (m + 1) (by omega) (okA_put O hA hc (by omega) hh hb) hh
theorem paF_no {S : sT} {ru : ruT} {n q m : Nat} {A : aT} (e : chA S ru A q = -1) : paF S ru (n + 1) q A m = paF S ru n (q + 1) A m := by rw [paF, e, if_pos (by decide)]
theorem paF_yes {S : sT} {ru : ruT} {n q m c : Nat} {A : aT} (e : chA S ru A q = c) : paF S ru (n + 1) q A m = paF S ru n (q + 1) (putA S A c q) (m + 1) := by rw [paF, e, if_neg (by omega), Int.toNat_natCast]
section
variable {K : Nat → Nat × Nat} {s a rp : Nat} {S : sT} {ru : ruT}
theorem paint_go (O : okS S) (ps : s = 13 ∨ 171 < s) (pa : a = 24 ∨ a = 92) (pr : 171 < rp) (ok : okRu ru) : ∀ (f n q m : Nat) (A : aT) (I : Nat → Nat → Int32) (L : Nat → Nat → Int64), n < f → n + q = sPa S → okA S A → A.2.2.1 < 1000 → cS I s S → cA I L a S A → cR K I rp ru → (∀ t, t < sTh S → seeT I S A t) → L 96 11 = lN A.2.2.1 → (L 96 12 = if rainS S A.2.2.1 = true then 1 else 0) → ∃ J M, mX2_paintBy_67 K f I L rp s a (nI m) (nI q) = some (nI (paF S ru n q A m).2, J, M) ∧ cA J M a S (paF S ru n q A m).1 ∧ (∀ b, b ≠ a + 2 → b ≠ 98 → b ≠ 99 → b ≠ 100 → J b = I b) ∧ ∀ b, b ≠ a + 1 → b ≠ 96 → b ≠ 97 → M b = L b
  | 0, n, q, m, A, I, L, h1, _, _, _, _, _, _, _, _, _ => absurd h1 (by omega)
  | f + 1, n, q, m, A, I, L, h1, h2, hA, hh, C, hC, R, hs, w11, w12 => by
    have o1 := O.1
    rw [mX2_paintBy_67]
    cases n with
    | zero =>
      refine ⟨I, L, ?_, hC, fun _ _ _ _ _ => rfl, fun _ _ _ _ => rfl⟩
      simp (disch := omega) only [↓reduceIte, Option.bind_some, Option.some.injEq, Prod.mk.injEq, and_self, and_true, true_and, eq_self, reduceCtorEq, not_false_eq_true, not_true_eq_false, or_true, true_or, or_false, false_or, bft, nAdd, nMul, nSub, nDiv, nRem, nAm1, nIx, nIn, bI_z, bI_o, ite_b1, ite_b0, zI_add, zI_sub, li0, li1, li2, li3, li4, li5, li6, li7, li8, li9, li10, li11, li12, li13, li14, li15, li16, li17, li18, li19, li20, li21, li22, li23, li24, li25, li26, li27, li28, li29, li30, li31, li32, li33, li34, li35, li36, li37, li40, li42, li43, li45, li47, li48, li57, li59, li60, li61, li62, li64, li80, li91, li93, li97, li99, li100, li122, li182, li199, li255, li300, li380, li400, li999, li1000, li3640, li4100, li65536, li99999, ln1, ln2, ln3, ln100, ln100000, tLe, fLe, tLt, fLt, tEq, fEq, zLe_t, zLe_f, zLt_t, zLt_f, zEq_t, zEq_f, nzLe_t, nzLe_f, znLe_t, znLe_f, nzLt_t, nzLt_f, znLt_t, znLt_f, nzEq_t, nzEq_f, znEq_t, znEq_f, cS_npa C]
      rfl
    | succ n =>
      have hq : q < sPa S := by omega
      have hp := hA.2.1 q hq
      by_cases hc : A.2.1 q < sCost S
      · have e : chA S ru A q = -1 := by unfold chA; rw [if_pos hc]
        rw [paF_no e]
        simp (disch := omega) only [↓reduceIte, Option.bind_some, Option.some.injEq, Prod.mk.injEq, and_self, and_true, true_and, eq_self, reduceCtorEq, not_false_eq_true, not_true_eq_false, or_true, true_or, or_false, false_or, bft, nAdd, nMul, nSub, nDiv, nRem, nAm1, nIx, nIn, bI_z, bI_o, ite_b1, ite_b0, zI_add, zI_sub, li0, li1, li2, li3, li4, li5, li6, li7, li8, li9, li10, li11, li12, li13, li14, li15, li16, li17, li18, li19, li20, li21, li22, li23, li24, li25, li26, li27, li28, li29, li30, li31, li32, li33, li34, li35, li36, li37, li40, li42, li43, li45, li47, li48, li57, li59, li60, li61, li62, li64, li80, li91, li93, li97, li99, li100, li122, li182, li199, li255, li300, li380, li400, li999, li1000, li3640, li4100, li65536, li99999, ln1, ln2, ln3, ln100, ln100000, tLe, fLe, tLt, fLt, tEq, fEq, zLe_t, zLe_f, zLt_t, zLt_f, zEq_t, zEq_f, nzLe_t, nzLe_f, znLe_t, znLe_f, nzLt_t, nzLt_f, znLt_t, znLt_f, nzEq_t, nzEq_f, znEq_t, znEq_f, cS_npa C, cA_p hC hq, cS_cost C]
        exact paint_go O ps pa pr ok f n (q + 1) m A I L (by omega) (by omega) hA hh C hC R hs w11 w12
      · have e0 : chA S ru A q = chF S A (fun c => valR ru (envW S A q c)) (sCe S) 0 (-1) 0 := by unfold chA; rw [if_neg hc]
        obtain ⟨M1, m1, m2, m3, m4⟩ := choose_ok O hA (by omega) pa hq C hs R ok hC w11 w12
        rw [← e0] at m1
        have hC1 : cA I M1 a S A := cA_congr rfl rfl (m2 _ (by omega) (by omega)) hC
        rcases chA_rng S ru A q with e | ⟨c, hce, e, hb⟩
        · rw [e] at m1
          rw [paF_no e]
          obtain ⟨J, M, r1, r2, r3, r4⟩ := paint_go O ps pa pr ok f n (q + 1) m A I M1 (by omega) (by omega) hA hh C hC1 R hs m3 m4
          refine ⟨J, M, ?_, r2, r3, fun b h3 h4 h5 => (r4 b h3 h4 h5).trans (m2 b h4 h5)⟩
          simp (disch := omega) only [↓reduceIte, Option.bind_some, Option.some.injEq, Prod.mk.injEq, and_self, and_true, true_and, eq_self, reduceCtorEq, not_false_eq_true, not_true_eq_false, or_true, true_or, or_false, false_or, bft, nAdd, nMul, nSub, nDiv, nRem, nAm1, nIx, nIn, bI_z, bI_o, ite_b1, ite_b0, zI_add, zI_sub, li0, li1, li2, li3, li4, li5, li6, li7, li8, li9, li10, li11, li12, li13, li14, li15, li16, li17, li18, li19, li20, li21, li22, li23, li24, li25, li26, li27, li28, li29, li30, li31, li32, li33, li34, li35, li36, li37, li40, li42, li43, li45, li47, li48, li57, li59, li60, li61, li62, li64, li80, li91, li93, li97, li99, li100, li122, li182, li199, li255, li300, li380, li400, li999, li1000, li3640, li4100, li65536, li99999, ln1, ln2, ln3, ln100, ln100000, tLe, fLe, tLt, fLt, tEq, fEq, zLe_t, zLe_f, zLt_t, zLt_f, zEq_t, zEq_f, nzLe_t, nzLe_f, znLe_t, znLe_f, nzLt_t, nzLt_f, znLt_t, znLt_f, nzEq_t, nzEq_f, znEq_t, znEq_f, cS_npa C, cA_p hC hq, cS_cost C, m1]
          exact r1
        · rw [e, zI_nat] at m1
          obtain ⟨J1, M2, p1, p2, p3, p4⟩ := putCoat_ok (c := c) (q := q) O hA hh hce hq (by omega) C hC1
          have C1 : cS J1 s S := cS_congr (fun b h3 h4 => p3 b (by omega)) C
          have hA1 := okA_put O hA hce hq hh hb
          obtain ⟨t1, t2, t3⟩ := thOf_ok O hce
          obtain ⟨J2, g1, g2, g3, g4, g5⟩ := seeThing_ok (A := putA S A c q) O hA1 (show A.2.2.1 < 100000 by omega) ps pa t1 C1 p2
          have C2 : cS J2 s S := cS_congr (fun b h3 h4 => g2 b (by omega) (by omega) (by omega)) C1
          have hC2 : cA J2 M2 a S (putA S A c q) := cA_congr (g2 _ (by omega) (by omega) (by omega)) (g2 _ (by omega) (by omega) (by omega)) rfl p2
          have R2 : cR K J2 rp ru := cR_congr (fun b h3 h4 => (g2 b (by omega) (by omega) (by omega)).trans (p3 b (by omega))) R
          have hs2 : ∀ t, t < sTh S → seeT J2 S (putA S A c q) t := fun t ht => by
            by_cases w : t = thOf S c
            · subst w; exact g3
            · have hsI := hs t ht
              have n98 : ∀ d, sFi S t ≤ d → d < sFi S (t + 1) → d < sFi S (thOf S c) ∨ sFi S (thOf S c + 1) ≤ d := fun d h3 h4 => by
                rcases Nat.lt_or_ge d (sFi S (thOf S c)) with z | z
                · exact Or.inl z
                · rcases Nat.lt_or_ge d (sFi S (thOf S c + 1)) with y | y
                  · exact absurd ((thOf_in O ht h3 h4).trans (thOf_in O t1 z y).symm) w
                  · exact Or.inr y
              have hJ1 : seeT J1 S A t := by
                unfold seeT
                rw [p3 98 (by omega), p3 99 (by omega), p3 100 (by omega)]
                exact hsI
              have hJ2 : seeT J2 S A t := ⟨fun d h3 h4 => (g5 d (n98 d h3 h4)).trans (hJ1.1 d h3 h4), ((g4 t w).1).trans hJ1.2.1, ((g4 t w).2).trans hJ1.2.2⟩
              refine seeT_other hJ2 (fun d h3 h4 => ?_) rfl
              show updF A.1 c _ d = _
              refine updF_n (fun z => ?_)
              subst z
              exact w (thOf_in O ht h3 h4)
          obtain ⟨J, M, r1, r2, r3, r4⟩ := paint_go O ps pa pr ok f n (q + 1) (m + 1) (putA S A c q) J2 M2 (by omega) (by omega) hA1 hh C2 hC2 R2 hs2 (by rw [p4 96 (by omega)]; exact m3) (by rw [p4 96 (by omega)]; exact m4)
          rw [paF_yes e]
          refine ⟨J, M, ?_, r2, fun b h3 h4 h5 h6 => (r3 b h3 h4 h5 h6).trans ((g2 b h4 h5 h6).trans (p3 b h3)), fun b h3 h4 h5 => (r4 b h3 h4 h5).trans ((p4 b h3).trans (m2 b h4 h5))⟩
          simp (disch := omega) only [↓reduceIte, Option.bind_some, Option.some.injEq, Prod.mk.injEq, and_self, and_true, true_and, eq_self, reduceCtorEq, not_false_eq_true, not_true_eq_false, or_true, true_or, or_false, false_or, bft, nAdd, nMul, nSub, nDiv, nRem, nAm1, nIx, nIn, bI_z, bI_o, ite_b1, ite_b0, zI_add, zI_sub, li0, li1, li2, li3, li4, li5, li6, li7, li8, li9, li10, li11, li12, li13, li14, li15, li16, li17, li18, li19, li20, li21, li22, li23, li24, li25, li26, li27, li28, li29, li30, li31, li32, li33, li34, li35, li36, li37, li40, li42, li43, li45, li47, li48, li57, li59, li60, li61, li62, li64, li80, li91, li93, li97, li99, li100, li122, li182, li199, li255, li300, li380, li400, li999, li1000, li3640, li4100, li65536, li99999, ln1, ln2, ln3, ln100, ln100000, tLe, fLe, tLt, fLt, tEq, fEq, zLe_t, zLe_f, zLt_t, zLt_f, zEq_t, zEq_f, nzLe_t, nzLe_f, znLe_t, znLe_f, nzLt_t, nzLt_f, znLt_t, znLt_f, nzEq_t, nzEq_f, znEq_t, znEq_f, cS_npa C, cA_p hC hq, cS_cost C, m1, p1, cS_th C1 O hce, g1]
          exact r1
theorem seeAll_go {I0 : Nat → Nat → Int32} {L : Nat → Nat → Int64} {A : aT} {e26 : (Nat → Nat → Int32) → (Nat → Nat → Int64) → Nat → Nat → Nat → Option (Int32 × (Nat → Nat → Int32) × (Nat → Nat → Int64))} (O : okS S) (hA : okA S A) (hh : A.2.2.1 < 100000) (ps : s = 13 ∨ 171 < s) (pa : a = 24 ∨ a = 92) : ∀ (f n t : Nat) (I : Nat → Nat → Int32), n < f → n + t = sTh S → cS I s S → cA I L a S A → (∀ u, u < t → seeT I S A u) → ∃ J, mX2_paintBy_3 K e26 f I L rp s a (nI t) = e26 J L rp s a ∧ (∀ b, b ≠ 98 → b ≠ 99 → b ≠ 100 → J b = I b) ∧ ∀ u, u < sTh S → seeT J S A u
  | 0, n, t, I, h1, _, _, _, _ => absurd h1 (by omega)
  | f + 1, n, t, I, h1, h2, C, hC, hs => by
    have o1 := O.1
    rw [mX2_paintBy_3]
    cases n with
    | zero =>
      refine ⟨I, ?_, fun _ _ _ _ => rfl, fun u hu => hs u (by omega)⟩
      simp (disch := omega) only [↓reduceIte, Option.bind_some, Option.some.injEq, Prod.mk.injEq, and_self, and_true, true_and, eq_self, reduceCtorEq, not_false_eq_true, not_true_eq_false, or_true, true_or, or_false, false_or, bft, nAdd, nMul, nSub, nDiv, nRem, nAm1, nIx, nIn, bI_z, bI_o, ite_b1, ite_b0, zI_add, zI_sub, li0, li1, li2, li3, li4, li5, li6, li7, li8, li9, li10, li11, li12, li13, li14, li15, li16, li17, li18, li19, li20, li21, li22, li23, li24, li25, li26, li27, li28, li29, li30, li31, li32, li33, li34, li35, li36, li37, li40, li42, li43, li45, li47, li48, li57, li59, li60, li61, li62, li64, li80, li91, li93, li97, li99, li100, li122, li182, li199, li255, li300, li380, li400, li999, li1000, li3640, li4100, li65536, li99999, ln1, ln2, ln3, ln100, ln100000, tLe, fLe, tLt, fLt, tEq, fEq, zLe_t, zLe_f, zLt_t, zLt_f, zEq_t, zEq_f, nzLe_t, nzLe_f, znLe_t, znLe_f, nzLt_t, nzLt_f, znLt_t, znLt_f, nzEq_t, nzEq_f, znEq_t, znEq_f, cS_nth C]
    | succ n =>
      have ht : t < sTh S := by omega
      obtain ⟨J, j1, j2, j3, j4, j5⟩ := seeThing_ok O hA hh ps pa ht C hC
      obtain ⟨J2, k1, k2, k3⟩ := seeAll_go (I0 := I0) O hA hh ps pa f n (t + 1) J (by omega) (by omega) (cS_congr (fun b h3 h4 => j2 b (by omega) (by omega) (by omega)) C) (cA_congr (j2 _ (by omega) (by omega) (by omega)) (j2 _ (by omega) (by omega) (by omega)) rfl hC) (fun u hu => by
        by_cases w : u = t
        · subst w; exact j3
        · have hsI := hs u (by omega)
          have hmo := sFi_mono O (t - (u + 1)) (u + 1) (by omega)
          rw [show u + 1 + (t - (u + 1)) = t by omega] at hmo
          exact ⟨fun c h3 h4 => (j5 c (Or.inl (by omega))).trans (hsI.1 c h3 h4), ((j4 u w).1).trans hsI.2.1, ((j4 u w).2).trans hsI.2.2⟩)
      refine ⟨J2, ?_, fun b h3 h4 h5 => (k2 b h3 h4 h5).trans (j2 b h3 h4 h5), k3⟩
      simp (disch := omega) only [↓reduceIte, Option.bind_some, Option.some.injEq, Prod.mk.injEq, and_self, and_true, true_and, eq_self, reduceCtorEq, not_false_eq_true, not_true_eq_false, or_true, true_or, or_false, false_or, bft, nAdd, nMul, nSub, nDiv, nRem, nAm1, nIx, nIn, bI_z, bI_o, ite_b1, ite_b0, zI_add, zI_sub, li0, li1, li2, li3, li4, li5, li6, li7, li8, li9, li10, li11, li12, li13, li14, li15, li16, li17, li18, li19, li20, li21, li22, li23, li24, li25, li26, li27, li28, li29, li30, li31, li32, li33, li34, li35, li36, li37, li40, li42, li43, li45, li47, li48, li57, li59, li60, li61, li62, li64, li80, li91, li93, li97, li99, li100, li122, li182, li199, li255, li300, li380, li400, li999, li1000, li3640, li4100, li65536, li99999, ln1, ln2, ln3, ln100, ln100000, tLe, fLe, tLt, fLt, tEq, fEq, zLe_t, zLe_f, zLt_t, zLt_f, zEq_t, zEq_f, nzLe_t, nzLe_f, znLe_t, znLe_f, nzLt_t, nzLt_f, znLt_t, znLt_f, nzEq_t, nzEq_f, znEq_t, znEq_f, cS_nth C, j1]
      exact k1
theorem paintBy_ok {I : Nat → Nat → Int32} {L : Nat → Nat → Int64} {A : aT} (O : okS S) (hA : okA S A) (hh : A.2.2.1 < 1000) (ps : s = 13 ∨ 171 < s) (pa : a = 24 ∨ a = 92) (pr : 171 < rp) (ok : okRu ru) (C : cS I s S) (hC : cA I L a S A) (R : cR K I rp ru) : ∃ J M, mX2_paintBy K I L rp s a = some (nI (paF S ru (sPa S) 0 A 0).2, J, M) ∧ cA J M a S (paF S ru (sPa S) 0 A 0).1 ∧ (∀ b, b ≠ a + 2 → b ≠ 98 → b ≠ 99 → b ≠ 100 → J b = I b) ∧ ∀ b, b ≠ a + 1 → b ≠ 96 → b ≠ 97 → M b = L b := by
  have o1 := O.1
  obtain ⟨J1, j1, j2, j3⟩ := seeAll_go (K := K) (rp := rp) (L := L) (I0 := I) (e26 := fun I_4 L_4 a1_4 a2_4 a3_4 => (Option.bind (mX7_rainsIn I_4 a2_4 (I_4 a3_4 2)) (fun q5 => (if q5 = 0 then (mX2_paintBy_60 K I_4 (xu L_4 96 11 (I_4 a3_4 2).toInt64) a1_4 a2_4 a3_4 (0 : Int64) (12 : Int32)) else (mX2_paintBy_60 K I_4 (xu L_4 96 11 (I_4 a3_4 2).toInt64) a1_4 a2_4 a3_4 (1 : Int64) (12 : Int32)))))) O hA (by omega) ps pa xf (sTh S) 0 I (by unfold xf; omega) (by omega) C hC (fun u hu => absurd hu (by omega))
  have C1 : cS J1 s S := cS_congr (fun b h3 h4 => j2 b (by omega) (by omega) (by omega)) C
  have hC1 : cA J1 L a S A := cA_congr (j2 _ (by omega) (by omega) (by omega)) (j2 _ (by omega) (by omega) (by omega)) rfl hC
  have R1 : cR K J1 rp ru := cR_congr (fun b h3 h4 => j2 b (by omega) (by omega) (by omega)) R
  have er := rainsIn_ok C1 O (show A.2.2.1 < 100000 by omega)
  have main : ∀ w : Int64, (w = if rainS S A.2.2.1 = true then 1 else 0) → ∃ J M, mX2_paintBy_67 K xf J1 (xu (xu L 96 11 (lN A.2.2.1)) 96 12 w) rp s a (nI 0) (nI 0) = some (nI (paF S ru (sPa S) 0 A 0).2, J, M) ∧ cA J M a S (paF S ru (sPa S) 0 A 0).1 ∧ (∀ b, b ≠ a + 2 → b ≠ 98 → b ≠ 99 → b ≠ 100 → J b = I b) ∧ ∀ b, b ≠ a + 1 → b ≠ 96 → b ≠ 97 → M b = L b := fun w hw => by
    obtain ⟨J, M, r1, r2, r3, r4⟩ := paint_go O ps pa pr ok xf (sPa S) 0 0 A J1 (xu (xu L 96 11 (lN A.2.2.1)) 96 12 w) (by unfold xf; omega) (by omega) hA hh C1 (cA_congr rfl rfl (by rw [xu_r (by omega), xu_r (by omega)]) hC1) R1 j3 (by simp (disch := omega) only [↓reduceIte, Option.bind_some, Option.some.injEq, Prod.mk.injEq, and_self, and_true, true_and, eq_self, reduceCtorEq, not_false_eq_true, not_true_eq_false, or_true, true_or, or_false, false_or, bft, nAdd, nMul, nSub, nDiv, nRem, nAm1, nIx, nIn, bI_z, bI_o, ite_b1, ite_b0, zI_add, zI_sub, li0, li1, li2, li3, li4, li5, li6, li7, li8, li9, li10, li11, li12, li13, li14, li15, li16, li17, li18, li19, li20, li21, li22, li23, li24, li25, li26, li27, li28, li29, li30, li31, li32, li33, li34, li35, li36, li37, li40, li42, li43, li45, li47, li48, li57, li59, li60, li61, li62, li64, li80, li91, li93, li97, li99, li100, li122, li182, li199, li255, li300, li380, li400, li999, li1000, li3640, li4100, li65536, li99999, ln1, ln2, ln3, ln100, ln100000, tLe, fLe, tLt, fLt, tEq, fEq, zLe_t, zLe_f, zLt_t, zLt_f, zEq_t, zEq_f, nzLe_t, nzLe_f, znLe_t, znLe_f, nzLt_t, nzLt_f, znLt_t, znLt_f, nzEq_t, nzEq_f, znEq_t, znEq_f, xu_s, xu_r, xu_c, xrow_at, xrow_r]) (by rw [xu_s]; exact hw)
    exact ⟨J, M, r1, r2, fun b h3 h4 h5 h6 => (r3 b h3 h4 h5 h6).trans (j2 b h4 h5 h6), fun b h3 h4 h5 => by rw [r4 b h3 h4 h5, xu_r h4, xu_r h4]⟩
  have j0 := show mX2_paintBy K I L rp s a = _ from j1
  rw [j0]
  cases hr : rainS S A.2.2.1 with
  | true =>
    rw [hr] at er main
    obtain ⟨J, M, r⟩ := main 1 rfl
    refine ⟨J, M, ?_, r.2⟩
    rw [← r.1]
    simp (disch := omega) only [↓reduceIte, Option.bind_some, Option.some.injEq, Prod.mk.injEq, and_self, and_true, true_and, eq_self, reduceCtorEq, not_false_eq_true, not_true_eq_false, or_true, true_or, or_false, false_or, bft, nAdd, nMul, nSub, nDiv, nRem, nAm1, nIx, nIn, bI_z, bI_o, ite_b1, ite_b0, zI_add, zI_sub, li0, li1, li2, li3, li4, li5, li6, li7, li8, li9, li10, li11, li12, li13, li14, li15, li16, li17, li18, li19, li20, li21, li22, li23, li24, li25, li26, li27, li28, li29, li30, li31, li32, li33, li34, li35, li36, li37, li40, li42, li43, li45, li47, li48, li57, li59, li60, li61, li62, li64, li80, li91, li93, li97, li99, li100, li122, li182, li199, li255, li300, li380, li400, li999, li1000, li3640, li4100, li65536, li99999, ln1, ln2, ln3, ln100, ln100000, tLe, fLe, tLt, fLt, tEq, fEq, zLe_t, zLe_f, zLt_t, zLt_f, zEq_t, zEq_f, nzLe_t, nzLe_f, znLe_t, znLe_f, nzLt_t, nzLt_f, znLt_t, znLt_f, nzEq_t, nzEq_f, znEq_t, znEq_f, cA_h hC1, er, mX2_paintBy_60, nI_l, reduceCtorEq]
  | false =>
    rw [hr] at er main
    obtain ⟨J, M, r⟩ := main 0 rfl
    refine ⟨J, M, ?_, r.2⟩
    rw [← r.1]
    simp (disch := omega) only [↓reduceIte, Option.bind_some, Option.some.injEq, Prod.mk.injEq, and_self, and_true, true_and, eq_self, reduceCtorEq, not_false_eq_true, not_true_eq_false, or_true, true_or, or_false, false_or, bft, nAdd, nMul, nSub, nDiv, nRem, nAm1, nIx, nIn, bI_z, bI_o, ite_b1, ite_b0, zI_add, zI_sub, li0, li1, li2, li3, li4, li5, li6, li7, li8, li9, li10, li11, li12, li13, li14, li15, li16, li17, li18, li19, li20, li21, li22, li23, li24, li25, li26, li27, li28, li29, li30, li31, li32, li33, li34, li35, li36, li37, li40, li42, li43, li45, li47, li48, li57, li59, li60, li61, li62, li64, li80, li91, li93, li97, li99, li100, li122, li182, li199, li255, li300, li380, li400, li999, li1000, li3640, li4100, li65536, li99999, ln1, ln2, ln3, ln100, ln100000, tLe, fLe, tLt, fLt, tEq, fEq, zLe_t, zLe_f, zLt_t, zLt_f, zEq_t, zEq_f, nzLe_t, nzLe_f, znLe_t, znLe_f, nzLt_t, nzLt_f, znLt_t, znLt_f, nzEq_t, nzEq_f, znEq_t, znEq_f, cA_h hC1, er, mX2_paintBy_60, nI_l]
end

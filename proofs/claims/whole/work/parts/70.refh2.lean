/-! Hours of the reference: painting by a rule. -/
def rRo (I : Nat → Nat → Int32) (ru : Option ruT) : Prop := match ru with
  | none => I 124 12 = zI (-1)
  | some r => ∃ s, s < 6 ∧ I 124 12 = nI s ∧ rR I s r ∧ okRu r
theorem rR_congr {I J : Nat → Nat → Int32} {s : Nat} {ru : ruT} (h : ∀ b, 151 ≤ b → b ≤ 156 → J b = I b) (R : rR I s ru) : rR J s ru := by
  unfold rR
  rw [h 151 (by decide) (by decide), h 152 (by decide) (by decide), h 153 (by decide) (by decide), h 154 (by decide) (by decide), h 155 (by decide) (by decide), h 156 (by decide) (by decide)]
  exact R
theorem rRo_f {I J : Nat → Nat → Int32} {ru : Option ruT} (F : fR I J) (R : rRo I ru) : rRo J ru := by
  cases ru with
  | none => exact (F.1 12 (by decide)).trans R
  | some r =>
    obtain ⟨s, h1, h2, h3, h4⟩ := R
    exact ⟨s, h1, (F.1 12 (by decide)).trans h2, rR_congr (fun b h5 h6 => F.2 b (by omega) (by omega) (by omega) (by omega) (by omega) (by omega) (by omega)) h3, h4⟩
theorem f160 {I J : Nat → Nat → Int32} (h : ∀ b, b ≠ 160 → J b = I b) : fR I J := fR_of (fun b _ _ _ _ h6 _ => h b h6)
section
variable {S : sT} {A : aT}
theorem asks_ok {I : Nat → Nat → Int32} {L : Nat → Nat → Int64} (O : okS S) (hA : okA S A) (hh : A.2.2.1 < 100000) {q c : Nat} (hq : q < sPa S) (hc : c < sCe S) (R : rSn I S) (RA : rAn I S A) : ∃ J M, mX12_asks I L (nI q) (nI c) = some (J, M) ∧ (∀ b, b ≠ 160 → J b = I b) ∧ (∀ i, i < 13 → M 158 i = envW S A q c i) ∧ ∀ b, b ≠ 158 → M b = L b := by
  have o1 := O.1
  obtain ⟨t1, t2, t3⟩ := thOf_ok O hc
  have ot := O.2.1.2.2 _ t1
  have r := RA.2.2.2 c hc
  have hl5 := (hA.1 c hc).1.1
  have hp := hA.2.1 q hq
  have e0 := rThingOf_ok R O hc
  have e1 := rTopOf_ok O RA hA hc
  have e2 := rIsTopWet_ok R O RA hA hh hc
  have e3 := rOwnerOf_ok R O RA hA hh hc
  obtain ⟨J1, j1, j2⟩ := rThingOwner_ok O hA hh t1 R RA
  have RJ := rSn_congr j2 R
  have RAJ := rAn_congr j2 RA
  obtain ⟨J, k1, k2, k3⟩ := rCountsCells_ok O hA hh t1 false RJ RAJ
  have RK := rSn_congr k2 RJ
  have RAK := rAn_congr k2 RAJ
  change mX12_countsCells J1 (nI (thOf S c)) (nI A.2.2.1) (nI 0) = some J at k1
  have k4 : J 160 q = nI (cntT S A (thOf S c) q) := k3 q (by omega)
  have e5 := rRains_ok RK O (show A.2.2.1 < 100000 by omega)
  have hcn : cntT S A (thOf S c) q ≤ 6 := Nat.le_trans (cntF_le _ _ _ _) (by omega)
  have hto : -1 ≤ topP (A.1 c) ∧ topP (A.1 c) < 4 := by rcases topP_rng (l := A.1 c) with e | ⟨p, h1, e⟩ <;> omega
  have how : -1 ≤ ownA S A c ∧ ownA S A c < 4 := by rcases ownA_rng O hA hc with e | ⟨p, h1, e⟩ <;> omega
  have hot : -1 ≤ ownT S A (thOf S c) (sPart S) ∧ ownT S A (thOf S c) (sPart S) < 4 := by rcases ownT_rng O hA t1 (sPart S) with e | ⟨p, h1, e⟩ <;> omega
  unfold mX12_asks
  cases hw : wetL (sDry S) (A.1 c) A.2.2.1 <;> cases hr : rainS S A.2.2.1
  all_goals
    rw [hw] at e2
    rw [hr] at e5
    simp (disch := omega) only [↓reduceIte, Option.bind_some, Option.some.injEq, Prod.mk.injEq, and_self, and_true, true_and, eq_self, reduceCtorEq, not_false_eq_true, not_true_eq_false, or_true, true_or, or_false, false_or, bft, nAdd, nMul, nSub, nDiv, nRem, nAm1, nIx, nIn, bI_z, bI_o, ite_b1, ite_b0, zI_add, zI_sub, li0, li1, li2, li3, li4, li5, li6, li7, li8, li9, li10, li11, li12, li13, li14, li15, li16, li17, li18, li19, li20, li21, li22, li23, li24, li25, li26, li27, li28, li29, li30, li31, li32, li33, li34, li35, li36, li37, li40, li42, li43, li45, li47, li48, li57, li59, li60, li61, li62, li64, li80, li91, li93, li97, li99, li100, li122, li182, li199, li255, li300, li380, li400, li999, li1000, li3640, li4100, li65536, li99999, ln1, ln2, ln3, ln100, ln100000, tLe, fLe, tLt, fLt, tEq, fEq, zLe_t, zLe_f, zLt_t, zLt_f, zEq_t, zEq_f, nzLe_t, nzLe_f, znLe_t, znLe_f, nzLt_t, nzLt_f, znLt_t, znLt_f, nzEq_t, nzEq_f, znEq_t, znEq_f, e0, e1, e2, R.2.2.1 _ t1, mX12_asks_73, e3, j1, RAJ.2.1, k1, k4, (RAK.2.2.2 c hc).1, RAK.2.2.1 q hq, RAK.2.1, e5, nI_l, zI_l]
    refine ⟨_, _, ⟨rfl, rfl⟩, fun b hb => (k2 b hb).trans (j2 b hb), fun i hi => ?_, fun b hb => ?_⟩
    · rcases (show i = 0 ∨ i = 1 ∨ i = 2 ∨ i = 3 ∨ i = 4 ∨ i = 5 ∨ i = 6 ∨ i = 7 ∨ i = 8 ∨ i = 9 ∨ i = 10 ∨ i = 11 ∨ i = 12 by omega) with rfl | rfl | rfl | rfl | rfl | rfl | rfl | rfl | rfl | rfl | rfl | rfl | rfl
      all_goals (simp (disch := omega) only [xu_s, xu_c, envW, hw, hr, ↓reduceIte, reduceCtorEq])
    · simp only [xu_r hb]
theorem cellBy_no {q : Nat} (O : okS S) (hA : okA S A) (hq : q < sPa S) (hp : A.2.1 q < sCost S) {I : Nat → Nat → Int32} {L : Nat → Nat → Int64} (R : rSn I S) (RA : rAn I S A) : ∀ (f n c : Nat) (b : Int) (m : Int64), n < f → n + c = sCe S → mX12_cellBy_7 f I L (nI q) (zI b) m (nI c) = some (zI b, I, L)
  | 0, n, c, b, m, h1, _ => absurd h1 (by omega)
  | f + 1, n, c, b, m, h1, h2 => by
    have o1 := O.1
    rw [mX12_cellBy_7]
    cases n with
    | zero => simp (disch := omega) only [↓reduceIte, Option.bind_some, Option.some.injEq, Prod.mk.injEq, and_self, and_true, true_and, eq_self, reduceCtorEq, not_false_eq_true, not_true_eq_false, or_true, true_or, or_false, false_or, bft, nAdd, nMul, nSub, nDiv, nRem, nAm1, nIx, nIn, bI_z, bI_o, ite_b1, ite_b0, zI_add, zI_sub, li0, li1, li2, li3, li4, li5, li6, li7, li8, li9, li10, li11, li12, li13, li14, li15, li16, li17, li18, li19, li20, li21, li22, li23, li24, li25, li26, li27, li28, li29, li30, li31, li32, li33, li34, li35, li36, li37, li40, li42, li43, li45, li47, li48, li57, li59, li60, li61, li62, li64, li80, li91, li93, li97, li99, li100, li122, li182, li199, li255, li300, li380, li400, li999, li1000, li3640, li4100, li65536, li99999, ln1, ln2, ln3, ln100, ln100000, tLe, fLe, tLt, fLt, tEq, fEq, zLe_t, zLe_f, zLt_t, zLt_f, zEq_t, zEq_f, nzLe_t, nzLe_f, znLe_t, znLe_f, nzLt_t, nzLt_f, znLt_t, znLt_f, nzEq_t, nzEq_f, znEq_t, znEq_f, rSn_ce R]
    | succ n =>
      have e := rCanPaint_ok O hA (show c < sCe S by omega) hq R RA
      rw [decide_eq_false (by omega), Bool.and_false] at e
      simp (disch := omega) only [↓reduceIte, Option.bind_some, Option.some.injEq, Prod.mk.injEq, and_self, and_true, true_and, eq_self, reduceCtorEq, not_false_eq_true, not_true_eq_false, or_true, true_or, or_false, false_or, bft, nAdd, nMul, nSub, nDiv, nRem, nAm1, nIx, nIn, bI_z, bI_o, ite_b1, ite_b0, zI_add, zI_sub, li0, li1, li2, li3, li4, li5, li6, li7, li8, li9, li10, li11, li12, li13, li14, li15, li16, li17, li18, li19, li20, li21, li22, li23, li24, li25, li26, li27, li28, li29, li30, li31, li32, li33, li34, li35, li36, li37, li40, li42, li43, li45, li47, li48, li57, li59, li60, li61, li62, li64, li80, li91, li93, li97, li99, li100, li122, li182, li199, li255, li300, li380, li400, li999, li1000, li3640, li4100, li65536, li99999, ln1, ln2, ln3, ln100, ln100000, tLe, fLe, tLt, fLt, tEq, fEq, zLe_t, zLe_f, zLt_t, zLt_f, zEq_t, zEq_f, nzLe_t, nzLe_f, znLe_t, znLe_f, nzLt_t, nzLt_f, znLt_t, znLt_f, nzEq_t, nzEq_f, znEq_t, znEq_f, rSn_ce R, e]
      exact cellBy_no O hA hq hp R RA f n (c + 1) b m (by omega) (by omega)
theorem cellBy_go {ru : ruT} {q : Nat} (O : okS S) (hA : okA S A) (hh : A.2.2.1 < 100000) (hq : q < sPa S) (hp : sCost S ≤ A.2.1 q) : ∀ (f n c : Nat) (b : Int) (m : Int64) (I : Nat → Nat → Int32) (L : Nat → Nat → Int64), n < f → n + c = sCe S → rSn I S → rAn I S A → rRo I (some ru) → ∃ J M, mX12_cellBy_7 f I L (nI q) (zI b) m (nI c) = some (zI (chF S A (fun c => valR ru (envW S A q c)) n c b m), J, M) ∧ (∀ b, b ≠ 160 → J b = I b) ∧ ∀ b, b ≠ 158 → b ≠ 159 → M b = L b
  | 0, n, c, b, m, I, L, h1, _, _, _, _ => absurd h1 (by omega)
  | f + 1, n, c, b, m, I, L, h1, h2, R, RA, U => by
    have o1 := O.1
    rw [mX12_cellBy_7]
    cases n with
    | zero =>
      refine ⟨I, L, ?_, fun _ _ => rfl, fun _ _ _ => rfl⟩
      simp (disch := omega) only [↓reduceIte, Option.bind_some, Option.some.injEq, Prod.mk.injEq, and_self, and_true, true_and, eq_self, reduceCtorEq, not_false_eq_true, not_true_eq_false, or_true, true_or, or_false, false_or, bft, nAdd, nMul, nSub, nDiv, nRem, nAm1, nIx, nIn, bI_z, bI_o, ite_b1, ite_b0, zI_add, zI_sub, li0, li1, li2, li3, li4, li5, li6, li7, li8, li9, li10, li11, li12, li13, li14, li15, li16, li17, li18, li19, li20, li21, li22, li23, li24, li25, li26, li27, li28, li29, li30, li31, li32, li33, li34, li35, li36, li37, li40, li42, li43, li45, li47, li48, li57, li59, li60, li61, li62, li64, li80, li91, li93, li97, li99, li100, li122, li182, li199, li255, li300, li380, li400, li999, li1000, li3640, li4100, li65536, li99999, ln1, ln2, ln3, ln100, ln100000, tLe, fLe, tLt, fLt, tEq, fEq, zLe_t, zLe_f, zLt_t, zLt_f, zEq_t, zEq_f, nzLe_t, nzLe_f, znLe_t, znLe_f, nzLt_t, nzLt_f, znLt_t, znLt_f, nzEq_t, nzEq_f, znEq_t, znEq_f, rSn_ce R]
      rfl
    | succ n =>
      have hc : c < sCe S := by omega
      have e := rCanPaint_ok O hA hc hq R RA
      rw [decide_eq_true hp, Bool.and_true] at e
      rw [chF]
      cases hb : A.2.2.2.testBit (thOf S c) with
      | true =>
        rw [hb] at e
        simp (disch := omega) only [↓reduceIte, Option.bind_some, Option.some.injEq, Prod.mk.injEq, and_self, and_true, true_and, eq_self, reduceCtorEq, not_false_eq_true, not_true_eq_false, or_true, true_or, or_false, false_or, bft, nAdd, nMul, nSub, nDiv, nRem, nAm1, nIx, nIn, bI_z, bI_o, ite_b1, ite_b0, zI_add, zI_sub, li0, li1, li2, li3, li4, li5, li6, li7, li8, li9, li10, li11, li12, li13, li14, li15, li16, li17, li18, li19, li20, li21, li22, li23, li24, li25, li26, li27, li28, li29, li30, li31, li32, li33, li34, li35, li36, li37, li40, li42, li43, li45, li47, li48, li57, li59, li60, li61, li62, li64, li80, li91, li93, li97, li99, li100, li122, li182, li199, li255, li300, li380, li400, li999, li1000, li3640, li4100, li65536, li99999, ln1, ln2, ln3, ln100, ln100000, tLe, fLe, tLt, fLt, tEq, fEq, zLe_t, zLe_f, zLt_t, zLt_f, zEq_t, zEq_f, nzLe_t, nzLe_f, znLe_t, znLe_f, nzLt_t, nzLt_f, znLt_t, znLt_f, nzEq_t, nzEq_f, znEq_t, znEq_f, rSn_ce R, e, Bool.not_true]
        exact cellBy_go O hA hh hq hp f n (c + 1) b m I L (by omega) (by omega) R RA U
      | false =>
        rw [hb] at e
        obtain ⟨J1, M1, j1, j2, j3, j4⟩ := asks_ok (L := L) O hA hh hq hc R RA
        have U1 := rRo_f (f160 j2) U
        obtain ⟨s, u1, u2, u3, u4⟩ := U1
        obtain ⟨M2, v1, v2⟩ := wanted_ok (env := envW S A q c) u3 u1 u4 u2 j3
        simp (disch := omega) only [↓reduceIte, Option.bind_some, Option.some.injEq, Prod.mk.injEq, and_self, and_true, true_and, eq_self, reduceCtorEq, not_false_eq_true, not_true_eq_false, or_true, true_or, or_false, false_or, bft, nAdd, nMul, nSub, nDiv, nRem, nAm1, nIx, nIn, bI_z, bI_o, ite_b1, ite_b0, zI_add, zI_sub, li0, li1, li2, li3, li4, li5, li6, li7, li8, li9, li10, li11, li12, li13, li14, li15, li16, li17, li18, li19, li20, li21, li22, li23, li24, li25, li26, li27, li28, li29, li30, li31, li32, li33, li34, li35, li36, li37, li40, li42, li43, li45, li47, li48, li57, li59, li60, li61, li62, li64, li80, li91, li93, li97, li99, li100, li122, li182, li199, li255, li300, li380, li400, li999, li1000, li3640, li4100, li65536, li99999, ln1, ln2, ln3, ln100, ln100000, tLe, fLe, tLt, fLt, tEq, fEq, zLe_t, zLe_f, zLt_t, zLt_f, zEq_t, zEq_f, nzLe_t, nzLe_f, znLe_t, znLe_f, nzLt_t, nzLt_f, znLt_t, znLt_f, nzEq_t, nzEq_f, znEq_t, znEq_f, rSn_ce R, e, Bool.not_false, j1, v1, cmpLe]
        by_cases hv : valR ru (envW S A q c) ≤ m
        · obtain ⟨J, M, k1, k2, k3⟩ := cellBy_go (ru := ru) O hA hh hq hp f n (c + 1) b m J1 M2 (by omega) (by omega) (rSn_congr j2 R) (rAn_congr j2 RA) ⟨s, u1, u2, u3, u4⟩
          refine ⟨J, M, ?_, fun b hb => (k2 b hb).trans (j2 b hb), fun b h3 h4 => (k3 b h3 h4).trans ((v2 b h4).trans (j4 b h3))⟩
          rw [if_pos hv, if_pos hv, k1]
        · obtain ⟨J, M, k1, k2, k3⟩ := cellBy_go (ru := ru) O hA hh hq hp f n (c + 1) c (valR ru (envW S A q c)) J1 M2 (by omega) (by omega) (rSn_congr j2 R) (rAn_congr j2 RA) ⟨s, u1, u2, u3, u4⟩
          refine ⟨J, M, ?_, fun b hb => (k2 b hb).trans (j2 b hb), fun b h3 h4 => (k3 b h3 h4).trans ((v2 b h4).trans (j4 b h3))⟩
          rw [if_neg hv, if_neg hv, nz c, k1]
theorem cellBy_ok {ru : ruT} {q : Nat} (O : okS S) (hA : okA S A) (hh : A.2.2.1 < 100000) (hq : q < sPa S) {I : Nat → Nat → Int32} {L : Nat → Nat → Int64} (R : rSn I S) (RA : rAn I S A) (U : rRo I (some ru)) : ∃ J M, mX12_cellBy I L (nI q) = some (zI (chA S ru A q), J, M) ∧ (∀ b, b ≠ 160 → J b = I b) ∧ ∀ b, b ≠ 158 → b ≠ 159 → M b = L b := by
  have o1 := O.1
  unfold mX12_cellBy
  rw [lm1, li0]
  by_cases hp : A.2.1 q < sCost S
  · refine ⟨I, L, ?_, fun _ _ => rfl, fun _ _ _ => rfl⟩
    unfold chA
    rw [if_pos hp]
    exact cellBy_no O hA hq hp R RA xf (sCe S) 0 (-1) 0 (by unfold xf; omega) (by omega)
  · unfold chA
    rw [if_neg hp]
    exact cellBy_go O hA hh hq (by omega) xf (sCe S) 0 (-1) 0 I L (by unfold xf; omega) (by omega) R RA U
theorem rPut_ok {I : Nat → Nat → Int32} (O : okS S) (hA : okA S A) (hh : A.2.2.1 < 1000) {c q : Nat} (hc : c < sCe S) (hq : q < sPa S) (hp : sCost S ≤ A.2.1 q) (R : rSn I S) (RA : rAn I S A) : ∃ J, mX12_paints I (nI c) (nI q) = some J ∧ J 128 q = nI (A.2.1 q) ∧ J 124 = I 124 ∧ rAn (xu J 128 q (nI (A.2.1 q - sCost S))) S (putA S A c q) ∧ J 131 c = nI (putC (A.1 c) q A.2.2.1).length ∧ (∀ b, b ≠ 131 → b ≠ 132 → b ≠ 133 → J b = I b) ∧ ∀ b, b ≠ 128 → b ≠ 131 → b ≠ 132 → b ≠ 133 → xu J 128 q (nI (A.2.1 q - sCost S)) b = I b := by
  have o1 := O.1
  obtain ⟨J, j1, j2, j3⟩ := rPaints_ok (q := q) O hA hh hc (by omega) RA
  refine ⟨J, j1, ?_, j3 124 (by decide) (by decide) (by decide), ⟨?_, ?_, fun p hp => ?_, fun d hd => ?_⟩, ?_, j3, fun b h1 h2 h3 h4 => ?_⟩
  · rw [j3 128 (by decide) (by decide) (by decide)]; exact RA.2.2.1 q hq
  · rw [xu_r (by decide)]; exact j2.1
  · rw [xu_r (by decide)]; exact j2.2.1
  · show _ = nI (updF A.2.1 q _ p)
    by_cases w : p = q
    · subst w; rw [xu_s, updF_s]
    · rw [xu_c w, updF_n w]; exact j2.2.2.1 p hp
  · rw [xu_r (by decide), xu_r (by decide), xu_r (by decide)]; exact j2.2.2.2 d hd
  · have := (j2.2.2.2 c hc).1
    change _ = nI (updF A.1 c _ c).length at this
    rw [updF_s] at this
    exact this
  · rw [xu_r h1, j3 b h2 h3 h4]
theorem paintsAll_go {ru : ruT} (O : okS S) : ∀ (f n q m : Nat) (A : aT) (I : Nat → Nat → Int32) (L : Nat → Nat → Int64), n < f → n + q = sPa S → okA S A → A.2.2.1 < 1000 → rSn I S → rAn I S A → rRo I (some ru) → ∃ J M, mX12_paintsAll_4 f I L (nI m) (nI q) = some (nI (paF S ru n q A m).2, J, M) ∧ rAn J S (paF S ru n q A m).1 ∧ fR I J ∧ J 161 = I 161 ∧ ∀ b, b ≠ 158 → b ≠ 159 → M b = L b
  | 0, n, q, m, A, I, L, h1, _, _, _, _, _, _ => absurd h1 (by omega)
  | f + 1, n, q, m, A, I, L, h1, h2, hA, hh, R, RA, U => by
    have o1 := O.1
    rw [mX12_paintsAll_4]
    cases n with
    | zero =>
      refine ⟨I, L, ?_, RA, fR_refl I, rfl, fun _ _ _ => rfl⟩
      simp (disch := omega) only [↓reduceIte, Option.bind_some, Option.some.injEq, Prod.mk.injEq, and_self, and_true, true_and, eq_self, reduceCtorEq, not_false_eq_true, not_true_eq_false, or_true, true_or, or_false, false_or, bft, nAdd, nMul, nSub, nDiv, nRem, nAm1, nIx, nIn, bI_z, bI_o, ite_b1, ite_b0, zI_add, zI_sub, li0, li1, li2, li3, li4, li5, li6, li7, li8, li9, li10, li11, li12, li13, li14, li15, li16, li17, li18, li19, li20, li21, li22, li23, li24, li25, li26, li27, li28, li29, li30, li31, li32, li33, li34, li35, li36, li37, li40, li42, li43, li45, li47, li48, li57, li59, li60, li61, li62, li64, li80, li91, li93, li97, li99, li100, li122, li182, li199, li255, li300, li380, li400, li999, li1000, li3640, li4100, li65536, li99999, ln1, ln2, ln3, ln100, ln100000, tLe, fLe, tLt, fLt, tEq, fEq, zLe_t, zLe_f, zLt_t, zLt_f, zEq_t, zEq_f, nzLe_t, nzLe_f, znLe_t, znLe_f, nzLt_t, nzLt_f, znLt_t, znLt_f, nzEq_t, nzEq_f, znEq_t, znEq_f, rSn_pa R]
      rfl
    | succ n =>
      have hq : q < sPa S := by omega
      obtain ⟨s, u1, u2, u3, u4⟩ := U
      obtain ⟨J1, M1, j1, j2, j3⟩ := cellBy_ok (L := L) O hA (by omega) hq R RA ⟨s, u1, u2, u3, u4⟩
      have R1 := rSn_congr j2 R
      have RA1 := rAn_congr j2 RA
      have U1 := rRo_f (ru := some ru) (f160 j2) ⟨s, u1, u2, u3, u4⟩
      rcases chA_rng S ru A q with e | ⟨c, hce, e, hb⟩
      · rw [e] at j1
        rw [paF_no e]
        obtain ⟨J, M, k1, k2, k3, k4, k5⟩ := paintsAll_go O f n (q + 1) m A J1 M1 (by omega) (by omega) hA hh R1 RA1 U1
        refine ⟨J, M, ?_, k2, fR_trans (f160 j2) k3, k4.trans (j2 161 (by decide)), fun b h3 h4 => (k5 b h3 h4).trans (j3 b h3 h4)⟩
        simp (disch := omega) only [↓reduceIte, Option.bind_some, Option.some.injEq, Prod.mk.injEq, and_self, and_true, true_and, eq_self, reduceCtorEq, not_false_eq_true, not_true_eq_false, or_true, true_or, or_false, false_or, bft, nAdd, nMul, nSub, nDiv, nRem, nAm1, nIx, nIn, bI_z, bI_o, ite_b1, ite_b0, zI_add, zI_sub, li0, li1, li2, li3, li4, li5, li6, li7, li8, li9, li10, li11, li12, li13, li14, li15, li16, li17, li18, li19, li20, li21, li22, li23, li24, li25, li26, li27, li28, li29, li30, li31, li32, li33, li34, li35, li36, li37, li40, li42, li43, li45, li47, li48, li57, li59, li60, li61, li62, li64, li80, li91, li93, li97, li99, li100, li122, li182, li199, li255, li300, li380, li400, li999, li1000, li3640, li4100, li65536, li99999, ln1, ln2, ln3, ln100, ln100000, tLe, fLe, tLt, fLt, tEq, fEq, zLe_t, zLe_f, zLt_t, zLt_f, zEq_t, zEq_f, nzLe_t, nzLe_f, znLe_t, znLe_f, nzLt_t, nzLt_f, znLt_t, znLt_f, nzEq_t, nzEq_f, znEq_t, znEq_f, rSn_pa R, u2, j1]
        exact k1
      · rw [e, zI_nat] at j1
        rw [paF_yes e]
        have hp : sCost S ≤ A.2.1 q := by
          rcases Nat.lt_or_ge (A.2.1 q) (sCost S) with z | z
          · unfold chA at e
            rw [if_pos z] at e
            omega
          · exact z
        obtain ⟨J2, p1, p2, p3, p4, -, p5, p6⟩ := rPut_ok (c := c) (q := q) O hA hh hce hq hp R1 RA1
        have F2 : fR J1 (xu J2 128 q (nI (A.2.1 q - sCost S))) := fR_of (fun b h3 h4 h5 h6 _ _ => p6 b h3 h4 h5 h6)
        obtain ⟨J, M, k1, k2, k3, k4, k5⟩ := paintsAll_go O f n (q + 1) (m + 1) (putA S A c q) (xu J2 128 q (nI (A.2.1 q - sCost S))) M1 (by omega) (by omega) (okA_put O hA hce hq hh hb) hh (rSn_f F2 R1) p4 (rRo_f F2 U1)
        refine ⟨J, M, ?_, k2, fR_trans (fR_trans (f160 j2) F2) k3, k4.trans ((p6 161 (by decide) (by decide) (by decide) (by decide)).trans (j2 161 (by decide))), fun b h3 h4 => (k5 b h3 h4).trans (j3 b h3 h4)⟩
        have hcost : J2 124 2 = nI (sCost S) := by rw [p3]; exact rSn_cost R1
        simp (disch := omega) only [↓reduceIte, Option.bind_some, Option.some.injEq, Prod.mk.injEq, and_self, and_true, true_and, eq_self, reduceCtorEq, not_false_eq_true, not_true_eq_false, or_true, true_or, or_false, false_or, bft, nAdd, nMul, nSub, nDiv, nRem, nAm1, nIx, nIn, bI_z, bI_o, ite_b1, ite_b0, zI_add, zI_sub, li0, li1, li2, li3, li4, li5, li6, li7, li8, li9, li10, li11, li12, li13, li14, li15, li16, li17, li18, li19, li20, li21, li22, li23, li24, li25, li26, li27, li28, li29, li30, li31, li32, li33, li34, li35, li36, li37, li40, li42, li43, li45, li47, li48, li57, li59, li60, li61, li62, li64, li80, li91, li93, li97, li99, li100, li122, li182, li199, li255, li300, li380, li400, li999, li1000, li3640, li4100, li65536, li99999, ln1, ln2, ln3, ln100, ln100000, tLe, fLe, tLt, fLt, tEq, fEq, zLe_t, zLe_f, zLt_t, zLt_f, zEq_t, zEq_f, nzLe_t, nzLe_f, znLe_t, znLe_f, nzLt_t, nzLt_f, znLt_t, znLt_f, nzEq_t, nzEq_f, znEq_t, znEq_f, rSn_pa R, u2, j1, p1, p2, hcost]
        exact k1
theorem paintsAll_ok {ru : Option ruT} (O : okS S) (hA : okA S A) (hh : A.2.2.1 < 1000) {I : Nat → Nat → Int32} {L : Nat → Nat → Int64} (R : rSn I S) (RA : rAn I S A) (U : rRo I ru) : ∃ J M, mX12_paintsAll I L = some (nI (match ru with | none => 0 | some r => (paF S r (sPa S) 0 A 0).2), J, M) ∧ rAn J S (match ru with | none => A | some r => (paF S r (sPa S) 0 A 0).1) ∧ fR I J ∧ J 161 = I 161 ∧ ∀ b, b ≠ 158 → b ≠ 159 → M b = L b := by
  have o1 := O.1
  cases ru with
  | none =>
    refine ⟨I, L, ?_, RA, fR_refl I, rfl, fun _ _ _ => rfl⟩
    have u : I 124 12 = zI (-1) := U
    unfold mX12_paintsAll
    rw [xf_s, mX12_paintsAll_4]
    by_cases h : sPa S = 0
    · simp (disch := omega) only [↓reduceIte, Option.bind_some, Option.some.injEq, Prod.mk.injEq, and_self, and_true, true_and, eq_self, reduceCtorEq, not_false_eq_true, not_true_eq_false, or_true, true_or, or_false, false_or, bft, nAdd, nMul, nSub, nDiv, nRem, nAm1, nIx, nIn, bI_z, bI_o, ite_b1, ite_b0, zI_add, zI_sub, li0, li1, li2, li3, li4, li5, li6, li7, li8, li9, li10, li11, li12, li13, li14, li15, li16, li17, li18, li19, li20, li21, li22, li23, li24, li25, li26, li27, li28, li29, li30, li31, li32, li33, li34, li35, li36, li37, li40, li42, li43, li45, li47, li48, li57, li59, li60, li61, li62, li64, li80, li91, li93, li97, li99, li100, li122, li182, li199, li255, li300, li380, li400, li999, li1000, li3640, li4100, li65536, li99999, ln1, ln2, ln3, ln100, ln100000, tLe, fLe, tLt, fLt, tEq, fEq, zLe_t, zLe_f, zLt_t, zLt_f, zEq_t, zEq_f, nzLe_t, nzLe_f, znLe_t, znLe_f, nzLt_t, nzLt_f, znLt_t, znLt_f, nzEq_t, nzEq_f, znEq_t, znEq_f, rSn_pa R]
    · simp (disch := omega) only [↓reduceIte, Option.bind_some, Option.some.injEq, Prod.mk.injEq, and_self, and_true, true_and, eq_self, reduceCtorEq, not_false_eq_true, not_true_eq_false, or_true, true_or, or_false, false_or, bft, nAdd, nMul, nSub, nDiv, nRem, nAm1, nIx, nIn, bI_z, bI_o, ite_b1, ite_b0, zI_add, zI_sub, li0, li1, li2, li3, li4, li5, li6, li7, li8, li9, li10, li11, li12, li13, li14, li15, li16, li17, li18, li19, li20, li21, li22, li23, li24, li25, li26, li27, li28, li29, li30, li31, li32, li33, li34, li35, li36, li37, li40, li42, li43, li45, li47, li48, li57, li59, li60, li61, li62, li64, li80, li91, li93, li97, li99, li100, li122, li182, li199, li255, li300, li380, li400, li999, li1000, li3640, li4100, li65536, li99999, ln1, ln2, ln3, ln100, ln100000, tLe, fLe, tLt, fLt, tEq, fEq, zLe_t, zLe_f, zLt_t, zLt_f, zEq_t, zEq_f, nzLe_t, nzLe_f, znLe_t, znLe_f, nzLt_t, nzLt_f, znLt_t, znLt_f, nzEq_t, nzEq_f, znEq_t, znEq_f, rSn_pa R, u]
  | some r => exact paintsAll_go O xf (sPa S) 0 0 A I L (by unfold xf; omega) (by omega) hA hh R RA U
end

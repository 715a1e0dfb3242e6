/-! game: the reference. -/
def updZ (f : Nat → Int) (k : Nat) (x : Int) (j : Nat) : Int := if j = k then x else f j
theorem updZ_s {f : Nat → Int} {k : Nat} {x : Int} : updZ f k x k = x := if_pos rfl
theorem updZ_n {f : Nat → Int} {k j : Nat} {x : Int} (h : j ≠ k) : updZ f k x j = f j := if_neg h
def gmX (S : sT) (q1 q2 h : Nat) (mv : Nat → Int) : Nat → (Nat → List Nat) → Nat → List Nat
  | 0, X => X
  | k + 1, X => gmS S (plG q1 q2 k) (h + k) (mv k) (gmX S q1 q2 h mv k X)
theorem gmX_congr {S : sT} {q1 q2 h : Nat} {m1 m2 : Nat → Int} {X : Nat → List Nat} : ∀ (k : Nat), (∀ j, j < k → m1 j = m2 j) → gmX S q1 q2 h m1 k X = gmX S q1 q2 h m2 k X
  | 0, _ => rfl
  | k + 1, e => by rw [gmX, gmX, e k (by omega), gmX_congr k (fun j hj => e j (by omega))]
def gCo (C : Nat) : Nat → Nat
  | 0 => 1
  | m + 1 => (C + 1) * (1 + gCo C m) + 1
theorem gCo_le {C : Nat} (hC : C ≤ 6) : ∀ m, gCo C m ≤ gCo 6 m
  | 0 => Nat.le_refl _
  | m + 1 => by
    rw [gCo, gCo]
    have := Nat.mul_le_mul (show C + 1 ≤ 6 + 1 by omega) (Nat.add_le_add_left (gCo_le hC m) 1)
    omega
theorem gCo_4 : ∀ m, m < 5 → gCo 6 m ≤ 5601 := by decide +kernel
def inG (I0 I : Nat → Nat → Int32) : Prop := f5 I0 I ∧ aR I0 I ∧ sv I0 I
theorem inG_w {I0 I J : Nat → Nat → Int32} (g : inG I0 I) (h : ∀ b i, b ≠ 166 → b ≠ 167 → b ≠ 123 ∨ i ≠ 58 → J b i = I b i) : inG I0 J := ⟨fun r i h1 h2 => (h r i (by unfold fv at h1; omega) (by unfold fv at h1; omega) (by unfold fv at h1; omega)).trans (g.1 r i h1 h2), ⟨fun b i h1 h2 h3 h4 => (h b i (by omega) (by omega) (by omega)).trans (g.2.1.1 b i h1 h2 h3 h4), fun j hj => (h 170 j (by decide) (by decide) (Or.inl (by decide))).trans (g.2.1.2 j hj)⟩, fun r i h1 h2 => (h 170 _ (by decide) (by decide) (Or.inl (by decide))).trans (g.2.2 r i h1 h2)⟩
section
variable {S : sT} {A : aT} {C h q1 q2 N t : Nat} {X : Nat → List Nat}
theorem ge_go {e61 : (Nat → Nat → Int32) → Int32 → Int32 → Int32 → Option (Int32 × (Nat → Nat → Int32))} {mv : Nat → Int} (O : okS S) (ht : t < sTh S) (hC : C = sFi S (t + 1) - sFi S t) (hh : h < 900) (h1 : q1 < sPa S) (h2 : q2 < sPa S) (hN : N ≤ 4) (hmv : ∀ j, j < N → -1 ≤ mv j ∧ mv j < C) : ∀ (f m k : Nat) (B : aT) (I : Nat → Nat → Int32), m < f → m + k = N → okA S B → B.2.2.1 = h + k → B.2.2.2.testBit t = false → (∀ j, j < C → B.1 (sFi S t + j) = gmX S q1 q2 h mv k X j) → rSn I S → rAn I S B → (∀ j, j < N → I 166 j = zI (mv j)) → ∃ J B', mX12_gameEnd_3 e61 f I (nI q1) (nI q2) (nI t) (nI N) (nI k) = e61 J (nI q1) (nI q2) (nI t) ∧ okA S B' ∧ B'.2.2.1 = h + N ∧ (∀ j, j < C → B'.1 (sFi S t + j) = gmX S q1 q2 h mv N X j) ∧ rAn J S B' ∧ fR I J
  | 0, m, k, B, I, g1, _, _, _, _, _, _, _, _ => absurd g1 (by omega)
  | f + 1, m, k, B, I, g1, g2, hB, hr, hb, hc, R, RA, h6 => by
    have o1 := O.1
    have ot := O.2.1.2.2 t ht
    rw [mX12_gameEnd_3]
    cases m with
    | zero =>
      have : k = N := by omega
      subst this
      refine ⟨I, B, ?_, hB, hr, hc, RA, fR_refl I⟩
      simp (disch := omega) only [↓reduceIte, Option.bind_some, Option.some.injEq, Prod.mk.injEq, and_self, and_true, true_and, eq_self, reduceCtorEq, not_false_eq_true, not_true_eq_false, or_true, true_or, or_false, false_or, bft, nAdd, nMul, nSub, nDiv, nRem, nAm1, nIx, nIn, bI_z, bI_o, ite_b1, ite_b0, zI_add, zI_sub, li0, li1, li2, li3, li4, li5, li6, li7, li8, li9, li10, li11, li12, li13, li14, li15, li16, li17, li18, li19, li20, li21, li22, li23, li24, li25, li26, li27, li28, li29, li30, li31, li32, li33, li34, li35, li36, li37, li40, li42, li43, li45, li47, li48, li57, li59, li60, li61, li62, li64, li80, li91, li93, li97, li99, li100, li122, li182, li199, li255, li300, li380, li400, li999, li1000, li3640, li4100, li65536, li99999, ln1, ln2, ln3, ln100, ln100000, tLe, fLe, tLt, fLt, tEq, fEq, zLe_t, zLe_f, zLt_t, zLt_f, zEq_t, zEq_f, nzLe_t, nzLe_f, znLe_t, znLe_f, nzLt_t, nzLt_f, znLt_t, znLt_f, nzEq_t, nzEq_f, znEq_t, znEq_f]
    | succ m =>
      have hm := hmv k (by omega)
      have e6 := h6 k (by omega)
      have hp := plG_lt (k := k) h1 h2
      -- the hour's end
      have fin : ∀ (D : aT) (I1 : Nat → Nat → Int32), okA S D → D.2.2.1 = h + k → D.2.2.2.testBit t = false → (∀ j, j < C → D.1 (sFi S t + j) = (if (j : Int) = mv k then putC (gmX S q1 q2 h mv k X j) (plG q1 q2 k) (h + k) else gmX S q1 q2 h mv k X j)) → rAn I1 S D → fR I I1 → ∃ J B', mX12_gameEnd_51 (fun I a1 a2 a3 a4 a5 => mX12_gameEnd_3 e61 f I a1 a2 a3 a4 a5) e61 I1 (nI q1) (nI q2) (nI t) (nI N) (nI k) = e61 J (nI q1) (nI q2) (nI t) ∧ okA S B' ∧ B'.2.2.1 = h + N ∧ (∀ j, j < C → B'.1 (sFi S t + j) = gmX S q1 q2 h mv N X j) ∧ rAn J S B' ∧ fR I J := by
        intro D I1 hD hrD hbD hcD RD F1
        obtain ⟨g, hg⟩ := gotR_ex 161 I1
        obtain ⟨J1, p1, p2, -, p3⟩ := rEnds_ok O hD (by omega) (rSn_f F1 R) RD hg
        have F2 := fR_trans F1 p3
        obtain ⟨J, B', u1, u2, u3, u4, u5, u6⟩ := ge_go (e61 := e61) (mv := mv) O ht hC hh h1 h2 hN hmv f m (k + 1) (endsA S D g).1 J1 (by omega) (by omega) (okA_ends hD g) (by rw [endsA_hr, hrD]; omega) (by rw [endsA_b]; exact hbD) (fun j hj => by
          rw [endsA_co, hcD j hj, hrD]
          rfl) (rSn_f F2 R) p2 (fun j hj => by rw [F2.2 166 (by decide) (by decide) (by decide) (by decide) (by decide) (by decide) (by decide)]; exact h6 j hj)
        refine ⟨J, B', ?_, u2, u3, u4, u5, fR_trans F2 u6⟩
        unfold mX12_gameEnd_51
        rw [p1, Option.bind_some, show nI k + 1 = nI (k + 1) from nAdd k 1]
        exact u1
      by_cases w : mv k = -1
      · obtain ⟨J, B', u1, u2⟩ := fin B I hB hr hb (fun j hj => by rw [if_neg (by omega)]; exact hc j hj) RA (fR_refl I)
        refine ⟨J, B', ?_, u2⟩
        rw [w] at e6
        simp (disch := omega) only [↓reduceIte, Option.bind_some, Option.some.injEq, Prod.mk.injEq, and_self, and_true, true_and, eq_self, reduceCtorEq, not_false_eq_true, not_true_eq_false, or_true, true_or, or_false, false_or, bft, nAdd, nMul, nSub, nDiv, nRem, nAm1, nIx, nIn, bI_z, bI_o, ite_b1, ite_b0, zI_add, zI_sub, li0, li1, li2, li3, li4, li5, li6, li7, li8, li9, li10, li11, li12, li13, li14, li15, li16, li17, li18, li19, li20, li21, li22, li23, li24, li25, li26, li27, li28, li29, li30, li31, li32, li33, li34, li35, li36, li37, li40, li42, li43, li45, li47, li48, li57, li59, li60, li61, li62, li64, li80, li91, li93, li97, li99, li100, li122, li182, li199, li255, li300, li380, li400, li999, li1000, li3640, li4100, li65536, li99999, ln1, ln2, ln3, ln100, ln100000, tLe, fLe, tLt, fLt, tEq, fEq, zLe_t, zLe_f, zLt_t, zLt_f, zEq_t, zEq_f, nzLe_t, nzLe_f, znLe_t, znLe_f, nzLt_t, nzLt_f, znLt_t, znLt_f, nzEq_t, nzEq_f, znEq_t, znEq_f, e6]
        exact u1
      · obtain ⟨c, hcm⟩ : ∃ c : Nat, mv k = c := ⟨(mv k).toNat, by omega⟩
        rw [hcm, zI_nat] at e6
        have hcc : c < C := by omega
        have hth := thOf_in O ht (show sFi S t ≤ sFi S t + c by omega) (by omega)
        obtain ⟨J1, p1, p2, p3⟩ := rPaints_ok (c := sFi S t + c) (q := plG q1 q2 k) O hB (by omega) (by omega) (by omega) RA
        have F1 : fR I J1 := fR_of (fun b _ z1 z2 z3 _ _ => p3 b z1 z2 z3)
        have hD := okA_put1 O hB (c := sFi S t + c) (q := plG q1 q2 k) (by omega) hp (by omega) (by rw [← hth]; exact hb)
        obtain ⟨J, B', u1, u2⟩ := fin _ J1 hD hr hb (fun j hj => by
          show updF B.1 (sFi S t + c) (putC (B.1 (sFi S t + c)) (plG q1 q2 k) B.2.2.1) (sFi S t + j) = _
          by_cases z : j = c
          · subst z
            rw [updF_s, if_pos (by omega), hc j hj, hr]
          · rw [updF_n (by omega), if_neg (by omega)]
            exact hc j hj) p2 F1
        refine ⟨J, B', ?_, u2⟩
        have ek : xrem (nI k) (2 : Int32) = nI (k % 2) := nRem (d := 2) (by omega) (by omega) (by omega)
        unfold plG at p1
        rcases (show k % 2 = 0 ∨ k % 2 = 1 by omega) with z | z
        · rw [if_pos z] at p1
          rw [z] at ek
          simp (disch := omega) only [↓reduceIte, Option.bind_some, Option.some.injEq, Prod.mk.injEq, and_self, and_true, true_and, eq_self, reduceCtorEq, not_false_eq_true, not_true_eq_false, or_true, true_or, or_false, false_or, bft, nAdd, nMul, nSub, nDiv, nRem, nAm1, nIx, nIn, bI_z, bI_o, ite_b1, ite_b0, zI_add, zI_sub, li0, li1, li2, li3, li4, li5, li6, li7, li8, li9, li10, li11, li12, li13, li14, li15, li16, li17, li18, li19, li20, li21, li22, li23, li24, li25, li26, li27, li28, li29, li30, li31, li32, li33, li34, li35, li36, li37, li40, li42, li43, li45, li47, li48, li57, li59, li60, li61, li62, li64, li80, li91, li93, li97, li99, li100, li122, li182, li199, li255, li300, li380, li400, li999, li1000, li3640, li4100, li65536, li99999, ln1, ln2, ln3, ln100, ln100000, tLe, fLe, tLt, fLt, tEq, fEq, zLe_t, zLe_f, zLt_t, zLt_f, zEq_t, zEq_f, nzLe_t, nzLe_f, znLe_t, znLe_f, nzLt_t, nzLt_f, znLt_t, znLt_f, nzEq_t, nzEq_f, znEq_t, znEq_f, e6, rSn_fi R (show t ≤ sTh S by omega), ek, mX12_gameEnd_48, p1]
          exact u1
        · rw [if_neg (by omega)] at p1
          rw [z] at ek
          simp (disch := omega) only [↓reduceIte, Option.bind_some, Option.some.injEq, Prod.mk.injEq, and_self, and_true, true_and, eq_self, reduceCtorEq, not_false_eq_true, not_true_eq_false, or_true, true_or, or_false, false_or, bft, nAdd, nMul, nSub, nDiv, nRem, nAm1, nIx, nIn, bI_z, bI_o, ite_b1, ite_b0, zI_add, zI_sub, li0, li1, li2, li3, li4, li5, li6, li7, li8, li9, li10, li11, li12, li13, li14, li15, li16, li17, li18, li19, li20, li21, li22, li23, li24, li25, li26, li27, li28, li29, li30, li31, li32, li33, li34, li35, li36, li37, li40, li42, li43, li45, li47, li48, li57, li59, li60, li61, li62, li64, li80, li91, li93, li97, li99, li100, li122, li182, li199, li255, li300, li380, li400, li999, li1000, li3640, li4100, li65536, li99999, ln1, ln2, ln3, ln100, ln100000, tLe, fLe, tLt, fLt, tEq, fEq, zLe_t, zLe_f, zLt_t, zLt_f, zEq_t, zEq_f, nzLe_t, nzLe_f, znLe_t, znLe_f, nzLt_t, nzLt_f, znLt_t, znLt_f, nzEq_t, nzEq_f, znEq_t, znEq_f, e6, rSn_fi R (show t ≤ sTh S by omega), ek, mX12_gameEnd_48, p1]
          exact u1
theorem gEnd_ok {mv : Nat → Int} {I0 I : Nat → Nat → Int32} (O : okS S) (hA : okA S A) (ht : t < sTh S) (hC : C = sFi S (t + 1) - sFi S t) (hh : A.2.2.1 < 900) (h1 : q1 < sPa S) (h2 : q2 < sPa S) (hN : N ≤ 4) (hmv : ∀ j, j < N → -1 ≤ mv j ∧ mv j < C) (hb : A.2.2.2.testBit t = false) (R0 : rSn I0 S) (RA0 : rAn I0 S A) (g : inG I0 I) (h6 : ∀ j, j < N → I 166 j = zI (mv j)) : ∃ J, mX12_gameEnd I (nI q1) (nI q2) (nI t) (nI N) = some (zI (gmO S q1 q2 C (A.2.2.1 + N) (gmX S q1 q2 A.2.2.1 mv N (fun j => A.1 (sFi S t + j)))), J) ∧ inG I0 J ∧ (∀ r i, r = 166 ∨ r = 167 → J r i = I r i) ∧ J 123 58 = I 123 58 := by
  have o1 := O.1
  have ot := O.2.1.2.2 t ht
  obtain ⟨R, RA⟩ := f5_r2 O hA g.1 g.2.1 R0 RA0
  obtain ⟨J1, B, p1, p2, p3, p4, p5, p6⟩ := ge_go (X := fun j => A.1 (sFi S t + j)) (e61 := fun I_11 a1_11 a2_11 a3_11 => (Option.bind (mX12_idles I_11 (I_11 124 0)) (fun q12 => (Option.bind (mX12_countsCells q12 a3_11 (q12 124 9) (0 : Int32)) (fun q14 => (if inb a1_11 4 = true then (if inb a2_11 4 = true then (Option.bind (mX12_laysBack q14) (fun q18 => (some (((q14 160 (ix a1_11)) - (q14 160 (ix a2_11))), q18)))) else none) else none)))))) (mv := mv) O ht hC hh h1 h2 hN hmv xf N 0 A I (by unfold xf; omega) (by omega) hA rfl hb (fun _ _ => rfl) R RA h6
  have R1 := rSn_f p6 R
  obtain ⟨J2, gg, i1, i2, i3⟩ := idles_ok (N := sDry S) O p2 (show B.2.2.1 + sDry S < 1000 by omega) R1 p5
  obtain ⟨c1, c2, c3⟩ := idA_ok (S := S) (sDry S) (B, gg) p2
  have R2 := rSn_f i3 R1
  obtain ⟨J3, t1, t2, t3⟩ := rCountsCells_ok (hr := A.2.2.1 + N + sDry S) (t := t) O c1 (by omega) ht false R2 i2
  have ecn : ∀ q, cntV S (idA S (sDry S) (B, gg)).1 false (A.2.2.1 + N + sDry S) t q = cntF (gmW S (A.2.2.1 + N) (gmX S q1 q2 A.2.2.1 mv N (fun j => A.1 (sFi S t + j)))) q C 0 := fun q => by
    unfold cntV
    have sh := cntF_shift (own := ownV S (idA S (sDry S) (B, gg)).1 false (A.2.2.1 + N + sDry S)) (q := q) (d := sFi S t) C 0
    rw [Nat.add_zero] at sh
    rw [← hC, ← sh]
    refine cntF_congr _ _ (fun j _ hj => ?_)
    show ownL (sSuit S) (sDry S) ((idA S (sDry S) (B, gg)).1.1 (sFi S t + j)) (A.2.2.1 + N + sDry S) = gmW S (A.2.2.1 + N) _ j
    rw [c3]
    show ownL (sSuit S) (sDry S) (afterL S (sDry S) B.2.2.1 (B.1 (sFi S t + j))) (A.2.2.1 + N + sDry S) = _
    rw [p3, p4 j (by omega)]
    rfl
  have F3 := fR_trans (fR_trans p6 i3) (f160 t2)
  obtain ⟨H, l1, l2, l3, l4⟩ := laysBack_ok (sv_f F3 g.2.2)
  have fr : ∀ r i, r ≠ 123 ∨ i = 58 → r = 166 ∨ r = 167 ∨ r = 123 → H r i = I r i := fun r i hi hr => by
    rw [l4 r i (by unfold fv; omega) (by omega), F3.2 r (by omega) (by omega) (by omega) (by omega) (by omega) (by omega) (by omega)]
  refine ⟨H, ?_, ⟨l2, aR_trans (aR_trans g.2.1 (aR_f F3)) l3, sv_lb (sv_f F3 g.2.2) l4⟩, fun r i hr => fr r i (by omega) (by omega), fr 123 58 (Or.inr rfl) (Or.inr (Or.inr rfl))⟩
  unfold mX12_gameEnd
  refine Eq.trans p1 ?_
  have e9 : J2 124 9 = nI (A.2.2.1 + N + sDry S) := by
    rw [rAn_h i2, c2]
    show nI (B.2.2.1 + sDry S) = _
    rw [p3]
  have t1' : mX12_countsCells J2 (nI t) (nI (A.2.2.1 + N + sDry S)) (0 : Int32) = some J3 := t1
  rw [rSn_dry R1, i1, Option.bind_some, e9, t1', Option.bind_some, if_pos (nIn (by omega) (by omega)), if_pos (nIn (by omega) (by omega)), l1, Option.bind_some, nIx (by omega), nIx (by omega), t3 q1 (by omega), t3 q2 (by omega), ecn, ecn, nz, nz, zI_sub]
  rfl
def fcG (fi : Nat) (x : Int) : Int := if x = -1 then -1 else fi + x
def tkI (k : Nat) (I : Nat → Nat → Int32) (v c : Int32) : Nat → Nat → Int32 := if k = 0 then xu (xu I 167 k v) 123 58 c else xu I 167 k v
theorem tk46_ok {I : Nat → Nat → Int32} {k : Nat} {v : Int32} {c : Int} (O : okS S) (R : rSn I S) (ht : t < sTh S) (hk : k ≤ 4) (hc : -1 ≤ c ∧ c < 16) (h6 : I 166 k = zI c) : mX12_takesValue_41 I (nI k) v (nI t) = some (tkI k I v (zI (fcG (sFi S t) c))) := by
  have o1 := O.1
  have ot := O.2.1.2.2 t ht
  unfold mX12_takesValue_41 mX12_takesValue_46 tkI
  by_cases w : k = 0
  · subst w
    unfold fcG
    rw [if_pos rfl]
    by_cases z : c = -1
    · rw [z] at h6 ⊢
      rw [if_pos rfl]
      simp (disch := omega) only [↓reduceIte, Option.bind_some, Option.some.injEq, Prod.mk.injEq, and_self, and_true, true_and, eq_self, reduceCtorEq, not_false_eq_true, not_true_eq_false, or_true, true_or, or_false, false_or, bft, nAdd, nMul, nSub, nDiv, nRem, nAm1, nIx, nIn, bI_z, bI_o, ite_b1, ite_b0, zI_add, zI_sub, li0, li1, li2, li3, li4, li5, li6, li7, li8, li9, li10, li11, li12, li13, li14, li15, li16, li17, li18, li19, li20, li21, li22, li23, li24, li25, li26, li27, li28, li29, li30, li31, li32, li33, li34, li35, li36, li37, li40, li42, li43, li45, li47, li48, li57, li59, li60, li61, li62, li64, li80, li91, li93, li97, li99, li100, li122, li182, li199, li255, li300, li380, li400, li999, li1000, li3640, li4100, li65536, li99999, ln1, ln2, ln3, ln100, ln100000, tLe, fLe, tLt, fLt, tEq, fEq, zLe_t, zLe_f, zLt_t, zLt_f, zEq_t, zEq_f, nzLe_t, nzLe_f, znLe_t, znLe_f, nzLt_t, nzLt_f, znLt_t, znLt_f, nzEq_t, nzEq_f, znEq_t, znEq_f, xu_s, xu_r, xu_c, xrow_at, xrow_r, h6]
    · rw [if_neg z]
      obtain ⟨x, rfl⟩ : ∃ x : Nat, c = x := ⟨c.toNat, by omega⟩
      rw [zI_nat] at h6
      simp (disch := omega) only [↓reduceIte, Option.bind_some, Option.some.injEq, Prod.mk.injEq, and_self, and_true, true_and, eq_self, reduceCtorEq, not_false_eq_true, not_true_eq_false, or_true, true_or, or_false, false_or, bft, nAdd, nMul, nSub, nDiv, nRem, nAm1, nIx, nIn, bI_z, bI_o, ite_b1, ite_b0, zI_add, zI_sub, li0, li1, li2, li3, li4, li5, li6, li7, li8, li9, li10, li11, li12, li13, li14, li15, li16, li17, li18, li19, li20, li21, li22, li23, li24, li25, li26, li27, li28, li29, li30, li31, li32, li33, li34, li35, li36, li37, li40, li42, li43, li45, li47, li48, li57, li59, li60, li61, li62, li64, li80, li91, li93, li97, li99, li100, li122, li182, li199, li255, li300, li380, li400, li999, li1000, li3640, li4100, li65536, li99999, ln1, ln2, ln3, ln100, ln100000, tLe, fLe, tLt, fLt, tEq, fEq, zLe_t, zLe_f, zLt_t, zLt_f, zEq_t, zEq_f, nzLe_t, nzLe_f, znLe_t, znLe_f, nzLt_t, nzLt_f, znLt_t, znLt_f, nzEq_t, nzEq_f, znEq_t, znEq_f, xu_s, xu_r, xu_c, xrow_at, xrow_r, h6, rSn_fi R (show t ≤ sTh S by omega)]
      rfl
  · have e : xu (xu I 167 k v) 123 58 (xu I 167 k v 123 58) = xu I 167 k v := xu_id _ _ _
    rw [if_neg w]
    simp (disch := omega) only [↓reduceIte, Option.bind_some, Option.some.injEq, Prod.mk.injEq, and_self, and_true, true_and, eq_self, reduceCtorEq, not_false_eq_true, not_true_eq_false, or_true, true_or, or_false, false_or, bft, nAdd, nMul, nSub, nDiv, nRem, nAm1, nIx, nIn, bI_z, bI_o, ite_b1, ite_b0, zI_add, zI_sub, li0, li1, li2, li3, li4, li5, li6, li7, li8, li9, li10, li11, li12, li13, li14, li15, li16, li17, li18, li19, li20, li21, li22, li23, li24, li25, li26, li27, li28, li29, li30, li31, li32, li33, li34, li35, li36, li37, li40, li42, li43, li45, li47, li48, li57, li59, li60, li61, li62, li64, li80, li91, li93, li97, li99, li100, li122, li182, li199, li255, li300, li380, li400, li999, li1000, li3640, li4100, li65536, li99999, ln1, ln2, ln3, ln100, ln100000, tLe, fLe, tLt, fLt, tEq, fEq, zLe_t, zLe_f, zLt_t, zLt_f, zEq_t, zEq_f, nzLe_t, nzLe_f, znLe_t, znLe_f, nzLt_t, nzLt_f, znLt_t, znLt_f, nzEq_t, nzEq_f, znEq_t, znEq_f, e]
theorem tk_1000 {I : Nat → Nat → Int32} {k : Nat} {v : Int32} {c : Int} (O : okS S) (R : rSn I S) (ht : t < sTh S) (hk : k ≤ 4) (hc : -1 ≤ c ∧ c < 16) (h6 : I 166 k = zI c) (h7 : I 167 k = nI 1000) : mX12_takesValue I (nI k) v (nI t) = some (tkI k I v (zI (fcG (sFi S t) c))) := by
  unfold mX12_takesValue
  rw [tk46_ok O R ht hk hc h6]
  simp (disch := omega) only [↓reduceIte, Option.bind_some, Option.some.injEq, Prod.mk.injEq, and_self, and_true, true_and, eq_self, reduceCtorEq, not_false_eq_true, not_true_eq_false, or_true, true_or, or_false, false_or, bft, nAdd, nMul, nSub, nDiv, nRem, nAm1, nIx, nIn, bI_z, bI_o, ite_b1, ite_b0, zI_add, zI_sub, li0, li1, li2, li3, li4, li5, li6, li7, li8, li9, li10, li11, li12, li13, li14, li15, li16, li17, li18, li19, li20, li21, li22, li23, li24, li25, li26, li27, li28, li29, li30, li31, li32, li33, li34, li35, li36, li37, li40, li42, li43, li45, li47, li48, li57, li59, li60, li61, li62, li64, li80, li91, li93, li97, li99, li100, li122, li182, li199, li255, li300, li380, li400, li999, li1000, li3640, li4100, li65536, li99999, ln1, ln2, ln3, ln100, ln100000, tLe, fLe, tLt, fLt, tEq, fEq, zLe_t, zLe_f, zLt_t, zLt_f, zEq_t, zEq_f, nzLe_t, nzLe_f, znLe_t, znLe_f, nzLt_t, nzLt_f, znLt_t, znLt_f, nzEq_t, nzEq_f, znEq_t, znEq_f, h7]
theorem tk_ok {I : Nat → Nat → Int32} {k : Nat} {v c b : Int} (O : okS S) (R : rSn I S) (ht : t < sTh S) (hk : k ≤ 4) (hc : -1 ≤ c ∧ c < 16) (hv : -100 ≤ v ∧ v ≤ 100) (hb : -100 ≤ b ∧ b ≤ 100) (h6 : I 166 k = zI c) (h7 : I 167 k = zI b) : mX12_takesValue I (nI k) (zI v) (nI t) = some (if btG k v b then tkI k I (zI v) (zI (fcG (sFi S t) c)) else I) := by
  have e46 := tk46_ok (v := zI v) O R ht hk hc h6
  have ek : xrem (nI k) (2 : Int32) = nI (k % 2) := nRem (d := 2) (by omega) (by omega) (by omega)
  have e45 : mX12_takesValue_45 I (nI k) (zI v) (nI t) = some I := by
    unfold mX12_takesValue_45 mX12_takesValue_46
    rw [if_pos rfl]
  have h10 : ¬ zI b = (1000 : Int32) := fun y => absurd ((zI_eq (b := 1000) (by omega) (by omega) (by omega) (by omega)).mp y) (by omega)
  unfold mX12_takesValue
  rw [if_pos (nIn (by omega) (by omega)), nIx (by omega), h7, if_neg h10]
  rcases (show k % 2 = 0 ∨ k % 2 = 1 by omega) with w | w
  · rw [w] at ek
    rw [ek, if_pos (by rfl), if_pos (nIn (by omega) (by omega)), e46, e45]
    by_cases z : b < v
    · rw [if_neg (fun y => absurd ((zI_le (by omega) (by omega) (by omega) (by omega)).mp y) (by omega)), if_pos (Or.inl ⟨w, z⟩)]
    · rw [if_pos ((zI_le (by omega) (by omega) (by omega) (by omega)).mpr (by omega)), if_neg (by omega)]
  · rw [w] at ek
    rw [ek, if_neg (by decide), if_pos (nIn (by omega) (by omega)), e46, e45]
    by_cases z : v < b
    · rw [if_neg (fun y => absurd ((zI_le (by omega) (by omega) (by omega) (by omega)).mp y) (by omega)), if_pos (Or.inr ⟨w, z⟩)]
    · rw [if_pos ((zI_le (by omega) (by omega) (by omega) (by omega)).mpr (by omega)), if_neg (by omega)]
theorem tkI_r {k b : Nat} {I : Nat → Nat → Int32} {v c : Int32} (h : b ≠ 167) (h2 : b ≠ 123) : tkI k I v c b = I b := by
  unfold tkI
  split
  · rw [xu_r h2, xu_r h]
  · exact xu_r h
theorem tkI_c {k i : Nat} {I : Nat → Nat → Int32} {v c : Int32} (h : i ≠ 58) : tkI k I v c 123 i = I 123 i := by
  unfold tkI
  split
  · rw [xu_c h, xu_r (by decide)]
  · rw [xu_r (by decide)]
theorem tkI_7 {k i : Nat} {I : Nat → Nat → Int32} {v c : Int32} (h : i ≠ k) : tkI k I v c 167 i = I 167 i := by
  unfold tkI
  split
  · rw [xu_r (by decide), xu_c h]
  · rw [xu_c h]
theorem tkI_s {k : Nat} {I : Nat → Nat → Int32} {v c : Int32} : tkI k I v c 167 k = v := by
  unfold tkI
  split
  · rw [xu_r (by decide), xu_s]
  · rw [xu_s]
theorem tkI_in {I0 I : Nat → Nat → Int32} {k : Nat} {v c : Int32} (g : inG I0 I) : inG I0 (tkI k I v c) := inG_w g (fun b i h1 h2 h3 => by
  by_cases w : b = 123
  · subst w
    exact tkI_c (by omega)
  · rw [tkI_r h2 w])
abbrev PG (q1 q2 t N f : Nat) (I : Nat → Nat → Int32) (k : Int32) : Option (Int32 × (Nat → Nat → Int32)) := mX12_playsGame_24 f I (nI q1) (nI q2) (nI t) (nI N) k
/-- behind a level of the play -/
def fnG (q1 q2 t N g k : Nat) (J : Nat → Nat → Int32) (v : Int) : Option (Int32 × (Nat → Nat → Int32)) := if k = 0 then PG q1 q2 t N g J (zI (-1)) else Option.bind (mX12_takesValue J (nI (k - 1)) (zI v) (nI t)) (fun q => PG q1 q2 t N g q (nI (k - 1)))
def lvG (I J : Nat → Nat → Int32) (k : Nat) : Prop := (∀ r i, r = 166 ∨ r = 167 → i < k → J r i = I r i) ∧ (k ≠ 0 → J 123 58 = I 123 58)
theorem lvG_trans {I J H : Nat → Nat → Int32} {k : Nat} (a : lvG I J k) (b : lvG J H k) : lvG I H k := ⟨fun r i hr hi => (b.1 r i hr hi).trans (a.1 r i hr hi), fun w => (b.2 w).trans (a.2 w)⟩
theorem tkI_lv {I : Nat → Nat → Int32} {k : Nat} {v c : Int32} : lvG I (tkI k I v c) k := ⟨fun r i hr hi => by
  rcases hr with rfl | rfl
  · rw [tkI_r (by decide) (by decide)]
  · exact tkI_7 (by omega), fun w => by
  unfold tkI
  rw [if_neg w, xu_r (by decide)]⟩
theorem pg_go {I0 : Nat → Nat → Int32} (O : okS S) (hA : okA S A) (ht : t < sTh S) (hC : C = sFi S (t + 1) - sFi S t) (hh : A.2.2.1 < 900) (h1 : q1 < sPa S) (h2 : q2 < sPa S) (hN : N ≤ 4) (hN1 : 1 ≤ N) (hb : A.2.2.2.testBit t = false) (R0 : rSn I0 S) (RA0 : rAn I0 S A) : ∀ (m k g : Nat) (I : Nat → Nat → Int32) (mv : Nat → Int), m + k = N → inG I0 I → (∀ j, j < k → I 166 j = zI (mv j)) → (∀ j, j < k → -1 ≤ mv j ∧ mv j < C) → I 166 k = zI (-2) → I 167 k = nI 1000 → ∃ J, PG q1 q2 t N (gCo C m + g) I (nI k) = fnG q1 q2 t N g k J (gmV S q1 q2 C A.2.2.1 m k (gmX S q1 q2 A.2.2.1 mv k (fun j => A.1 (sFi S t + j)))).1 ∧ inG I0 J ∧ lvG I J k ∧ (k = 0 → J 167 0 = zI (gmV S q1 q2 C A.2.2.1 m k (gmX S q1 q2 A.2.2.1 mv k (fun j => A.1 (sFi S t + j)))).1 ∧ J 123 58 = zI (fcG (sFi S t) (gmV S q1 q2 C A.2.2.1 m k (gmX S q1 q2 A.2.2.1 mv k (fun j => A.1 (sFi S t + j)))).2))
  | 0, k, g, I, mv, hk, hg, h6, hm, _, _ => by
    have o1 := O.1
    have ot := O.2.1.2.2 t ht
    have : k = N := by omega
    subst this
    obtain ⟨J, j1, j2, j3, j4⟩ := gEnd_ok O hA ht hC hh h1 h2 hN hm hb R0 RA0 hg h6
    refine ⟨J, ?_, j2, ⟨fun r i hr _ => j3 r i hr, fun _ => j4⟩, fun y => absurd y (by omega)⟩
    unfold fnG PG
    rw [if_neg (by omega), gCo, Nat.add_comm 1 g, mX12_playsGame_24, if_neg (show ¬ nI k < (0 : Int32) from fun y => absurd ((nLt (b := 0) (by omega) (by omega)).mp y) (by omega)), if_pos rfl, j1, Option.bind_some, show nI k + (-1) = nI (k - 1) by rw [show k = (k - 1) + 1 by omega, m1Add]; rfl]
    rfl
  | m + 1, k, g, I, mv, hk, hg, h6, hm, h6k, h7k => by
    have o1 := O.1
    have ot := O.2.1.2.2 t ht
    generalize hX : (fun j => A.1 (sFi S t + j)) = X
    generalize hval : (fun c => (gmV S q1 q2 C A.2.2.1 m (k + 1) (gmS S (plG q1 q2 k) (A.2.2.1 + k) c (gmX S q1 q2 A.2.2.1 mv k X))).1) = val
    have hv : ∀ c, (gmV S q1 q2 C A.2.2.1 m (k + 1) (gmS S (plG q1 q2 k) (A.2.2.1 + k) c (gmX S q1 q2 A.2.2.1 mv k X))).1 = val c := fun c => by rw [← hval]
    have hvr : ∀ c, -(C : Int) ≤ val c ∧ val c ≤ C := fun c => by rw [← hv]; exact (gmV_rng m (k + 1) _).1
    -- one choice
    have step : ∀ (c : Int) (g : Nat) (I : Nat → Nat → Int32), -1 ≤ c ∧ c < C → inG I0 I → (∀ j, j < k → I 166 j = zI (mv j)) → I 166 k = zI (c - 1) → ∃ J, PG q1 q2 t N (1 + gCo C m + g) I (nI k) = Option.bind (mX12_takesValue J (nI k) (zI (val c)) (nI t)) (fun q => PG q1 q2 t N g q (nI k)) ∧ inG I0 J ∧ J 166 k = zI c ∧ J 167 k = I 167 k ∧ lvG I J k ∧ J 123 58 = I 123 58 := by
      intro c g I hc hg h6 h6k
      have hgJ : inG I0 (xu I 166 k (zI c)) := inG_w hg (fun b i w1 _ _ => by rw [xu_r w1])
      have hgH : inG I0 (xu (xu (xu I 166 k (zI c)) 166 (k + 1) (zI (-2))) 167 (k + 1) (nI 1000)) := inG_w hgJ (fun b i w1 w2 _ => by rw [xu_r w2, xu_r w1])
      have ec := rCellsIn_ok (f5_r2 O hA hgJ.1 hgJ.2.1 R0 RA0).1 O ht
      rw [← hC] at ec
      have e6 : ∀ j, j < k → xu (xu (xu I 166 k (zI c)) 166 (k + 1) (zI (-2))) 167 (k + 1) (nI 1000) 166 j = I 166 j := fun j hj => by rw [xu_r (by decide), xu_c (by omega), xu_c (by omega)]
      have e6k : xu (xu (xu I 166 k (zI c)) 166 (k + 1) (zI (-2))) 167 (k + 1) (nI 1000) 166 k = zI c := by rw [xu_r (by decide), xu_c (by omega), xu_s]
      obtain ⟨J, p1, p2, p3, -⟩ := pg_go O hA ht hC hh h1 h2 hN hN1 hb R0 RA0 m (k + 1) g (xu (xu (xu I 166 k (zI c)) 166 (k + 1) (zI (-2))) 167 (k + 1) (nI 1000)) (updZ mv k c) (by omega) hgH (fun j hj => by
        by_cases w : j = k
        · subst w; rw [e6k, updZ_s]
        · rw [e6 j (by omega), updZ_n w]; exact h6 j (by omega)) (fun j hj => by
        by_cases w : j = k
        · subst w; rw [updZ_s]; exact hc
        · rw [updZ_n w]; exact hm j (by omega)) (by rw [xu_r (by decide), xu_s]) xu_s
      rw [hX, gmX, updZ_s, gmX_congr (m2 := mv) k (fun j hj => updZ_n (by omega)), hv] at p1
      refine ⟨J, ?_, p2, by rw [p3.1 166 k (Or.inl rfl) (by omega), e6k], by rw [p3.1 167 k (Or.inr rfl) (by omega), xu_c (by omega), xu_r (by decide), xu_r (by decide)], ⟨fun r i hr hi => ?_, fun _ => ?_⟩, ?_⟩
      · unfold fnG at p1
        rw [if_neg (by omega)] at p1
        refine Eq.trans ?_ p1
        unfold PG
        rw [show 1 + gCo C m + g = (gCo C m + g) + 1 by omega, mX12_playsGame_24, if_neg (show ¬ nI k < (0 : Int32) from fun y => absurd ((nLt (b := 0) (by omega) (by omega)).mp y) (by omega)), if_neg (fun y => absurd ((nEq (by omega) (by omega)).mp y) (by omega)), if_pos (nIn (by omega) (by omega)), if_pos (nIn (by omega) (by omega)), if_pos (nIn (by omega) (by omega)), nIx (by omega), h6k, show zI (c - 1) + 1 = zI c by rw [show (1 : Int32) = zI 1 from rfl, zI_add]; congr 1; omega, ec, Option.bind_some, xu_s, if_neg (fun y => by rw [nz] at y; exact absurd ((zI_le (by omega) (by omega) (by omega) (by omega)).mp y) (by omega)), show nI k + 1 = nI (k + 1) from nAdd k 1, if_pos (nIn (by omega) (by omega)), if_pos (nIn (by omega) (by omega)), nIx (by omega), lm2]
        rfl
      · rw [p3.1 r i hr (by omega)]
        rcases hr with rfl | rfl
        · exact e6 i hi
        · rw [xu_c (by omega), xu_r (by decide), xu_r (by decide)]
      · rw [p3.2 (by omega), xu_r (by decide), xu_r (by decide), xu_r (by decide)]
      · rw [p3.2 (by omega), xu_r (by decide), xu_r (by decide), xu_r (by decide)]
    have loop : ∀ (n c g : Nat) (b : Int × Int) (I : Nat → Nat → Int32), n + c = C → inG I0 I → (∀ j, j < k → I 166 j = zI (mv j)) → I 166 k = zI ((c : Int) - 1) → I 167 k = zI b.1 → (-(C : Int) ≤ b.1 ∧ b.1 ≤ C) → (k = 0 → I 123 58 = zI (fcG (sFi S t) b.2)) → ∃ J, PG q1 q2 t N (n * (1 + gCo C m) + 1 + g) I (nI k) = fnG q1 q2 t N g k J (bsG k val n c b).1 ∧ inG I0 J ∧ lvG I J k ∧ (k = 0 → J 167 0 = zI (bsG k val n c b).1 ∧ J 123 58 = zI (fcG (sFi S t) (bsG k val n c b).2)) := by
      intro n
      induction n with
      | zero =>
        intro c g b I hc hg h6 h6k h7k hbr hf
        have : c = C := by omega
        subst this
        have hgJ : inG I0 (xu I 166 k (nI c)) := inG_w hg (fun b i w1 _ _ => by rw [xu_r w1])
        have ec := rCellsIn_ok (f5_r2 O hA hgJ.1 hgJ.2.1 R0 RA0).1 O ht
        rw [← hC] at ec
        refine ⟨xu I 166 k (nI c), ?_, hgJ, ⟨fun r i hr hi => ?_, fun _ => by rw [xu_r (by decide)]⟩, fun w => ⟨?_, ?_⟩⟩
        · unfold fnG PG
          rw [show 0 * (1 + gCo c m) + 1 + g = g + 1 by omega, mX12_playsGame_24, if_neg (show ¬ nI k < (0 : Int32) from fun y => absurd ((nLt (b := 0) (by omega) (by omega)).mp y) (by omega)), if_neg (fun y => absurd ((nEq (by omega) (by omega)).mp y) (by omega)), if_pos (nIn (by omega) (by omega)), if_pos (nIn (by omega) (by omega)), if_pos (nIn (by omega) (by omega)), nIx (by omega), h6k, show zI ((c : Int) - 1) + 1 = nI c by rw [show (1 : Int32) = zI 1 from rfl, zI_add, nz]; congr 1; omega, ec, Option.bind_some, xu_s, if_pos ((nLe (by omega) (by omega)).mpr (Nat.le_refl _))]
          by_cases w : k = 0
          · subst w
            rw [show nI 0 + (-1) = zI (-1) by decide +kernel, if_pos (by decide +kernel), if_pos rfl]
          · rw [show nI k + (-1) = nI (k - 1) by rw [show k = (k - 1) + 1 by omega, m1Add]; rfl, if_neg (show ¬ nI (k - 1) < (0 : Int32) from fun y => absurd ((nLt (b := 0) (by omega) (by omega)).mp y) (by omega)), if_neg w, show nI (k - 1) + 1 = nI k by rw [show nI (k - 1) + 1 = nI (k - 1 + 1) from nAdd _ 1, show k - 1 + 1 = k by omega], if_pos (nIn (by omega) (by omega)), nIx (by omega), xu_r (show (167 : Nat) ≠ 166 by decide), h7k]
            rfl
        · rcases hr with rfl | rfl
          · exact xu_c (by omega)
          · rw [xu_r (by decide)]
        · subst w
          rw [xu_r (by decide)]
          exact h7k
        · rw [xu_r (by decide)]
          exact hf w
      | succ n ih =>
        intro c g b I hc hg h6 h6k h7k hbr hf
        obtain ⟨J, p1, p2, p3, p4, p5, p6⟩ := step c (n * (1 + gCo C m) + 1 + g) I ⟨by omega, by omega⟩ hg h6 h6k
        rw [h7k] at p4
        have RJ := (f5_r2 O hA p2.1 p2.2.1 R0 RA0).1
        have vr := hvr c
        have tk := tk_ok O RJ ht (show k ≤ 4 by omega) (show -1 ≤ (c : Int) ∧ (c : Int) < 16 by omega) (show -100 ≤ val c ∧ val c ≤ 100 by omega) (show -100 ≤ b.1 ∧ b.1 ≤ 100 by omega) p3 p4
        have ef : (n + 1) * (1 + gCo C m) + 1 + g = 1 + gCo C m + (n * (1 + gCo C m) + 1 + g) := by rw [Nat.succ_mul]; omega
        rw [bsG, ef, p1]
        by_cases bt : btG k (val c) b.1
        · rw [if_pos bt] at tk
          rw [tkG_y bt, tk]
          obtain ⟨H, u1, u2, u3, u4⟩ := ih (c + 1) g (val c, c) (tkI k J (zI (val c)) (zI (fcG (sFi S t) c))) (by omega) (tkI_in p2) (fun j hj => by rw [tkI_r (by decide) (by decide), p5.1 166 j (Or.inl rfl) hj]; exact h6 j hj) (by rw [tkI_r (by decide) (by decide), p3]; congr 1; omega) tkI_s vr (fun w => by unfold tkI; rw [if_pos w, xu_s])
          exact ⟨H, u1, u2, lvG_trans p5 (lvG_trans tkI_lv u3), u4⟩
        · rw [if_neg bt] at tk
          rw [tkG_n bt, tk]
          obtain ⟨H, u1, u2, u3, u4⟩ := ih (c + 1) g b J (by omega) p2 (fun j hj => by rw [p5.1 166 j (Or.inl rfl) hj]; exact h6 j hj) (by rw [p3]; congr 1; omega) p4 hbr (fun w => by rw [p6]; exact hf w)
          exact ⟨H, u1, u2, lvG_trans p5 u3, u4⟩
    obtain ⟨J, p1, p2, p3, p4, p5, p6⟩ := step (-1) (C * (1 + gCo C m) + 1 + g) I ⟨by omega, by omega⟩ hg h6 h6k
    rw [h7k] at p4
    have RJ := (f5_r2 O hA p2.1 p2.2.1 R0 RA0).1
    have vr := hvr (-1)
    have tk := tk_1000 (v := zI (val (-1))) O RJ ht (show k ≤ 4 by omega) (show -1 ≤ (-1 : Int) ∧ (-1 : Int) < 16 by omega) p3 p4
    have ef : gCo C (m + 1) + g = 1 + gCo C m + (C * (1 + gCo C m) + 1 + g) := by rw [gCo, Nat.succ_mul]; omega
    have eg : gmV S q1 q2 C A.2.2.1 (m + 1) k (gmX S q1 q2 A.2.2.1 mv k X) = bsG k val C 0 (val (-1), -1) := by rw [gmV, hval, hv (-1)]
    obtain ⟨H, u1, u2, u3, u4⟩ := loop C 0 g (val (-1), -1) (tkI k J (zI (val (-1))) (zI (fcG (sFi S t) (-1)))) (by omega) (tkI_in p2) (fun j hj => by rw [tkI_r (by decide) (by decide), p5.1 166 j (Or.inl rfl) hj]; exact h6 j hj) (by rw [tkI_r (by decide) (by decide), p3]; rfl) tkI_s vr (fun w => by unfold tkI; rw [if_pos w, xu_s])
    rw [eg, ef, p1, tk]
    exact ⟨H, u1, u2, lvG_trans p5 (lvG_trans tkI_lv u3), u4⟩
end

/-! least: the reference. -/
def psA (S : sT) (A : aT) (q t s k : Nat) : aT := (fun c => if sFi S t ≤ c ∧ c < sFi S t + k ∧ s.testBit (c - sFi S t) = true then putC (A.1 c) q A.2.2.1 else A.1 c, A.2)
section
variable {S : sT} {A : aT} {q n t : Nat}
theorem psA_ok (O : okS S) (hA : okA S A) (hh : A.2.2.1 < 1000) (hq : q < sPa S) (ht : t < sTh S) (hb : A.2.2.2.testBit t = false) (s : Nat) {k : Nat} (hk : k ≤ sFi S (t + 1) - sFi S t) : okA S (psA S A q t s k) := by
  have o1 := O.1
  have ot := O.2.1.2.2 t ht
  refine ⟨fun c hc => ?_, hA.2.1, hA.2.2.1, fun u hu hB c h1 h2 => ?_⟩
  · show okC (if sFi S t ≤ c ∧ c < sFi S t + k ∧ s.testBit (c - sFi S t) = true then putC (A.1 c) q A.2.2.1 else A.1 c) ∧ ∀ x ∈ (if sFi S t ≤ c ∧ c < sFi S t + k ∧ s.testBit (c - sFi S t) = true then putC (A.1 c) q A.2.2.1 else A.1 c), _
    split
    · exact ⟨putC_ok (hA.1 c hc).1 (by omega) hh, fun x hx => putC_mem (by omega) hq (hA.1 c hc).2 hx⟩
    · exact hA.1 c hc
  · show (if sFi S t ≤ c ∧ c < sFi S t + k ∧ s.testBit (c - sFi S t) = true then putC (A.1 c) q A.2.2.1 else A.1 c) = []
    by_cases w : sFi S t ≤ c ∧ c < sFi S t + k ∧ s.testBit (c - sFi S t) = true
    · exfalso
      have e1 := thOf_in O hu h1 h2
      have e2 := thOf_in O ht w.1 (show c < sFi S (t + 1) by omega)
      rw [e1, ← e2] at hB
      change A.2.2.2.testBit t = true at hB
      rw [hb] at hB
      exact absurd hB (by decide)
    · rw [if_neg w]
      exact hA.2.2.2 u hu hB c h1 h2
theorem psA_at (s k : Nat) : (psA S A q t s k).1 (sFi S t + k) = A.1 (sFi S t + k) := if_neg (fun h => by omega)
theorem psA_y {s k : Nat} (h : s.testBit k = true) : psA S A q t s (k + 1) = coA (psA S A q t s k) (sFi S t + k) (putC (A.1 (sFi S t + k)) q A.2.2.1) := by
  refine Prod.ext (funext fun c => ?_) rfl
  show (if sFi S t ≤ c ∧ c < sFi S t + (k + 1) ∧ s.testBit (c - sFi S t) = true then putC (A.1 c) q A.2.2.1 else A.1 c) = updF (psA S A q t s k).1 (sFi S t + k) _ c
  by_cases w : c = sFi S t + k
  · subst w
    rw [updF_s, if_pos ⟨by omega, by omega, by rw [Nat.add_sub_cancel_left]; exact h⟩]
  · rw [updF_n w]
    show _ = if sFi S t ≤ c ∧ c < sFi S t + k ∧ s.testBit (c - sFi S t) = true then putC (A.1 c) q A.2.2.1 else A.1 c
    by_cases z : sFi S t ≤ c ∧ c < sFi S t + k ∧ s.testBit (c - sFi S t) = true
    · rw [if_pos z, if_pos ⟨z.1, by omega, z.2.2⟩]
    · rw [if_neg z, if_neg (fun y => z ⟨y.1, by omega, y.2.2⟩)]
theorem psA_n {s k : Nat} (h : s.testBit k = false) : psA S A q t s (k + 1) = psA S A q t s k := by
  refine Prod.ext (funext fun c => ?_) rfl
  show (if sFi S t ≤ c ∧ c < sFi S t + (k + 1) ∧ s.testBit (c - sFi S t) = true then putC (A.1 c) q A.2.2.1 else A.1 c) = if sFi S t ≤ c ∧ c < sFi S t + k ∧ s.testBit (c - sFi S t) = true then putC (A.1 c) q A.2.2.1 else A.1 c
  by_cases w : c = sFi S t + k
  · subst w
    rw [if_neg (fun y => by rw [Nat.add_sub_cancel_left, h] at y; exact absurd y.2.2 (by decide)), if_neg (fun y => by omega)]
  · by_cases z : sFi S t ≤ c ∧ c < sFi S t + k ∧ s.testBit (c - sFi S t) = true
    · rw [if_pos z, if_pos ⟨z.1, by omega, z.2.2⟩]
    · rw [if_neg z, if_neg (fun y => z ⟨y.1, by omega, y.2.2⟩)]
theorem psA_0 (s : Nat) : psA S A q t s 0 = A := by
  refine Prod.ext (funext fun c => ?_) rfl
  exact if_neg (fun h => by omega)
theorem ps_go {e42 : (Nat → Nat → Int32) → Int32 → Int32 → Int32 → Option (Int32 × (Nat → Nat → Int32))} {a4 : Int32} {s : Nat} (O : okS S) (hA : okA S A) (hh : A.2.2.1 < 1000) (hq : q < sPa S) (ht : t < sTh S) (hb : A.2.2.2.testBit t = false) (hs : s < 64) : ∀ (f m k : Nat) (I : Nat → Nat → Int32), m < f → m + k = sFi S (t + 1) - sFi S t → rSn I S → rAn I S (psA S A q t s k) → ∃ J, mX12_isTheirsBehind_3 e42 f I (nI q) (nI t) (nI s) a4 (nI k) = e42 J (nI q) (nI t) a4 ∧ rAn J S (psA S A q t s (sFi S (t + 1) - sFi S t)) ∧ fR I J
  | 0, m, k, I, h1, _, _, _ => absurd h1 (by omega)
  | f + 1, m, k, I, h1, h2, R, RA => by
    have o1 := O.1
    have ot := O.2.1.2.2 t ht
    have ec := rCellsIn_ok R O ht
    rw [mX12_isTheirsBehind_3]
    cases m with
    | zero =>
      refine ⟨I, ?_, by rw [← h2, Nat.zero_add]; exact RA, fR_refl I⟩
      simp (disch := omega) only [↓reduceIte, Option.bind_some, Option.some.injEq, Prod.mk.injEq, and_self, and_true, true_and, eq_self, reduceCtorEq, not_false_eq_true, not_true_eq_false, or_true, true_or, or_false, false_or, bft, nAdd, nMul, nSub, nDiv, nRem, nAm1, nIx, nIn, bI_z, bI_o, ite_b1, ite_b0, zI_add, zI_sub, li0, li1, li2, li3, li4, li5, li6, li7, li8, li9, li10, li11, li12, li13, li14, li15, li16, li17, li18, li19, li20, li21, li22, li23, li24, li25, li26, li27, li28, li29, li30, li31, li32, li33, li34, li35, li36, li37, li40, li42, li43, li45, li47, li48, li57, li59, li60, li61, li62, li64, li80, li91, li93, li97, li99, li100, li122, li182, li199, li255, li300, li380, li400, li999, li1000, li3640, li4100, li65536, li99999, ln1, ln2, ln3, ln100, ln100000, tLe, fLe, tLt, fLt, tEq, fEq, zLe_t, zLe_f, zLt_t, zLt_f, zEq_t, zEq_f, nzLe_t, nzLe_f, znLe_t, znLe_f, nzLt_t, nzLt_f, znLt_t, znLt_f, nzEq_t, nzEq_f, znEq_t, znEq_f, ec]
    | succ m =>
      have eh := rHas_ok (b := s) (t := k) hs (by omega)
      cases hbk : s.testBit k with
      | false =>
        rw [hbk] at eh
        rw [← psA_n hbk] at RA
        obtain ⟨J, j1, j2, j3⟩ := ps_go (e42 := e42) (a4 := a4) O hA hh hq ht hb hs f m (k + 1) I (by omega) (by omega) R RA
        refine ⟨J, ?_, j2, j3⟩
        simp (disch := omega) only [↓reduceIte, Option.bind_some, Option.some.injEq, Prod.mk.injEq, and_self, and_true, true_and, eq_self, reduceCtorEq, not_false_eq_true, not_true_eq_false, or_true, true_or, or_false, false_or, bft, nAdd, nMul, nSub, nDiv, nRem, nAm1, nIx, nIn, bI_z, bI_o, ite_b1, ite_b0, zI_add, zI_sub, li0, li1, li2, li3, li4, li5, li6, li7, li8, li9, li10, li11, li12, li13, li14, li15, li16, li17, li18, li19, li20, li21, li22, li23, li24, li25, li26, li27, li28, li29, li30, li31, li32, li33, li34, li35, li36, li37, li40, li42, li43, li45, li47, li48, li57, li59, li60, li61, li62, li64, li80, li91, li93, li97, li99, li100, li122, li182, li199, li255, li300, li380, li400, li999, li1000, li3640, li4100, li65536, li99999, ln1, ln2, ln3, ln100, ln100000, tLe, fLe, tLt, fLt, tEq, fEq, zLe_t, zLe_f, zLt_t, zLt_f, zEq_t, zEq_f, nzLe_t, nzLe_f, znLe_t, znLe_f, nzLt_t, nzLt_f, znLt_t, znLt_f, nzEq_t, nzEq_f, znEq_t, znEq_f, ec, eh]
        exact j1
      | true =>
        rw [hbk] at eh
        obtain ⟨J1, p1, p2, p3⟩ := rPaints_ok (c := sFi S t + k) (q := q) O (psA_ok O hA hh hq ht hb s (show k ≤ sFi S (t + 1) - sFi S t by omega)) hh (by omega) (by omega) RA
        rw [psA_at] at p2
        change rAn J1 S (coA (psA S A q t s k) (sFi S t + k) (putC (A.1 (sFi S t + k)) q A.2.2.1)) at p2
        rw [← psA_y hbk] at p2
        have F1 : fR I J1 := fR_of (fun b _ z1 z2 z3 _ _ => p3 b z1 z2 z3)
        obtain ⟨J, j1, j2, j3⟩ := ps_go (e42 := e42) (a4 := a4) O hA hh hq ht hb hs f m (k + 1) J1 (by omega) (by omega) (rSn_f F1 R) p2
        refine ⟨J, ?_, j2, fR_trans F1 j3⟩
        simp (disch := omega) only [↓reduceIte, Option.bind_some, Option.some.injEq, Prod.mk.injEq, and_self, and_true, true_and, eq_self, reduceCtorEq, not_false_eq_true, not_true_eq_false, or_true, true_or, or_false, false_or, bft, nAdd, nMul, nSub, nDiv, nRem, nAm1, nIx, nIn, bI_z, bI_o, ite_b1, ite_b0, zI_add, zI_sub, li0, li1, li2, li3, li4, li5, li6, li7, li8, li9, li10, li11, li12, li13, li14, li15, li16, li17, li18, li19, li20, li21, li22, li23, li24, li25, li26, li27, li28, li29, li30, li31, li32, li33, li34, li35, li36, li37, li40, li42, li43, li45, li47, li48, li57, li59, li60, li61, li62, li64, li80, li91, li93, li97, li99, li100, li122, li182, li199, li255, li300, li380, li400, li999, li1000, li3640, li4100, li65536, li99999, ln1, ln2, ln3, ln100, ln100000, tLe, fLe, tLt, fLt, tEq, fEq, zLe_t, zLe_f, zLt_t, zLt_f, zEq_t, zEq_f, nzLe_t, nzLe_f, znLe_t, znLe_f, nzLt_t, nzLt_f, znLt_t, znLt_f, nzEq_t, nzEq_f, znEq_t, znEq_f, ec, eh, rSn_fi R (show t ≤ sTh S by omega), p1]
        exact j1
theorem f5_r2 {I H : Nat → Nat → Int32} (O : okS S) (hA : okA S A) (f : f5 I H) (a : aR I H) (R : rSn I S) (RA : rAn I S A) : rSn H S ∧ rAn H S A := by
  have e : ∀ b i, 124 < b → b < 157 → ¬ fv b → H b i = I b i := fun b i h1 h2 h3 => a.1 b i h3 (by omega) (by omega) (Or.inl (by omega))
  exact ⟨rS_congr O (fun i hi => f 124 i (Or.inl rfl) (show i < 13 by omega)) (fun i _ => e 125 i (by decide) (by decide) (by unfold fv; decide)) (fun i _ => e 126 i (by decide) (by decide) (by unfold fv; decide)) (fun i _ => e 127 i (by decide) (by decide) (by unfold fv; decide)) (fun i _ => e 129 i (by decide) (by decide) (by unfold fv; decide)) (fun i _ => e 130 i (by decide) (by decide) (by unfold fv; decide)) R, rA_congr O hA (f 124 8 (by unfold fv; decide) (show 8 < 13 by decide)) (f 124 9 (by unfold fv; decide) (show 9 < 13 by decide)) (fun i hi => f 128 i (by unfold fv; decide) hi) (fun i hi => f 131 i (by unfold fv; decide) hi) (fun i hi => f 132 i (by unfold fv; decide) hi) (fun i hi => f 133 i (by unfold fv; decide) hi) RA⟩
theorem sv_lb {I0 J H : Nat → Nat → Int32} (s : sv I0 J) (l4 : ∀ b i, ¬ fv b → b ≠ 123 ∨ (i ≠ 63 ∧ i ≠ 64) → H b i = J b i) : sv I0 H := fun r i q1 q2 => (l4 170 _ (by unfold fv; decide) (Or.inl (by decide))).trans (s r i q1 q2)
theorem okSet_eq (O : okS S) (hq : q < sPa S) (ht : t < sTh S) {s : Nat} {B : aT} (hB : B.2.2.1 = A.2.2.1 + n) (hc : ∀ c, B.1 c = afterL S n A.2.2.1 ((psA S A q t s (sFi S (t + 1) - sFi S t)).1 c)) : okSet S A q n t s = decide (ownT S B t (sPart S) = q) := by
  have ot := O.2.1.2.2 t ht
  unfold okSet ownT
  congr 2
  refine ownC_congr (fun p _ => ?_) _ _
  unfold cntT
  rw [show sFi S t = sFi S t + 0 by omega, ← cntF_shift]
  refine cntF_congr _ _ (fun j h1 h2 => ?_)
  show ownS S A q n t s j = ownA S B (sFi S t + j)
  unfold ownS ownA
  rw [hB, hc]
  show _ = ownL (sSuit S) (sDry S) (afterL S n A.2.2.1 (if sFi S t ≤ sFi S t + j ∧ sFi S t + j < sFi S t + (sFi S (t + 1) - sFi S t) ∧ s.testBit (sFi S t + j - sFi S t) = true then putC (A.1 (sFi S t + j)) q A.2.2.1 else A.1 (sFi S t + j))) (A.2.2.1 + n)
  rw [Nat.add_sub_cancel_left]
  cases hb : s.testBit j with
  | true => rw [if_pos rfl, if_pos ⟨by omega, by omega, rfl⟩]; rfl
  | false => rw [if_neg (by decide), if_neg (fun z => absurd z.2.2 (by decide))]; rfl
theorem theirs_ok {I0 I : Nat → Nat → Int32} {s : Nat} (O : okS S) (hA : okA S A) (hh : A.2.2.1 + n < 1000) (hq : q < sPa S) (ht : t < sTh S) (hb : A.2.2.2.testBit t = false) (hs : s < 64) (R0 : rSn I0 S) (RA0 : rAn I0 S A) (f : f5 I0 I) (a : aR I0 I) (v : sv I0 I) : ∃ H, mX12_isTheirsBehind I (nI q) (nI t) (nI s) (nI n) = some (bI (okSet S A q n t s), H) ∧ f5 I0 H ∧ aR I0 H ∧ sv I0 H := by
  have o1 := O.1
  have ot := O.2.1.2.2 t ht
  obtain ⟨R, RA⟩ := f5_r2 O hA f a R0 RA0
  rw [← psA_0 (S := S) (A := A) (q := q) (t := t) s] at RA
  obtain ⟨J1, p1, p2, p3⟩ := ps_go (e42 := fun I_10 a1_10 a2_10 a4_10 => (Option.bind (mX12_idles I_10 a4_10) (fun q11 => (Option.bind (mX12_thingOwner q11 a2_10) (fun q13 => (if q13.1 = a1_10 then (mX12_isTheirsBehind_62 q13.2 (1 : Int32)) else (mX12_isTheirsBehind_62 q13.2 (0 : Int32)))))))) (a4 := nI n) O hA (by omega) hq ht hb hs xf (sFi S (t + 1) - sFi S t) 0 I (by unfold xf; omega) (by omega) R RA
  have hP := psA_ok O hA (by omega) hq ht hb s (Nat.le_refl (sFi S (t + 1) - sFi S t))
  obtain ⟨J2, g, i1, i2, i3⟩ := idles_ok (N := n) O hP (show A.2.2.1 + n < 1000 by omega) (rSn_f p3 R) p2
  obtain ⟨c1, c2, c3⟩ := idA_ok n (psA S A q t s (sFi S (t + 1) - sFi S t), g) hP
  change _ = A.2.2.1 + n at c2
  obtain ⟨J3, t1, t2⟩ := rThingOwner_ok O c1 (by omega) ht (rSn_f (fR_trans p3 i3) R) i2
  have ek := okSet_eq (A := A) (q := q) (n := n) (s := s) O hq ht c2 c3
  have bo := ownT_b O c1 ht (sPart S)
  generalize ownT S (idA S n (psA S A q t s (sFi S (t + 1) - sFi S t), g)).1 t (sPart S) = w at t1 ek bo
  have F3 := fR_trans (fR_trans p3 i3) (f160 t2)
  obtain ⟨H, l1, l2, l3, l4⟩ := laysBack_ok (sv_f F3 v)
  refine ⟨H, ?_, l2, aR_trans (aR_trans a (aR_f F3)) l3, sv_lb (sv_f F3 v) l4⟩
  unfold mX12_isTheirsBehind
  rw [li0] at *
  rw [p1, i1, Option.bind_some, t1, Option.bind_some, ek]
  by_cases z : w = q
  · rw [decide_eq_true z]
    simp (disch := omega) only [↓reduceIte, Option.bind_some, Option.some.injEq, Prod.mk.injEq, and_self, and_true, true_and, eq_self, reduceCtorEq, not_false_eq_true, not_true_eq_false, or_true, true_or, or_false, false_or, bft, nAdd, nMul, nSub, nDiv, nRem, nAm1, nIx, nIn, bI_z, bI_o, ite_b1, ite_b0, zI_add, zI_sub, li0, li1, li2, li3, li4, li5, li6, li7, li8, li9, li10, li11, li12, li13, li14, li15, li16, li17, li18, li19, li20, li21, li22, li23, li24, li25, li26, li27, li28, li29, li30, li31, li32, li33, li34, li35, li36, li37, li40, li42, li43, li45, li47, li48, li57, li59, li60, li61, li62, li64, li80, li91, li93, li97, li99, li100, li122, li182, li199, li255, li300, li380, li400, li999, li1000, li3640, li4100, li65536, li99999, ln1, ln2, ln3, ln100, ln100000, tLe, fLe, tLt, fLt, tEq, fEq, zLe_t, zLe_f, zLt_t, zLt_f, zEq_t, zEq_f, nzLe_t, nzLe_f, znLe_t, znLe_f, nzLt_t, nzLt_f, znLt_t, znLt_f, nzEq_t, nzEq_f, znEq_t, znEq_f, z, mX12_isTheirsBehind_62, l1]
    rfl
  · rw [decide_eq_false z]
    simp (disch := omega) only [↓reduceIte, Option.bind_some, Option.some.injEq, Prod.mk.injEq, and_self, and_true, true_and, eq_self, reduceCtorEq, not_false_eq_true, not_true_eq_false, or_true, true_or, or_false, false_or, bft, nAdd, nMul, nSub, nDiv, nRem, nAm1, nIx, nIn, bI_z, bI_o, ite_b1, ite_b0, zI_add, zI_sub, li0, li1, li2, li3, li4, li5, li6, li7, li8, li9, li10, li11, li12, li13, li14, li15, li16, li17, li18, li19, li20, li21, li22, li23, li24, li25, li26, li27, li28, li29, li30, li31, li32, li33, li34, li35, li36, li37, li40, li42, li43, li45, li47, li48, li57, li59, li60, li61, li62, li64, li80, li91, li93, li97, li99, li100, li122, li182, li199, li255, li300, li380, li400, li999, li1000, li3640, li4100, li65536, li99999, ln1, ln2, ln3, ln100, ln100000, tLe, fLe, tLt, fLt, tEq, fEq, zLe_t, zLe_f, zLt_t, zLt_f, zEq_t, zEq_f, nzLe_t, nzLe_f, znLe_t, znLe_f, nzLt_t, nzLt_f, znLt_t, znLt_f, nzEq_t, nzEq_f, znEq_t, znEq_f, mX12_isTheirsBehind_62, l1]
    rfl
theorem rLs_go {I0 : Nat → Nat → Int32} {e114 : (Nat → Nat → Int32) → Int32 → Int32 → Option (Int32 × (Nat → Nat → Int32))} {a4 : Int32} (O : okS S) (hA : okA S A) (hh : A.2.2.1 + n < 1000) (hq : q < sPa S) (ht : t < sTh S) (hb : A.2.2.2.testBit t = false) (R0 : rSn I0 S) (RA0 : rAn I0 S A) : ∀ (f m s : Nat) (b : Int) (I : Nat → Nat → Int32), m < f → m + s = 2 ^ (sFi S (t + 1) - sFi S t) → (b = -1 ∨ ∃ x : Nat, x < 2 ^ (sFi S (t + 1) - sFi S t) ∧ b = x) → f5 I0 I → aR I0 I → sv I0 I → ∃ H, mX12_least_60 e114 f I (nI q) (nI t) (nI n) a4 (if b = -1 then zI (-2) else zI b) (nI s) = e114 H a4 (if lsB (okSet S A q n t) m s b = -1 then zI (-2) else zI (lsB (okSet S A q n t) m s b)) ∧ f5 I0 H ∧ aR I0 H
  | 0, m, s, b, I, h1, _, _, _, _, _ => absurd h1 (by omega)
  | f + 1, m, s, b, I, h1, h2, h3, hf, ha, hv => by
    have o1 := O.1
    have ot := O.2.1.2.2 t ht
    have hp := pow64 (sFi S (t + 1) - sFi S t) (by omega)
    have hsh := shl1 (sFi S (t + 1) - sFi S t) (by omega)
    have ec := rCellsIn_ok (f5_r2 O hA hf ha R0 RA0).1 O ht
    generalize hpw : 2 ^ (sFi S (t + 1) - sFi S t) = pw at h2 h3 hp hsh
    rw [mX12_least_60]
    cases m with
    | zero =>
      refine ⟨I, ?_, hf, ha⟩
      simp (disch := omega) only [↓reduceIte, Option.bind_some, Option.some.injEq, Prod.mk.injEq, and_self, and_true, true_and, eq_self, reduceCtorEq, not_false_eq_true, not_true_eq_false, or_true, true_or, or_false, false_or, bft, nAdd, nMul, nSub, nDiv, nRem, nAm1, nIx, nIn, bI_z, bI_o, ite_b1, ite_b0, zI_add, zI_sub, li0, li1, li2, li3, li4, li5, li6, li7, li8, li9, li10, li11, li12, li13, li14, li15, li16, li17, li18, li19, li20, li21, li22, li23, li24, li25, li26, li27, li28, li29, li30, li31, li32, li33, li34, li35, li36, li37, li40, li42, li43, li45, li47, li48, li57, li59, li60, li61, li62, li64, li80, li91, li93, li97, li99, li100, li122, li182, li199, li255, li300, li380, li400, li999, li1000, li3640, li4100, li65536, li99999, ln1, ln2, ln3, ln100, ln100000, tLe, fLe, tLt, fLt, tEq, fEq, zLe_t, zLe_f, zLt_t, zLt_f, zEq_t, zEq_f, nzLe_t, nzLe_f, znLe_t, znLe_f, nzLt_t, nzLt_f, znLt_t, znLt_f, nzEq_t, nzEq_f, znEq_t, znEq_f, ec, hsh]
      rfl
    | succ m =>
      have hs : s < 64 := by omega
      obtain ⟨H1, t1, t2, t3, t4⟩ := theirs_ok (s := s) O hA hh hq ht hb hs R0 RA0 hf ha hv
      have ih : ∀ (b' : Int) (I' : Nat → Nat → Int32), (b' = -1 ∨ ∃ x : Nat, x < pw ∧ b' = x) → f5 I0 I' → aR I0 I' → sv I0 I' → ∃ H, mX12_least_60 e114 f I' (nI q) (nI t) (nI n) a4 (if b' = -1 then zI (-2) else zI b') (nI (s + 1)) = e114 H a4 (if lsB (okSet S A q n t) m (s + 1) b' = -1 then zI (-2) else zI (lsB (okSet S A q n t) m (s + 1) b')) ∧ f5 I0 H ∧ aR I0 H := fun b' I' hb' g1 g2 g3 => rLs_go O hA hh hq ht hb R0 RA0 f m (s + 1) b' I' (by omega) (by rw [hpw]; omega) (by rw [hpw]; exact hb') g1 g2 g3
      have ihs := ih s H1 (Or.inr ⟨s, by omega, rfl⟩) t2 t3 t4
      rw [if_neg (show ¬ ((s : Nat) : Int) = -1 by omega), zI_nat] at ihs
      have ihb := ih b H1 h3 t2 t3 t4
      rcases h3 with hb1 | ⟨x, hx, hb1⟩
      · cases hok : okSet S A q n t s with
        | true =>
          rw [hok] at t1
          obtain ⟨H, u1, u2⟩ := ihs
          rw [lsB_y ⟨hok, Or.inl (by omega)⟩]
          refine ⟨H, ?_, u2⟩
          simp (disch := omega) only [↓reduceIte, Option.bind_some, Option.some.injEq, Prod.mk.injEq, and_self, and_true, true_and, eq_self, reduceCtorEq, not_false_eq_true, not_true_eq_false, or_true, true_or, or_false, false_or, bft, nAdd, nMul, nSub, nDiv, nRem, nAm1, nIx, nIn, bI_z, bI_o, ite_b1, ite_b0, zI_add, zI_sub, li0, li1, li2, li3, li4, li5, li6, li7, li8, li9, li10, li11, li12, li13, li14, li15, li16, li17, li18, li19, li20, li21, li22, li23, li24, li25, li26, li27, li28, li29, li30, li31, li32, li33, li34, li35, li36, li37, li40, li42, li43, li45, li47, li48, li57, li59, li60, li61, li62, li64, li80, li91, li93, li97, li99, li100, li122, li182, li199, li255, li300, li380, li400, li999, li1000, li3640, li4100, li65536, li99999, ln1, ln2, ln3, ln100, ln100000, tLe, fLe, tLt, fLt, tEq, fEq, zLe_t, zLe_f, zLt_t, zLt_f, zEq_t, zEq_f, nzLe_t, nzLe_f, znLe_t, znLe_f, nzLt_t, nzLt_f, znLt_t, znLt_f, nzEq_t, nzEq_f, znEq_t, znEq_f, ec, hsh, hb1, mX12_least_92, t1]
          exact u1
        | false =>
          rw [hok] at t1
          obtain ⟨H, u1, u2⟩ := ihb
          rw [lsB_n (fun z => absurd z.1 (by rw [hok]; decide))]
          refine ⟨H, ?_, u2⟩
          rw [if_pos hb1] at u1 ⊢
          simp (disch := omega) only [↓reduceIte, Option.bind_some, Option.some.injEq, Prod.mk.injEq, and_self, and_true, true_and, eq_self, reduceCtorEq, not_false_eq_true, not_true_eq_false, or_true, true_or, or_false, false_or, bft, nAdd, nMul, nSub, nDiv, nRem, nAm1, nIx, nIn, bI_z, bI_o, ite_b1, ite_b0, zI_add, zI_sub, li0, li1, li2, li3, li4, li5, li6, li7, li8, li9, li10, li11, li12, li13, li14, li15, li16, li17, li18, li19, li20, li21, li22, li23, li24, li25, li26, li27, li28, li29, li30, li31, li32, li33, li34, li35, li36, li37, li40, li42, li43, li45, li47, li48, li57, li59, li60, li61, li62, li64, li80, li91, li93, li97, li99, li100, li122, li182, li199, li255, li300, li380, li400, li999, li1000, li3640, li4100, li65536, li99999, ln1, ln2, ln3, ln100, ln100000, tLe, fLe, tLt, fLt, tEq, fEq, zLe_t, zLe_f, zLt_t, zLt_f, zEq_t, zEq_f, nzLe_t, nzLe_f, znLe_t, znLe_f, nzLt_t, nzLt_f, znLt_t, znLt_f, nzEq_t, nzEq_f, znEq_t, znEq_f, ec, hsh, mX12_least_92, t1]
          exact u1
      · have bs := bits_ok hs
        have bx := bits_ok (show x < 64 by omega)
        have ps1 := pc_le s
        have px := pc_le x
        have hnb : ¬ b = -1 := by omega
        by_cases q2 : pc s < pc x
        · cases hok : okSet S A q n t s with
          | true =>
            rw [hok] at t1
            obtain ⟨H, u1, u2⟩ := ihs
            rw [lsB_y ⟨hok, Or.inr (by rw [hb1, Int.toNat_natCast]; exact q2)⟩]
            refine ⟨H, ?_, u2⟩
            rw [if_neg hnb, hb1, zI_nat]
            simp (disch := omega) only [↓reduceIte, Option.bind_some, Option.some.injEq, Prod.mk.injEq, and_self, and_true, true_and, eq_self, reduceCtorEq, not_false_eq_true, not_true_eq_false, or_true, true_or, or_false, false_or, bft, nAdd, nMul, nSub, nDiv, nRem, nAm1, nIx, nIn, bI_z, bI_o, ite_b1, ite_b0, zI_add, zI_sub, li0, li1, li2, li3, li4, li5, li6, li7, li8, li9, li10, li11, li12, li13, li14, li15, li16, li17, li18, li19, li20, li21, li22, li23, li24, li25, li26, li27, li28, li29, li30, li31, li32, li33, li34, li35, li36, li37, li40, li42, li43, li45, li47, li48, li57, li59, li60, li61, li62, li64, li80, li91, li93, li97, li99, li100, li122, li182, li199, li255, li300, li380, li400, li999, li1000, li3640, li4100, li65536, li99999, ln1, ln2, ln3, ln100, ln100000, tLe, fLe, tLt, fLt, tEq, fEq, zLe_t, zLe_f, zLt_t, zLt_f, zEq_t, zEq_f, nzLe_t, nzLe_f, znLe_t, znLe_f, nzLt_t, nzLt_f, znLt_t, znLt_f, nzEq_t, nzEq_f, znEq_t, znEq_f, ec, hsh, bs, bx, mX12_least_92, t1]
            exact u1
          | false =>
            rw [hok] at t1
            obtain ⟨H, u1, u2⟩ := ihb
            rw [lsB_n (fun z => absurd z.1 (by rw [hok]; decide))]
            refine ⟨H, ?_, u2⟩
            rw [if_neg hnb, hb1, zI_nat] at u1 ⊢
            simp (disch := omega) only [↓reduceIte, Option.bind_some, Option.some.injEq, Prod.mk.injEq, and_self, and_true, true_and, eq_self, reduceCtorEq, not_false_eq_true, not_true_eq_false, or_true, true_or, or_false, false_or, bft, nAdd, nMul, nSub, nDiv, nRem, nAm1, nIx, nIn, bI_z, bI_o, ite_b1, ite_b0, zI_add, zI_sub, li0, li1, li2, li3, li4, li5, li6, li7, li8, li9, li10, li11, li12, li13, li14, li15, li16, li17, li18, li19, li20, li21, li22, li23, li24, li25, li26, li27, li28, li29, li30, li31, li32, li33, li34, li35, li36, li37, li40, li42, li43, li45, li47, li48, li57, li59, li60, li61, li62, li64, li80, li91, li93, li97, li99, li100, li122, li182, li199, li255, li300, li380, li400, li999, li1000, li3640, li4100, li65536, li99999, ln1, ln2, ln3, ln100, ln100000, tLe, fLe, tLt, fLt, tEq, fEq, zLe_t, zLe_f, zLt_t, zLt_f, zEq_t, zEq_f, nzLe_t, nzLe_f, znLe_t, znLe_f, nzLt_t, nzLt_f, znLt_t, znLt_f, nzEq_t, nzEq_f, znEq_t, znEq_f, ec, hsh, bs, bx, mX12_least_92, t1]
            exact u1
        · obtain ⟨H, u1, u2⟩ := ih b I (Or.inr ⟨x, hx, hb1⟩) hf ha hv
          rw [lsB_n (fun z => z.2.elim (by omega) (fun y => q2 (by rw [hb1, Int.toNat_natCast] at y; exact y)))]
          refine ⟨H, ?_, u2⟩
          rw [if_neg hnb, hb1, zI_nat] at u1 ⊢
          simp (disch := omega) only [↓reduceIte, Option.bind_some, Option.some.injEq, Prod.mk.injEq, and_self, and_true, true_and, eq_self, reduceCtorEq, not_false_eq_true, not_true_eq_false, or_true, true_or, or_false, false_or, bft, nAdd, nMul, nSub, nDiv, nRem, nAm1, nIx, nIn, bI_z, bI_o, ite_b1, ite_b0, zI_add, zI_sub, li0, li1, li2, li3, li4, li5, li6, li7, li8, li9, li10, li11, li12, li13, li14, li15, li16, li17, li18, li19, li20, li21, li22, li23, li24, li25, li26, li27, li28, li29, li30, li31, li32, li33, li34, li35, li36, li37, li40, li42, li43, li45, li47, li48, li57, li59, li60, li61, li62, li64, li80, li91, li93, li97, li99, li100, li122, li182, li199, li255, li300, li380, li400, li999, li1000, li3640, li4100, li65536, li99999, ln1, ln2, ln3, ln100, ln100000, tLe, fLe, tLt, fLt, tEq, fEq, zLe_t, zLe_f, zLt_t, zLt_f, zEq_t, zEq_f, nzLe_t, nzLe_f, znLe_t, znLe_f, nzLt_t, nzLt_f, znLt_t, znLt_f, nzEq_t, nzEq_f, znEq_t, znEq_f, ec, hsh, bs, bx]
          exact u1
end
theorem q_least {k : Nat} (hk : k < 512) : st_least (Inv k) (Inv (k + 1)) := by
  intro h x y z w hI
  obtain ⟨n, K, P, I, L⟩ := h
  obtain ⟨⟨G, F⟩, Z, ok, C, R⟩ := id hI
  change RI I Z at R
  have O := okZ_S ok
  have o1 := O.1
  have hA := okZ_A ok
  have hh := okZ_h ok
  have cs := CI_S C
  have ca := CI_A C
  have rs := RI_S R
  have ra := RI_A R
  generalize hS : wS (zW Z) = S at O o1 hA cs ca rs ra
  generalize hAA : wA (zW Z) = A at hA hh ca ra
  have pl := CI_p C
  have hf := ok.1.2.2.2.2.2.2
  have hrl := ok.2.2.1
  have hX := CI_ruX C
  have hro : ∀ J, J 124 12 = I 124 12 → (∀ b, 150 ≤ b → b ≤ 156 → J b = I b) → rRo J (ruF (zR Z) (wF (zW Z))) := fun J h1 h2 => rRo_of hrl.1 hrl.2 (h1.trans R.1.2.2.2.2.2.2) (fun r ru hr => rR_congr (fun b h3 h4 => h2 b (by omega) h4) (R.2.2.1.2 r ru hr)) hf.1 hf.2
  have no : mX11_least P L I x y z w = some (-1, I) → mX12_least I x y z w = some (-1, I) → ∃ r h1 h2, oX_least (n, K, P, I, L) x y z w = some (r, h1) ∧ GW h1.2.1 h1.2.2.1 ∧ oM_least h1 x y z w = some (r, h2) ∧ Inv (k + 1) h2 := fun a b => ⟨-1, (n, K, P, I, L), (n, K, P, I, L), by unfold oX_least; simp only [a]; rfl, G, by unfold oM_least; simp only [b]; rfl, Inv_q hI (fun _ _ => rfl)⟩
  have a1 := isPainter_ok O cs x
  have a2 := rIsPainter_ok rs O x
  have b1 := isThing_ok O cs y
  have b2 := rIsThing_ok rs O y
  have z1 := isWn z 0 60
  have z2 := rInW (lo := 0) (hi := 60) (by decide) (by decide) z
  change mX12_in z.toInt64 (0 : Int64) (60 : Int64) = _ at z2
  have w1 := isWn w 0 1
  have w2 := rInW (lo := 0) (hi := 1) (by decide) (by decide) w
  change mX12_in w.toInt64 (0 : Int64) (1 : Int64) = _ at w2
  rcases inbC x (sPa S) with hx | ⟨q, hq, rfl⟩
  · refine no ?_ ?_
    · unfold mX11_least; simp (disch := omega) only [↓reduceIte, Option.bind_some, Option.some.injEq, Prod.mk.injEq, and_self, and_true, true_and, eq_self, reduceCtorEq, not_false_eq_true, not_true_eq_false, or_true, true_or, or_false, false_or, bft, nAdd, nMul, nSub, nDiv, nRem, nAm1, nIx, nIn, bI_z, bI_o, ite_b1, ite_b0, zI_add, zI_sub, li0, li1, li2, li3, li4, li5, li6, li7, li8, li9, li10, li11, li12, li13, li14, li15, li16, li17, li18, li19, li20, li21, li22, li23, li24, li25, li26, li27, li28, li29, li30, li31, li32, li33, li34, li35, li36, li37, li40, li42, li43, li45, li47, li48, li57, li59, li60, li61, li62, li64, li80, li91, li93, li97, li99, li100, li122, li182, li199, li255, li300, li380, li400, li999, li1000, li3640, li4100, li65536, li99999, ln1, ln2, ln3, ln100, ln100000, tLe, fLe, tLt, fLt, tEq, fEq, zLe_t, zLe_f, zLt_t, zLt_f, zEq_t, zEq_f, nzLe_t, nzLe_f, znLe_t, znLe_f, nzLt_t, nzLt_f, znLt_t, znLt_f, nzEq_t, nzEq_f, znEq_t, znEq_f, a1, hx]
    · unfold mX12_least; simp (disch := omega) only [↓reduceIte, Option.bind_some, Option.some.injEq, Prod.mk.injEq, and_self, and_true, true_and, eq_self, reduceCtorEq, not_false_eq_true, not_true_eq_false, or_true, true_or, or_false, false_or, bft, nAdd, nMul, nSub, nDiv, nRem, nAm1, nIx, nIn, bI_z, bI_o, ite_b1, ite_b0, zI_add, zI_sub, li0, li1, li2, li3, li4, li5, li6, li7, li8, li9, li10, li11, li12, li13, li14, li15, li16, li17, li18, li19, li20, li21, li22, li23, li24, li25, li26, li27, li28, li29, li30, li31, li32, li33, li34, li35, li36, li37, li40, li42, li43, li45, li47, li48, li57, li59, li60, li61, li62, li64, li80, li91, li93, li97, li99, li100, li122, li182, li199, li255, li300, li380, li400, li999, li1000, li3640, li4100, li65536, li99999, ln1, ln2, ln3, ln100, ln100000, tLe, fLe, tLt, fLt, tEq, fEq, zLe_t, zLe_f, zLt_t, zLt_f, zEq_t, zEq_f, nzLe_t, nzLe_f, znLe_t, znLe_f, nzLt_t, nzLt_f, znLt_t, znLt_f, nzEq_t, nzEq_f, znEq_t, znEq_f, a2, hx]
  rw [inbT hq (by omega)] at a1 a2
  rcases inbC y (sTh S) with hy | ⟨t, ht, rfl⟩
  · refine no ?_ ?_
    · unfold mX11_least; simp (disch := omega) only [↓reduceIte, Option.bind_some, Option.some.injEq, Prod.mk.injEq, and_self, and_true, true_and, eq_self, reduceCtorEq, not_false_eq_true, not_true_eq_false, or_true, true_or, or_false, false_or, bft, nAdd, nMul, nSub, nDiv, nRem, nAm1, nIx, nIn, bI_z, bI_o, ite_b1, ite_b0, zI_add, zI_sub, li0, li1, li2, li3, li4, li5, li6, li7, li8, li9, li10, li11, li12, li13, li14, li15, li16, li17, li18, li19, li20, li21, li22, li23, li24, li25, li26, li27, li28, li29, li30, li31, li32, li33, li34, li35, li36, li37, li40, li42, li43, li45, li47, li48, li57, li59, li60, li61, li62, li64, li80, li91, li93, li97, li99, li100, li122, li182, li199, li255, li300, li380, li400, li999, li1000, li3640, li4100, li65536, li99999, ln1, ln2, ln3, ln100, ln100000, tLe, fLe, tLt, fLt, tEq, fEq, zLe_t, zLe_f, zLt_t, zLt_f, zEq_t, zEq_f, nzLe_t, nzLe_f, znLe_t, znLe_f, nzLt_t, nzLt_f, znLt_t, znLt_f, nzEq_t, nzEq_f, znEq_t, znEq_f, a1, b1, hy]
    · unfold mX12_least; simp (disch := omega) only [↓reduceIte, Option.bind_some, Option.some.injEq, Prod.mk.injEq, and_self, and_true, true_and, eq_self, reduceCtorEq, not_false_eq_true, not_true_eq_false, or_true, true_or, or_false, false_or, bft, nAdd, nMul, nSub, nDiv, nRem, nAm1, nIx, nIn, bI_z, bI_o, ite_b1, ite_b0, zI_add, zI_sub, li0, li1, li2, li3, li4, li5, li6, li7, li8, li9, li10, li11, li12, li13, li14, li15, li16, li17, li18, li19, li20, li21, li22, li23, li24, li25, li26, li27, li28, li29, li30, li31, li32, li33, li34, li35, li36, li37, li40, li42, li43, li45, li47, li48, li57, li59, li60, li61, li62, li64, li80, li91, li93, li97, li99, li100, li122, li182, li199, li255, li300, li380, li400, li999, li1000, li3640, li4100, li65536, li99999, ln1, ln2, ln3, ln100, ln100000, tLe, fLe, tLt, fLt, tEq, fEq, zLe_t, zLe_f, zLt_t, zLt_f, zEq_t, zEq_f, nzLe_t, nzLe_f, znLe_t, znLe_f, nzLt_t, nzLt_f, znLt_t, znLt_f, nzEq_t, nzEq_f, znEq_t, znEq_f, a2, b2, hy]
  rw [inbT ht (by omega)] at b1 b2
  have ot := O.2.1.2.2 t ht
  have d1 := isBare11_ok (t := t) (cA_b ca) (by have := hA.2.2.1; omega) (by omega)
  have d2 := rIsBare_ok (t := t) (rAn_b ra) (by have := hA.2.2.1; omega) (by omega)
  cases hb : A.2.2.2.testBit t with
  | true =>
    rw [hb] at d1 d2
    refine no ?_ ?_
    · unfold mX11_least; simp (disch := omega) only [↓reduceIte, Option.bind_some, Option.some.injEq, Prod.mk.injEq, and_self, and_true, true_and, eq_self, reduceCtorEq, not_false_eq_true, not_true_eq_false, or_true, true_or, or_false, false_or, bft, nAdd, nMul, nSub, nDiv, nRem, nAm1, nIx, nIn, bI_z, bI_o, ite_b1, ite_b0, zI_add, zI_sub, li0, li1, li2, li3, li4, li5, li6, li7, li8, li9, li10, li11, li12, li13, li14, li15, li16, li17, li18, li19, li20, li21, li22, li23, li24, li25, li26, li27, li28, li29, li30, li31, li32, li33, li34, li35, li36, li37, li40, li42, li43, li45, li47, li48, li57, li59, li60, li61, li62, li64, li80, li91, li93, li97, li99, li100, li122, li182, li199, li255, li300, li380, li400, li999, li1000, li3640, li4100, li65536, li99999, ln1, ln2, ln3, ln100, ln100000, tLe, fLe, tLt, fLt, tEq, fEq, zLe_t, zLe_f, zLt_t, zLt_f, zEq_t, zEq_f, nzLe_t, nzLe_f, znLe_t, znLe_f, nzLt_t, nzLt_f, znLt_t, znLt_f, nzEq_t, nzEq_f, znEq_t, znEq_f, a1, b1, d1]
    · unfold mX12_least; simp (disch := omega) only [↓reduceIte, Option.bind_some, Option.some.injEq, Prod.mk.injEq, and_self, and_true, true_and, eq_self, reduceCtorEq, not_false_eq_true, not_true_eq_false, or_true, true_or, or_false, false_or, bft, nAdd, nMul, nSub, nDiv, nRem, nAm1, nIx, nIn, bI_z, bI_o, ite_b1, ite_b0, zI_add, zI_sub, li0, li1, li2, li3, li4, li5, li6, li7, li8, li9, li10, li11, li12, li13, li14, li15, li16, li17, li18, li19, li20, li21, li22, li23, li24, li25, li26, li27, li28, li29, li30, li31, li32, li33, li34, li35, li36, li37, li40, li42, li43, li45, li47, li48, li57, li59, li60, li61, li62, li64, li80, li91, li93, li97, li99, li100, li122, li182, li199, li255, li300, li380, li400, li999, li1000, li3640, li4100, li65536, li99999, ln1, ln2, ln3, ln100, ln100000, tLe, fLe, tLt, fLt, tEq, fEq, zLe_t, zLe_f, zLt_t, zLt_f, zEq_t, zEq_f, nzLe_t, nzLe_f, znLe_t, znLe_f, nzLt_t, nzLt_f, znLt_t, znLt_f, nzEq_t, nzEq_f, znEq_t, znEq_f, a2, b2, d2]
  | false =>
    rw [hb] at d1 d2
    rcases wiC (lo := 0) (hi := 60) (by decide) (by decide) z with hz | ⟨m, -, hm, rfl⟩
    · refine no ?_ ?_
      · unfold mX11_least; simp (disch := omega) only [↓reduceIte, Option.bind_some, Option.some.injEq, Prod.mk.injEq, and_self, and_true, true_and, eq_self, reduceCtorEq, not_false_eq_true, not_true_eq_false, or_true, true_or, or_false, false_or, bft, nAdd, nMul, nSub, nDiv, nRem, nAm1, nIx, nIn, bI_z, bI_o, ite_b1, ite_b0, zI_add, zI_sub, li0, li1, li2, li3, li4, li5, li6, li7, li8, li9, li10, li11, li12, li13, li14, li15, li16, li17, li18, li19, li20, li21, li22, li23, li24, li25, li26, li27, li28, li29, li30, li31, li32, li33, li34, li35, li36, li37, li40, li42, li43, li45, li47, li48, li57, li59, li60, li61, li62, li64, li80, li91, li93, li97, li99, li100, li122, li182, li199, li255, li300, li380, li400, li999, li1000, li3640, li4100, li65536, li99999, ln1, ln2, ln3, ln100, ln100000, tLe, fLe, tLt, fLt, tEq, fEq, zLe_t, zLe_f, zLt_t, zLt_f, zEq_t, zEq_f, nzLe_t, nzLe_f, znLe_t, znLe_f, nzLt_t, nzLt_f, znLt_t, znLt_f, nzEq_t, nzEq_f, znEq_t, znEq_f, a1, b1, d1, z1, hz]
      · unfold mX12_least; simp (disch := omega) only [↓reduceIte, Option.bind_some, Option.some.injEq, Prod.mk.injEq, and_self, and_true, true_and, eq_self, reduceCtorEq, not_false_eq_true, not_true_eq_false, or_true, true_or, or_false, false_or, bft, nAdd, nMul, nSub, nDiv, nRem, nAm1, nIx, nIn, bI_z, bI_o, ite_b1, ite_b0, zI_add, zI_sub, li0, li1, li2, li3, li4, li5, li6, li7, li8, li9, li10, li11, li12, li13, li14, li15, li16, li17, li18, li19, li20, li21, li22, li23, li24, li25, li26, li27, li28, li29, li30, li31, li32, li33, li34, li35, li36, li37, li40, li42, li43, li45, li47, li48, li57, li59, li60, li61, li62, li64, li80, li91, li93, li97, li99, li100, li122, li182, li199, li255, li300, li380, li400, li999, li1000, li3640, li4100, li65536, li99999, ln1, ln2, ln3, ln100, ln100000, tLe, fLe, tLt, fLt, tEq, fEq, zLe_t, zLe_f, zLt_t, zLt_f, zEq_t, zEq_f, nzLe_t, nzLe_f, znLe_t, znLe_f, nzLt_t, nzLt_f, znLt_t, znLt_f, nzEq_t, nzEq_f, znEq_t, znEq_f, a2, b2, d2, z2, hz]
    rw [wiB_t (by omega) hm (by omega)] at z1 z2
    rcases wiC (lo := 0) (hi := 1) (by decide) (by decide) w with hw | ⟨p, -, hp, rfl⟩
    · refine no ?_ ?_
      · unfold mX11_least; simp (disch := omega) only [↓reduceIte, Option.bind_some, Option.some.injEq, Prod.mk.injEq, and_self, and_true, true_and, eq_self, reduceCtorEq, not_false_eq_true, not_true_eq_false, or_true, true_or, or_false, false_or, bft, nAdd, nMul, nSub, nDiv, nRem, nAm1, nIx, nIn, bI_z, bI_o, ite_b1, ite_b0, zI_add, zI_sub, li0, li1, li2, li3, li4, li5, li6, li7, li8, li9, li10, li11, li12, li13, li14, li15, li16, li17, li18, li19, li20, li21, li22, li23, li24, li25, li26, li27, li28, li29, li30, li31, li32, li33, li34, li35, li36, li37, li40, li42, li43, li45, li47, li48, li57, li59, li60, li61, li62, li64, li80, li91, li93, li97, li99, li100, li122, li182, li199, li255, li300, li380, li400, li999, li1000, li3640, li4100, li65536, li99999, ln1, ln2, ln3, ln100, ln100000, tLe, fLe, tLt, fLt, tEq, fEq, zLe_t, zLe_f, zLt_t, zLt_f, zEq_t, zEq_f, nzLe_t, nzLe_f, znLe_t, znLe_f, nzLt_t, nzLt_f, znLt_t, znLt_f, nzEq_t, nzEq_f, znEq_t, znEq_f, a1, b1, d1, z1, w1, hw]
      · unfold mX12_least; simp (disch := omega) only [↓reduceIte, Option.bind_some, Option.some.injEq, Prod.mk.injEq, and_self, and_true, true_and, eq_self, reduceCtorEq, not_false_eq_true, not_true_eq_false, or_true, true_or, or_false, false_or, bft, nAdd, nMul, nSub, nDiv, nRem, nAm1, nIx, nIn, bI_z, bI_o, ite_b1, ite_b0, zI_add, zI_sub, li0, li1, li2, li3, li4, li5, li6, li7, li8, li9, li10, li11, li12, li13, li14, li15, li16, li17, li18, li19, li20, li21, li22, li23, li24, li25, li26, li27, li28, li29, li30, li31, li32, li33, li34, li35, li36, li37, li40, li42, li43, li45, li47, li48, li57, li59, li60, li61, li62, li64, li80, li91, li93, li97, li99, li100, li122, li182, li199, li255, li300, li380, li400, li999, li1000, li3640, li4100, li65536, li99999, ln1, ln2, ln3, ln100, ln100000, tLe, fLe, tLt, fLt, tEq, fEq, zLe_t, zLe_f, zLt_t, zLt_f, zEq_t, zEq_f, nzLe_t, nzLe_f, znLe_t, znLe_f, nzLt_t, nzLt_f, znLt_t, znLt_f, nzEq_t, nzEq_f, znEq_t, znEq_f, a2, b2, d2, z2, w2, hw]
    rw [wiB_t (by omega) hp (by omega)] at w1 w2
    obtain ⟨J, f1, f2, f3⟩ := fore_go (P := P) (L := L) (n := m) (s := P 12 0) O hA (by omega) hm pl hq ht ca.1 xf (sFi S (t + 1) - sFi S t) 0 I (by unfold xf; omega) (by omega) cs (fun j hj => absurd hj (by omega))
    have csJ : cS J (P 12 0) S := cS_congr (fun b q1 q2 => f3 b (by omega) (by omega)) cs
    have hp64 := pow64 (sFi S (t + 1) - sFi S t) (by omega)
    have e1 := cLs_go (P := P) (n := m) O hA csJ hq ht f2 xf (2 ^ (sFi S (t + 1) - sFi S t)) 0 (-1) (by unfold xf; omega) (by omega) (Or.inl rfl)
    have hJ : ∀ b, b < 92 ∨ 122 < b → J b = I b ∧ L b = L b := fun b hb => ⟨f3 b (by omega) (by omega), rfl⟩
    have R0 : RI J Z := RI_cls ok (fun b h1 h2 => (hJ b (by omega)).1) R
    have rsJ : rSn J S := by rw [← hS]; exact R0.1.1
    have raJ : rAn J S A := by rw [← hS, ← hAA]; exact R0.1.2.1
    have a3 := rIsPainter_ok rsJ O (nI q)
    rw [inbT hq (by omega)] at a3
    have b3 := rIsThing_ok rsJ O (nI t)
    rw [inbT ht (by omega)] at b3
    have d3 := rIsBare_ok (t := t) (rAn_b raJ) (by have := hA.2.2.1; omega) (by omega)
    rw [hb] at d3
    obtain ⟨H0, k1, k2, k3, k4, k5⟩ := keepsAll_ok J
    have k6 : f5 J H0 := fun r i h1 h2 => k5 r i (by unfold fv at h1; omega) (by unfold fv at h1; omega) (Or.inl (by unfold fv at h1; omega))
    obtain ⟨H, u1, u2, u3⟩ := rLs_go (n := m) (e114 := fun I_30 a4_30 a5_30 => (if a5_30 = (-2 : Int32) then (some (a5_30, I_30)) else (if a4_30 = (1 : Int32) then (some (a5_30, I_30)) else (Option.bind (mX12_bits a5_30) (fun q33 => (some (q33, I_30))))))) (a4 := nI p) O hA (by omega) hq ht hb rsJ raJ xf (2 ^ (sFi S (t + 1) - sFi S t)) 0 (-1) H0 (by unfold xf; omega) (by omega) (Or.inl rfl) k6 k4 k2
    have hrg := lsB_rng (okf := okSet S A q m t) (2 ^ (sFi S (t + 1) - sFi S t)) 0 (-1) (2 ^ (sFi S (t + 1) - sFi S t)) (by omega) (Or.inl rfl)
    rw [if_pos rfl] at u1
    generalize lsB (okSet S A q m t) (2 ^ (sFi S (t + 1) - sFi S t)) 0 (-1) = v at e1 u1 hrg
    have h24 := cA_h ca
    have eX : mX11_least P L I (nI q) (nI t) (nI m) (nI p) = (if zI v = (-1 : Int32) then (some ((-2 : Int32), J)) else (if nI p = 0 then (Option.bind (mJ6_bitCount_0f7a4 (zI v)) (fun q22 => (some (q22, J)))) else (some (zI v, J)))) := by
      unfold mX11_least mX11_foreseeOwners mX11_leastSet
      simp (disch := omega) only [↓reduceIte, Option.bind_some, Option.some.injEq, Prod.mk.injEq, and_self, and_true, true_and, eq_self, reduceCtorEq, not_false_eq_true, not_true_eq_false, or_true, true_or, or_false, false_or, bft, nAdd, nMul, nSub, nDiv, nRem, nAm1, nIx, nIn, bI_z, bI_o, ite_b1, ite_b0, zI_add, zI_sub, li0, li1, li2, li3, li4, li5, li6, li7, li8, li9, li10, li11, li12, li13, li14, li15, li16, li17, li18, li19, li20, li21, li22, li23, li24, li25, li26, li27, li28, li29, li30, li31, li32, li33, li34, li35, li36, li37, li40, li42, li43, li45, li47, li48, li57, li59, li60, li61, li62, li64, li80, li91, li93, li97, li99, li100, li122, li182, li199, li255, li300, li380, li400, li999, li1000, li3640, li4100, li65536, li99999, ln1, ln2, ln3, ln100, ln100000, tLe, fLe, tLt, fLt, tEq, fEq, zLe_t, zLe_f, zLt_t, zLt_f, zEq_t, zEq_f, nzLe_t, nzLe_f, znLe_t, znLe_f, nzLt_t, nzLt_f, znLt_t, znLt_f, nzEq_t, nzEq_f, znEq_t, znEq_f, a1, b1, d1, z1, w1, h24, f1, cS_cn csJ ht, e1]
    have eM : mX12_least J (nI q) (nI t) (nI m) (nI p) = (if (if v = -1 then zI (-2) else zI v) = (-2 : Int32) then (some ((if v = -1 then zI (-2) else zI v), H)) else (if nI p = (1 : Int32) then (some ((if v = -1 then zI (-2) else zI v), H)) else (Option.bind (mX12_bits (if v = -1 then zI (-2) else zI v)) (fun q33 => (some (q33, H)))))) := by
      unfold mX12_least
      simp only [a3, b3, d3, z2, w2, k1, Option.bind_some]
      rw [if_neg (show ¬ bI true = 0 by decide), if_neg (show ¬ bI true = 0 by decide), if_pos (show bI false = 0 by decide), if_neg (show ¬ bI true = 0 by decide), if_neg (show ¬ bI true = 0 by decide)]
      exact u1
    have fin : ∀ r, mX11_least P L I (nI q) (nI t) (nI m) (nI p) = some (r, J) → mX12_least J (nI q) (nI t) (nI m) (nI p) = some (r, H) → ∃ r h1 h2, oX_least (n, K, P, I, L) (nI q) (nI t) (nI m) (nI p) = some (r, h1) ∧ GW h1.2.1 h1.2.2.1 ∧ oM_least h1 (nI q) (nI t) (nI m) (nI p) = some (r, h2) ∧ Inv (k + 1) h2 := fun r h1 h2 => ⟨r, (n, K, P, J, L), (n, K, P, H, L), by unfold oX_least; simp only [h1]; rfl, G, by unfold oM_least; simp only [h2]; rfl, Inv_asked G F ok C R hJ u3 u2 (fun _ _ _ => rfl)⟩
    rcases hrg with hv | ⟨x, hx, hv⟩
    · refine fin (zI (-2)) ?_ ?_
      · rw [eX, hv]
        simp (disch := omega) only [↓reduceIte, Option.bind_some, Option.some.injEq, Prod.mk.injEq, and_self, and_true, true_and, eq_self, reduceCtorEq, not_false_eq_true, not_true_eq_false, or_true, true_or, or_false, false_or, bft, nAdd, nMul, nSub, nDiv, nRem, nAm1, nIx, nIn, bI_z, bI_o, ite_b1, ite_b0, zI_add, zI_sub, li0, li1, li2, li3, li4, li5, li6, li7, li8, li9, li10, li11, li12, li13, li14, li15, li16, li17, li18, li19, li20, li21, li22, li23, li24, li25, li26, li27, li28, li29, li30, li31, li32, li33, li34, li35, li36, li37, li40, li42, li43, li45, li47, li48, li57, li59, li60, li61, li62, li64, li80, li91, li93, li97, li99, li100, li122, li182, li199, li255, li300, li380, li400, li999, li1000, li3640, li4100, li65536, li99999, ln1, ln2, ln3, ln100, ln100000, tLe, fLe, tLt, fLt, tEq, fEq, zLe_t, zLe_f, zLt_t, zLt_f, zEq_t, zEq_f, nzLe_t, nzLe_f, znLe_t, znLe_f, nzLt_t, nzLt_f, znLt_t, znLt_f, nzEq_t, nzEq_f, znEq_t, znEq_f]
      · rw [eM, hv]
        simp (disch := omega) only [↓reduceIte, Option.bind_some, Option.some.injEq, Prod.mk.injEq, and_self, and_true, true_and, eq_self, reduceCtorEq, not_false_eq_true, not_true_eq_false, or_true, true_or, or_false, false_or, bft, nAdd, nMul, nSub, nDiv, nRem, nAm1, nIx, nIn, bI_z, bI_o, ite_b1, ite_b0, zI_add, zI_sub, li0, li1, li2, li3, li4, li5, li6, li7, li8, li9, li10, li11, li12, li13, li14, li15, li16, li17, li18, li19, li20, li21, li22, li23, li24, li25, li26, li27, li28, li29, li30, li31, li32, li33, li34, li35, li36, li37, li40, li42, li43, li45, li47, li48, li57, li59, li60, li61, li62, li64, li80, li91, li93, li97, li99, li100, li122, li182, li199, li255, li300, li380, li400, li999, li1000, li3640, li4100, li65536, li99999, ln1, ln2, ln3, ln100, ln100000, tLe, fLe, tLt, fLt, tEq, fEq, zLe_t, zLe_f, zLt_t, zLt_f, zEq_t, zEq_f, nzLe_t, nzLe_f, znLe_t, znLe_f, nzLt_t, nzLt_f, znLt_t, znLt_f, nzEq_t, nzEq_f, znEq_t, znEq_f]
    · have nv : ¬ v = -1 := by omega
      have bc := bitC x (by omega)
      have br := bits_ok (show x < 64 by omega)
      rcases (show p = 0 ∨ p = 1 by omega) with rfl | rfl
      · refine fin (nI (pc x)) ?_ ?_
        · rw [eX, hv, zI_nat]
          simp (disch := omega) only [↓reduceIte, Option.bind_some, Option.some.injEq, Prod.mk.injEq, and_self, and_true, true_and, eq_self, reduceCtorEq, not_false_eq_true, not_true_eq_false, or_true, true_or, or_false, false_or, bft, nAdd, nMul, nSub, nDiv, nRem, nAm1, nIx, nIn, bI_z, bI_o, ite_b1, ite_b0, zI_add, zI_sub, li0, li1, li2, li3, li4, li5, li6, li7, li8, li9, li10, li11, li12, li13, li14, li15, li16, li17, li18, li19, li20, li21, li22, li23, li24, li25, li26, li27, li28, li29, li30, li31, li32, li33, li34, li35, li36, li37, li40, li42, li43, li45, li47, li48, li57, li59, li60, li61, li62, li64, li80, li91, li93, li97, li99, li100, li122, li182, li199, li255, li300, li380, li400, li999, li1000, li3640, li4100, li65536, li99999, ln1, ln2, ln3, ln100, ln100000, tLe, fLe, tLt, fLt, tEq, fEq, zLe_t, zLe_f, zLt_t, zLt_f, zEq_t, zEq_f, nzLe_t, nzLe_f, znLe_t, znLe_f, nzLt_t, nzLt_f, znLt_t, znLt_f, nzEq_t, nzEq_f, znEq_t, znEq_f, bc]
        · rw [eM, if_neg nv, hv, zI_nat]
          simp (disch := omega) only [↓reduceIte, Option.bind_some, Option.some.injEq, Prod.mk.injEq, and_self, and_true, true_and, eq_self, reduceCtorEq, not_false_eq_true, not_true_eq_false, or_true, true_or, or_false, false_or, bft, nAdd, nMul, nSub, nDiv, nRem, nAm1, nIx, nIn, bI_z, bI_o, ite_b1, ite_b0, zI_add, zI_sub, li0, li1, li2, li3, li4, li5, li6, li7, li8, li9, li10, li11, li12, li13, li14, li15, li16, li17, li18, li19, li20, li21, li22, li23, li24, li25, li26, li27, li28, li29, li30, li31, li32, li33, li34, li35, li36, li37, li40, li42, li43, li45, li47, li48, li57, li59, li60, li61, li62, li64, li80, li91, li93, li97, li99, li100, li122, li182, li199, li255, li300, li380, li400, li999, li1000, li3640, li4100, li65536, li99999, ln1, ln2, ln3, ln100, ln100000, tLe, fLe, tLt, fLt, tEq, fEq, zLe_t, zLe_f, zLt_t, zLt_f, zEq_t, zEq_f, nzLe_t, nzLe_f, znLe_t, znLe_f, nzLt_t, nzLt_f, znLt_t, znLt_f, nzEq_t, nzEq_f, znEq_t, znEq_f, br]
      · refine fin (nI x) ?_ ?_
        · rw [eX, hv, zI_nat]
          simp (disch := omega) only [↓reduceIte, Option.bind_some, Option.some.injEq, Prod.mk.injEq, and_self, and_true, true_and, eq_self, reduceCtorEq, not_false_eq_true, not_true_eq_false, or_true, true_or, or_false, false_or, bft, nAdd, nMul, nSub, nDiv, nRem, nAm1, nIx, nIn, bI_z, bI_o, ite_b1, ite_b0, zI_add, zI_sub, li0, li1, li2, li3, li4, li5, li6, li7, li8, li9, li10, li11, li12, li13, li14, li15, li16, li17, li18, li19, li20, li21, li22, li23, li24, li25, li26, li27, li28, li29, li30, li31, li32, li33, li34, li35, li36, li37, li40, li42, li43, li45, li47, li48, li57, li59, li60, li61, li62, li64, li80, li91, li93, li97, li99, li100, li122, li182, li199, li255, li300, li380, li400, li999, li1000, li3640, li4100, li65536, li99999, ln1, ln2, ln3, ln100, ln100000, tLe, fLe, tLt, fLt, tEq, fEq, zLe_t, zLe_f, zLt_t, zLt_f, zEq_t, zEq_f, nzLe_t, nzLe_f, znLe_t, znLe_f, nzLt_t, nzLt_f, znLt_t, znLt_f, nzEq_t, nzEq_f, znEq_t, znEq_f]
        · rw [eM, if_neg nv, hv, zI_nat]
          simp (disch := omega) only [↓reduceIte, Option.bind_some, Option.some.injEq, Prod.mk.injEq, and_self, and_true, true_and, eq_self, reduceCtorEq, not_false_eq_true, not_true_eq_false, or_true, true_or, or_false, false_or, bft, nAdd, nMul, nSub, nDiv, nRem, nAm1, nIx, nIn, bI_z, bI_o, ite_b1, ite_b0, zI_add, zI_sub, li0, li1, li2, li3, li4, li5, li6, li7, li8, li9, li10, li11, li12, li13, li14, li15, li16, li17, li18, li19, li20, li21, li22, li23, li24, li25, li26, li27, li28, li29, li30, li31, li32, li33, li34, li35, li36, li37, li40, li42, li43, li45, li47, li48, li57, li59, li60, li61, li62, li64, li80, li91, li93, li97, li99, li100, li122, li182, li199, li255, li300, li380, li400, li999, li1000, li3640, li4100, li65536, li99999, ln1, ln2, ln3, ln100, ln100000, tLe, fLe, tLt, fLt, tEq, fEq, zLe_t, zLe_f, zLt_t, zLt_f, zEq_t, zEq_f, nzLe_t, nzLe_f, znLe_t, znLe_f, nzLt_t, nzLt_f, znLt_t, znLt_f, nzEq_t, nzEq_f, znEq_t, znEq_f]

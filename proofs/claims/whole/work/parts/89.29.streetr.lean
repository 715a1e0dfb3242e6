/-! street: the reference's reader, clause by clause. -/
def rU (I : Nat → Nat → Int32) (U : uT) : Prop := (∀ i, i < 8 → I 141 i = nI (U.1.1 i)) ∧ I 141 8 = nI U.2.2.2 ∧ (∀ t, t ≤ sTh U.1 → I 142 t = nI (sFi U.1 t)) ∧ (∀ t, t < sTh U.1 → I 143 t = nI (sRe U.1 t)) ∧ (∀ q, q < sPa U.1 → I 144 q = nI (sCo U.1 q) ∧ I 145 q = nI (U.2.2.1 q)) ∧ (∀ k, k < sRa U.1 → I 146 k = nI (sRf U.1 k) ∧ I 147 k = nI (sRt U.1 k)) ∧ ∀ c, c < 16 → I 148 c = nI (U.2.1 c).length ∧ ∀ i x, (U.2.1 c).reverse[i]? = some x → I 149 (5 * c + i) = nI (x % 4)
def frR (I J : Nat → Nat → Int32) : Prop := (∀ b, b < 141 ∨ 149 < b → J b = I b) ∧ J 142 0 = I 142 0
def rRes (T : txT) (I : Nat → Nat → Int32) (r : Except Nat (uT × Nat)) (x : Option (Nat → Nat → Int32)) : Prop := match r with
  | .error e => (0 < e ∧ e < 10000) ∧ ∃ J p, x = some (rP J p e) ∧ p ≤ T.2 ∧ frR I J
  | .ok (U, q) => ∃ J p, x = some (rP J p 0) ∧ p ≤ T.2 ∧ sk T p = q ∧ rU J U ∧ frR I J
section
variable {T : txT} {I J : Nat → Nat → Int32} {p q m : Nat} {U : uT}
theorem frR_xu {r c : Nat} {v : Int32} (h : 141 ≤ r ∧ r ≤ 149) (h2 : r ≠ 142 ∨ c ≠ 0) (f : frR I J) : frR I (xu J r c v) := ⟨fun b hb => by rw [xu_r (by omega)]; exact f.1 b hb, by rw [xu_off (by omega)]; exact f.2⟩
theorem frR_rfl : frR I I := ⟨fun _ _ => rfl, rfl⟩
theorem txR_fr (f : frR I J) (h : txR I T) : txR J T := txR_congr (by rw [f.1 123 (by omega)]) (f.1 150 (by omega)) h
theorem en_le {v q1 lo : Nat} {hi : Int} (h : tkN T q lo hi = .ok (v, q1)) : en T q ≤ T.2 ∧ sk T (en T q) = q1 := by
  obtain ⟨d1, d2, d3, d4, d5⟩ := tkN_nm h
  exact ⟨(en_rng (isDg_n d1)).2, d5.symm⟩
theorem rHead (ok : okT T) (hx : txR I T) (hp : p ≤ T.2) (hq : sk T p = q) (R : rU I U) : rRes T I (rdHead T q U) (mX12_streetPart (rP I p 0) (nI 0)) := by
  unfold rdHead mX12_streetPart
  cases e1 : tkN T q 1 9 with
  | error e =>
    obtain ⟨he, v, p1, hv, hp1, t1⟩ := am_err (I := I) ok hx hp hq (by omega) (by omega) (by omega) e1
    change mX12_amount (rP I p 0) (nI 1) (nI 9) = _ at t1
    have h2 := frR_xu (I := I) (r := 141) (c := 0) (v := nI v) (by omega) (by omega) frR_rfl
    have t2 := am_f ok (txR_fr h2 hx) hp1 he.1 (by omega) (nI 1) (nI 100)
    have h3 := frR_xu (r := 141) (c := 1) (v := nI 0) (by omega) (by omega) h2
    have t3 := am_f ok (txR_fr h3 hx) (sk_n hp1) he.1 (by omega) (nI 0) (nI 9)
    rw [n1_e e1]
    refine ⟨he, xu (xu (xu I 141 0 (nI v)) 141 1 (nI 0)) 141 2 (nI 0), _, ?_, sk_n (sk_n hp1), frR_xu (by omega) (by omega) h3⟩
    simp (disch := omega) only [↓reduceIte, Option.bind_some, Option.some.injEq, Prod.mk.injEq, and_self, and_true, true_and, eq_self, reduceCtorEq, not_false_eq_true, not_true_eq_false, or_true, true_or, or_false, false_or, bft, nAdd, nMul, nSub, nDiv, nRem, nAm1, nIx, nIn, bI_z, bI_o, ite_b1, ite_b0, zI_add, zI_sub, li0, li1, li2, li3, li4, li5, li6, li7, li8, li9, li10, li11, li12, li13, li14, li15, li16, li17, li18, li19, li20, li21, li22, li23, li24, li25, li26, li27, li28, li29, li30, li31, li32, li33, li34, li35, li36, li37, li40, li42, li43, li45, li47, li48, li57, li59, li60, li61, li62, li64, li80, li91, li93, li97, li99, li100, li122, li182, li199, li255, li300, li380, li400, li999, li1000, li3640, li4100, li65536, li99999, ln1, ln2, ln3, ln100, ln100000, tLe, fLe, tLt, fLt, tEq, fEq, zLe_t, zLe_f, zLt_t, zLt_f, zEq_t, zEq_f, nzLe_t, nzLe_f, znLe_t, znLe_f, nzLt_t, nzLt_f, znLt_t, znLt_f, nzEq_t, nzEq_f, znEq_t, znEq_f, t1, rP_xu, t2, t3]
  | ok vq =>
    obtain ⟨v, q1⟩ := vq
    have t1 := am_ok (I := I) ok hx hp hq (by omega) (by omega) (by omega) e1
    have l1 := en_le e1
    change mX12_amount (rP I p 0) (nI 1) (nI 9) = _ at t1
    have h2 := frR_xu (I := I) (r := 141) (c := 0) (v := nI v) (by omega) (by omega) frR_rfl
    rw [n1_o e1]
    cases e2 : tkN T q1 1 100 with
    | error e =>
      obtain ⟨he, v2, p2, hv, hp2, t2⟩ := am_err ok (txR_fr h2 hx) l1.1 l1.2 (by omega) (by omega) (by omega) e2
      change mX12_amount _ (nI 1) (nI 100) = _ at t2
      have h3 := frR_xu (r := 141) (c := 1) (v := nI v2) (by omega) (by omega) h2
      have t3 := am_f ok (txR_fr h3 hx) hp2 he.1 (by omega) (nI 0) (nI 9)
      rw [n1_e e2]
      refine ⟨he, xu (xu (xu I 141 0 (nI v)) 141 1 (nI v2)) 141 2 (nI 0), _, ?_, sk_n hp2, frR_xu (by omega) (by omega) h3⟩
      simp (disch := omega) only [↓reduceIte, Option.bind_some, Option.some.injEq, Prod.mk.injEq, and_self, and_true, true_and, eq_self, reduceCtorEq, not_false_eq_true, not_true_eq_false, or_true, true_or, or_false, false_or, bft, nAdd, nMul, nSub, nDiv, nRem, nAm1, nIx, nIn, bI_z, bI_o, ite_b1, ite_b0, zI_add, zI_sub, li0, li1, li2, li3, li4, li5, li6, li7, li8, li9, li10, li11, li12, li13, li14, li15, li16, li17, li18, li19, li20, li21, li22, li23, li24, li25, li26, li27, li28, li29, li30, li31, li32, li33, li34, li35, li36, li37, li40, li42, li43, li45, li47, li48, li57, li59, li60, li61, li62, li64, li80, li91, li93, li97, li99, li100, li122, li182, li199, li255, li300, li380, li400, li999, li1000, li3640, li4100, li65536, li99999, ln1, ln2, ln3, ln100, ln100000, tLe, fLe, tLt, fLt, tEq, fEq, zLe_t, zLe_f, zLt_t, zLt_f, zEq_t, zEq_f, nzLe_t, nzLe_f, znLe_t, znLe_f, nzLt_t, nzLt_f, znLt_t, znLt_f, nzEq_t, nzEq_f, znEq_t, znEq_f, t1, rP_xu, t2, t3]
    | ok vq =>
      obtain ⟨v2, q2⟩ := vq
      have t2 := am_ok ok (txR_fr h2 hx) l1.1 l1.2 (by omega) (by omega) (by omega) e2
      have l2 := en_le e2
      change mX12_amount _ (nI 1) (nI 100) = _ at t2
      have h3 := frR_xu (r := 141) (c := 1) (v := nI v2) (by omega) (by omega) h2
      rw [n1_o e2]
      cases e3 : tkN T q2 0 9 with
      | error e =>
        obtain ⟨he, v3, p3, hv, hp3, t3⟩ := am_err ok (txR_fr h3 hx) l2.1 l2.2 (by omega) (by omega) (by omega) e3
        change mX12_amount _ (nI 0) (nI 9) = _ at t3
        rw [n1_e e3]
        refine ⟨he, xu (xu (xu I 141 0 (nI v)) 141 1 (nI v2)) 141 2 (nI v3), _, ?_, hp3, frR_xu (by omega) (by omega) h3⟩
        simp (disch := omega) only [↓reduceIte, Option.bind_some, Option.some.injEq, Prod.mk.injEq, and_self, and_true, true_and, eq_self, reduceCtorEq, not_false_eq_true, not_true_eq_false, or_true, true_or, or_false, false_or, bft, nAdd, nMul, nSub, nDiv, nRem, nAm1, nIx, nIn, bI_z, bI_o, ite_b1, ite_b0, zI_add, zI_sub, li0, li1, li2, li3, li4, li5, li6, li7, li8, li9, li10, li11, li12, li13, li14, li15, li16, li17, li18, li19, li20, li21, li22, li23, li24, li25, li26, li27, li28, li29, li30, li31, li32, li33, li34, li35, li36, li37, li40, li42, li43, li45, li47, li48, li57, li59, li60, li61, li62, li64, li80, li91, li93, li97, li99, li100, li122, li182, li199, li255, li300, li380, li400, li999, li1000, li3640, li4100, li65536, li99999, ln1, ln2, ln3, ln100, ln100000, tLe, fLe, tLt, fLt, tEq, fEq, zLe_t, zLe_f, zLt_t, zLt_f, zEq_t, zEq_f, nzLe_t, nzLe_f, znLe_t, znLe_f, nzLt_t, nzLt_f, znLt_t, znLt_f, nzEq_t, nzEq_f, znEq_t, znEq_f, t1, rP_xu, t2, t3]
      | ok vq =>
        obtain ⟨v3, q3⟩ := vq
        have t3 := am_ok ok (txR_fr h3 hx) l2.1 l2.2 (by omega) (by omega) (by omega) e3
        have l3 := en_le e3
        change mX12_amount _ (nI 0) (nI 9) = _ at t3
        rw [n1_o e3]
        refine ⟨xu (xu (xu I 141 0 (nI v)) 141 1 (nI v2)) 141 2 (nI v3), _, ?_, l3.1, l3.2, ?_, frR_xu (by omega) (by omega) h3⟩
        · simp (disch := omega) only [↓reduceIte, Option.bind_some, Option.some.injEq, Prod.mk.injEq, and_self, and_true, true_and, eq_self, reduceCtorEq, not_false_eq_true, not_true_eq_false, or_true, true_or, or_false, false_or, bft, nAdd, nMul, nSub, nDiv, nRem, nAm1, nIx, nIn, bI_z, bI_o, ite_b1, ite_b0, zI_add, zI_sub, li0, li1, li2, li3, li4, li5, li6, li7, li8, li9, li10, li11, li12, li13, li14, li15, li16, li17, li18, li19, li20, li21, li22, li23, li24, li25, li26, li27, li28, li29, li30, li31, li32, li33, li34, li35, li36, li37, li40, li42, li43, li45, li47, li48, li57, li59, li60, li61, li62, li64, li80, li91, li93, li97, li99, li100, li122, li182, li199, li255, li300, li380, li400, li999, li1000, li3640, li4100, li65536, li99999, ln1, ln2, ln3, ln100, ln100000, tLe, fLe, tLt, fLt, tEq, fEq, zLe_t, zLe_f, zLt_t, zLt_f, zEq_t, zEq_f, nzLe_t, nzLe_f, znLe_t, znLe_f, nzLt_t, nzLt_f, znLt_t, znLt_f, nzEq_t, nzEq_f, znEq_t, znEq_f, t1, rP_xu, t2, t3]
        · obtain ⟨r1, r2, r3, r4, r5, r6, r7⟩ := R
          unfold rU
          rw [xu_r (b := 142) (by decide), xu_r (b := 143) (by decide), xu_r (b := 144) (by decide), xu_r (b := 145) (by decide), xu_r (b := 146) (by decide), xu_r (b := 147) (by decide), xu_r (b := 148) (by decide), xu_r (b := 149) (by decide), xu_r (b := 142) (by decide), xu_r (b := 143) (by decide), xu_r (b := 144) (by decide), xu_r (b := 145) (by decide), xu_r (b := 146) (by decide), xu_r (b := 147) (by decide), xu_r (b := 148) (by decide), xu_r (b := 149) (by decide), xu_r (b := 142) (by decide), xu_r (b := 143) (by decide), xu_r (b := 144) (by decide), xu_r (b := 145) (by decide), xu_r (b := 146) (by decide), xu_r (b := 147) (by decide), xu_r (b := 148) (by decide), xu_r (b := 149) (by decide)]
          refine ⟨fun i hi => ?_, ?_, r3, r4, r5, r6, r7⟩
          · show _ = nI (uU (uU (uU U.1.1 0 v) 1 v2) 2 v3 i)
            by_cases c2 : i = 2
            · subst c2; rw [xu_s, uU_s]
            rw [xu_c c2, uU_c c2]
            by_cases c1 : i = 1
            · subst c1; rw [xu_s, uU_s]
            rw [xu_c c1, uU_c c1]
            by_cases c0 : i = 0
            · subst c0; rw [xu_s, uU_s]
            rw [xu_c c0, uU_c c0]
            exact r1 i hi
          · rw [xu_c (by decide), xu_c (by decide), xu_c (by decide)]; exact r2
theorem rThing (ok : okT T) (hx : txR I T) (hp : p ≤ T.2) (hq : sk T p = q) (hU : okU U) (h4 : sTh U.1 < 4) (R : rU I U) : rRes T I (rdThing T q U) (mX12_streetPart (rP I p 0) (nI 1)) := by
  have o1 := hU.1.1
  have r3 : I 141 3 = nI (sTh U.1) := R.1 3 (by omega)
  have r4 : I 141 4 = nI (sCe U.1) := R.1 4 (by omega)
  have st : mX12_streetPart (rP I p 0) (nI 1) = mX12_readsThing_31 (rP I p 0) (nI (sTh U.1)) (nI (min 6 (16 - sCe U.1))) (nI 1) := by
    unfold mX12_streetPart mX12_readsThing
    by_cases c : 6 ≤ 16 - sCe U.1
    · rw [show min 6 (16 - sCe U.1) = 6 by omega]
      simp (disch := omega) only [↓reduceIte, Option.bind_some, Option.some.injEq, Prod.mk.injEq, and_self, and_true, true_and, eq_self, reduceCtorEq, not_false_eq_true, not_true_eq_false, or_true, true_or, or_false, false_or, bft, nAdd, nMul, nSub, nDiv, nRem, nAm1, nIx, nIn, bI_z, bI_o, ite_b1, ite_b0, zI_add, zI_sub, li0, li1, li2, li3, li4, li5, li6, li7, li8, li9, li10, li11, li12, li13, li14, li15, li16, li17, li18, li19, li20, li21, li22, li23, li24, li25, li26, li27, li28, li29, li30, li31, li32, li33, li34, li35, li36, li37, li40, li42, li43, li45, li47, li48, li57, li59, li60, li61, li62, li64, li80, li91, li93, li97, li99, li100, li122, li182, li199, li255, li300, li380, li400, li999, li1000, li3640, li4100, li65536, li99999, ln1, ln2, ln3, ln100, ln100000, tLe, fLe, tLt, fLt, tEq, fEq, zLe_t, zLe_f, zLt_t, zLt_f, zEq_t, zEq_f, nzLe_t, nzLe_f, znLe_t, znLe_f, nzLt_t, nzLt_f, znLt_t, znLt_f, nzEq_t, nzEq_f, znEq_t, znEq_f, rP_o, r3, r4]
      cases mX12_readsThing_31 (rP I p 0) (nI (sTh U.1)) (nI 6) (nI 1) <;> rfl
    · rw [show min 6 (16 - sCe U.1) = 16 - sCe U.1 by omega]
      simp (disch := omega) only [↓reduceIte, Option.bind_some, Option.some.injEq, Prod.mk.injEq, and_self, and_true, true_and, eq_self, reduceCtorEq, not_false_eq_true, not_true_eq_false, or_true, true_or, or_false, false_or, bft, nAdd, nMul, nSub, nDiv, nRem, nAm1, nIx, nIn, bI_z, bI_o, ite_b1, ite_b0, zI_add, zI_sub, li0, li1, li2, li3, li4, li5, li6, li7, li8, li9, li10, li11, li12, li13, li14, li15, li16, li17, li18, li19, li20, li21, li22, li23, li24, li25, li26, li27, li28, li29, li30, li31, li32, li33, li34, li35, li36, li37, li40, li42, li43, li45, li47, li48, li57, li59, li60, li61, li62, li64, li80, li91, li93, li97, li99, li100, li122, li182, li199, li255, li300, li380, li400, li999, li1000, li3640, li4100, li65536, li99999, ln1, ln2, ln3, ln100, ln100000, tLe, fLe, tLt, fLt, tEq, fEq, zLe_t, zLe_f, zLt_t, zLt_f, zEq_t, zEq_f, nzLe_t, nzLe_f, znLe_t, znLe_f, nzLt_t, nzLt_f, znLt_t, znLt_f, nzEq_t, nzEq_f, znEq_t, znEq_f, rP_o, r3, r4]
      cases mX12_readsThing_31 (rP I p 0) (nI (sTh U.1)) (nI (16 - sCe U.1)) (nI 1) <;> rfl
  rw [st]
  unfold rdThing mX12_readsThing_31 mX12_readsThing_65
  have hc : (min 6 ((16 - sCe U.1 : Nat) : Int)) = ((min 6 (16 - sCe U.1) : Nat) : Int) := by omega
  rw [hc]
  generalize hM : min 6 (16 - sCe U.1) = mx at hc
  have hmx : mx ≤ 6 ∧ sCe U.1 + mx ≤ 16 := by omega
  cases e1 : tkN T q 1 (mx : Int) with
  | error e =>
    obtain ⟨he, v, p1, hv, hp1, t1⟩ := am_err (I := I) ok hx hp hq (by omega) (by omega) (by omega) e1
    rw [zI_nat] at t1
    have t2 := am_f (I := I) ok hx hp1 he.1 (by omega) (nI 0) (nI 20)
    rw [n1_e e1]
    refine ⟨he, xu (xu (xu I 143 (sTh U.1) (nI 0)) 141 3 (nI (sTh U.1 + 1))) 142 (sTh U.1 + 1) (nI (sCe U.1)), _, ?_, sk_n hp1, frR_xu (by omega) (by omega) (frR_xu (by omega) (by omega) (frR_xu (by omega) (by omega) frR_rfl))⟩
    simp (disch := omega) only [↓reduceIte, Option.bind_some, Option.some.injEq, Prod.mk.injEq, and_self, and_true, true_and, eq_self, reduceCtorEq, not_false_eq_true, not_true_eq_false, or_true, true_or, or_false, false_or, bft, nAdd, nMul, nSub, nDiv, nRem, nAm1, nIx, nIn, bI_z, bI_o, ite_b1, ite_b0, zI_add, zI_sub, li0, li1, li2, li3, li4, li5, li6, li7, li8, li9, li10, li11, li12, li13, li14, li15, li16, li17, li18, li19, li20, li21, li22, li23, li24, li25, li26, li27, li28, li29, li30, li31, li32, li33, li34, li35, li36, li37, li40, li42, li43, li45, li47, li48, li57, li59, li60, li61, li62, li64, li80, li91, li93, li97, li99, li100, li122, li182, li199, li255, li300, li380, li400, li999, li1000, li3640, li4100, li65536, li99999, ln1, ln2, ln3, ln100, ln100000, tLe, fLe, tLt, fLt, tEq, fEq, zLe_t, zLe_f, zLt_t, zLt_f, zEq_t, zEq_f, nzLe_t, nzLe_f, znLe_t, znLe_f, nzLt_t, nzLt_f, znLt_t, znLt_f, nzEq_t, nzEq_f, znEq_t, znEq_f, xu_s, xu_r, xu_c, xrow_at, xrow_r, t1, t2, rP_xu, rP_29, rP_o, r3, r4]
  | ok vq =>
    obtain ⟨v, q1⟩ := vq
    have t1 := am_ok (I := I) ok hx hp hq (by omega) (by omega) (by omega) e1
    have l1 := en_le e1
    have n1' := tkN_nm e1
    rw [zI_nat] at t1
    rw [n1_o e1]
    cases e2 : tkN T q1 0 20 with
    | error e =>
      obtain ⟨he, v2, p2, hv, hp2, t2⟩ := am_err (I := I) ok hx l1.1 l1.2 (by omega) (by omega) (by omega) e2
      change mX12_amount _ (nI 0) (nI 20) = _ at t2
      rw [n1_e e2]
      refine ⟨he, xu (xu (xu I 143 (sTh U.1) (nI v2)) 141 3 (nI (sTh U.1 + 1))) 142 (sTh U.1 + 1) (nI (sCe U.1)), _, ?_, hp2, frR_xu (by omega) (by omega) (frR_xu (by omega) (by omega) (frR_xu (by omega) (by omega) frR_rfl))⟩
      simp (disch := omega) only [↓reduceIte, Option.bind_some, Option.some.injEq, Prod.mk.injEq, and_self, and_true, true_and, eq_self, reduceCtorEq, not_false_eq_true, not_true_eq_false, or_true, true_or, or_false, false_or, bft, nAdd, nMul, nSub, nDiv, nRem, nAm1, nIx, nIn, bI_z, bI_o, ite_b1, ite_b0, zI_add, zI_sub, li0, li1, li2, li3, li4, li5, li6, li7, li8, li9, li10, li11, li12, li13, li14, li15, li16, li17, li18, li19, li20, li21, li22, li23, li24, li25, li26, li27, li28, li29, li30, li31, li32, li33, li34, li35, li36, li37, li40, li42, li43, li45, li47, li48, li57, li59, li60, li61, li62, li64, li80, li91, li93, li97, li99, li100, li122, li182, li199, li255, li300, li380, li400, li999, li1000, li3640, li4100, li65536, li99999, ln1, ln2, ln3, ln100, ln100000, tLe, fLe, tLt, fLt, tEq, fEq, zLe_t, zLe_f, zLt_t, zLt_f, zEq_t, zEq_f, nzLe_t, nzLe_f, znLe_t, znLe_f, nzLt_t, nzLt_f, znLt_t, znLt_f, nzEq_t, nzEq_f, znEq_t, znEq_f, xu_s, xu_r, xu_c, xrow_at, xrow_r, t1, t2, rP_xu, rP_29, rP_o, r3, r4]
    | ok vq =>
      obtain ⟨v2, q2⟩ := vq
      have t2 := am_ok (I := I) ok hx l1.1 l1.2 (by omega) (by omega) (by omega) e2
      have l2 := en_le e2
      have n2' := tkN_nm e2
      change mX12_amount _ (nI 0) (nI 20) = _ at t2
      rw [n1_o e2]
      refine ⟨xu (xu (xu (xu I 143 (sTh U.1) (nI v2)) 141 4 (nI (sCe U.1 + v))) 141 3 (nI (sTh U.1 + 1))) 142 (sTh U.1 + 1) (nI (sCe U.1 + v)), _, ?_, l2.1, l2.2, ?_, frR_xu (by omega) (by omega) (frR_xu (by omega) (by omega) (frR_xu (by omega) (by omega) (frR_xu (by omega) (by omega) frR_rfl)))⟩
      · simp (disch := omega) only [↓reduceIte, Option.bind_some, Option.some.injEq, Prod.mk.injEq, and_self, and_true, true_and, eq_self, reduceCtorEq, not_false_eq_true, not_true_eq_false, or_true, true_or, or_false, false_or, bft, nAdd, nMul, nSub, nDiv, nRem, nAm1, nIx, nIn, bI_z, bI_o, ite_b1, ite_b0, zI_add, zI_sub, li0, li1, li2, li3, li4, li5, li6, li7, li8, li9, li10, li11, li12, li13, li14, li15, li16, li17, li18, li19, li20, li21, li22, li23, li24, li25, li26, li27, li28, li29, li30, li31, li32, li33, li34, li35, li36, li37, li40, li42, li43, li45, li47, li48, li57, li59, li60, li61, li62, li64, li80, li91, li93, li97, li99, li100, li122, li182, li199, li255, li300, li380, li400, li999, li1000, li3640, li4100, li65536, li99999, ln1, ln2, ln3, ln100, ln100000, tLe, fLe, tLt, fLt, tEq, fEq, zLe_t, zLe_f, zLt_t, zLt_f, zEq_t, zEq_f, nzLe_t, nzLe_f, znLe_t, znLe_f, nzLt_t, nzLt_f, znLt_t, znLt_f, nzEq_t, nzEq_f, znEq_t, znEq_f, xu_s, xu_r, xu_c, xrow_at, xrow_r, t1, t2, rP_xu, rP_29, rP_o, r3, r4]
      · obtain ⟨r1, r2, r3, r4, r5, r6, r7⟩ := R
        have rr : ∀ b, b ≠ 141 → b ≠ 142 → b ≠ 143 → xu (xu (xu (xu I 143 (sTh U.1) (nI v2)) 141 4 (nI (sCe U.1 + v))) 141 3 (nI (sTh U.1 + 1))) 142 (sTh U.1 + 1) (nI (sCe U.1 + v)) b = I b := fun b h1 h2 h3 => by rw [xu_r h2, xu_r h1, xu_r h1, xu_r h3]
        unfold rU
        rw [rr 144 (by decide) (by decide) (by decide), rr 145 (by decide) (by decide) (by decide), rr 146 (by decide) (by decide) (by decide), rr 147 (by decide) (by decide) (by decide), rr 148 (by decide) (by decide) (by decide), rr 149 (by decide) (by decide) (by decide)]
        refine ⟨fun i hi => ?_, ?_, fun t ht => ?_, fun t ht => ?_, r5, r6, r7⟩
        · show _ = nI (uU (uU U.1.1 3 (sTh U.1 + 1)) 4 (sCe U.1 + v) i)
          rw [xu_r (by decide)]
          by_cases c3 : i = 3
          · subst c3; rw [xu_s, uU_c (by decide), uU_s]
          rw [xu_c c3]
          by_cases c4 : i = 4
          · subst c4; rw [xu_s, uU_s]
          rw [xu_c c4, xu_r (by decide), uU_c c4, uU_c c3]
          exact r1 i hi
        · rw [xu_r (by decide), xu_c (by decide), xu_c (by decide), xu_r (by decide)]; exact r2
        · change t ≤ sTh U.1 + 1 at ht
          show _ = nI (uU U.1.2.1 (sTh U.1 + 1) (sCe U.1 + v) t)
          by_cases e : t = sTh U.1 + 1
          · subst e; rw [xu_s, uU_s]
          · rw [xu_c e, uU_c e, xu_r (by decide), xu_r (by decide), xu_r (by decide)]
            exact r3 t (by omega)
        · change t < sTh U.1 + 1 at ht
          show _ = nI (uU U.1.2.2.1 (sTh U.1) v2 t)
          rw [xu_r (by decide), xu_r (by decide), xu_r (by decide)]
          by_cases e : t = sTh U.1
          · subst e; rw [xu_s, uU_s]
          · rw [xu_c e, uU_c e]; exact r4 t (by omega)
theorem rPaint (ok : okT T) (hx : txR I T) (hp : p ≤ T.2) (hq : sk T p = q) (hU : okU U) (h4 : sPa U.1 < 4) (R : rU I U) : rRes T I (rdPaint T q U) (mX12_streetPart (rP I p 0) (nI 2)) := by
  have o1 := hU.1.1
  have r5 : I 141 5 = nI (sPa U.1) := R.1 5 (by omega)
  unfold rdPaint mX12_streetPart
  cases e1 : tkN T q 0 8 with
  | error e =>
    obtain ⟨he, v, p1, hv, hp1, t1⟩ := am_err (I := I) ok hx hp hq (by omega) (by omega) (by omega) e1
    change mX12_amount _ (nI 0) (nI 8) = _ at t1
    have h2 := frR_xu (I := I) (r := 144) (c := sPa U.1) (v := nI v) (by omega) (by omega) frR_rfl
    have t2 := am_f ok (txR_fr h2 hx) hp1 he.1 (by omega) (nI 0) (nI 99)
    rw [n1_e e1]
    refine ⟨he, xu (xu (xu I 144 (sPa U.1) (nI v)) 145 (sPa U.1) (nI 0)) 141 5 (nI (sPa U.1 + 1)), _, ?_, sk_n hp1, frR_xu (by omega) (by omega) (frR_xu (by omega) (by omega) h2)⟩
    simp (disch := omega) only [↓reduceIte, Option.bind_some, Option.some.injEq, Prod.mk.injEq, and_self, and_true, true_and, eq_self, reduceCtorEq, not_false_eq_true, not_true_eq_false, or_true, true_or, or_false, false_or, bft, nAdd, nMul, nSub, nDiv, nRem, nAm1, nIx, nIn, bI_z, bI_o, ite_b1, ite_b0, zI_add, zI_sub, li0, li1, li2, li3, li4, li5, li6, li7, li8, li9, li10, li11, li12, li13, li14, li15, li16, li17, li18, li19, li20, li21, li22, li23, li24, li25, li26, li27, li28, li29, li30, li31, li32, li33, li34, li35, li36, li37, li40, li42, li43, li45, li47, li48, li57, li59, li60, li61, li62, li64, li80, li91, li93, li97, li99, li100, li122, li182, li199, li255, li300, li380, li400, li999, li1000, li3640, li4100, li65536, li99999, ln1, ln2, ln3, ln100, ln100000, tLe, fLe, tLt, fLt, tEq, fEq, zLe_t, zLe_f, zLt_t, zLt_f, zEq_t, zEq_f, nzLe_t, nzLe_f, znLe_t, znLe_f, nzLt_t, nzLt_f, znLt_t, znLt_f, nzEq_t, nzEq_f, znEq_t, znEq_f, xu_s, xu_r, xu_c, xrow_at, xrow_r, t1, t2, rP_xu, rP_29, rP_o, r5]
  | ok vq =>
    obtain ⟨v, q1⟩ := vq
    have t1 := am_ok (I := I) ok hx hp hq (by omega) (by omega) (by omega) e1
    have l1 := en_le e1
    change mX12_amount _ (nI 0) (nI 8) = _ at t1
    have h2 := frR_xu (I := I) (r := 144) (c := sPa U.1) (v := nI v) (by omega) (by omega) frR_rfl
    rw [n1_o e1]
    cases e2 : tkN T q1 0 99 with
    | error e =>
      obtain ⟨he, v2, p2, hv, hp2, t2⟩ := am_err ok (txR_fr h2 hx) l1.1 l1.2 (by omega) (by omega) (by omega) e2
      change mX12_amount _ (nI 0) (nI 99) = _ at t2
      rw [n1_e e2]
      refine ⟨he, xu (xu (xu I 144 (sPa U.1) (nI v)) 145 (sPa U.1) (nI v2)) 141 5 (nI (sPa U.1 + 1)), _, ?_, hp2, frR_xu (by omega) (by omega) (frR_xu (by omega) (by omega) h2)⟩
      simp (disch := omega) only [↓reduceIte, Option.bind_some, Option.some.injEq, Prod.mk.injEq, and_self, and_true, true_and, eq_self, reduceCtorEq, not_false_eq_true, not_true_eq_false, or_true, true_or, or_false, false_or, bft, nAdd, nMul, nSub, nDiv, nRem, nAm1, nIx, nIn, bI_z, bI_o, ite_b1, ite_b0, zI_add, zI_sub, li0, li1, li2, li3, li4, li5, li6, li7, li8, li9, li10, li11, li12, li13, li14, li15, li16, li17, li18, li19, li20, li21, li22, li23, li24, li25, li26, li27, li28, li29, li30, li31, li32, li33, li34, li35, li36, li37, li40, li42, li43, li45, li47, li48, li57, li59, li60, li61, li62, li64, li80, li91, li93, li97, li99, li100, li122, li182, li199, li255, li300, li380, li400, li999, li1000, li3640, li4100, li65536, li99999, ln1, ln2, ln3, ln100, ln100000, tLe, fLe, tLt, fLt, tEq, fEq, zLe_t, zLe_f, zLt_t, zLt_f, zEq_t, zEq_f, nzLe_t, nzLe_f, znLe_t, znLe_f, nzLt_t, nzLt_f, znLt_t, znLt_f, nzEq_t, nzEq_f, znEq_t, znEq_f, xu_s, xu_r, xu_c, xrow_at, xrow_r, t1, t2, rP_xu, rP_29, rP_o, r5]
    | ok vq =>
      obtain ⟨v2, q2⟩ := vq
      have t2 := am_ok ok (txR_fr h2 hx) l1.1 l1.2 (by omega) (by omega) (by omega) e2
      have l2 := en_le e2
      change mX12_amount _ (nI 0) (nI 99) = _ at t2
      rw [n1_o e2]
      refine ⟨xu (xu (xu I 144 (sPa U.1) (nI v)) 145 (sPa U.1) (nI v2)) 141 5 (nI (sPa U.1 + 1)), _, ?_, l2.1, l2.2, ?_, frR_xu (by omega) (by omega) (frR_xu (by omega) (by omega) h2)⟩
      · simp (disch := omega) only [↓reduceIte, Option.bind_some, Option.some.injEq, Prod.mk.injEq, and_self, and_true, true_and, eq_self, reduceCtorEq, not_false_eq_true, not_true_eq_false, or_true, true_or, or_false, false_or, bft, nAdd, nMul, nSub, nDiv, nRem, nAm1, nIx, nIn, bI_z, bI_o, ite_b1, ite_b0, zI_add, zI_sub, li0, li1, li2, li3, li4, li5, li6, li7, li8, li9, li10, li11, li12, li13, li14, li15, li16, li17, li18, li19, li20, li21, li22, li23, li24, li25, li26, li27, li28, li29, li30, li31, li32, li33, li34, li35, li36, li37, li40, li42, li43, li45, li47, li48, li57, li59, li60, li61, li62, li64, li80, li91, li93, li97, li99, li100, li122, li182, li199, li255, li300, li380, li400, li999, li1000, li3640, li4100, li65536, li99999, ln1, ln2, ln3, ln100, ln100000, tLe, fLe, tLt, fLt, tEq, fEq, zLe_t, zLe_f, zLt_t, zLt_f, zEq_t, zEq_f, nzLe_t, nzLe_f, znLe_t, znLe_f, nzLt_t, nzLt_f, znLt_t, znLt_f, nzEq_t, nzEq_f, znEq_t, znEq_f, xu_s, xu_r, xu_c, xrow_at, xrow_r, t1, t2, rP_xu, rP_29, rP_o, r5]
      · obtain ⟨r1, r2, r3, r4, r5, r6, r7⟩ := R
        have rr : ∀ b, b ≠ 141 → b ≠ 144 → b ≠ 145 → xu (xu (xu I 144 (sPa U.1) (nI v)) 145 (sPa U.1) (nI v2)) 141 5 (nI (sPa U.1 + 1)) b = I b := fun b h1 h2 h3 => by rw [xu_r h1, xu_r h3, xu_r h2]
        unfold rU
        rw [rr 142 (by decide) (by decide) (by decide), rr 143 (by decide) (by decide) (by decide), rr 146 (by decide) (by decide) (by decide), rr 147 (by decide) (by decide) (by decide), rr 148 (by decide) (by decide) (by decide), rr 149 (by decide) (by decide) (by decide)]
        refine ⟨fun i hi => ?_, ?_, r3, r4, fun t ht => ?_, r6, r7⟩
        · show _ = nI (uU U.1.1 5 (sPa U.1 + 1) i)
          by_cases c : i = 5
          · subst c; rw [xu_s, uU_s]
          rw [xu_c c, xu_r (by decide), xu_r (by decide), uU_c c]
          exact r1 i hi
        · rw [xu_c (by decide), xu_r (by decide), xu_r (by decide)]; exact r2
        · change t < sPa U.1 + 1 at ht
          show _ = nI (uU U.1.2.2.2.1 (sPa U.1) v t) ∧ _ = nI (uU U.2.2.1 (sPa U.1) v2 t)
          by_cases e : t = sPa U.1
          · subst e
            rw [uU_s, uU_s]
            exact ⟨by simp (disch := omega) only [↓reduceIte, Option.bind_some, Option.some.injEq, Prod.mk.injEq, and_self, and_true, true_and, eq_self, reduceCtorEq, not_false_eq_true, not_true_eq_false, or_true, true_or, or_false, false_or, bft, nAdd, nMul, nSub, nDiv, nRem, nAm1, nIx, nIn, bI_z, bI_o, ite_b1, ite_b0, zI_add, zI_sub, li0, li1, li2, li3, li4, li5, li6, li7, li8, li9, li10, li11, li12, li13, li14, li15, li16, li17, li18, li19, li20, li21, li22, li23, li24, li25, li26, li27, li28, li29, li30, li31, li32, li33, li34, li35, li36, li37, li40, li42, li43, li45, li47, li48, li57, li59, li60, li61, li62, li64, li80, li91, li93, li97, li99, li100, li122, li182, li199, li255, li300, li380, li400, li999, li1000, li3640, li4100, li65536, li99999, ln1, ln2, ln3, ln100, ln100000, tLe, fLe, tLt, fLt, tEq, fEq, zLe_t, zLe_f, zLt_t, zLt_f, zEq_t, zEq_f, nzLe_t, nzLe_f, znLe_t, znLe_f, nzLt_t, nzLt_f, znLt_t, znLt_f, nzEq_t, nzEq_f, znEq_t, znEq_f, xu_s, xu_r, xu_c, xrow_at, xrow_r], by simp (disch := omega) only [↓reduceIte, Option.bind_some, Option.some.injEq, Prod.mk.injEq, and_self, and_true, true_and, eq_self, reduceCtorEq, not_false_eq_true, not_true_eq_false, or_true, true_or, or_false, false_or, bft, nAdd, nMul, nSub, nDiv, nRem, nAm1, nIx, nIn, bI_z, bI_o, ite_b1, ite_b0, zI_add, zI_sub, li0, li1, li2, li3, li4, li5, li6, li7, li8, li9, li10, li11, li12, li13, li14, li15, li16, li17, li18, li19, li20, li21, li22, li23, li24, li25, li26, li27, li28, li29, li30, li31, li32, li33, li34, li35, li36, li37, li40, li42, li43, li45, li47, li48, li57, li59, li60, li61, li62, li64, li80, li91, li93, li97, li99, li100, li122, li182, li199, li255, li300, li380, li400, li999, li1000, li3640, li4100, li65536, li99999, ln1, ln2, ln3, ln100, ln100000, tLe, fLe, tLt, fLt, tEq, fEq, zLe_t, zLe_f, zLt_t, zLt_f, zEq_t, zEq_f, nzLe_t, nzLe_f, znLe_t, znLe_f, nzLt_t, nzLt_f, znLt_t, znLt_f, nzEq_t, nzEq_f, znEq_t, znEq_f, xu_s, xu_r, xu_c, xrow_at, xrow_r]⟩
          · rw [uU_c e, uU_c e]
            have cc := r5 t (by omega)
            exact ⟨by simp (disch := omega) only [↓reduceIte, Option.bind_some, Option.some.injEq, Prod.mk.injEq, and_self, and_true, true_and, eq_self, reduceCtorEq, not_false_eq_true, not_true_eq_false, or_true, true_or, or_false, false_or, bft, nAdd, nMul, nSub, nDiv, nRem, nAm1, nIx, nIn, bI_z, bI_o, ite_b1, ite_b0, zI_add, zI_sub, li0, li1, li2, li3, li4, li5, li6, li7, li8, li9, li10, li11, li12, li13, li14, li15, li16, li17, li18, li19, li20, li21, li22, li23, li24, li25, li26, li27, li28, li29, li30, li31, li32, li33, li34, li35, li36, li37, li40, li42, li43, li45, li47, li48, li57, li59, li60, li61, li62, li64, li80, li91, li93, li97, li99, li100, li122, li182, li199, li255, li300, li380, li400, li999, li1000, li3640, li4100, li65536, li99999, ln1, ln2, ln3, ln100, ln100000, tLe, fLe, tLt, fLt, tEq, fEq, zLe_t, zLe_f, zLt_t, zLt_f, zEq_t, zEq_f, nzLe_t, nzLe_f, znLe_t, znLe_f, nzLt_t, nzLt_f, znLt_t, znLt_f, nzEq_t, nzEq_f, znEq_t, znEq_f, xu_s, xu_r, xu_c, xrow_at, xrow_r]; exact cc.1, by simp (disch := omega) only [↓reduceIte, Option.bind_some, Option.some.injEq, Prod.mk.injEq, and_self, and_true, true_and, eq_self, reduceCtorEq, not_false_eq_true, not_true_eq_false, or_true, true_or, or_false, false_or, bft, nAdd, nMul, nSub, nDiv, nRem, nAm1, nIx, nIn, bI_z, bI_o, ite_b1, ite_b0, zI_add, zI_sub, li0, li1, li2, li3, li4, li5, li6, li7, li8, li9, li10, li11, li12, li13, li14, li15, li16, li17, li18, li19, li20, li21, li22, li23, li24, li25, li26, li27, li28, li29, li30, li31, li32, li33, li34, li35, li36, li37, li40, li42, li43, li45, li47, li48, li57, li59, li60, li61, li62, li64, li80, li91, li93, li97, li99, li100, li122, li182, li199, li255, li300, li380, li400, li999, li1000, li3640, li4100, li65536, li99999, ln1, ln2, ln3, ln100, ln100000, tLe, fLe, tLt, fLt, tEq, fEq, zLe_t, zLe_f, zLt_t, zLt_f, zEq_t, zEq_f, nzLe_t, nzLe_f, znLe_t, znLe_f, nzLt_t, nzLt_f, znLt_t, znLt_f, nzEq_t, nzEq_f, znEq_t, znEq_f, xu_s, xu_r, xu_c, xrow_at, xrow_r]; exact cc.2⟩
theorem rRain (ok : okT T) (hx : txR I T) (hp : p ≤ T.2) (hq : sk T p = q) (hU : okU U) (h4 : sRa U.1 < 5) (R : rU I U) : rRes T I (rdRain T q U) (mX12_streetPart (rP I p 0) (nI 5)) := by
  have o1 := hU.1.1
  have r7 : I 141 7 = nI (sRa U.1) := R.1 7 (by omega)
  unfold rdRain mX12_streetPart
  cases e1 : tkN T q 0 199 with
  | error e =>
    obtain ⟨he, v, p1, hv, hp1, t1⟩ := am_err (I := I) ok hx hp hq (by omega) (by omega) (by omega) e1
    change mX12_amount _ (nI 0) (nI 199) = _ at t1
    have h2 := frR_xu (I := I) (r := 146) (c := sRa U.1) (v := nI v) (by omega) (by omega) frR_rfl
    have t2 := am_f ok (txR_fr h2 hx) hp1 he.1 (by omega) (nI v) (nI 199)
    rw [n1_e e1]
    refine ⟨he, xu (xu (xu I 146 (sRa U.1) (nI v)) 147 (sRa U.1) (nI 0)) 141 7 (nI (sRa U.1 + 1)), _, ?_, sk_n hp1, frR_xu (by omega) (by omega) (frR_xu (by omega) (by omega) h2)⟩
    simp (disch := omega) only [↓reduceIte, Option.bind_some, Option.some.injEq, Prod.mk.injEq, and_self, and_true, true_and, eq_self, reduceCtorEq, not_false_eq_true, not_true_eq_false, or_true, true_or, or_false, false_or, bft, nAdd, nMul, nSub, nDiv, nRem, nAm1, nIx, nIn, bI_z, bI_o, ite_b1, ite_b0, zI_add, zI_sub, li0, li1, li2, li3, li4, li5, li6, li7, li8, li9, li10, li11, li12, li13, li14, li15, li16, li17, li18, li19, li20, li21, li22, li23, li24, li25, li26, li27, li28, li29, li30, li31, li32, li33, li34, li35, li36, li37, li40, li42, li43, li45, li47, li48, li57, li59, li60, li61, li62, li64, li80, li91, li93, li97, li99, li100, li122, li182, li199, li255, li300, li380, li400, li999, li1000, li3640, li4100, li65536, li99999, ln1, ln2, ln3, ln100, ln100000, tLe, fLe, tLt, fLt, tEq, fEq, zLe_t, zLe_f, zLt_t, zLt_f, zEq_t, zEq_f, nzLe_t, nzLe_f, znLe_t, znLe_f, nzLt_t, nzLt_f, znLt_t, znLt_f, nzEq_t, nzEq_f, znEq_t, znEq_f, xu_s, xu_r, xu_c, xrow_at, xrow_r, t1, t2, rP_xu, rP_29, rP_o, r7]
  | ok vq =>
    obtain ⟨v, q1⟩ := vq
    have t1 := am_ok (I := I) ok hx hp hq (by omega) (by omega) (by omega) e1
    have l1 := en_le e1
    have n1' := tkN_nm e1
    change mX12_amount _ (nI 0) (nI 199) = _ at t1
    have h2 := frR_xu (I := I) (r := 146) (c := sRa U.1) (v := nI v) (by omega) (by omega) frR_rfl
    rw [n1_o e1]
    cases e2 : tkN T q1 v 199 with
    | error e =>
      obtain ⟨he, v2, p2, hv, hp2, t2⟩ := am_err ok (txR_fr h2 hx) l1.1 l1.2 (by omega) (by omega) (by omega) e2
      change mX12_amount _ (nI v) (nI 199) = _ at t2
      rw [n1_e e2]
      refine ⟨he, xu (xu (xu I 146 (sRa U.1) (nI v)) 147 (sRa U.1) (nI v2)) 141 7 (nI (sRa U.1 + 1)), _, ?_, hp2, frR_xu (by omega) (by omega) (frR_xu (by omega) (by omega) h2)⟩
      simp (disch := omega) only [↓reduceIte, Option.bind_some, Option.some.injEq, Prod.mk.injEq, and_self, and_true, true_and, eq_self, reduceCtorEq, not_false_eq_true, not_true_eq_false, or_true, true_or, or_false, false_or, bft, nAdd, nMul, nSub, nDiv, nRem, nAm1, nIx, nIn, bI_z, bI_o, ite_b1, ite_b0, zI_add, zI_sub, li0, li1, li2, li3, li4, li5, li6, li7, li8, li9, li10, li11, li12, li13, li14, li15, li16, li17, li18, li19, li20, li21, li22, li23, li24, li25, li26, li27, li28, li29, li30, li31, li32, li33, li34, li35, li36, li37, li40, li42, li43, li45, li47, li48, li57, li59, li60, li61, li62, li64, li80, li91, li93, li97, li99, li100, li122, li182, li199, li255, li300, li380, li400, li999, li1000, li3640, li4100, li65536, li99999, ln1, ln2, ln3, ln100, ln100000, tLe, fLe, tLt, fLt, tEq, fEq, zLe_t, zLe_f, zLt_t, zLt_f, zEq_t, zEq_f, nzLe_t, nzLe_f, znLe_t, znLe_f, nzLt_t, nzLt_f, znLt_t, znLt_f, nzEq_t, nzEq_f, znEq_t, znEq_f, xu_s, xu_r, xu_c, xrow_at, xrow_r, t1, t2, rP_xu, rP_29, rP_o, r7]
    | ok vq =>
      obtain ⟨v2, q2⟩ := vq
      have t2 := am_ok ok (txR_fr h2 hx) l1.1 l1.2 (by omega) (by omega) (by omega) e2
      have l2 := en_le e2
      change mX12_amount _ (nI v) (nI 199) = _ at t2
      rw [n1_o e2]
      refine ⟨xu (xu (xu I 146 (sRa U.1) (nI v)) 147 (sRa U.1) (nI v2)) 141 7 (nI (sRa U.1 + 1)), _, ?_, l2.1, l2.2, ?_, frR_xu (by omega) (by omega) (frR_xu (by omega) (by omega) h2)⟩
      · simp (disch := omega) only [↓reduceIte, Option.bind_some, Option.some.injEq, Prod.mk.injEq, and_self, and_true, true_and, eq_self, reduceCtorEq, not_false_eq_true, not_true_eq_false, or_true, true_or, or_false, false_or, bft, nAdd, nMul, nSub, nDiv, nRem, nAm1, nIx, nIn, bI_z, bI_o, ite_b1, ite_b0, zI_add, zI_sub, li0, li1, li2, li3, li4, li5, li6, li7, li8, li9, li10, li11, li12, li13, li14, li15, li16, li17, li18, li19, li20, li21, li22, li23, li24, li25, li26, li27, li28, li29, li30, li31, li32, li33, li34, li35, li36, li37, li40, li42, li43, li45, li47, li48, li57, li59, li60, li61, li62, li64, li80, li91, li93, li97, li99, li100, li122, li182, li199, li255, li300, li380, li400, li999, li1000, li3640, li4100, li65536, li99999, ln1, ln2, ln3, ln100, ln100000, tLe, fLe, tLt, fLt, tEq, fEq, zLe_t, zLe_f, zLt_t, zLt_f, zEq_t, zEq_f, nzLe_t, nzLe_f, znLe_t, znLe_f, nzLt_t, nzLt_f, znLt_t, znLt_f, nzEq_t, nzEq_f, znEq_t, znEq_f, xu_s, xu_r, xu_c, xrow_at, xrow_r, t1, t2, rP_xu, rP_29, rP_o, r7]
      · obtain ⟨r1, r2, r3, r4, r5, r6, r7⟩ := R
        have rr : ∀ b, b ≠ 141 → b ≠ 146 → b ≠ 147 → xu (xu (xu I 146 (sRa U.1) (nI v)) 147 (sRa U.1) (nI v2)) 141 7 (nI (sRa U.1 + 1)) b = I b := fun b h1 h2 h3 => by rw [xu_r h1, xu_r h3, xu_r h2]
        unfold rU
        rw [rr 142 (by decide) (by decide) (by decide), rr 143 (by decide) (by decide) (by decide), rr 144 (by decide) (by decide) (by decide), rr 145 (by decide) (by decide) (by decide), rr 148 (by decide) (by decide) (by decide), rr 149 (by decide) (by decide) (by decide)]
        refine ⟨fun i hi => ?_, ?_, r3, r4, r5, fun t ht => ?_, r7⟩
        · show _ = nI (uU U.1.1 7 (sRa U.1 + 1) i)
          by_cases c : i = 7
          · subst c; rw [xu_s, uU_s]
          rw [xu_c c, xu_r (by decide), xu_r (by decide), uU_c c]
          exact r1 i hi
        · rw [xu_c (by decide), xu_r (by decide), xu_r (by decide)]; exact r2
        · change t < sRa U.1 + 1 at ht
          show _ = nI (uU U.1.2.2.2.2.1 (sRa U.1) v t) ∧ _ = nI (uU U.1.2.2.2.2.2 (sRa U.1) v2 t)
          by_cases e : t = sRa U.1
          · subst e
            rw [uU_s, uU_s]
            exact ⟨by simp (disch := omega) only [↓reduceIte, Option.bind_some, Option.some.injEq, Prod.mk.injEq, and_self, and_true, true_and, eq_self, reduceCtorEq, not_false_eq_true, not_true_eq_false, or_true, true_or, or_false, false_or, bft, nAdd, nMul, nSub, nDiv, nRem, nAm1, nIx, nIn, bI_z, bI_o, ite_b1, ite_b0, zI_add, zI_sub, li0, li1, li2, li3, li4, li5, li6, li7, li8, li9, li10, li11, li12, li13, li14, li15, li16, li17, li18, li19, li20, li21, li22, li23, li24, li25, li26, li27, li28, li29, li30, li31, li32, li33, li34, li35, li36, li37, li40, li42, li43, li45, li47, li48, li57, li59, li60, li61, li62, li64, li80, li91, li93, li97, li99, li100, li122, li182, li199, li255, li300, li380, li400, li999, li1000, li3640, li4100, li65536, li99999, ln1, ln2, ln3, ln100, ln100000, tLe, fLe, tLt, fLt, tEq, fEq, zLe_t, zLe_f, zLt_t, zLt_f, zEq_t, zEq_f, nzLe_t, nzLe_f, znLe_t, znLe_f, nzLt_t, nzLt_f, znLt_t, znLt_f, nzEq_t, nzEq_f, znEq_t, znEq_f, xu_s, xu_r, xu_c, xrow_at, xrow_r], by simp (disch := omega) only [↓reduceIte, Option.bind_some, Option.some.injEq, Prod.mk.injEq, and_self, and_true, true_and, eq_self, reduceCtorEq, not_false_eq_true, not_true_eq_false, or_true, true_or, or_false, false_or, bft, nAdd, nMul, nSub, nDiv, nRem, nAm1, nIx, nIn, bI_z, bI_o, ite_b1, ite_b0, zI_add, zI_sub, li0, li1, li2, li3, li4, li5, li6, li7, li8, li9, li10, li11, li12, li13, li14, li15, li16, li17, li18, li19, li20, li21, li22, li23, li24, li25, li26, li27, li28, li29, li30, li31, li32, li33, li34, li35, li36, li37, li40, li42, li43, li45, li47, li48, li57, li59, li60, li61, li62, li64, li80, li91, li93, li97, li99, li100, li122, li182, li199, li255, li300, li380, li400, li999, li1000, li3640, li4100, li65536, li99999, ln1, ln2, ln3, ln100, ln100000, tLe, fLe, tLt, fLt, tEq, fEq, zLe_t, zLe_f, zLt_t, zLt_f, zEq_t, zEq_f, nzLe_t, nzLe_f, znLe_t, znLe_f, nzLt_t, nzLt_f, znLt_t, znLt_f, nzEq_t, nzEq_f, znEq_t, znEq_f, xu_s, xu_r, xu_c, xrow_at, xrow_r]⟩
          · rw [uU_c e, uU_c e]
            have cc := r6 t (by omega)
            exact ⟨by simp (disch := omega) only [↓reduceIte, Option.bind_some, Option.some.injEq, Prod.mk.injEq, and_self, and_true, true_and, eq_self, reduceCtorEq, not_false_eq_true, not_true_eq_false, or_true, true_or, or_false, false_or, bft, nAdd, nMul, nSub, nDiv, nRem, nAm1, nIx, nIn, bI_z, bI_o, ite_b1, ite_b0, zI_add, zI_sub, li0, li1, li2, li3, li4, li5, li6, li7, li8, li9, li10, li11, li12, li13, li14, li15, li16, li17, li18, li19, li20, li21, li22, li23, li24, li25, li26, li27, li28, li29, li30, li31, li32, li33, li34, li35, li36, li37, li40, li42, li43, li45, li47, li48, li57, li59, li60, li61, li62, li64, li80, li91, li93, li97, li99, li100, li122, li182, li199, li255, li300, li380, li400, li999, li1000, li3640, li4100, li65536, li99999, ln1, ln2, ln3, ln100, ln100000, tLe, fLe, tLt, fLt, tEq, fEq, zLe_t, zLe_f, zLt_t, zLt_f, zEq_t, zEq_f, nzLe_t, nzLe_f, znLe_t, znLe_f, nzLt_t, nzLt_f, znLt_t, znLt_f, nzEq_t, nzEq_f, znEq_t, znEq_f, xu_s, xu_r, xu_c, xrow_at, xrow_r]; exact cc.1, by simp (disch := omega) only [↓reduceIte, Option.bind_some, Option.some.injEq, Prod.mk.injEq, and_self, and_true, true_and, eq_self, reduceCtorEq, not_false_eq_true, not_true_eq_false, or_true, true_or, or_false, false_or, bft, nAdd, nMul, nSub, nDiv, nRem, nAm1, nIx, nIn, bI_z, bI_o, ite_b1, ite_b0, zI_add, zI_sub, li0, li1, li2, li3, li4, li5, li6, li7, li8, li9, li10, li11, li12, li13, li14, li15, li16, li17, li18, li19, li20, li21, li22, li23, li24, li25, li26, li27, li28, li29, li30, li31, li32, li33, li34, li35, li36, li37, li40, li42, li43, li45, li47, li48, li57, li59, li60, li61, li62, li64, li80, li91, li93, li97, li99, li100, li122, li182, li199, li255, li300, li380, li400, li999, li1000, li3640, li4100, li65536, li99999, ln1, ln2, ln3, ln100, ln100000, tLe, fLe, tLt, fLt, tEq, fEq, zLe_t, zLe_f, zLt_t, zLt_f, zEq_t, zEq_f, nzLe_t, nzLe_f, znLe_t, znLe_f, nzLt_t, nzLt_f, znLt_t, znLt_f, nzEq_t, nzEq_f, znEq_t, znEq_f, xu_s, xu_r, xu_c, xrow_at, xrow_r]; exact cc.2⟩
theorem rBare (ok : okT T) (hx : txR I T) (hp : p ≤ T.2) (hq : sk T p = q) (hU : okU U) (R : rU I U) : rRes T I (rdBare T q U) (mX12_streetPart (rP I p 0) (nI 4)) := by
  have o1 := hU.1.1
  have r3 : I 141 3 = nI (sTh U.1) := R.1 3 (by omega)
  have r8 := R.2.1
  have z3 : nI (sTh U.1) - nI 1 = zI ((sTh U.1 : Int) - 1) := nSubZ _ _
  unfold rdBare mX12_streetPart
  cases e1 : tkN T q 0 ((sTh U.1 : Int) - 1) with
  | error e =>
    obtain ⟨he, v, p1, hv, hp1, t1⟩ := am_err (I := I) ok hx hp hq (by omega) (by omega) (by omega) e1
    rw [n1_e e1]
    refine ⟨he, xu I 141 8 (nI U.2.2.2), p1, ?_, hp1, frR_xu (by omega) (by omega) frR_rfl⟩
    have o0 : nI U.2.2.2 ||| nI 0 = nI U.2.2.2 := by
      have : ∀ b, b < 16 → nI b ||| nI 0 = nI b := by decide +kernel
      exact this _ hU.2.2.2
    simp (disch := omega) only [↓reduceIte, Option.bind_some, Option.some.injEq, Prod.mk.injEq, and_self, and_true, true_and, eq_self, reduceCtorEq, not_false_eq_true, not_true_eq_false, or_true, true_or, or_false, false_or, bft, nAdd, nMul, nSub, nDiv, nRem, nAm1, nIx, nIn, bI_z, bI_o, ite_b1, ite_b0, zI_add, zI_sub, li0, li1, li2, li3, li4, li5, li6, li7, li8, li9, li10, li11, li12, li13, li14, li15, li16, li17, li18, li19, li20, li21, li22, li23, li24, li25, li26, li27, li28, li29, li30, li31, li32, li33, li34, li35, li36, li37, li40, li42, li43, li45, li47, li48, li57, li59, li60, li61, li62, li64, li80, li91, li93, li97, li99, li100, li122, li182, li199, li255, li300, li380, li400, li999, li1000, li3640, li4100, li65536, li99999, ln1, ln2, ln3, ln100, ln100000, tLe, fLe, tLt, fLt, tEq, fEq, zLe_t, zLe_f, zLt_t, zLt_f, zEq_t, zEq_f, nzLe_t, nzLe_f, znLe_t, znLe_f, nzLt_t, nzLt_f, znLt_t, znLt_f, nzEq_t, nzEq_f, znEq_t, znEq_f, xu_s, xu_r, xu_c, xrow_at, xrow_r, t1, rP_xu, rP_29, rP_o, r3, z3, r8, o0]
  | ok vq =>
    obtain ⟨v, q1⟩ := vq
    have t1 := am_ok (I := I) ok hx hp hq (by omega) (by omega) (by omega) e1
    have l1 := en_le e1
    have n1' := tkN_nm e1
    have bb := bareBit (t := v) hU.2.2.2 (by omega)
    rw [n1_o e1]
    refine ⟨xu I 141 8 (nI (U.2.2.2 ||| 2 ^ v)), _, ?_, l1.1, l1.2, ?_, frR_xu (by omega) (by omega) frR_rfl⟩
    · simp (disch := omega) only [↓reduceIte, Option.bind_some, Option.some.injEq, Prod.mk.injEq, and_self, and_true, true_and, eq_self, reduceCtorEq, not_false_eq_true, not_true_eq_false, or_true, true_or, or_false, false_or, bft, nAdd, nMul, nSub, nDiv, nRem, nAm1, nIx, nIn, bI_z, bI_o, ite_b1, ite_b0, zI_add, zI_sub, li0, li1, li2, li3, li4, li5, li6, li7, li8, li9, li10, li11, li12, li13, li14, li15, li16, li17, li18, li19, li20, li21, li22, li23, li24, li25, li26, li27, li28, li29, li30, li31, li32, li33, li34, li35, li36, li37, li40, li42, li43, li45, li47, li48, li57, li59, li60, li61, li62, li64, li80, li91, li93, li97, li99, li100, li122, li182, li199, li255, li300, li380, li400, li999, li1000, li3640, li4100, li65536, li99999, ln1, ln2, ln3, ln100, ln100000, tLe, fLe, tLt, fLt, tEq, fEq, zLe_t, zLe_f, zLt_t, zLt_f, zEq_t, zEq_f, nzLe_t, nzLe_f, znLe_t, znLe_f, nzLt_t, nzLt_f, znLt_t, znLt_f, nzEq_t, nzEq_f, znEq_t, znEq_f, xu_s, xu_r, xu_c, xrow_at, xrow_r, t1, rP_xu, rP_29, rP_o, r3, z3, r8, bb]
    · obtain ⟨r1, r2, r3, r4, r5, r6, r7⟩ := R
      unfold rU
      rw [xu_r (b := 142) (by decide), xu_r (b := 143) (by decide), xu_r (b := 144) (by decide), xu_r (b := 145) (by decide), xu_r (b := 146) (by decide), xu_r (b := 147) (by decide), xu_r (b := 148) (by decide), xu_r (b := 149) (by decide)]
      refine ⟨fun i hi => ?_, xu_s, r3, r4, r5, r6, r7⟩
      rw [xu_c (by omega)]; exact r1 i hi
theorem rSuit (R : rU I U) (hp : p ≤ T.2) (hq : sk T p = q) : rRes T I (.ok (uSuit U, q)) (mX12_streetPart (rP I p 0) (nI 6)) := by
  refine ⟨xu I 141 6 (nI 1), p, ?_, hp, hq, ?_, frR_xu (by omega) (by omega) frR_rfl⟩
  · unfold mX12_streetPart
    simp (disch := omega) only [↓reduceIte, Option.bind_some, Option.some.injEq, Prod.mk.injEq, and_self, and_true, true_and, eq_self, reduceCtorEq, not_false_eq_true, not_true_eq_false, or_true, true_or, or_false, false_or, bft, nAdd, nMul, nSub, nDiv, nRem, nAm1, nIx, nIn, bI_z, bI_o, ite_b1, ite_b0, zI_add, zI_sub, li0, li1, li2, li3, li4, li5, li6, li7, li8, li9, li10, li11, li12, li13, li14, li15, li16, li17, li18, li19, li20, li21, li22, li23, li24, li25, li26, li27, li28, li29, li30, li31, li32, li33, li34, li35, li36, li37, li40, li42, li43, li45, li47, li48, li57, li59, li60, li61, li62, li64, li80, li91, li93, li97, li99, li100, li122, li182, li199, li255, li300, li380, li400, li999, li1000, li3640, li4100, li65536, li99999, ln1, ln2, ln3, ln100, ln100000, tLe, fLe, tLt, fLt, tEq, fEq, zLe_t, zLe_f, zLt_t, zLt_f, zEq_t, zEq_f, nzLe_t, nzLe_f, znLe_t, znLe_f, nzLt_t, nzLt_f, znLt_t, znLt_f, nzEq_t, nzEq_f, znEq_t, znEq_f, rP_xu]
  · obtain ⟨r1, r2, r3, r4, r5, r6, r7⟩ := R
    unfold rU
    rw [xu_r (b := 142) (by decide), xu_r (b := 143) (by decide), xu_r (b := 144) (by decide), xu_r (b := 145) (by decide), xu_r (b := 146) (by decide), xu_r (b := 147) (by decide), xu_r (b := 148) (by decide), xu_r (b := 149) (by decide)]
    refine ⟨fun i hi => ?_, ?_, r3, r4, r5, r6, r7⟩
    · show _ = nI (uU U.1.1 6 1 i)
      by_cases c : i = 6
      · subst c; rw [xu_s, uU_s]
      · rw [xu_c c, uU_c c]; exact r1 i hi
    · rw [xu_c (by decide)]; exact r2
end

/-! street: the reference's reader, coats and the whole. -/
section
variable {T : txT} {I J : Nat → Nat → Int32} {p q m : Nat} {U : uT}
theorem shiftC_go {e81 : (Nat → Nat → Int32) → Int32 → Int32 → Option (Nat → Nat → Int32)} {c v : Nat} (hc : c < 16) : ∀ (f d j : Nat) (I : Nat → Nat → Int32), d < f → j + d = 5 → 1 ≤ j → ∃ J, mX12_readsCoat_48 e81 f (rP I p 0) (nI c) (nI v) (nI j) = e81 (rP J p 0) (nI c) (nI v) ∧ (∀ i, j ≤ i + 1 → i < 4 → J 149 (5 * c + i) = I 149 (5 * c + i + 1)) ∧ ∀ b k, b ≠ 149 ∨ k + 1 < 5 * c + j ∨ 5 * c + 4 ≤ k → J b k = I b k
  | 0, d, j, I, h, _, _ => absurd h (by omega)
  | f + 1, d, j, I, h1, h2, h3 => by
    rw [mX12_readsCoat_48]
    cases d with
    | zero =>
      refine ⟨I, ?_, fun i i1 i2 => by omega, fun _ _ _ => rfl⟩
      simp (disch := omega) only [↓reduceIte, Option.bind_some, Option.some.injEq, Prod.mk.injEq, and_self, and_true, true_and, eq_self, reduceCtorEq, not_false_eq_true, not_true_eq_false, or_true, true_or, or_false, false_or, bft, nAdd, nMul, nSub, nDiv, nRem, nAm1, nIx, nIn, bI_z, bI_o, ite_b1, ite_b0, zI_add, zI_sub, li0, li1, li2, li3, li4, li5, li6, li7, li8, li9, li10, li11, li12, li13, li14, li15, li16, li17, li18, li19, li20, li21, li22, li23, li24, li25, li26, li27, li28, li29, li30, li31, li32, li33, li34, li35, li36, li37, li40, li42, li43, li45, li47, li48, li57, li59, li60, li61, li62, li64, li80, li91, li93, li97, li99, li100, li122, li182, li199, li255, li300, li380, li400, li999, li1000, li3640, li4100, li65536, li99999, ln1, ln2, ln3, ln100, ln100000, tLe, fLe, tLt, fLt, tEq, fEq, zLe_t, zLe_f, zLt_t, zLt_f, zEq_t, zEq_f, nzLe_t, nzLe_f, znLe_t, znLe_f, nzLt_t, nzLt_f, znLt_t, znLt_f, nzEq_t, nzEq_f, znEq_t, znEq_f]
    | succ d =>
      obtain ⟨J, g1, g2, g3⟩ := shiftC_go (e81 := e81) (v := v) hc f d (j + 1) (xu I 149 (5 * c + j - 1) (I 149 (5 * c + j))) (by omega) (by omega) (by omega)
      refine ⟨J, ?_, fun i i1 i2 => ?_, fun b k hb => ?_⟩
      · simp (disch := omega) only [↓reduceIte, Option.bind_some, Option.some.injEq, Prod.mk.injEq, and_self, and_true, true_and, eq_self, reduceCtorEq, not_false_eq_true, not_true_eq_false, or_true, true_or, or_false, false_or, bft, nAdd, nMul, nSub, nDiv, nRem, nAm1, nIx, nIn, bI_z, bI_o, ite_b1, ite_b0, zI_add, zI_sub, li0, li1, li2, li3, li4, li5, li6, li7, li8, li9, li10, li11, li12, li13, li14, li15, li16, li17, li18, li19, li20, li21, li22, li23, li24, li25, li26, li27, li28, li29, li30, li31, li32, li33, li34, li35, li36, li37, li40, li42, li43, li45, li47, li48, li57, li59, li60, li61, li62, li64, li80, li91, li93, li97, li99, li100, li122, li182, li199, li255, li300, li380, li400, li999, li1000, li3640, li4100, li65536, li99999, ln1, ln2, ln3, ln100, ln100000, tLe, fLe, tLt, fLt, tEq, fEq, zLe_t, zLe_f, zLt_t, zLt_f, zEq_t, zEq_f, nzLe_t, nzLe_f, znLe_t, znLe_f, nzLt_t, nzLt_f, znLt_t, znLt_f, nzEq_t, nzEq_f, znEq_t, znEq_f, rP_o, rP_xu, g1]
      · by_cases e : i + 1 = j
        · rw [g3 149 (5 * c + i) (by omega), show 5 * c + i = 5 * c + j - 1 by omega, xu_s]
          congr 1
          omega
        · rw [g2 i (by omega) i2, xu_c (by omega)]
      · rw [g3 b k (by omega), xu_off (by omega)]
theorem rev_put {x : Nat} {l : List Nat} (h : l.length ≤ 5) : (x :: l).take 5 = x :: l.take 4 ∧ ((x :: l).take 5).reverse = (l.take 4).reverse ++ [x] := by
  have e : (x :: l).take 5 = x :: l.take 4 := rfl
  exact ⟨e, by rw [e, List.reverse_cons]⟩
theorem coat91 {c v n : Nat} (hc : c < 16) (hn : n < 5) (h : I 148 c = nI n) : mX12_readsCoat_91 (rP I p 0) (nI c) (nI v) = some (rP (xu (xu I 149 (5 * c + n) (nI v)) 148 c (nI (n + 1))) p 0) := by
  unfold mX12_readsCoat_91
  simp (disch := omega) only [↓reduceIte, Option.bind_some, Option.some.injEq, Prod.mk.injEq, and_self, and_true, true_and, eq_self, reduceCtorEq, not_false_eq_true, not_true_eq_false, or_true, true_or, or_false, false_or, bft, nAdd, nMul, nSub, nDiv, nRem, nAm1, nIx, nIn, bI_z, bI_o, ite_b1, ite_b0, zI_add, zI_sub, li0, li1, li2, li3, li4, li5, li6, li7, li8, li9, li10, li11, li12, li13, li14, li15, li16, li17, li18, li19, li20, li21, li22, li23, li24, li25, li26, li27, li28, li29, li30, li31, li32, li33, li34, li35, li36, li37, li40, li42, li43, li45, li47, li48, li57, li59, li60, li61, li62, li64, li80, li91, li93, li97, li99, li100, li122, li182, li199, li255, li300, li380, li400, li999, li1000, li3640, li4100, li65536, li99999, ln1, ln2, ln3, ln100, ln100000, tLe, fLe, tLt, fLt, tEq, fEq, zLe_t, zLe_f, zLt_t, zLt_f, zEq_t, zEq_f, nzLe_t, nzLe_f, znLe_t, znLe_f, nzLt_t, nzLt_f, znLt_t, znLt_f, nzEq_t, nzEq_f, znEq_t, znEq_f, xu_s, xu_r, xu_c, xrow_at, xrow_r, rP_o, rP_xu, h]
theorem rCoat (ok : okT T) (hx : txR I T) (hp : p ≤ T.2) (hq : sk T p = q) (hU : okU U) (R : rU I U) : rRes T I (rdCoat T q U) (mX12_streetPart (rP I p 0) (nI 3)) := by
  have o1 := hU.1.1
  have r4 : I 141 4 = nI (sCe U.1) := R.1 4 (by omega)
  have r5 : I 141 5 = nI (sPa U.1) := R.1 5 (by omega)
  have z4 : nI (sCe U.1) - nI 1 = zI ((sCe U.1 : Int) - 1) := nSubZ _ _
  have z5 : nI (sPa U.1) - nI 1 = zI ((sPa U.1 : Int) - 1) := nSubZ _ _
  unfold rdCoat mX12_streetPart mX12_readsCoat
  cases e1 : tkN T q 0 ((sCe U.1 : Int) - 1) with
  | error e =>
    obtain ⟨he, v, p1, hv, hp1, t1⟩ := am_err (I := I) ok hx hp hq (by omega) (by omega) (by omega) e1
    have t2 := am_f (I := I) ok hx hp1 he.1 (by omega) (nI 0) (zI ((sPa U.1 : Int) - 1))
    rw [n1_e e1]
    refine ⟨he, I, _, ?_, sk_n hp1, frR_rfl⟩
    simp (disch := omega) only [↓reduceIte, Option.bind_some, Option.some.injEq, Prod.mk.injEq, and_self, and_true, true_and, eq_self, reduceCtorEq, not_false_eq_true, not_true_eq_false, or_true, true_or, or_false, false_or, bft, nAdd, nMul, nSub, nDiv, nRem, nAm1, nIx, nIn, bI_z, bI_o, ite_b1, ite_b0, zI_add, zI_sub, li0, li1, li2, li3, li4, li5, li6, li7, li8, li9, li10, li11, li12, li13, li14, li15, li16, li17, li18, li19, li20, li21, li22, li23, li24, li25, li26, li27, li28, li29, li30, li31, li32, li33, li34, li35, li36, li37, li40, li42, li43, li45, li47, li48, li57, li59, li60, li61, li62, li64, li80, li91, li93, li97, li99, li100, li122, li182, li199, li255, li300, li380, li400, li999, li1000, li3640, li4100, li65536, li99999, ln1, ln2, ln3, ln100, ln100000, tLe, fLe, tLt, fLt, tEq, fEq, zLe_t, zLe_f, zLt_t, zLt_f, zEq_t, zEq_f, nzLe_t, nzLe_f, znLe_t, znLe_f, nzLt_t, nzLt_f, znLt_t, znLt_f, nzEq_t, nzEq_f, znEq_t, znEq_f, rP_o, r4, r5, z4, z5, t1, t2, rP_29]
  | ok vq =>
    obtain ⟨v, q1⟩ := vq
    have t1 := am_ok (I := I) ok hx hp hq (by omega) (by omega) (by omega) e1
    have l1 := en_le e1
    have n1' := tkN_nm e1
    rw [n1_o e1]
    cases e2 : tkN T q1 0 ((sPa U.1 : Int) - 1) with
    | error e =>
      obtain ⟨he, v2, p2, hv, hp2, t2⟩ := am_err (I := I) ok hx l1.1 l1.2 (by omega) (by omega) (by omega) e2
      rw [n1_e e2]
      refine ⟨he, I, p2, ?_, hp2, frR_rfl⟩
      simp (disch := omega) only [↓reduceIte, Option.bind_some, Option.some.injEq, Prod.mk.injEq, and_self, and_true, true_and, eq_self, reduceCtorEq, not_false_eq_true, not_true_eq_false, or_true, true_or, or_false, false_or, bft, nAdd, nMul, nSub, nDiv, nRem, nAm1, nIx, nIn, bI_z, bI_o, ite_b1, ite_b0, zI_add, zI_sub, li0, li1, li2, li3, li4, li5, li6, li7, li8, li9, li10, li11, li12, li13, li14, li15, li16, li17, li18, li19, li20, li21, li22, li23, li24, li25, li26, li27, li28, li29, li30, li31, li32, li33, li34, li35, li36, li37, li40, li42, li43, li45, li47, li48, li57, li59, li60, li61, li62, li64, li80, li91, li93, li97, li99, li100, li122, li182, li199, li255, li300, li380, li400, li999, li1000, li3640, li4100, li65536, li99999, ln1, ln2, ln3, ln100, ln100000, tLe, fLe, tLt, fLt, tEq, fEq, zLe_t, zLe_f, zLt_t, zLt_f, zEq_t, zEq_f, nzLe_t, nzLe_f, znLe_t, znLe_f, nzLt_t, nzLt_f, znLt_t, znLt_f, nzEq_t, nzEq_f, znEq_t, znEq_f, rP_o, r4, r5, z4, z5, t1, t2, rP_29]
    | ok vq =>
      obtain ⟨v2, q2⟩ := vq
      have t2 := am_ok (I := I) ok hx l1.1 l1.2 (by omega) (by omega) (by omega) e2
      have l2 := en_le e2
      have n2' := tkN_nm e2
      rw [n1_o e2]
      have cc := R.2.2.2.2.2.2 v (by omega)
      have hl := (hU.2.1 v).1.1
      generalize hL : U.2.1 v = l at cc hl
      have rp := rev_put (x := 4 + v2) hl
      have fin : ∀ (K : Nat → Nat → Int32) (n : Nat), n = (l.take 4).length → (∀ b k, b ≠ 148 → b ≠ 149 → K b k = I b k) → (∀ c, c ≠ v → K 148 c = I 148 c) → (∀ i x, (l.take 4).reverse[i]? = some x → K 149 (5 * v + i) = nI (x % 4)) → (∀ k, k < 5 * v ∨ 5 * v + 5 ≤ k → K 149 k = I 149 k) → rU (xu (xu K 149 (5 * v + n) (nI v2)) 148 v (nI (n + 1))) (uCoat U v v2) ∧ frR I (xu (xu K 149 (5 * v + n) (nI v2)) 148 v (nI (n + 1))) := by
        intro K n hn k1 k2 k3 k4
        have hn4 : n ≤ 4 := by rw [hn, List.length_take]; omega
        have rr : ∀ b, b ≠ 148 → b ≠ 149 → xu (xu K 149 (5 * v + n) (nI v2)) 148 v (nI (n + 1)) b = I b := fun b h1 h2 => by rw [xu_r h1, xu_r h2]; exact funext fun k => k1 b k h1 h2
        refine ⟨?_, fun b hb => rr b (by omega) (by omega), by rw [rr 142 (by decide) (by decide)]⟩
        obtain ⟨w1, w2, w3, w4, w5, w6, w7⟩ := R
        unfold rU
        rw [rr 141 (by decide) (by decide), rr 142 (by decide) (by decide), rr 143 (by decide) (by decide), rr 144 (by decide) (by decide), rr 145 (by decide) (by decide), rr 146 (by decide) (by decide), rr 147 (by decide) (by decide)]
        refine ⟨w1, w2, w3, w4, w5, w6, fun c hc => ?_⟩
        show _ = nI (if c = v then ((4 + v2) :: U.2.1 v).take 5 else U.2.1 c).length ∧ ∀ i x, (if c = v then ((4 + v2) :: U.2.1 v).take 5 else U.2.1 c).reverse[i]? = some x → _
        by_cases e : c = v
        · subst e
          rw [if_pos rfl, hL, xu_s]
          refine ⟨by rw [rp.1, List.length_cons, hn], fun i x hi => ?_⟩
          rw [rp.2] at hi
          rw [xu_r (by decide)]
          by_cases e2 : i = n
          · subst e2
            rw [xu_s]
            rw [List.getElem?_append_right (by rw [List.length_reverse]; omega), List.length_reverse, ← hn, Nat.sub_self] at hi
            cases hi
            congr 1
            omega
          · have hi2 := (List.getElem?_eq_some_iff.mp hi).1
            rw [List.length_append, List.length_reverse, ← hn] at hi2
            simp only [List.length_cons, List.length_nil] at hi2
            rw [List.getElem?_append_left (by rw [List.length_reverse, ← hn]; omega)] at hi
            rw [xu_c (by omega)]
            exact k3 i x hi
        · rw [if_neg e, xu_c e, xu_r (by decide), k2 c e]
          refine ⟨(w7 c hc).1, fun i x hi => ?_⟩
          have hi2 := (List.getElem?_eq_some_iff.mp hi).1
          rw [List.length_reverse] at hi2
          have hc5 := (hU.2.1 c).1.1
          rw [xu_r (by decide), xu_c (by omega), k4 _ (by omega)]
          exact (w7 c hc).2 i x hi
      by_cases c5 : l.length = 5
      · obtain ⟨K, s1, s2, s3⟩ := shiftC_go (p := en T q1) (e81 := fun (I_15 : (Nat → Nat → Int32)) (a1_15 : Int32) (a2_15 : Int32) => (if inb a1_15 16 = true then (if inb a1_15 16 = true then (mX12_readsCoat_91 (xu I_15 148 (ix a1_15) ((I_15 148 (ix a1_15)) - nI 1)) a1_15 a2_15) else none) else none)) (c := v) (v := v2) (by omega) xf 4 1 I (by unfold xf; omega) (by omega) (by omega)
        have k8 : K 148 v = nI 5 := by rw [s3 148 v (by omega), cc.1, c5]
        have c91 := coat91 (I := xu K 148 v (nI 4)) (p := en T q1) (c := v) (v := v2) (n := 4) (by omega) (by omega) xu_s
        have f := fin (xu K 148 v (nI 4)) 4 (by rw [List.length_take]; omega) (fun b k h1 h2 => by rw [xu_r h1, s3 b k (by omega)]) (fun c hc => by rw [xu_c hc, s3 148 c (by omega)]) (fun i x hi => by
            have hi2 := (List.getElem?_eq_some_iff.mp hi).1
            rw [List.length_reverse, List.length_take] at hi2
            rw [List.reverse_take, c5, List.getElem?_drop] at hi
            rw [xu_r (by decide), s2 i (by omega) (by omega)]
            have z := cc.2 (1 + i) x hi
            rw [← z]
            congr 1
            omega) (fun k hk => by rw [xu_r (by decide), s3 149 k (by omega)])
        refine ⟨_, _, ?_, l2.1, l2.2, f.1, f.2⟩
        have cl : I 148 v = nI 5 := by rw [cc.1, c5]
        simp (disch := omega) only [↓reduceIte, Option.bind_some, Option.some.injEq, Prod.mk.injEq, and_self, and_true, true_and, eq_self, reduceCtorEq, not_false_eq_true, not_true_eq_false, or_true, true_or, or_false, false_or, bft, nAdd, nMul, nSub, nDiv, nRem, nAm1, nIx, nIn, bI_z, bI_o, ite_b1, ite_b0, zI_add, zI_sub, li0, li1, li2, li3, li4, li5, li6, li7, li8, li9, li10, li11, li12, li13, li14, li15, li16, li17, li18, li19, li20, li21, li22, li23, li24, li25, li26, li27, li28, li29, li30, li31, li32, li33, li34, li35, li36, li37, li40, li42, li43, li45, li47, li48, li57, li59, li60, li61, li62, li64, li80, li91, li93, li97, li99, li100, li122, li182, li199, li255, li300, li380, li400, li999, li1000, li3640, li4100, li65536, li99999, ln1, ln2, ln3, ln100, ln100000, tLe, fLe, tLt, fLt, tEq, fEq, zLe_t, zLe_f, zLt_t, zLt_f, zEq_t, zEq_f, nzLe_t, nzLe_f, znLe_t, znLe_f, nzLt_t, nzLt_f, znLt_t, znLt_f, nzEq_t, nzEq_f, znEq_t, znEq_f, rP_o, r4, r5, z4, z5, t1, t2, rP_29, cl, s1, k8, rP_xu]
        show Option.bind (mX12_readsCoat_91 (rP (xu K 148 v (nI 4)) (en T q1) 0) (nI v) (nI v2)) _ = _
        rw [c91]
        rfl
      · have f := fin I l.length (by rw [List.length_take]; omega) (fun _ _ _ _ => rfl) (fun _ _ => rfl) (fun i x hi => by
            rw [List.take_of_length_le (by omega)] at hi
            exact cc.2 i x hi) (fun _ _ => rfl)
        have c91 := coat91 (I := I) (p := en T q1) (c := v) (v := v2) (n := l.length) (by omega) (by omega) cc.1
        refine ⟨_, _, ?_, l2.1, l2.2, f.1, f.2⟩
        simp (disch := omega) only [↓reduceIte, Option.bind_some, Option.some.injEq, Prod.mk.injEq, and_self, and_true, true_and, eq_self, reduceCtorEq, not_false_eq_true, not_true_eq_false, or_true, true_or, or_false, false_or, bft, nAdd, nMul, nSub, nDiv, nRem, nAm1, nIx, nIn, bI_z, bI_o, ite_b1, ite_b0, zI_add, zI_sub, li0, li1, li2, li3, li4, li5, li6, li7, li8, li9, li10, li11, li12, li13, li14, li15, li16, li17, li18, li19, li20, li21, li22, li23, li24, li25, li26, li27, li28, li29, li30, li31, li32, li33, li34, li35, li36, li37, li40, li42, li43, li45, li47, li48, li57, li59, li60, li61, li62, li64, li80, li91, li93, li97, li99, li100, li122, li182, li199, li255, li300, li380, li400, li999, li1000, li3640, li4100, li65536, li99999, ln1, ln2, ln3, ln100, ln100000, tLe, fLe, tLt, fLt, tEq, fEq, zLe_t, zLe_f, zLt_t, zLt_f, zEq_t, zEq_f, nzLe_t, nzLe_f, znLe_t, znLe_f, nzLt_t, nzLt_f, znLt_t, znLt_f, nzEq_t, nzEq_f, znEq_t, znEq_f, rP_o, r4, r5, z4, z5, t1, t2, rP_29, cc.1, c91]
def clI (w : Nat) : Nat := if w = 13 then 0 else if w = 2 then 1 else if w = 0 then 2 else if w = 14 then 3 else if w = 15 then 4 else if w = 12 then 5 else if w = 16 then 6 else 7
theorem rPart {w : Nat} (ok : okT T) (hx : txR I T) (hp : p ≤ T.2) (hq : sk T p = q) (hU : okU U) (hw : isCl w = true) (hf : fullU U w = false) (R : rU I U) : rRes T I (rdC T w q U) (mX12_streetPart (rP I p 0) (nI (clI w))) := by
  have hw2 : w = 0 ∨ w = 2 ∨ w = 12 ∨ w = 13 ∨ w = 14 ∨ w = 15 ∨ w = 16 := by
    unfold isCl at hw
    simp at hw
    omega
  rcases hw2 with rfl | rfl | rfl | rfl | rfl | rfl | rfl
  · exact rPaint ok hx hp hq hU (by unfold fullU at hf; simp at hf; omega) R
  · exact rThing ok hx hp hq hU (by unfold fullU at hf; simp at hf; omega) R
  · exact rRain ok hx hp hq hU (by unfold fullU at hf; simp at hf; omega) R
  · exact rHead ok hx hp hq R
  · exact rCoat ok hx hp hq hU R
  · exact rBare ok hx hp hq hU R
  · exact rSuit R hp hq
theorem wd_cl : ∀ w, w ≤ 37 → ∀ i, i < 7 → (w = wdN (i + 2) ↔ clI w = i) := by
  intro w hw
  have h2 : w < 38 := by omega
  revert w
  decide +kernel
theorem clI_7 : ∀ w, w ≤ 37 → (clI w = 7 ↔ isCl w = false) := by
  intro w hw
  have h2 : w < 38 := by omega
  revert w
  decide +kernel
theorem clI_le (w : Nat) : clI w ≤ 7 := by
  unfold clI
  repeat (split; · omega)
  omega
theorem sWord : ∀ i, i < 7 → mX12_streetWord (nI i) = some (i + 2) := by decide +kernel
theorem sc_go (ok : okT T) (hx : txR I T) (hq : q ≤ T.2) {k : Int32} {e34 : (Nat → Nat → Int32) → Int32 → Int32 → Int32 → Option (Nat → Nat → Int32)} : ∀ (f d i : Nat), d < f → i + d = 7 → i ≤ clI (kd T q) → mX12_streetClause_11 e34 f (rP I q 0) k (nI q) (nI i) = e34 (rP I q 0) k (nI q) (nI (clI (kd T q)))
  | 0, d, i, h, _, _ => absurd h (by omega)
  | f + 1, d, i, h1, h2, h3 => by
    have kl := kd_lt37 (T := T) (q := q)
    have c7 := clI_le (kd T q)
    rw [mX12_streetClause_11]
    cases d with
    | zero =>
      rw [show clI (kd T q) = i by omega]
      simp (disch := omega) only [↓reduceIte, Option.bind_some, Option.some.injEq, Prod.mk.injEq, and_self, and_true, true_and, eq_self, reduceCtorEq, not_false_eq_true, not_true_eq_false, or_true, true_or, or_false, false_or, bft, nAdd, nMul, nSub, nDiv, nRem, nAm1, nIx, nIn, bI_z, bI_o, ite_b1, ite_b0, zI_add, zI_sub, li0, li1, li2, li3, li4, li5, li6, li7, li8, li9, li10, li11, li12, li13, li14, li15, li16, li17, li18, li19, li20, li21, li22, li23, li24, li25, li26, li27, li28, li29, li30, li31, li32, li33, li34, li35, li36, li37, li40, li42, li43, li45, li47, li48, li57, li59, li60, li61, li62, li64, li80, li91, li93, li97, li99, li100, li122, li182, li199, li255, li300, li380, li400, li999, li1000, li3640, li4100, li65536, li99999, ln1, ln2, ln3, ln100, ln100000, tLe, fLe, tLt, fLt, tEq, fEq, zLe_t, zLe_f, zLt_t, zLt_f, zEq_t, zEq_f, nzLe_t, nzLe_f, znLe_t, znLe_f, nzLt_t, nzLt_f, znLt_t, znLt_f, nzEq_t, nzEq_f, znEq_t, znEq_f]
    | succ d =>
      have s := stood_ok (I := I) (f := 0) ok hx (t := i + 2) (by omega) (by omega) hq
      have wc := wd_cl (kd T q) kl i (by omega)
      by_cases e : clI (kd T q) = i
      · rw [decide_eq_true (wc.mpr e)] at s
        rw [e]
        simp (disch := omega) only [↓reduceIte, Option.bind_some, Option.some.injEq, Prod.mk.injEq, and_self, and_true, true_and, eq_self, reduceCtorEq, not_false_eq_true, not_true_eq_false, or_true, true_or, or_false, false_or, bft, nAdd, nMul, nSub, nDiv, nRem, nAm1, nIx, nIn, bI_z, bI_o, ite_b1, ite_b0, zI_add, zI_sub, li0, li1, li2, li3, li4, li5, li6, li7, li8, li9, li10, li11, li12, li13, li14, li15, li16, li17, li18, li19, li20, li21, li22, li23, li24, li25, li26, li27, li28, li29, li30, li31, li32, li33, li34, li35, li36, li37, li40, li42, li43, li45, li47, li48, li57, li59, li60, li61, li62, li64, li80, li91, li93, li97, li99, li100, li122, li182, li199, li255, li300, li380, li400, li999, li1000, li3640, li4100, li65536, li99999, ln1, ln2, ln3, ln100, ln100000, tLe, fLe, tLt, fLt, tEq, fEq, zLe_t, zLe_f, zLt_t, zLt_f, zEq_t, zEq_f, nzLe_t, nzLe_f, znLe_t, znLe_f, nzLt_t, nzLt_f, znLt_t, znLt_f, nzEq_t, nzEq_f, znEq_t, znEq_f, sWord i (by omega), s]
      · rw [decide_eq_false (fun c => e (wc.mp c))] at s
        have ih := sc_go ok hx hq (k := k) (e34 := e34) f d (i + 1) (by omega) (by omega) (by omega)
        simp (disch := omega) only [↓reduceIte, Option.bind_some, Option.some.injEq, Prod.mk.injEq, and_self, and_true, true_and, eq_self, reduceCtorEq, not_false_eq_true, not_true_eq_false, or_true, true_or, or_false, false_or, bft, nAdd, nMul, nSub, nDiv, nRem, nAm1, nIx, nIn, bI_z, bI_o, ite_b1, ite_b0, zI_add, zI_sub, li0, li1, li2, li3, li4, li5, li6, li7, li8, li9, li10, li11, li12, li13, li14, li15, li16, li17, li18, li19, li20, li21, li22, li23, li24, li25, li26, li27, li28, li29, li30, li31, li32, li33, li34, li35, li36, li37, li40, li42, li43, li45, li47, li48, li57, li59, li60, li61, li62, li64, li80, li91, li93, li97, li99, li100, li122, li182, li199, li255, li300, li380, li400, li999, li1000, li3640, li4100, li65536, li99999, ln1, ln2, ln3, ln100, ln100000, tLe, fLe, tLt, fLt, tEq, fEq, zLe_t, zLe_f, zLt_t, zLt_f, zEq_t, zEq_f, nzLe_t, nzLe_f, znLe_t, znLe_f, nzLt_t, nzLt_f, znLt_t, znLt_f, nzEq_t, nzEq_f, znEq_t, znEq_f, sWord i (by omega), s, ih]
theorem isFull_ok {k w : Nat} (hk : k ≤ 40) (hU : okU U) (hw : isCl w = true) (R : rU I U) : mX12_isFull (rP I q 0) (nI (clI w)) (nI k) = some (bI (if k = 40 then true else if (k == 0) = (w == 13) then fullU U w else true)) := by
  have o1 := hU.1.1
  have r3 : I 141 3 = nI (sTh U.1) := R.1 3 (by omega)
  have r5 : I 141 5 = nI (sPa U.1) := R.1 5 (by omega)
  have r6 : I 141 6 = nI (sSuit U.1) := R.1 6 (by omega)
  have r7 : I 141 7 = nI (sRa U.1) := R.1 7 (by omega)
  have hw2 : w = 0 ∨ w = 2 ∨ w = 12 ∨ w = 13 ∨ w = 14 ∨ w = 15 ∨ w = 16 := by
    unfold isCl at hw
    simp at hw
    omega
  unfold mX12_isFull
  by_cases c40 : k = 40
  · rw [if_pos c40, c40]
    rfl
  rw [if_neg c40, if_neg (nNeL (x := 40) (b := 40) rfl (by omega) (by omega) c40)]
  unfold mX12_isFull_15 mX12_isFull_24
  by_cases c0 : k = 0
  · rw [show (k == 0) = true by rw [c0]; rfl]
    rcases hw2 with rfl | rfl | rfl | rfl | rfl | rfl | rfl
    · change _ = some (bI true)
      rw [show clI 0 = 2 from rfl]
      simp (disch := omega) only [↓reduceIte, Option.bind_some, Option.some.injEq, Prod.mk.injEq, and_self, and_true, true_and, eq_self, reduceCtorEq, not_false_eq_true, not_true_eq_false, or_true, true_or, or_false, false_or, bft, nAdd, nMul, nSub, nDiv, nRem, nAm1, nIx, nIn, bI_z, bI_o, ite_b1, ite_b0, zI_add, zI_sub, li0, li1, li2, li3, li4, li5, li6, li7, li8, li9, li10, li11, li12, li13, li14, li15, li16, li17, li18, li19, li20, li21, li22, li23, li24, li25, li26, li27, li28, li29, li30, li31, li32, li33, li34, li35, li36, li37, li40, li42, li43, li45, li47, li48, li57, li59, li60, li61, li62, li64, li80, li91, li93, li97, li99, li100, li122, li182, li199, li255, li300, li380, li400, li999, li1000, li3640, li4100, li65536, li99999, ln1, ln2, ln3, ln100, ln100000, tLe, fLe, tLt, fLt, tEq, fEq, zLe_t, zLe_f, zLt_t, zLt_f, zEq_t, zEq_f, nzLe_t, nzLe_f, znLe_t, znLe_f, nzLt_t, nzLt_f, znLt_t, znLt_f, nzEq_t, nzEq_f, znEq_t, znEq_f, c0]
      rfl
    · change _ = some (bI true)
      rw [show clI 2 = 1 from rfl]
      simp (disch := omega) only [↓reduceIte, Option.bind_some, Option.some.injEq, Prod.mk.injEq, and_self, and_true, true_and, eq_self, reduceCtorEq, not_false_eq_true, not_true_eq_false, or_true, true_or, or_false, false_or, bft, nAdd, nMul, nSub, nDiv, nRem, nAm1, nIx, nIn, bI_z, bI_o, ite_b1, ite_b0, zI_add, zI_sub, li0, li1, li2, li3, li4, li5, li6, li7, li8, li9, li10, li11, li12, li13, li14, li15, li16, li17, li18, li19, li20, li21, li22, li23, li24, li25, li26, li27, li28, li29, li30, li31, li32, li33, li34, li35, li36, li37, li40, li42, li43, li45, li47, li48, li57, li59, li60, li61, li62, li64, li80, li91, li93, li97, li99, li100, li122, li182, li199, li255, li300, li380, li400, li999, li1000, li3640, li4100, li65536, li99999, ln1, ln2, ln3, ln100, ln100000, tLe, fLe, tLt, fLt, tEq, fEq, zLe_t, zLe_f, zLt_t, zLt_f, zEq_t, zEq_f, nzLe_t, nzLe_f, znLe_t, znLe_f, nzLt_t, nzLt_f, znLt_t, znLt_f, nzEq_t, nzEq_f, znEq_t, znEq_f, c0]
      rfl
    · change _ = some (bI true)
      rw [show clI 12 = 5 from rfl]
      simp (disch := omega) only [↓reduceIte, Option.bind_some, Option.some.injEq, Prod.mk.injEq, and_self, and_true, true_and, eq_self, reduceCtorEq, not_false_eq_true, not_true_eq_false, or_true, true_or, or_false, false_or, bft, nAdd, nMul, nSub, nDiv, nRem, nAm1, nIx, nIn, bI_z, bI_o, ite_b1, ite_b0, zI_add, zI_sub, li0, li1, li2, li3, li4, li5, li6, li7, li8, li9, li10, li11, li12, li13, li14, li15, li16, li17, li18, li19, li20, li21, li22, li23, li24, li25, li26, li27, li28, li29, li30, li31, li32, li33, li34, li35, li36, li37, li40, li42, li43, li45, li47, li48, li57, li59, li60, li61, li62, li64, li80, li91, li93, li97, li99, li100, li122, li182, li199, li255, li300, li380, li400, li999, li1000, li3640, li4100, li65536, li99999, ln1, ln2, ln3, ln100, ln100000, tLe, fLe, tLt, fLt, tEq, fEq, zLe_t, zLe_f, zLt_t, zLt_f, zEq_t, zEq_f, nzLe_t, nzLe_f, znLe_t, znLe_f, nzLt_t, nzLt_f, znLt_t, znLt_f, nzEq_t, nzEq_f, znEq_t, znEq_f, c0]
      rfl
    · change _ = some (bI (fullU U 13))
      rw [show clI 13 = 0 from rfl, show fullU U 13 = false from by unfold fullU; simp]
      simp (disch := omega) only [↓reduceIte, Option.bind_some, Option.some.injEq, Prod.mk.injEq, and_self, and_true, true_and, eq_self, reduceCtorEq, not_false_eq_true, not_true_eq_false, or_true, true_or, or_false, false_or, bft, nAdd, nMul, nSub, nDiv, nRem, nAm1, nIx, nIn, bI_z, bI_o, ite_b1, ite_b0, zI_add, zI_sub, li0, li1, li2, li3, li4, li5, li6, li7, li8, li9, li10, li11, li12, li13, li14, li15, li16, li17, li18, li19, li20, li21, li22, li23, li24, li25, li26, li27, li28, li29, li30, li31, li32, li33, li34, li35, li36, li37, li40, li42, li43, li45, li47, li48, li57, li59, li60, li61, li62, li64, li80, li91, li93, li97, li99, li100, li122, li182, li199, li255, li300, li380, li400, li999, li1000, li3640, li4100, li65536, li99999, ln1, ln2, ln3, ln100, ln100000, tLe, fLe, tLt, fLt, tEq, fEq, zLe_t, zLe_f, zLt_t, zLt_f, zEq_t, zEq_f, nzLe_t, nzLe_f, znLe_t, znLe_f, nzLt_t, nzLt_f, znLt_t, znLt_f, nzEq_t, nzEq_f, znEq_t, znEq_f, c0]
      rfl
    · change _ = some (bI true)
      rw [show clI 14 = 3 from rfl]
      simp (disch := omega) only [↓reduceIte, Option.bind_some, Option.some.injEq, Prod.mk.injEq, and_self, and_true, true_and, eq_self, reduceCtorEq, not_false_eq_true, not_true_eq_false, or_true, true_or, or_false, false_or, bft, nAdd, nMul, nSub, nDiv, nRem, nAm1, nIx, nIn, bI_z, bI_o, ite_b1, ite_b0, zI_add, zI_sub, li0, li1, li2, li3, li4, li5, li6, li7, li8, li9, li10, li11, li12, li13, li14, li15, li16, li17, li18, li19, li20, li21, li22, li23, li24, li25, li26, li27, li28, li29, li30, li31, li32, li33, li34, li35, li36, li37, li40, li42, li43, li45, li47, li48, li57, li59, li60, li61, li62, li64, li80, li91, li93, li97, li99, li100, li122, li182, li199, li255, li300, li380, li400, li999, li1000, li3640, li4100, li65536, li99999, ln1, ln2, ln3, ln100, ln100000, tLe, fLe, tLt, fLt, tEq, fEq, zLe_t, zLe_f, zLt_t, zLt_f, zEq_t, zEq_f, nzLe_t, nzLe_f, znLe_t, znLe_f, nzLt_t, nzLt_f, znLt_t, znLt_f, nzEq_t, nzEq_f, znEq_t, znEq_f, c0]
      rfl
    · change _ = some (bI true)
      rw [show clI 15 = 4 from rfl]
      simp (disch := omega) only [↓reduceIte, Option.bind_some, Option.some.injEq, Prod.mk.injEq, and_self, and_true, true_and, eq_self, reduceCtorEq, not_false_eq_true, not_true_eq_false, or_true, true_or, or_false, false_or, bft, nAdd, nMul, nSub, nDiv, nRem, nAm1, nIx, nIn, bI_z, bI_o, ite_b1, ite_b0, zI_add, zI_sub, li0, li1, li2, li3, li4, li5, li6, li7, li8, li9, li10, li11, li12, li13, li14, li15, li16, li17, li18, li19, li20, li21, li22, li23, li24, li25, li26, li27, li28, li29, li30, li31, li32, li33, li34, li35, li36, li37, li40, li42, li43, li45, li47, li48, li57, li59, li60, li61, li62, li64, li80, li91, li93, li97, li99, li100, li122, li182, li199, li255, li300, li380, li400, li999, li1000, li3640, li4100, li65536, li99999, ln1, ln2, ln3, ln100, ln100000, tLe, fLe, tLt, fLt, tEq, fEq, zLe_t, zLe_f, zLt_t, zLt_f, zEq_t, zEq_f, nzLe_t, nzLe_f, znLe_t, znLe_f, nzLt_t, nzLt_f, znLt_t, znLt_f, nzEq_t, nzEq_f, znEq_t, znEq_f, c0]
      rfl
    · change _ = some (bI true)
      rw [show clI 16 = 6 from rfl]
      simp (disch := omega) only [↓reduceIte, Option.bind_some, Option.some.injEq, Prod.mk.injEq, and_self, and_true, true_and, eq_self, reduceCtorEq, not_false_eq_true, not_true_eq_false, or_true, true_or, or_false, false_or, bft, nAdd, nMul, nSub, nDiv, nRem, nAm1, nIx, nIn, bI_z, bI_o, ite_b1, ite_b0, zI_add, zI_sub, li0, li1, li2, li3, li4, li5, li6, li7, li8, li9, li10, li11, li12, li13, li14, li15, li16, li17, li18, li19, li20, li21, li22, li23, li24, li25, li26, li27, li28, li29, li30, li31, li32, li33, li34, li35, li36, li37, li40, li42, li43, li45, li47, li48, li57, li59, li60, li61, li62, li64, li80, li91, li93, li97, li99, li100, li122, li182, li199, li255, li300, li380, li400, li999, li1000, li3640, li4100, li65536, li99999, ln1, ln2, ln3, ln100, ln100000, tLe, fLe, tLt, fLt, tEq, fEq, zLe_t, zLe_f, zLt_t, zLt_f, zEq_t, zEq_f, nzLe_t, nzLe_f, znLe_t, znLe_f, nzLt_t, nzLt_f, znLt_t, znLt_f, nzEq_t, nzEq_f, znEq_t, znEq_f, c0]
      rfl
  · rw [show (k == 0) = false from beq_false_of_ne c0]
    rcases hw2 with rfl | rfl | rfl | rfl | rfl | rfl | rfl
    · change _ = some (bI (fullU U 0))
      rw [show clI 0 = 2 from rfl]
      by_cases e : sPa U.1 = 4
      · rw [show fullU U 0 = true from by unfold fullU; simp [e]]
        simp (disch := omega) only [↓reduceIte, Option.bind_some, Option.some.injEq, Prod.mk.injEq, and_self, and_true, true_and, eq_self, reduceCtorEq, not_false_eq_true, not_true_eq_false, or_true, true_or, or_false, false_or, bft, nAdd, nMul, nSub, nDiv, nRem, nAm1, nIx, nIn, bI_z, bI_o, ite_b1, ite_b0, zI_add, zI_sub, li0, li1, li2, li3, li4, li5, li6, li7, li8, li9, li10, li11, li12, li13, li14, li15, li16, li17, li18, li19, li20, li21, li22, li23, li24, li25, li26, li27, li28, li29, li30, li31, li32, li33, li34, li35, li36, li37, li40, li42, li43, li45, li47, li48, li57, li59, li60, li61, li62, li64, li80, li91, li93, li97, li99, li100, li122, li182, li199, li255, li300, li380, li400, li999, li1000, li3640, li4100, li65536, li99999, ln1, ln2, ln3, ln100, ln100000, tLe, fLe, tLt, fLt, tEq, fEq, zLe_t, zLe_f, zLt_t, zLt_f, zEq_t, zEq_f, nzLe_t, nzLe_f, znLe_t, znLe_f, nzLt_t, nzLt_f, znLt_t, znLt_f, nzEq_t, nzEq_f, znEq_t, znEq_f, rP_o, r5, e]
        rfl
      · rw [show fullU U 0 = false from by unfold fullU; simp; omega]
        simp (disch := omega) only [↓reduceIte, Option.bind_some, Option.some.injEq, Prod.mk.injEq, and_self, and_true, true_and, eq_self, reduceCtorEq, not_false_eq_true, not_true_eq_false, or_true, true_or, or_false, false_or, bft, nAdd, nMul, nSub, nDiv, nRem, nAm1, nIx, nIn, bI_z, bI_o, ite_b1, ite_b0, zI_add, zI_sub, li0, li1, li2, li3, li4, li5, li6, li7, li8, li9, li10, li11, li12, li13, li14, li15, li16, li17, li18, li19, li20, li21, li22, li23, li24, li25, li26, li27, li28, li29, li30, li31, li32, li33, li34, li35, li36, li37, li40, li42, li43, li45, li47, li48, li57, li59, li60, li61, li62, li64, li80, li91, li93, li97, li99, li100, li122, li182, li199, li255, li300, li380, li400, li999, li1000, li3640, li4100, li65536, li99999, ln1, ln2, ln3, ln100, ln100000, tLe, fLe, tLt, fLt, tEq, fEq, zLe_t, zLe_f, zLt_t, zLt_f, zEq_t, zEq_f, nzLe_t, nzLe_f, znLe_t, znLe_f, nzLt_t, nzLt_f, znLt_t, znLt_f, nzEq_t, nzEq_f, znEq_t, znEq_f, rP_o, r5]
        rfl
    · change _ = some (bI (fullU U 2))
      rw [show clI 2 = 1 from rfl]
      by_cases e : sTh U.1 = 4
      · rw [show fullU U 2 = true from by unfold fullU; simp [e]]
        simp (disch := omega) only [↓reduceIte, Option.bind_some, Option.some.injEq, Prod.mk.injEq, and_self, and_true, true_and, eq_self, reduceCtorEq, not_false_eq_true, not_true_eq_false, or_true, true_or, or_false, false_or, bft, nAdd, nMul, nSub, nDiv, nRem, nAm1, nIx, nIn, bI_z, bI_o, ite_b1, ite_b0, zI_add, zI_sub, li0, li1, li2, li3, li4, li5, li6, li7, li8, li9, li10, li11, li12, li13, li14, li15, li16, li17, li18, li19, li20, li21, li22, li23, li24, li25, li26, li27, li28, li29, li30, li31, li32, li33, li34, li35, li36, li37, li40, li42, li43, li45, li47, li48, li57, li59, li60, li61, li62, li64, li80, li91, li93, li97, li99, li100, li122, li182, li199, li255, li300, li380, li400, li999, li1000, li3640, li4100, li65536, li99999, ln1, ln2, ln3, ln100, ln100000, tLe, fLe, tLt, fLt, tEq, fEq, zLe_t, zLe_f, zLt_t, zLt_f, zEq_t, zEq_f, nzLe_t, nzLe_f, znLe_t, znLe_f, nzLt_t, nzLt_f, znLt_t, znLt_f, nzEq_t, nzEq_f, znEq_t, znEq_f, rP_o, r3, e]
        rfl
      · rw [show fullU U 2 = false from by unfold fullU; simp; omega]
        simp (disch := omega) only [↓reduceIte, Option.bind_some, Option.some.injEq, Prod.mk.injEq, and_self, and_true, true_and, eq_self, reduceCtorEq, not_false_eq_true, not_true_eq_false, or_true, true_or, or_false, false_or, bft, nAdd, nMul, nSub, nDiv, nRem, nAm1, nIx, nIn, bI_z, bI_o, ite_b1, ite_b0, zI_add, zI_sub, li0, li1, li2, li3, li4, li5, li6, li7, li8, li9, li10, li11, li12, li13, li14, li15, li16, li17, li18, li19, li20, li21, li22, li23, li24, li25, li26, li27, li28, li29, li30, li31, li32, li33, li34, li35, li36, li37, li40, li42, li43, li45, li47, li48, li57, li59, li60, li61, li62, li64, li80, li91, li93, li97, li99, li100, li122, li182, li199, li255, li300, li380, li400, li999, li1000, li3640, li4100, li65536, li99999, ln1, ln2, ln3, ln100, ln100000, tLe, fLe, tLt, fLt, tEq, fEq, zLe_t, zLe_f, zLt_t, zLt_f, zEq_t, zEq_f, nzLe_t, nzLe_f, znLe_t, znLe_f, nzLt_t, nzLt_f, znLt_t, znLt_f, nzEq_t, nzEq_f, znEq_t, znEq_f, rP_o, r3]
        rfl
    · change _ = some (bI (fullU U 12))
      rw [show clI 12 = 5 from rfl]
      by_cases e : sRa U.1 = 5
      · rw [show fullU U 12 = true from by unfold fullU; simp [e]]
        simp (disch := omega) only [↓reduceIte, Option.bind_some, Option.some.injEq, Prod.mk.injEq, and_self, and_true, true_and, eq_self, reduceCtorEq, not_false_eq_true, not_true_eq_false, or_true, true_or, or_false, false_or, bft, nAdd, nMul, nSub, nDiv, nRem, nAm1, nIx, nIn, bI_z, bI_o, ite_b1, ite_b0, zI_add, zI_sub, li0, li1, li2, li3, li4, li5, li6, li7, li8, li9, li10, li11, li12, li13, li14, li15, li16, li17, li18, li19, li20, li21, li22, li23, li24, li25, li26, li27, li28, li29, li30, li31, li32, li33, li34, li35, li36, li37, li40, li42, li43, li45, li47, li48, li57, li59, li60, li61, li62, li64, li80, li91, li93, li97, li99, li100, li122, li182, li199, li255, li300, li380, li400, li999, li1000, li3640, li4100, li65536, li99999, ln1, ln2, ln3, ln100, ln100000, tLe, fLe, tLt, fLt, tEq, fEq, zLe_t, zLe_f, zLt_t, zLt_f, zEq_t, zEq_f, nzLe_t, nzLe_f, znLe_t, znLe_f, nzLt_t, nzLt_f, znLt_t, znLt_f, nzEq_t, nzEq_f, znEq_t, znEq_f, rP_o, r7, e]
        rfl
      · rw [show fullU U 12 = false from by unfold fullU; simp; omega]
        simp (disch := omega) only [↓reduceIte, Option.bind_some, Option.some.injEq, Prod.mk.injEq, and_self, and_true, true_and, eq_self, reduceCtorEq, not_false_eq_true, not_true_eq_false, or_true, true_or, or_false, false_or, bft, nAdd, nMul, nSub, nDiv, nRem, nAm1, nIx, nIn, bI_z, bI_o, ite_b1, ite_b0, zI_add, zI_sub, li0, li1, li2, li3, li4, li5, li6, li7, li8, li9, li10, li11, li12, li13, li14, li15, li16, li17, li18, li19, li20, li21, li22, li23, li24, li25, li26, li27, li28, li29, li30, li31, li32, li33, li34, li35, li36, li37, li40, li42, li43, li45, li47, li48, li57, li59, li60, li61, li62, li64, li80, li91, li93, li97, li99, li100, li122, li182, li199, li255, li300, li380, li400, li999, li1000, li3640, li4100, li65536, li99999, ln1, ln2, ln3, ln100, ln100000, tLe, fLe, tLt, fLt, tEq, fEq, zLe_t, zLe_f, zLt_t, zLt_f, zEq_t, zEq_f, nzLe_t, nzLe_f, znLe_t, znLe_f, nzLt_t, nzLt_f, znLt_t, znLt_f, nzEq_t, nzEq_f, znEq_t, znEq_f, rP_o, r7]
        rfl
    · change _ = some (bI true)
      rw [show clI 13 = 0 from rfl]
      simp (disch := omega) only [↓reduceIte, Option.bind_some, Option.some.injEq, Prod.mk.injEq, and_self, and_true, true_and, eq_self, reduceCtorEq, not_false_eq_true, not_true_eq_false, or_true, true_or, or_false, false_or, bft, nAdd, nMul, nSub, nDiv, nRem, nAm1, nIx, nIn, bI_z, bI_o, ite_b1, ite_b0, zI_add, zI_sub, li0, li1, li2, li3, li4, li5, li6, li7, li8, li9, li10, li11, li12, li13, li14, li15, li16, li17, li18, li19, li20, li21, li22, li23, li24, li25, li26, li27, li28, li29, li30, li31, li32, li33, li34, li35, li36, li37, li40, li42, li43, li45, li47, li48, li57, li59, li60, li61, li62, li64, li80, li91, li93, li97, li99, li100, li122, li182, li199, li255, li300, li380, li400, li999, li1000, li3640, li4100, li65536, li99999, ln1, ln2, ln3, ln100, ln100000, tLe, fLe, tLt, fLt, tEq, fEq, zLe_t, zLe_f, zLt_t, zLt_f, zEq_t, zEq_f, nzLe_t, nzLe_f, znLe_t, znLe_f, nzLt_t, nzLt_f, znLt_t, znLt_f, nzEq_t, nzEq_f, znEq_t, znEq_f]
      rfl
    · change _ = some (bI (fullU U 14))
      rw [show clI 14 = 3 from rfl, show fullU U 14 = false from by unfold fullU; simp]
      simp (disch := omega) only [↓reduceIte, Option.bind_some, Option.some.injEq, Prod.mk.injEq, and_self, and_true, true_and, eq_self, reduceCtorEq, not_false_eq_true, not_true_eq_false, or_true, true_or, or_false, false_or, bft, nAdd, nMul, nSub, nDiv, nRem, nAm1, nIx, nIn, bI_z, bI_o, ite_b1, ite_b0, zI_add, zI_sub, li0, li1, li2, li3, li4, li5, li6, li7, li8, li9, li10, li11, li12, li13, li14, li15, li16, li17, li18, li19, li20, li21, li22, li23, li24, li25, li26, li27, li28, li29, li30, li31, li32, li33, li34, li35, li36, li37, li40, li42, li43, li45, li47, li48, li57, li59, li60, li61, li62, li64, li80, li91, li93, li97, li99, li100, li122, li182, li199, li255, li300, li380, li400, li999, li1000, li3640, li4100, li65536, li99999, ln1, ln2, ln3, ln100, ln100000, tLe, fLe, tLt, fLt, tEq, fEq, zLe_t, zLe_f, zLt_t, zLt_f, zEq_t, zEq_f, nzLe_t, nzLe_f, znLe_t, znLe_f, nzLt_t, nzLt_f, znLt_t, znLt_f, nzEq_t, nzEq_f, znEq_t, znEq_f]
      rfl
    · change _ = some (bI (fullU U 15))
      rw [show clI 15 = 4 from rfl, show fullU U 15 = false from by unfold fullU; simp]
      simp (disch := omega) only [↓reduceIte, Option.bind_some, Option.some.injEq, Prod.mk.injEq, and_self, and_true, true_and, eq_self, reduceCtorEq, not_false_eq_true, not_true_eq_false, or_true, true_or, or_false, false_or, bft, nAdd, nMul, nSub, nDiv, nRem, nAm1, nIx, nIn, bI_z, bI_o, ite_b1, ite_b0, zI_add, zI_sub, li0, li1, li2, li3, li4, li5, li6, li7, li8, li9, li10, li11, li12, li13, li14, li15, li16, li17, li18, li19, li20, li21, li22, li23, li24, li25, li26, li27, li28, li29, li30, li31, li32, li33, li34, li35, li36, li37, li40, li42, li43, li45, li47, li48, li57, li59, li60, li61, li62, li64, li80, li91, li93, li97, li99, li100, li122, li182, li199, li255, li300, li380, li400, li999, li1000, li3640, li4100, li65536, li99999, ln1, ln2, ln3, ln100, ln100000, tLe, fLe, tLt, fLt, tEq, fEq, zLe_t, zLe_f, zLt_t, zLt_f, zEq_t, zEq_f, nzLe_t, nzLe_f, znLe_t, znLe_f, nzLt_t, nzLt_f, znLt_t, znLt_f, nzEq_t, nzEq_f, znEq_t, znEq_f]
      rfl
    · change _ = some (bI (fullU U 16))
      rw [show clI 16 = 6 from rfl]
      by_cases e : sSuit U.1 = 1
      · rw [show fullU U 16 = true from by unfold fullU; simp [e]]
        simp (disch := omega) only [↓reduceIte, Option.bind_some, Option.some.injEq, Prod.mk.injEq, and_self, and_true, true_and, eq_self, reduceCtorEq, not_false_eq_true, not_true_eq_false, or_true, true_or, or_false, false_or, bft, nAdd, nMul, nSub, nDiv, nRem, nAm1, nIx, nIn, bI_z, bI_o, ite_b1, ite_b0, zI_add, zI_sub, li0, li1, li2, li3, li4, li5, li6, li7, li8, li9, li10, li11, li12, li13, li14, li15, li16, li17, li18, li19, li20, li21, li22, li23, li24, li25, li26, li27, li28, li29, li30, li31, li32, li33, li34, li35, li36, li37, li40, li42, li43, li45, li47, li48, li57, li59, li60, li61, li62, li64, li80, li91, li93, li97, li99, li100, li122, li182, li199, li255, li300, li380, li400, li999, li1000, li3640, li4100, li65536, li99999, ln1, ln2, ln3, ln100, ln100000, tLe, fLe, tLt, fLt, tEq, fEq, zLe_t, zLe_f, zLt_t, zLt_f, zEq_t, zEq_f, nzLe_t, nzLe_f, znLe_t, znLe_f, nzLt_t, nzLt_f, znLt_t, znLt_f, nzEq_t, nzEq_f, znEq_t, znEq_f, rP_o, r6, e]
        rfl
      · rw [show fullU U 16 = false from by unfold fullU; simp; omega]
        simp (disch := omega) only [↓reduceIte, Option.bind_some, Option.some.injEq, Prod.mk.injEq, and_self, and_true, true_and, eq_self, reduceCtorEq, not_false_eq_true, not_true_eq_false, or_true, true_or, or_false, false_or, bft, nAdd, nMul, nSub, nDiv, nRem, nAm1, nIx, nIn, bI_z, bI_o, ite_b1, ite_b0, zI_add, zI_sub, li0, li1, li2, li3, li4, li5, li6, li7, li8, li9, li10, li11, li12, li13, li14, li15, li16, li17, li18, li19, li20, li21, li22, li23, li24, li25, li26, li27, li28, li29, li30, li31, li32, li33, li34, li35, li36, li37, li40, li42, li43, li45, li47, li48, li57, li59, li60, li61, li62, li64, li80, li91, li93, li97, li99, li100, li122, li182, li199, li255, li300, li380, li400, li999, li1000, li3640, li4100, li65536, li99999, ln1, ln2, ln3, ln100, ln100000, tLe, fLe, tLt, fLt, tEq, fEq, zLe_t, zLe_f, zLt_t, zLt_f, zEq_t, zEq_f, nzLe_t, nzLe_f, znLe_t, znLe_f, nzLt_t, nzLt_f, znLt_t, znLt_f, nzEq_t, nzEq_f, znEq_t, znEq_f, rP_o, r6]
        rfl
def goS (T : txT) (q1 : Nat) : Nat × Nat := if kd T q1 = 36 then (0, 0) else if kd T q1 = 32 then (1, 0) else (0, 1 + 8 * q1)
theorem goes_on (ok : okT T) (hx : txR I T) (hp : p ≤ T.2) (hq : sk T p = q) : mX12_goesOn (rP I p 0) = some (nI (goS T q).1, rP I (q + 1) (goS T q).2) := by
  have hn := ok.1
  have hqn := sk_n (T := T) hp
  rw [hq] at hqn
  have b := blanks_ok (I := I) (f := 0) ok hx (p := p) (by omega)
  rw [hq] at b
  have sg := sign_ok (I := I) (f := 0) ok hx (p := q) (by omega)
  have sr := sgn_rng (T := T) (q := q)
  unfold mX12_goesOn mX12_goesOn_40 mX12_goesOn_62 mX12_goesOn_63 goS
  by_cases c36 : kd T q = 36
  · have h := kd_36.mp c36
    rw [if_pos c36]
    simp (disch := omega) only [↓reduceIte, Option.bind_some, Option.some.injEq, Prod.mk.injEq, and_self, and_true, true_and, eq_self, reduceCtorEq, not_false_eq_true, not_true_eq_false, or_true, true_or, or_false, false_or, bft, nAdd, nMul, nSub, nDiv, nRem, nAm1, nIx, nIn, bI_z, bI_o, ite_b1, ite_b0, zI_add, zI_sub, li0, li1, li2, li3, li4, li5, li6, li7, li8, li9, li10, li11, li12, li13, li14, li15, li16, li17, li18, li19, li20, li21, li22, li23, li24, li25, li26, li27, li28, li29, li30, li31, li32, li33, li34, li35, li36, li37, li40, li42, li43, li45, li47, li48, li57, li59, li60, li61, li62, li64, li80, li91, li93, li97, li99, li100, li122, li182, li199, li255, li300, li380, li400, li999, li1000, li3640, li4100, li65536, li99999, ln1, ln2, ln3, ln100, ln100000, tLe, fLe, tLt, fLt, tEq, fEq, zLe_t, zLe_f, zLt_t, zLt_f, zEq_t, zEq_f, nzLe_t, nzLe_f, znLe_t, znLe_f, nzLt_t, nzLt_f, znLt_t, znLt_f, nzEq_t, nzEq_f, znEq_t, znEq_f, b, rP_29, rP_28, rP_o, hx.1, rP_s28]
  · have h : q < T.2 := by
      rcases Nat.lt_or_ge q T.2 with c | c
      · exact c
      · exact absurd (kd_end c) c36
    rw [if_neg c36]
    by_cases c32 : kd T q = 32
    · have e := (kd_sg (q := q) ok (c := 59) (k := 32) rfl (by omega)).mp c32
      rw [if_pos c32]
      rw [e] at sg
      simp (disch := omega) only [↓reduceIte, Option.bind_some, Option.some.injEq, Prod.mk.injEq, and_self, and_true, true_and, eq_self, reduceCtorEq, not_false_eq_true, not_true_eq_false, or_true, true_or, or_false, false_or, bft, nAdd, nMul, nSub, nDiv, nRem, nAm1, nIx, nIn, bI_z, bI_o, ite_b1, ite_b0, zI_add, zI_sub, li0, li1, li2, li3, li4, li5, li6, li7, li8, li9, li10, li11, li12, li13, li14, li15, li16, li17, li18, li19, li20, li21, li22, li23, li24, li25, li26, li27, li28, li29, li30, li31, li32, li33, li34, li35, li36, li37, li40, li42, li43, li45, li47, li48, li57, li59, li60, li61, li62, li64, li80, li91, li93, li97, li99, li100, li122, li182, li199, li255, li300, li380, li400, li999, li1000, li3640, li4100, li65536, li99999, ln1, ln2, ln3, ln100, ln100000, tLe, fLe, tLt, fLt, tEq, fEq, zLe_t, zLe_f, zLt_t, zLt_f, zEq_t, zEq_f, nzLe_t, nzLe_f, znLe_t, znLe_f, nzLt_t, nzLt_f, znLt_t, znLt_f, nzEq_t, nzEq_f, znEq_t, znEq_f, b, rP_29, rP_28, rP_o, hx.1, rP_s28, sg, show zI 59 = nI 59 from rfl]
    · have e : sgn T q ≠ 59 := fun c => c32 ((kd_sg (q := q) ok (c := 59) (k := 32) rfl (by omega)).mpr c)
      rw [if_neg c32]
      have fa := fails_ok (I := I) (p := q) (f := 0) (k := 0) (a := q) (by omega) (by omega) (by omega)
      rw [show fl 0 (1 + 8 * q + 0) = 1 + 8 * q from rfl] at fa
      simp (disch := omega) only [↓reduceIte, Option.bind_some, Option.some.injEq, Prod.mk.injEq, and_self, and_true, true_and, eq_self, reduceCtorEq, not_false_eq_true, not_true_eq_false, or_true, true_or, or_false, false_or, bft, nAdd, nMul, nSub, nDiv, nRem, nAm1, nIx, nIn, bI_z, bI_o, ite_b1, ite_b0, zI_add, zI_sub, li0, li1, li2, li3, li4, li5, li6, li7, li8, li9, li10, li11, li12, li13, li14, li15, li16, li17, li18, li19, li20, li21, li22, li23, li24, li25, li26, li27, li28, li29, li30, li31, li32, li33, li34, li35, li36, li37, li40, li42, li43, li45, li47, li48, li57, li59, li60, li61, li62, li64, li80, li91, li93, li97, li99, li100, li122, li182, li199, li255, li300, li380, li400, li999, li1000, li3640, li4100, li65536, li99999, ln1, ln2, ln3, ln100, ln100000, tLe, fLe, tLt, fLt, tEq, fEq, zLe_t, zLe_f, zLt_t, zLt_f, zEq_t, zEq_f, nzLe_t, nzLe_f, znLe_t, znLe_f, nzLt_t, nzLt_f, znLt_t, znLt_f, nzEq_t, nzEq_f, znEq_t, znEq_f, b, rP_29, rP_28, rP_o, hx.1, rP_s28, sg, fa]
theorem goes_f {f : Nat} (ok : okT T) (hx : txR I T) (hp : p ≤ T.2) (hf : 0 < f) (hf2 : f < 100000) : mX12_goesOn (rP I p f) = some (nI 0, rP I (sk T p + 1) f) := by
  have hn := ok.1
  have hqn := sk_n (T := T) hp
  have b := blanks_ok (I := I) (f := f) ok hx (p := p) (by omega)
  unfold mX12_goesOn mX12_goesOn_40 mX12_goesOn_62 mX12_goesOn_63
  simp (disch := omega) only [↓reduceIte, Option.bind_some, Option.some.injEq, Prod.mk.injEq, and_self, and_true, true_and, eq_self, reduceCtorEq, not_false_eq_true, not_true_eq_false, or_true, true_or, or_false, false_or, bft, nAdd, nMul, nSub, nDiv, nRem, nAm1, nIx, nIn, bI_z, bI_o, ite_b1, ite_b0, zI_add, zI_sub, li0, li1, li2, li3, li4, li5, li6, li7, li8, li9, li10, li11, li12, li13, li14, li15, li16, li17, li18, li19, li20, li21, li22, li23, li24, li25, li26, li27, li28, li29, li30, li31, li32, li33, li34, li35, li36, li37, li40, li42, li43, li45, li47, li48, li57, li59, li60, li61, li62, li64, li80, li91, li93, li97, li99, li100, li122, li182, li199, li255, li300, li380, li400, li999, li1000, li3640, li4100, li65536, li99999, ln1, ln2, ln3, ln100, ln100000, tLe, fLe, tLt, fLt, tEq, fEq, zLe_t, zLe_f, zLt_t, zLt_f, zEq_t, zEq_f, nzLe_t, nzLe_f, znLe_t, znLe_f, nzLt_t, nzLt_f, znLt_t, znLt_f, nzEq_t, nzEq_f, znEq_t, znEq_f, b, rP_29, rP_28, rP_s28]
def rFin (T : txT) (I : Nat → Nat → Int32) (r : Except Nat uT) (x : Option (Nat → Nat → Int32)) : Prop := match r with
  | .error e => (0 < e ∧ e < 10000) ∧ ∃ J p, x = some (rP J p e) ∧ J 123 27 = nI 0 ∧ J 142 0 = I 142 0 ∧ ∀ b k, b < 141 ∨ 149 < b → b ≠ 123 ∨ k ≠ 27 → J b k = I b k
  | .ok U => ∃ J p, x = some (rP J p 0) ∧ J 123 27 = nI 0 ∧ rU J U ∧ J 142 0 = I 142 0 ∧ ∀ b k, b < 141 ∨ 149 < b → b ≠ 123 ∨ k ≠ 27 → J b k = I b k
theorem rSt_go (ok : okT T) : ∀ (m k f q p : Nat) (U : uT) (I : Nat → Nat → Int32), k + m = 40 → m + 2 < f → okU U → txR I T → rU I U → p ≤ T.2 → sk T p = q → rFin T I (rdS T (m + 1) k q U) (mX12_readsAll_50 f (rP I p 0) (nI k) (nI 1))
  | m, k, 0, q, p, U, I, _, h, _, _, _, _, _ => absurd h (by omega)
  | m, k, f + 1, q, p, U, I, h1, h2, hU, hx, R, hp, hq => by
    have hn := ok.1
    have hqn := sk_n (T := T) hp
    rw [hq] at hqn
    have kl := kd_lt37 (T := T) (q := q)
    have b := blanks_ok (I := I) (f := 0) ok hx (p := p) (by omega)
    rw [hq] at b
    obtain ⟨f, rfl⟩ : ∃ g, f = g + 1 := ⟨f - 1, by omega⟩
    have sc := sc_go (I := I) ok hx hqn (k := nI k) (e34 := fun I_9 a1_9 a2_9 a3_9 => mX12_streetClause_34 I_9 a1_9 a2_9 a3_9) xf 7 0 (by unfold xf; omega) (by omega) (by omega)
    have sc2 : mX12_streetClause (rP I p 0) (nI k) = mX12_streetClause_34 (rP I q 0) (nI k) (nI q) (nI (clI (kd T q))) := by
      unfold mX12_streetClause
      rw [b, Option.bind_some, rP_28]
      exact sc
    have endF : ∀ (K : Nat → Nat → Int32) (p1 e : Nat), (0 < e ∧ e < 10000) → p1 ≤ T.2 → frR I K → mX12_streetClause (rP I p 0) (nI k) = some (rP K p1 e) → rFin T I (.error e) (mX12_readsAll_50 (f + 1 + 1) (rP I p 0) (nI k) (nI 1)) := by
      intro K p1 e he hp1 fr hm
      have g := goes_f ok (txR_fr fr hx) hp1 he.1 (by omega)
      refine ⟨he, xu K 123 27 (nI 0), sk T p1 + 1, ?_, xu_s, by rw [xu_r (by decide)]; exact fr.2, fun b k hb hk => by rw [xu_off (by omega), fr.1 b hb]⟩
      rw [mX12_readsAll_50]
      simp (disch := omega) only [↓reduceIte, Option.bind_some, Option.some.injEq, Prod.mk.injEq, and_self, and_true, true_and, eq_self, reduceCtorEq, not_false_eq_true, not_true_eq_false, or_true, true_or, or_false, false_or, bft, nAdd, nMul, nSub, nDiv, nRem, nAm1, nIx, nIn, bI_z, bI_o, ite_b1, ite_b0, zI_add, zI_sub, li0, li1, li2, li3, li4, li5, li6, li7, li8, li9, li10, li11, li12, li13, li14, li15, li16, li17, li18, li19, li20, li21, li22, li23, li24, li25, li26, li27, li28, li29, li30, li31, li32, li33, li34, li35, li36, li37, li40, li42, li43, li45, li47, li48, li57, li59, li60, li61, li62, li64, li80, li91, li93, li97, li99, li100, li122, li182, li199, li255, li300, li380, li400, li999, li1000, li3640, li4100, li65536, li99999, ln1, ln2, ln3, ln100, ln100000, tLe, fLe, tLt, fLt, tEq, fEq, zLe_t, zLe_f, zLt_t, zLt_f, zEq_t, zEq_f, nzLe_t, nzLe_f, znLe_t, znLe_f, nzLt_t, nzLt_f, znLt_t, znLt_f, nzEq_t, nzEq_f, znEq_t, znEq_f, hm, g]
      rw [mX12_readsAll_50]
      simp (disch := omega) only [↓reduceIte, Option.bind_some, Option.some.injEq, Prod.mk.injEq, and_self, and_true, true_and, eq_self, reduceCtorEq, not_false_eq_true, not_true_eq_false, or_true, true_or, or_false, false_or, bft, nAdd, nMul, nSub, nDiv, nRem, nAm1, nIx, nIn, bI_z, bI_o, ite_b1, ite_b0, zI_add, zI_sub, li0, li1, li2, li3, li4, li5, li6, li7, li8, li9, li10, li11, li12, li13, li14, li15, li16, li17, li18, li19, li20, li21, li22, li23, li24, li25, li26, li27, li28, li29, li30, li31, li32, li33, li34, li35, li36, li37, li40, li42, li43, li45, li47, li48, li57, li59, li60, li61, li62, li64, li80, li91, li93, li97, li99, li100, li122, li182, li199, li255, li300, li380, li400, li999, li1000, li3640, li4100, li65536, li99999, ln1, ln2, ln3, ln100, ln100000, tLe, fLe, tLt, fLt, tEq, fEq, zLe_t, zLe_f, zLt_t, zLt_f, zEq_t, zEq_f, nzLe_t, nzLe_f, znLe_t, znLe_f, nzLt_t, nzLt_f, znLt_t, znLt_f, nzEq_t, nzEq_f, znEq_t, znEq_f, rP_xu]
    rw [rdS]
    cases hc : isCl (kd T q) with
    | false =>
      rw [if_neg (by decide)]
      have e7 := (clI_7 (kd T q) kl).mpr hc
      have fa := fails_ok (I := I) (p := q) (f := 0) (k := 0) (a := q) (by omega) (by omega) (by omega)
      rw [show fl 0 (1 + 8 * q + 0) = 1 + 8 * q from rfl] at fa
      refine endF I q _ (by omega) hqn frR_rfl ?_
      rw [sc2, e7]
      unfold mX12_streetClause_34
      simp (disch := omega) only [↓reduceIte, Option.bind_some, Option.some.injEq, Prod.mk.injEq, and_self, and_true, true_and, eq_self, reduceCtorEq, not_false_eq_true, not_true_eq_false, or_true, true_or, or_false, false_or, bft, nAdd, nMul, nSub, nDiv, nRem, nAm1, nIx, nIn, bI_z, bI_o, ite_b1, ite_b0, zI_add, zI_sub, li0, li1, li2, li3, li4, li5, li6, li7, li8, li9, li10, li11, li12, li13, li14, li15, li16, li17, li18, li19, li20, li21, li22, li23, li24, li25, li26, li27, li28, li29, li30, li31, li32, li33, li34, li35, li36, li37, li40, li42, li43, li45, li47, li48, li57, li59, li60, li61, li62, li64, li80, li91, li93, li97, li99, li100, li122, li182, li199, li255, li300, li380, li400, li999, li1000, li3640, li4100, li65536, li99999, ln1, ln2, ln3, ln100, ln100000, tLe, fLe, tLt, fLt, tEq, fEq, zLe_t, zLe_f, zLt_t, zLt_f, zEq_t, zEq_f, nzLe_t, nzLe_f, znLe_t, znLe_f, nzLt_t, nzLt_f, znLt_t, znLt_f, nzEq_t, nzEq_f, znEq_t, znEq_f, fa]
    | true =>
      rw [if_pos rfl]
      have n7 : clI (kd T q) ≠ 7 := fun c => by rw [(clI_7 (kd T q) kl).mp c] at hc; cases hc
      have c7 := clI_le (kd T q)
      have isf := isFull_ok (I := I) (q := q) (k := k) (by omega) hU hc R
      have fa := fails_ok (I := I) (p := q) (f := 0) (k := 4) (a := q) (by omega) (by omega) (by omega)
      rw [show fl 0 (1 + 8 * q + 4) = 1 + 8 * q + 4 from rfl] at fa
      have full : mX12_isFull (rP I q 0) (nI (clI (kd T q))) (nI k) = some (bI true) → rFin T I (.error (1 + 8 * q + 4)) (mX12_readsAll_50 (f + 1 + 1) (rP I p 0) (nI k) (nI 1)) := fun ht => by
        refine endF I q _ (by omega) hqn frR_rfl ?_
        rw [sc2]
        unfold mX12_streetClause_34
        simp (disch := omega) only [↓reduceIte, Option.bind_some, Option.some.injEq, Prod.mk.injEq, and_self, and_true, true_and, eq_self, reduceCtorEq, not_false_eq_true, not_true_eq_false, or_true, true_or, or_false, false_or, bft, nAdd, nMul, nSub, nDiv, nRem, nAm1, nIx, nIn, bI_z, bI_o, ite_b1, ite_b0, zI_add, zI_sub, li0, li1, li2, li3, li4, li5, li6, li7, li8, li9, li10, li11, li12, li13, li14, li15, li16, li17, li18, li19, li20, li21, li22, li23, li24, li25, li26, li27, li28, li29, li30, li31, li32, li33, li34, li35, li36, li37, li40, li42, li43, li45, li47, li48, li57, li59, li60, li61, li62, li64, li80, li91, li93, li97, li99, li100, li122, li182, li199, li255, li300, li380, li400, li999, li1000, li3640, li4100, li65536, li99999, ln1, ln2, ln3, ln100, ln100000, tLe, fLe, tLt, fLt, tEq, fEq, zLe_t, zLe_f, zLt_t, zLt_f, zEq_t, zEq_f, nzLe_t, nzLe_f, znLe_t, znLe_f, nzLt_t, nzLt_f, znLt_t, znLt_f, nzEq_t, nzEq_f, znEq_t, znEq_f, ht, fa]
      by_cases ck : k = 40
      · rw [if_pos ck] at isf ⊢
        exact full isf
      rw [if_neg ck] at isf ⊢
      by_cases c13 : (k == 0) = (kd T q == 13)
      · rw [if_pos c13] at isf ⊢
        cases hf : fullU U (kd T q) with
        | true =>
          rw [hf] at isf
          rw [if_pos rfl]
          exact full isf
        | false =>
          rw [hf] at isf
          rw [if_neg (by decide)]
          have ew := en_w (isCl_n hc) (rfl : kd T q = kd T q)
          have er := en_rng ew.2
          have wl := (wd_cl (kd T q) kl (clI (kd T q)) (by omega)).mpr rfl
          have ln := len_t (clI (kd T q) + 2) (by omega) (by omega)
          rw [← wl] at ln
          have pt := rPart (q := nx T q) ok hx er.2 rfl hU hc hf R
          have sc3 : mX12_streetClause (rP I p 0) (nI k) = mX12_streetPart (rP I (en T q) 0) (nI (clI (kd T q))) := by
            rw [sc2, ew.1]
            unfold mX12_streetClause_34
            simp (disch := omega) only [↓reduceIte, Option.bind_some, Option.some.injEq, Prod.mk.injEq, and_self, and_true, true_and, eq_self, reduceCtorEq, not_false_eq_true, not_true_eq_false, or_true, true_or, or_false, false_or, bft, nAdd, nMul, nSub, nDiv, nRem, nAm1, nIx, nIn, bI_z, bI_o, ite_b1, ite_b0, zI_add, zI_sub, li0, li1, li2, li3, li4, li5, li6, li7, li8, li9, li10, li11, li12, li13, li14, li15, li16, li17, li18, li19, li20, li21, li22, li23, li24, li25, li26, li27, li28, li29, li30, li31, li32, li33, li34, li35, li36, li37, li40, li42, li43, li45, li47, li48, li57, li59, li60, li61, li62, li64, li80, li91, li93, li97, li99, li100, li122, li182, li199, li255, li300, li380, li400, li999, li1000, li3640, li4100, li65536, li99999, ln1, ln2, ln3, ln100, ln100000, tLe, fLe, tLt, fLt, tEq, fEq, zLe_t, zLe_f, zLt_t, zLt_f, zEq_t, zEq_f, nzLe_t, nzLe_f, znLe_t, znLe_f, nzLt_t, nzLt_f, znLt_t, znLt_f, nzEq_t, nzEq_f, znEq_t, znEq_f, isf, sWord (clI (kd T q)) (by omega), ln, rP_28, rP_s28]
            cases mX12_streetPart (rP I (q + (wdA (kd T q)).length) 0) (nI (clI (kd T q))) <;> rfl
          cases e : rdC T (kd T q) (nx T q) U with
          | error y =>
            rw [e] at pt
            obtain ⟨he, K, p1, g1, g2, g3⟩ := pt
            exact endF K p1 y he g2 g3 (sc3.trans g1)
          | ok y =>
            obtain ⟨V, r⟩ := y
            rw [e] at pt
            obtain ⟨K, p1, g1, g2, g3, g4, g5⟩ := pt
            have cl := clause_okU hU hc hf e
            have go := goes_on ok (txR_fr g5 hx) g2 g3
            have rn := sk_n (T := T) g2
            rw [g3] at rn
            have stop : ∀ (e : Nat), (0, e) = goS T r → mX12_readsAll_50 (f + 1 + 1) (rP I p 0) (nI k) (nI 1) = some (rP (xu K 123 27 (nI 0)) (r + 1) e) := fun e he => by
              rw [← he] at go
              rw [mX12_readsAll_50]
              simp (disch := omega) only [↓reduceIte, Option.bind_some, Option.some.injEq, Prod.mk.injEq, and_self, and_true, true_and, eq_self, reduceCtorEq, not_false_eq_true, not_true_eq_false, or_true, true_or, or_false, false_or, bft, nAdd, nMul, nSub, nDiv, nRem, nAm1, nIx, nIn, bI_z, bI_o, ite_b1, ite_b0, zI_add, zI_sub, li0, li1, li2, li3, li4, li5, li6, li7, li8, li9, li10, li11, li12, li13, li14, li15, li16, li17, li18, li19, li20, li21, li22, li23, li24, li25, li26, li27, li28, li29, li30, li31, li32, li33, li34, li35, li36, li37, li40, li42, li43, li45, li47, li48, li57, li59, li60, li61, li62, li64, li80, li91, li93, li97, li99, li100, li122, li182, li199, li255, li300, li380, li400, li999, li1000, li3640, li4100, li65536, li99999, ln1, ln2, ln3, ln100, ln100000, tLe, fLe, tLt, fLt, tEq, fEq, zLe_t, zLe_f, zLt_t, zLt_f, zEq_t, zEq_f, nzLe_t, nzLe_f, znLe_t, znLe_f, nzLt_t, nzLt_f, znLt_t, znLt_f, nzEq_t, nzEq_f, znEq_t, znEq_f, sc3, g1, go]
              rw [mX12_readsAll_50]
              simp (disch := omega) only [↓reduceIte, Option.bind_some, Option.some.injEq, Prod.mk.injEq, and_self, and_true, true_and, eq_self, reduceCtorEq, not_false_eq_true, not_true_eq_false, or_true, true_or, or_false, false_or, bft, nAdd, nMul, nSub, nDiv, nRem, nAm1, nIx, nIn, bI_z, bI_o, ite_b1, ite_b0, zI_add, zI_sub, li0, li1, li2, li3, li4, li5, li6, li7, li8, li9, li10, li11, li12, li13, li14, li15, li16, li17, li18, li19, li20, li21, li22, li23, li24, li25, li26, li27, li28, li29, li30, li31, li32, li33, li34, li35, li36, li37, li40, li42, li43, li45, li47, li48, li57, li59, li60, li61, li62, li64, li80, li91, li93, li97, li99, li100, li122, li182, li199, li255, li300, li380, li400, li999, li1000, li3640, li4100, li65536, li99999, ln1, ln2, ln3, ln100, ln100000, tLe, fLe, tLt, fLt, tEq, fEq, zLe_t, zLe_f, zLt_t, zLt_f, zEq_t, zEq_f, nzLe_t, nzLe_f, znLe_t, znLe_f, nzLt_t, nzLt_f, znLt_t, znLt_f, nzEq_t, nzEq_f, znEq_t, znEq_f, rP_xu]
            dsimp only
            by_cases c36 : kd T r = 36
            · rw [if_pos c36]
              refine ⟨xu K 123 27 (nI 0), r + 1, stop 0 (by unfold goS; rw [if_pos c36]), xu_s, ?_, by rw [xu_r (by decide)]; exact g5.2, fun b k hb hk => by rw [xu_off (by omega), g5.1 b hb]⟩
              unfold rU
              rw [xu_r (b := 141) (by decide), xu_r (b := 142) (by decide), xu_r (b := 143) (by decide), xu_r (b := 144) (by decide), xu_r (b := 145) (by decide), xu_r (b := 146) (by decide), xu_r (b := 147) (by decide), xu_r (b := 148) (by decide), xu_r (b := 149) (by decide)]
              exact g4
            · rw [if_neg c36]
              by_cases c32 : kd T r = 32
              · rw [if_pos c32]
                have e1 := en_1 (T := T) (q := r) (by omega)
                have hr := en_rng e1.2
                cases m with
                | zero => exact absurd h1 (by omega)
                | succ m =>
                  have ih := rSt_go ok m (k + 1) (f + 1) (nx T r) (r + 1) V K (by omega) (by omega) cl (txR_fr g5 hx) g4 (by omega) (by unfold nx; rw [e1.1])
                  have st : mX12_readsAll_50 (f + 1 + 1) (rP I p 0) (nI k) (nI 1) = mX12_readsAll_50 (f + 1) (rP K (r + 1) 0) (nI (k + 1)) (nI 1) := by
                    have eg : goS T r = (1, 0) := by unfold goS; rw [if_neg c36, if_pos c32]
                    rw [eg] at go
                    rw [mX12_readsAll_50]
                    simp (disch := omega) only [↓reduceIte, Option.bind_some, Option.some.injEq, Prod.mk.injEq, and_self, and_true, true_and, eq_self, reduceCtorEq, not_false_eq_true, not_true_eq_false, or_true, true_or, or_false, false_or, bft, nAdd, nMul, nSub, nDiv, nRem, nAm1, nIx, nIn, bI_z, bI_o, ite_b1, ite_b0, zI_add, zI_sub, li0, li1, li2, li3, li4, li5, li6, li7, li8, li9, li10, li11, li12, li13, li14, li15, li16, li17, li18, li19, li20, li21, li22, li23, li24, li25, li26, li27, li28, li29, li30, li31, li32, li33, li34, li35, li36, li37, li40, li42, li43, li45, li47, li48, li57, li59, li60, li61, li62, li64, li80, li91, li93, li97, li99, li100, li122, li182, li199, li255, li300, li380, li400, li999, li1000, li3640, li4100, li65536, li99999, ln1, ln2, ln3, ln100, ln100000, tLe, fLe, tLt, fLt, tEq, fEq, zLe_t, zLe_f, zLt_t, zLt_f, zEq_t, zEq_f, nzLe_t, nzLe_f, znLe_t, znLe_f, nzLt_t, nzLt_f, znLt_t, znLt_f, nzEq_t, nzEq_f, znEq_t, znEq_f, sc3, g1, go]
                  rw [st]
                  cases e2 : rdS T (m + 1) (k + 1) (nx T r) V with
                  | error y =>
                    rw [e2] at ih
                    obtain ⟨i1, J, p2, i2, i3, i4, i5⟩ := ih
                    exact ⟨i1, J, p2, i2, i3, i4.trans g5.2, fun b k hb hk => by rw [i5 b k hb hk, g5.1 b hb]⟩
                  | ok y =>
                    rw [e2] at ih
                    obtain ⟨J, p2, i2, i3, i4, i5, i6⟩ := ih
                    exact ⟨J, p2, i2, i3, i4, i5.trans g5.2, fun b k hb hk => by rw [i6 b k hb hk, g5.1 b hb]⟩
              · rw [if_neg c32]
                refine ⟨by omega, xu K 123 27 (nI 0), r + 1, stop (1 + 8 * r) (by unfold goS; rw [if_neg c36, if_neg c32]), xu_s, by rw [xu_r (by decide)]; exact g5.2, fun b k hb hk => by rw [xu_off (by omega), g5.1 b hb]⟩
      · rw [if_neg c13] at isf ⊢
        exact full isf
end

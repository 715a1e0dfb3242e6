/-! rule: the reference's reader, the whole text. -/
def frU (r : Nat) (I J : Nat → Nat → Int32) : Prop := ∀ b k, b ≠ 123 ∨ (k ≠ 32 ∧ k ≠ 33 ∧ k ≠ 34 ∧ k ≠ 35) → (b ≠ 151 ∧ b ≠ 152) ∨ k < 300 * r → (b < 154 ∨ 157 < b) ∨ (b ≠ 157 ∧ k < 12 * r) → J b k = I b k
def rL (I : Nat → Nat → Int32) (r : Nat) (cl : List (Nat × Nat)) : Prop := ∀ j t e, cl[j]? = some (t, e) → I 154 (12 * r + j) = nI (stC cl j) ∧ I 155 (12 * r + j) = nI t ∧ I 156 (12 * r + j) = nI e
section
variable {T : txT} {I J H : Nat → Nat → Int32} {p q c r f k : Nat} {cd : List Nat} {cl : List (Nat × Nat)}
theorem frU_rfl : frU r I I := fun _ _ _ _ _ => rfl
theorem frU_tr (h1 : frU r I J) (h2 : frU r J H) : frU r I H := fun b k x y z => (h2 b k x y z).trans (h1 b k x y z)
theorem frU_T (h : frT r I J) : frU r I J := fun b k x y z => h b k x y (by omega)
theorem frU_B (h : frB r I J) : frU r I J := fun b k x y z => h b k (by omega) y
theorem frU_456 {b j : Nat} {v : Int32} (hb : b = 154 ∨ b = 155 ∨ b = 156) (hj : 12 * r ≤ j) : frU r I (xu I b j v) := fun b' k x y z => by rw [xu_off (by omega)]
theorem txR_U (h : frU r I J) (hx : txR I T) : txR J T := ⟨by rw [h 123 27 (by omega) (by omega) (by omega)]; exact hx.1, fun i hi => by rw [h 150 i (by omega) (by omega) (by omega)]; exact hx.2 i hi⟩
theorem rC_456 {b j : Nat} {v : Int32} (hb : b = 154 ∨ b = 155 ∨ b = 156) (C : rC I r c cd) : rC (xu I b j v) r c cd := by
  obtain ⟨⟨c0, c36⟩, c1, c2, c3⟩ := C
  refine ⟨⟨?_, ?_⟩, ?_, ?_, fun i x hx => ?_⟩
  · rw [xu_r (by omega)]; exact c0
  · rw [xu_r (by omega)]; exact c36
  · rw [xu_r (by omega)]; exact c1
  · rw [xu_r (by omega)]; exact c2
  · rw [xu_r (b := 151) (by omega), xu_r (b := 152) (by omega)]; exact c3 i x hx
theorem goes_f2 (ok : okT T) (hx : txR I T) (hp : p ≤ T.2 + 1) (hf : 0 < f) (hf2 : f < 100000) : mX12_goesOn (rP I p f) = some (nI 0, rP I (sk T p + 1) f) := by
  have hn := ok.1
  have hqn : sk T p ≤ T.2 + 1 := by
    rcases Nat.lt_or_ge T.2 p with c | c
    · rw [sk_ge (by omega)]; omega
    · have := sk_n (T := T) c; omega
  have b := blanks_ok (I := I) (f := f) ok hx (p := p) (by omega)
  unfold mX12_goesOn mX12_goesOn_40 mX12_goesOn_62 mX12_goesOn_63
  simp (disch := omega) only [↓reduceIte, Option.bind_some, Option.some.injEq, Prod.mk.injEq, and_self, and_true, true_and, eq_self, reduceCtorEq, not_false_eq_true, not_true_eq_false, or_true, true_or, or_false, false_or, bft, nAdd, nMul, nSub, nDiv, nRem, nAm1, nIx, nIn, bI_z, bI_o, ite_b1, ite_b0, zI_add, zI_sub, li0, li1, li2, li3, li4, li5, li6, li7, li8, li9, li10, li11, li12, li13, li14, li15, li16, li17, li18, li19, li20, li21, li22, li23, li24, li25, li26, li27, li28, li29, li30, li31, li32, li33, li34, li35, li36, li37, li40, li42, li43, li45, li47, li48, li57, li59, li60, li61, li62, li64, li80, li91, li93, li97, li99, li100, li122, li182, li199, li255, li300, li380, li400, li999, li1000, li3640, li4100, li65536, li99999, ln1, ln2, ln3, ln100, ln100000, tLe, fLe, tLt, fLt, tEq, fEq, zLe_t, zLe_f, zLt_t, zLt_f, zEq_t, zEq_f, nzLe_t, nzLe_f, znLe_t, znLe_f, nzLt_t, nzLt_f, znLt_t, znLt_f, nzEq_t, nzEq_f, znEq_t, znEq_f, b, rP_29, rP_28, rP_s28]
/-- a whole test -/
theorem testR_ok (ok : okT T) (hr : r < 6) (hp : p ≤ T.2) (hq : sk T p = q) (hx : txR I T) (C : rC I r c cd) (h33 : I 123 33 = nI 0) (hb3 : 3 * cd.length ≤ 6 * c + q) (hc : c ≤ 60) : match tstT T (facT T 12 0) q c with
    | .error e => (0 < e ∧ e < 10000) ∧ ∃ J p', mX12_test (rP I p 0) = some (rP J p' e) ∧ p' ≤ T.2 + 1 ∧ frT r I J
    | .ok (o, q', c') => ∃ J, mX12_test (rP I p 0) = some (rP J q' 0) ∧ rC J r c' (cd ++ o) ∧ J 123 33 = nI 0 ∧ frT r I J := by
  have hn := ok.1
  have hqn := sk_n (T := T) hp
  rw [hq] at hqn
  have C1 : rC (xu I 123 35 (nI 0)) r c cd := by
    obtain ⟨⟨c0, c36⟩, c1, c2, c3⟩ := C
    exact ⟨⟨by rw [xu_c (by decide)]; exact c0, by rw [xu_c (by decide)]; exact c36⟩, by rw [xu_c (by decide)]; exact c1, by rw [xu_c (by decide)]; exact c2, fun i x hx => by rw [xu_r (by decide), xu_r (by decide)]; exact c3 i x hx⟩
  have S1 : sK (xu I 123 35 (nI 0)) 0 [] := ⟨xu_s, by rw [xu_c (by decide)]; exact h33, fun i x hi => by cases hi⟩
  have f1 : frT r I (xu I 123 35 (nI 0)) := fun b k z1 z2 z3 => by rw [xu_off (by omega)]
  have hx1 := txR_T f1 hx
  have e0 : mX12_test (rP I p 0) = mX12_test_9 xf (rP (xu I 123 35 (nI 0)) p 0) (nI 1) (nI 1) := by
    unfold mX12_test
    rw [← rP_xu (by decide)]
    rfl
  have fo := tstR_ok (I := xu I 123 35 (nI 0)) (p := p) (q := q) (c := c) (cd := cd) (t := []) (d := 0) (F := facT T 12 0) ok hr (by omega) ntop_nil ntop_nil ntop_nil (fun y hy => by cases hy) (facR_ok ok hr 12 0 (by omega) (by omega)) (fun q c h1 h2 => fac_pr 12 0 q c h1 h2) hp hq hx1 C1 S1 (Nat.zero_le _) hb3 hc
  rw [e0]
  cases hv : tstT T (facT T 12 0) q c with
  | error e =>
    rw [hv] at fo
    obtain ⟨he, n, N, p2, x, g1, g2, g3⟩ := fo
    refine ⟨he, N, p2, ?_, g2.2, frT_tr f1 g3⟩
    have ef : xf = (xf - n - 1) + 1 + n := by unfold xf; omega
    rw [ef, g1, mX12_test_9, if_neg (show ¬ nI 1 = (0 : Int32) by decide), if_neg (show ¬ rP N p2 e 123 29 = (0 : Int32) by rw [rP_29]; exact nNeL (x := 0) (b := 0) rfl (by omega) (by omega) (by omega))]
  | ok y =>
    obtain ⟨o, q', c'⟩ := y
    rw [hv] at fo
    obtain ⟨n, N, p2, m2, a2, b2, E2, g1, g2, g3, g4, g5, g6, g7, g8, g9⟩ := fo
    have pv := tst_pr (T := T) (fun q c h1 h2 => fac_pr 12 0 q c h1 h2) hqn hc _ _ _ hv
    have te := tst_end hv
    have el := congrArg List.length g5
    simp only [List.length_append, rep_len] at el
    simp only [List.length_nil] at g8
    obtain ⟨J, d1, d2, d3, d4⟩ := st_done ok hr (txR_T g9 hx1) g3.1 g3.2 te.1 te.2 g6 g4 (by omega) (by omega) (by omega) g7.1
    refine ⟨J, ?_, by rw [g5]; exact d2, d3, frT_tr f1 (frT_tr g9 d4)⟩
    have ef : xf = (xf - n - 2) + 1 + 1 + n := by unfold xf; omega
    rw [ef, g1, d1]
theorem takes_ok (ok : okT T) (hx : txR I T) (hq : q ≤ T.2) (hs : sk T q = q) : mX12_takes (rP I q 0) 20 = some (bI (decide (kd T q = 18)), rP I (if kd T q = 18 then en T q else q) 0) := by
  have hn := ok.1
  have b := blanks_ok (I := I) (f := 0) ok hx (p := q) (by omega)
  rw [hs] at b
  have w := stood_ok (I := I) (f := 0) (t := 20) ok hx (by omega) (by omega) hq
  rw [show wdN 20 = 18 from rfl] at w
  unfold mX12_takes
  by_cases h : kd T q = 18
  · have ew := en_w (T := T) (q := q) (m := 18) (by omega) h
    have ln := len_t 20 (by omega) (by omega)
    rw [show wdN 20 = 18 from rfl] at ln
    rw [decide_eq_true h] at w
    rw [if_pos h, decide_eq_true h, ew.1]
    simp (disch := omega) only [↓reduceIte, Option.bind_some, Option.some.injEq, Prod.mk.injEq, and_self, and_true, true_and, eq_self, reduceCtorEq, not_false_eq_true, not_true_eq_false, or_true, true_or, or_false, false_or, bft, nAdd, nMul, nSub, nDiv, nRem, nAm1, nIx, nIn, bI_z, bI_o, ite_b1, ite_b0, zI_add, zI_sub, li0, li1, li2, li3, li4, li5, li6, li7, li8, li9, li10, li11, li12, li13, li14, li15, li16, li17, li18, li19, li20, li21, li22, li23, li24, li25, li26, li27, li28, li29, li30, li31, li32, li33, li34, li35, li36, li37, li40, li42, li43, li45, li47, li48, li57, li59, li60, li61, li62, li64, li80, li91, li93, li97, li99, li100, li122, li182, li199, li255, li300, li380, li400, li999, li1000, li3640, li4100, li65536, li99999, ln1, ln2, ln3, ln100, ln100000, tLe, fLe, tLt, fLt, tEq, fEq, zLe_t, zLe_f, zLt_t, zLt_f, zEq_t, zEq_f, nzLe_t, nzLe_f, znLe_t, znLe_f, nzLt_t, nzLt_f, znLt_t, znLt_f, nzEq_t, nzEq_f, znEq_t, znEq_f, b, w, ln, rP_28, rP_s28]
  · rw [decide_eq_false h] at w
    rw [if_neg h, decide_eq_false h]
    simp (disch := omega) only [↓reduceIte, Option.bind_some, Option.some.injEq, Prod.mk.injEq, and_self, and_true, true_and, eq_self, reduceCtorEq, not_false_eq_true, not_true_eq_false, or_true, true_or, or_false, false_or, bft, nAdd, nMul, nSub, nDiv, nRem, nAm1, nIx, nIn, bI_z, bI_o, ite_b1, ite_b0, zI_add, zI_sub, li0, li1, li2, li3, li4, li5, li6, li7, li8, li9, li10, li11, li12, li13, li14, li15, li16, li17, li18, li19, li20, li21, li22, li23, li24, li25, li26, li27, li28, li29, li30, li31, li32, li33, li34, li35, li36, li37, li40, li42, li43, li45, li47, li48, li57, li59, li60, li61, li62, li64, li80, li91, li93, li97, li99, li100, li122, li182, li199, li255, li300, li380, li400, li999, li1000, li3640, li4100, li65536, li99999, ln1, ln2, ln3, ln100, ln100000, tLe, fLe, tLt, fLt, tEq, fEq, zLe_t, zLe_f, zLt_t, zLt_f, zEq_t, zEq_f, nzLe_t, nzLe_f, znLe_t, znLe_f, nzLt_t, nzLt_f, znLt_t, znLt_f, nzEq_t, nzEq_f, znEq_t, znEq_f, b, w, rP_28, rP_s28, Nat.add_zero]
def gRes (T : txT) (r k : Nat) (I : Nat → Nat → Int32) (cd : List Nat) (cl : List (Nat × Nat)) (y : Except Nat (List Nat × List Nat × Nat × Nat)) (x : Option (Nat → Nat → Int32)) : Prop := match y with
  | .error e => (0 < e ∧ e < 10000) ∧ ∃ J p, x = some (rP J p e) ∧ p ≤ T.2 + 1 ∧ frU r I J
  | .ok (o, o2, q, c) => ∃ J p, x = some (rP J p 0) ∧ (p ≤ T.2 ∧ sk T p = q) ∧ rC J r c (cd ++ (o ++ o2)) ∧ rL J r (cl ++ [(cd.length + o.length, cd.length + o.length + o2.length)]) ∧ J 123 33 = nI 0 ∧ frU r I J
theorem stC_app {x : Nat × Nat} {j : Nat} (h : j ≤ cl.length) : stC (cl ++ [x]) j = stC cl j := by
  cases j with
  | zero => rfl
  | succ j =>
    rw [stC, stC, List.getElem?_append_left (by omega)]
theorem rL_app {t e : Nat} (hk : cl.length = k) (R : rL I r cl) (hf : ∀ j, j < 12 * r + k → J 154 j = I 154 j ∧ J 155 j = I 155 j ∧ J 156 j = I 156 j) (h4 : J 154 (12 * r + k) = nI (stC cl k)) (h5 : J 155 (12 * r + k) = nI t) (h6 : J 156 (12 * r + k) = nI e) : rL J r (cl ++ [(t, e)]) := by
  intro j t' e' hj
  have hi := (List.getElem?_eq_some_iff.mp hj).1
  rw [List.length_append] at hi
  simp only [List.length_cons, List.length_nil] at hi
  rw [stC_app (by omega)]
  by_cases ej : j = k
  · subst ej
    rw [List.getElem?_append_right (by omega), hk, Nat.sub_self] at hj
    cases hj
    exact ⟨h4, h5, h6⟩
  · rw [List.getElem?_append_left (by omega)] at hj
    have := hf (12 * r + j) (by omega)
    rw [this.1, this.2.1, this.2.2]
    exact R j t' e' hj
theorem clauseR (ok : okT T) (hr : r < 6) (hk12 : k < 12) (hp : p ≤ T.2) (hq : sk T p = q) (h17 : kd T q = 17) (hx : txR I T) (C : rC I r c cd) (h33 : I 123 33 = nI 0) (R : rL I r cl) (hcl : cl.length = k) (hst : stC cl k = cd.length) (hb3 : 3 * cd.length ≤ 6 * c + q) (hc : c ≤ 60) : gRes T r k I cd cl (clsT T (nx T q) c) (mX12_ruleClause (rP I p 0) (nI k)) := by
  have hn := ok.1
  have hqn := sk_n (T := T) hp
  rw [hq] at hqn
  have b := blanks_ok (I := I) (f := 0) ok hx (p := p) (by omega)
  rw [hq] at b
  have w := stood_ok (I := I) (f := 0) (t := 9) ok hx (by omega) (by omega) hqn
  rw [show wdN 9 = 17 from rfl, decide_eq_true h17] at w
  have ew := en_w (T := T) (q := q) (m := 17) (by omega) h17
  have er := en_rng ew.2
  have nr := nx_rng ew.2
  rw [show (wdA 17).length = 5 from rfl] at ew
  have h1 : frU r I (xu I 154 (12 * r + k) (nI cd.length)) := frU_456 (Or.inl rfl) (by omega)
  have C1 : rC (xu I 154 (12 * r + k) (nI cd.length)) r c cd := rC_456 (Or.inl rfl) C
  have so := sumR_ok (p := en T q) (q := nx T q) ok hr (txR_U h1 hx) C1 er.2 rfl (by omega) hc
  have start : mX12_ruleClause (rP I p 0) (nI k) = (Option.bind (mX12_sum (rP (xu I 154 (12 * r + k) (nI cd.length)) (en T q) 0)) (fun q8 => (if ((xu q8 155 (12 * r + k) (q8 123 32)) 123 29) = 0 then (Option.bind (mX12_takes (xu q8 155 (12 * r + k) (q8 123 32)) 20) (fun q13 => (if q13.1 = 0 then (some (xu q13.2 156 (12 * r + k) (q13.2 123 32))) else (Option.bind (mX12_test q13.2) (fun q17 => (some (xu q17 156 (12 * r + k) (q17 123 32)))))))) else (some (xu (xu q8 155 (12 * r + k) (q8 123 32)) 156 (12 * r + k) ((xu q8 155 (12 * r + k) (q8 123 32)) 123 32)))))) := by
    unfold mX12_ruleClause
    rw [ew.1]
    simp (disch := omega) only [↓reduceIte, Option.bind_some, Option.some.injEq, Prod.mk.injEq, and_self, and_true, true_and, eq_self, reduceCtorEq, not_false_eq_true, not_true_eq_false, or_true, true_or, or_false, false_or, bft, nAdd, nMul, nSub, nDiv, nRem, nAm1, nIx, nIn, bI_z, bI_o, ite_b1, ite_b0, zI_add, zI_sub, li0, li1, li2, li3, li4, li5, li6, li7, li8, li9, li10, li11, li12, li13, li14, li15, li16, li17, li18, li19, li20, li21, li22, li23, li24, li25, li26, li27, li28, li29, li30, li31, li32, li33, li34, li35, li36, li37, li40, li42, li43, li45, li47, li48, li57, li59, li60, li61, li62, li64, li80, li91, li93, li97, li99, li100, li122, li182, li199, li255, li300, li380, li400, li999, li1000, li3640, li4100, li65536, li99999, ln1, ln2, ln3, ln100, ln100000, tLe, fLe, tLt, fLt, tEq, fEq, zLe_t, zLe_f, zLt_t, zLt_f, zEq_t, zEq_f, nzLe_t, nzLe_f, znLe_t, znLe_f, nzLt_t, nzLt_f, znLt_t, znLt_f, nzEq_t, nzEq_f, znEq_t, znEq_f, xu_s, xu_r, xu_c, xrow_at, xrow_r, b, w, rP_28, rP_s28, rP_o, rP_xu, C.1.1, C.2.1]
    rfl
  rw [start]
  unfold clsT
  cases hv : sumT T (nx T q) c with
  | error e =>
    rw [hv] at so
    obtain ⟨he, J, p', v1, v2, v3⟩ := so
    rw [bd_e, v1, Option.bind_some]
    refine ⟨he, xu (xu J 155 (12 * r + k) (J 123 32)) 156 (12 * r + k) (J 123 32), p', ?_, by omega, frU_tr h1 (frU_tr (frU_B v3) (frU_tr (frU_456 (Or.inr (Or.inl rfl)) (by omega)) (frU_456 (Or.inr (Or.inr rfl)) (by omega))))⟩
    rw [if_neg (show ¬ xu (rP J p' e) 155 (12 * r + k) (rP J p' e 123 32) 123 29 = (0 : Int32) by rw [xu_r (by decide), rP_29]; exact nNeL (x := 0) (b := 0) rfl (by omega) (by omega) (by omega)), xu_r (show 123 ≠ 155 by decide), rP_o (b := 123) (k := 32) (by decide), rP_xu (by omega), rP_xu (by omega)]
  | ok y =>
    obtain ⟨o, q1, c1⟩ := y
    rw [hv] at so
    obtain ⟨J, v1, v4, v5⟩ := so
    have pv := sum_pr (T := T) (q := nx T q) hc _ _ _ hv
    have ol : (cd ++ o).length = cd.length + o.length := List.length_append
    have h2 : frU r I (xu J 155 (12 * r + k) (nI (cd.length + o.length))) := frU_tr h1 (frU_tr (frU_B v5) (frU_456 (Or.inr (Or.inl rfl)) (by omega)))
    have C2 : rC (xu J 155 (12 * r + k) (nI (cd.length + o.length))) r c1 (cd ++ o) := rC_456 (Or.inr (Or.inl rfl)) v4
    have hx2 := txR_U h2 hx
    have tk := takes_ok ok hx2 pv.1.2.1 pv.1.2.2
    have jB : ∀ b j, 154 ≤ b → b ≤ 156 → J b j = xu I 154 (12 * r + k) (nI cd.length) b j := fun b j z1 z2 => v5 b j (by omega) (by omega)
    have j33 : xu J 155 (12 * r + k) (nI (cd.length + o.length)) 123 33 = nI 0 := by rw [xu_r (by decide), v5 123 33 (by omega) (by omega), xu_r (by decide)]; exact h33
    have fin : ∀ (N : Nat → Nat → Int32) (e : Nat), (∀ b j, 154 ≤ b → b ≤ 156 → N b j = xu J 155 (12 * r + k) (nI (cd.length + o.length)) b j) → rL (xu N 156 (12 * r + k) (nI e)) r (cl ++ [(cd.length + o.length, e)]) := by
      intro N e hN
      refine rL_app hcl R (fun j hj => ⟨?_, ?_, ?_⟩) ?_ ?_ xu_s
      · rw [xu_r (by decide), hN 154 j (by omega) (by omega), xu_r (by decide), jB 154 j (by omega) (by omega), xu_c (by omega)]
      · rw [xu_r (by decide), hN 155 j (by omega) (by omega), xu_c (by omega), jB 155 j (by omega) (by omega), xu_r (by decide)]
      · rw [xu_c (by omega), hN 156 j (by omega) (by omega), xu_r (by decide), jB 156 j (by omega) (by omega), xu_r (by decide)]
      · rw [xu_r (by decide), hN 154 _ (by omega) (by omega), xu_r (by decide), jB 154 _ (by omega) (by omega), xu_s, hst]
      · rw [xu_r (by decide), hN 155 _ (by omega) (by omega), xu_s]
    rw [bd_o, v1, Option.bind_some]
    have e32 : rP J q1 0 123 32 = nI (cd.length + o.length) := by rw [rP_o (by decide), ← ol]; exact v4.2.1
    rw [e32, rP_xu (by omega), if_pos (show rP (xu J 155 (12 * r + k) (nI (cd.length + o.length))) q1 0 123 29 = (0 : Int32) from rP_29), tk, Option.bind_some]
    dsimp only
    by_cases h18 : kd T q1 = 18
    · have kn1 := kd_nx (T := T) (q := q1) (by omega)
      have er1 := en_rng kn1.1
      rw [if_pos h18, if_pos h18, decide_eq_true h18, if_neg (show ¬ bI true = (0 : Int32) by decide)]
      have tt := testR_ok (p := en T q1) (q := nx T q1) ok hr er1.2 rfl hx2 C2 j33 (by rw [ol]; omega) pv.2.2.1.2
      cases hv2 : tstT T (facT T 12 0) (nx T q1) c1 with
      | error e =>
        rw [hv2] at tt
        obtain ⟨he, N, p2, w1, w2, w3⟩ := tt
        rw [bd_e, w1, Option.bind_some]
        refine ⟨he, xu N 156 (12 * r + k) (N 123 32), p2, ?_, w2, frU_tr h2 (frU_tr (frU_T w3) (frU_456 (Or.inr (Or.inr rfl)) (by omega)))⟩
        rw [rP_o (b := 123) (k := 32) (by decide), rP_xu (by omega)]
      | ok y =>
        obtain ⟨o2, q2, c2⟩ := y
        rw [hv2] at tt
        obtain ⟨N, w1, w2, w3, w4⟩ := tt
        have pv2 := tst_pr (T := T) (fun q c h1 h2 => fac_pr 12 0 q c h1 h2) kn1.2.2 pv.2.2.1.2 _ _ _ hv2
        have l2 : (cd ++ o ++ o2).length = cd.length + o.length + o2.length := by rw [List.length_append, List.length_append]
        have n32 : N 123 32 = nI (cd.length + o.length + o2.length) := by rw [← l2]; exact w2.2.1
        rw [bd_o, w1, Option.bind_some]
        refine ⟨xu N 156 (12 * r + k) (nI (cd.length + o.length + o2.length)), q2, ?_, ⟨pv2.1.2.1, pv2.1.2.2⟩, by rw [show cd ++ (o ++ o2) = cd ++ o ++ o2 by simp]; exact rC_456 (Or.inr (Or.inr rfl)) w2, fin N _ (fun b j z1 z2 => w4 b j (by omega) (by omega) (by omega)), by rw [xu_r (by decide)]; exact w3, frU_tr h2 (frU_tr (frU_T w4) (frU_456 (Or.inr (Or.inr rfl)) (by omega)))⟩
        rw [rP_o (b := 123) (k := 32) (by decide), rP_xu (by omega), n32]
    · rw [if_neg h18, if_neg h18, decide_eq_false h18, if_pos (show bI false = (0 : Int32) by decide)]
      have n32 : xu J 155 (12 * r + k) (nI (cd.length + o.length)) 123 32 = nI (cd.length + o.length) := by rw [← ol]; exact C2.2.1
      refine ⟨xu (xu J 155 (12 * r + k) (nI (cd.length + o.length))) 156 (12 * r + k) (nI (cd.length + o.length)), q1, ?_, ⟨pv.1.2.1, pv.1.2.2⟩, by rw [List.append_nil]; exact rC_456 (Or.inr (Or.inr rfl)) C2, fin _ _ (fun _ _ _ _ => rfl), by rw [xu_r (by decide)]; exact j33, frU_tr h2 (frU_456 (Or.inr (Or.inr rfl)) (by omega))⟩
      rw [rP_o (b := 123) (k := 32) (by decide), rP_xu (by omega), n32]
def uRes (T : txT) (r : Nat) (I : Nat → Nat → Int32) (e47 : (Nat → Nat → Int32) → Int32 → Option (Int32 × (Nat → Nat → Int32))) (y : Except Nat ruT) (x : Option (Int32 × (Nat → Nat → Int32))) : Prop := match y with
  | .error e => (0 < e ∧ e < 10000) ∧ ∃ J p v, x = e47 (rP J p e) v ∧ frU r I J
  | .ok ru => ∃ J p c, x = e47 (rP J p 0) (nI ru.2.length) ∧ rC J r c ru.1 ∧ rL J r ru.2 ∧ frU r I J
theorem rlR_go (ok : okT T) (hr : r < 6) {e47 : (Nat → Nat → Int32) → Int32 → Option (Int32 × (Nat → Nat → Int32))} : ∀ (m k g q c p : Nat) (cd : List Nat) (cl : List (Nat × Nat)) (I : Nat → Nat → Int32), k + m = 12 → m + 2 < g → p ≤ T.2 → sk T p = q → txR I T → rC I r c cd → I 123 33 = nI 0 → rL I r cl → cl.length = k → stC cl k = cd.length → 3 * cd.length ≤ 6 * c + q → c ≤ 60 → uRes T r I e47 (rlS T (m + 1) k q c cd cl) (mX12_rule_27 e47 g (rP I p 0) (nI k) (nI 1))
  | m, k, 0, q, c, p, cd, cl, I, _, h, _, _, _, _, _, _, _, _, _, _ => absurd h (by omega)
  | m, k, g + 1, q, c, p, cd, cl, I, h1, h2, hp, hq, hx, C, h33, R, hcl, hst, hb3, hc => by
    have hn := ok.1
    have hqn := sk_n (T := T) hp
    rw [hq] at hqn
    have kl := kd_lt37 (T := T) (q := q)
    obtain ⟨g, rfl⟩ : ∃ z, g = z + 1 := ⟨g - 1, by omega⟩
    have b := blanks_ok (I := I) (f := 0) ok hx (p := p) (by omega)
    rw [hq] at b
    have w := stood_ok (I := I) (f := 0) (t := 9) ok hx (by omega) (by omega) hqn
    rw [show wdN 9 = 17 from rfl] at w
    have step : mX12_rule_27 e47 (g + 1 + 1) (rP I p 0) (nI k) (nI 1) = Option.bind (mX12_ruleClause (rP I p 0) (nI k)) (fun q5 => Option.bind (mX12_goesOn q5) (fun q7 => mX12_rule_27 e47 (g + 1) q7.2 (nI (k + 1)) q7.1)) := by
      rw [mX12_rule_27, if_neg (show ¬ nI 1 = (0 : Int32) by decide), show nI k + 1 = nI (k + 1) by rw [li1, nAdd]]
    have endF : ∀ (K : Nat → Nat → Int32) (p1 e : Nat), (0 < e ∧ e < 10000) → p1 ≤ T.2 + 1 → frU r I K → mX12_ruleClause (rP I p 0) (nI k) = some (rP K p1 e) → uRes T r I e47 (.error e) (mX12_rule_27 e47 (g + 1 + 1) (rP I p 0) (nI k) (nI 1)) := by
      intro K p1 e he hp1 fr hm
      have go := goes_f2 ok (txR_U fr hx) hp1 he.1 (by omega)
      refine ⟨he, K, sk T p1 + 1, nI (k + 1), ?_, fr⟩
      rw [step, hm, Option.bind_some, go, Option.bind_some]
      dsimp only
      rw [mX12_rule_27, if_pos (show nI 0 = (0 : Int32) from rfl)]
    rw [rlS]
    by_cases h17 : kd T q = 17
    · rw [if_pos h17]
      rw [decide_eq_true h17] at w
      by_cases h12 : k = 12
      · rw [if_pos h12]
        have fa := fails_ok (I := I) (p := q) (f := 0) (k := 4) (a := q) (by omega) (by omega) (by omega)
        rw [fl_e] at fa
        refine endF I q _ (by omega) (by omega) frU_rfl ?_
        unfold mX12_ruleClause
        rw [b, Option.bind_some, w, Option.bind_some, if_neg (show ¬ bI true = (0 : Int32) by decide), if_pos (show nI k = (12 : Int32) by rw [h12]; rfl), rP_28]
        change Option.bind (mX12_fails (rP I q 0) (nI 4) (nI q)) _ = _
        rw [fa, Option.bind_some]
      · rw [if_neg h12]
        have gr := clauseR ok hr (by omega) hp hq h17 hx C h33 R hcl hst hb3 hc
        cases hv : clsT T (nx T q) c with
        | error e =>
          rw [hv] at gr
          obtain ⟨he, J, p1, v1, v2, v3⟩ := gr
          exact endF J p1 e he v2 v3 v1
        | ok y =>
          obtain ⟨o, o2, q2, c2⟩ := y
          rw [hv] at gr
          obtain ⟨J, p1, v1, v2, v3, v4, v5, v6⟩ := gr
          have hxJ := txR_U v6 hx
          have go := goes_on ok hxJ v2.1 v2.2
          have q2n := sk_n (T := T) v2.1
          rw [v2.2] at q2n
          have bnd := cls_pr (T := T) (q := nx T q) hc (nx_rng (en_w (T := T) (q := q) (m := 17) (by omega) h17).2).2 hv
          have nr := nx_rng (en_w (T := T) (q := q) (m := 17) (by omega) h17).2
          have stop : ∀ e, (0, e) = goS T q2 → mX12_rule_27 e47 (g + 1 + 1) (rP I p 0) (nI k) (nI 1) = e47 (rP J (q2 + 1) e) (nI (k + 1)) := fun e he => by
            rw [← he] at go
            rw [step, v1, Option.bind_some, go, Option.bind_some]
            dsimp only
            rw [mX12_rule_27, if_pos (show nI 0 = (0 : Int32) from rfl)]
          have ll : (cl ++ [(cd.length + o.length, cd.length + o.length + o2.length)]).length = k + 1 := by rw [List.length_append, hcl]; rfl
          dsimp only
          by_cases c36 : kd T q2 = 36
          · rw [if_pos c36]
            refine ⟨J, q2 + 1, c2, ?_, v3, v4, v6⟩
            show _ = e47 _ (nI (cl ++ [(cd.length + o.length, cd.length + o.length + o2.length)]).length)
            rw [ll]
            exact stop 0 (by unfold goS; rw [if_pos c36])
          · rw [if_neg c36]
            by_cases c32 : kd T q2 = 32
            · rw [if_pos c32]
              have e1 := en_1 (T := T) (q := q2) (by omega)
              have er2 := en_rng e1.2
              have nr2 := nx_rng e1.2
              cases m with
              | zero => exact absurd h1 (by omega)
              | succ m =>
                have ih := rlR_go ok hr (e47 := e47) m (k + 1) (g + 1) (nx T q2) c2 (q2 + 1) (cd ++ (o ++ o2)) _ J (by omega) (by omega) (by omega) (by unfold nx; rw [e1.1]) hxJ v3 v5 v4 ll (by
                  rw [stC, List.getElem?_append_right (by omega), hcl, Nat.sub_self]
                  show cd.length + o.length + o2.length = _
                  rw [List.length_append, List.length_append]; omega) (by rw [List.length_append, List.length_append]; omega) bnd.2.1
                have st : mX12_rule_27 e47 (g + 1 + 1) (rP I p 0) (nI k) (nI 1) = mX12_rule_27 e47 (g + 1) (rP J (q2 + 1) 0) (nI (k + 1)) (nI 1) := by
                  have eg : goS T q2 = (1, 0) := by unfold goS; rw [if_neg c36, if_pos c32]
                  rw [eg] at go
                  rw [step, v1, Option.bind_some, go, Option.bind_some]
                rw [st]
                cases e2 : rlS T (m + 1) (k + 1) (nx T q2) c2 (cd ++ (o ++ o2)) (cl ++ [(cd.length + o.length, cd.length + o.length + o2.length)]) with
                | error y =>
                  rw [e2] at ih
                  obtain ⟨i1, N, p2, v, i2, i3⟩ := ih
                  exact ⟨i1, N, p2, v, i2, frU_tr v6 i3⟩
                | ok y =>
                  rw [e2] at ih
                  obtain ⟨N, p2, c3, i2, i3, i4, i5⟩ := ih
                  exact ⟨N, p2, c3, i2, i3, i4, frU_tr v6 i5⟩
            · rw [if_neg c32]
              exact ⟨by omega, J, q2 + 1, _, stop (1 + 8 * q2) (by unfold goS; rw [if_neg c36, if_neg c32]), v6⟩
    · rw [if_neg h17]
      rw [decide_eq_false h17] at w
      have fa := fails_ok (I := I) (p := q) (f := 0) (k := 0) (a := q) (by omega) (by omega) (by omega)
      rw [fl_e, Nat.add_zero] at fa
      refine endF I q _ (by omega) (by omega) frU_rfl ?_
      unfold mX12_ruleClause
      rw [b, Option.bind_some, w, Option.bind_some, if_pos (show bI false = (0 : Int32) by decide), rP_28]
      change Option.bind (mX12_fails (rP I q 0) (nI 0) (nI q)) _ = _
      rw [fa, Option.bind_some]
end

/-! rule: the reference's reader, terms, sums, comparisons. -/
section
variable {T : txT} {I J H : Nat → Nat → Int32} {p q c r f : Nat} {cd : List Nat}
theorem t8_f (hf : 0 < f) (hf2 : f < 100000) {g : Nat} : mX12_term_8 (g + 1) (rP I p f) = some (rP I p f) := by
  rw [mX12_term_8, if_neg (show ¬ rP I p f 123 29 = (0 : Int32) by rw [rP_29]; exact nNeL (x := 0) (b := 0) rfl (by omega) (by omega) (by omega))]
theorem s4_f (hf : 0 < f) (hf2 : f < 100000) {g : Nat} : mX12_sum_4 (g + 1) (rP I p f) = some (rP I p f) := by
  rw [mX12_sum_4, if_neg (show ¬ rP I p f 123 29 = (0 : Int32) by rw [rP_29]; exact nNeL (x := 0) (b := 0) rfl (by omega) (by omega) (by omega))]
theorem isM_cases {k : Nat} (h : isM k = true) : k = 24 ∨ k = 25 ∨ k = 26 := by unfold isM at h; simp at h; omega
theorem isA_cases {k : Nat} (h : isA k = true) : k = 22 ∨ k = 23 := by unfold isA at h; simp at h; omega
theorem t8_m (ok : okT T) (hx : txR I T) (hq : q ≤ T.2) (h : isM (kd T q) = true) {g : Nat} : mX12_term_8 (g + 1) (rP I q 0) = Option.bind (mX12_value (rP I (q + 1) 0)) (fun q15 => Option.bind (mX12_entry q15 (nI (sortOf (kd T q))) (nI 0)) (fun q17 => Option.bind (mX12_blanks q17) (fun q19 => mX12_term_8 g q19))) := by
  have hn := ok.1
  have sg := sign_ok (I := I) (f := 0) ok hx (p := q) (by omega)
  rw [mX12_term_8]
  unfold mX12_term_42 mX12_term_72
  rcases isM_cases h with e | e | e
  · have s := (kd_sg (q := q) ok (c := 42) (k := 24) rfl (by omega)).mp e
    rw [s] at sg
    rw [e]
    simp (disch := omega) only [↓reduceIte, Option.bind_some, Option.some.injEq, Prod.mk.injEq, and_self, and_true, true_and, eq_self, reduceCtorEq, not_false_eq_true, not_true_eq_false, or_true, true_or, or_false, false_or, bft, nAdd, nMul, nSub, nDiv, nRem, nAm1, nIx, nIn, bI_z, bI_o, ite_b1, ite_b0, zI_add, zI_sub, li0, li1, li2, li3, li4, li5, li6, li7, li8, li9, li10, li11, li12, li13, li14, li15, li16, li17, li18, li19, li20, li21, li22, li23, li24, li25, li26, li27, li28, li29, li30, li31, li32, li33, li34, li35, li36, li37, li40, li42, li43, li45, li47, li48, li57, li59, li60, li61, li62, li64, li80, li91, li93, li97, li99, li100, li122, li182, li199, li255, li300, li380, li400, li999, li1000, li3640, li4100, li65536, li99999, ln1, ln2, ln3, ln100, ln100000, tLe, fLe, tLt, fLt, tEq, fEq, zLe_t, zLe_f, zLt_t, zLt_f, zEq_t, zEq_f, nzLe_t, nzLe_f, znLe_t, znLe_f, nzLt_t, nzLt_f, znLt_t, znLt_f, nzEq_t, nzEq_f, znEq_t, znEq_f, rP_29, sg, show zI 42 = nI 42 from rfl, rP_28, rP_s28]
    rfl
  · have s := (kd_sg (q := q) ok (c := 47) (k := 25) rfl (by omega)).mp e
    rw [s] at sg
    rw [e]
    simp (disch := omega) only [↓reduceIte, Option.bind_some, Option.some.injEq, Prod.mk.injEq, and_self, and_true, true_and, eq_self, reduceCtorEq, not_false_eq_true, not_true_eq_false, or_true, true_or, or_false, false_or, bft, nAdd, nMul, nSub, nDiv, nRem, nAm1, nIx, nIn, bI_z, bI_o, ite_b1, ite_b0, zI_add, zI_sub, li0, li1, li2, li3, li4, li5, li6, li7, li8, li9, li10, li11, li12, li13, li14, li15, li16, li17, li18, li19, li20, li21, li22, li23, li24, li25, li26, li27, li28, li29, li30, li31, li32, li33, li34, li35, li36, li37, li40, li42, li43, li45, li47, li48, li57, li59, li60, li61, li62, li64, li80, li91, li93, li97, li99, li100, li122, li182, li199, li255, li300, li380, li400, li999, li1000, li3640, li4100, li65536, li99999, ln1, ln2, ln3, ln100, ln100000, tLe, fLe, tLt, fLt, tEq, fEq, zLe_t, zLe_f, zLt_t, zLt_f, zEq_t, zEq_f, nzLe_t, nzLe_f, znLe_t, znLe_f, nzLt_t, nzLt_f, znLt_t, znLt_f, nzEq_t, nzEq_f, znEq_t, znEq_f, rP_29, sg, show zI 47 = nI 47 from rfl, rP_28, rP_s28]
    rfl
  · have s := (kd_sg (q := q) ok (c := 37) (k := 26) rfl (by omega)).mp e
    rw [s] at sg
    rw [e]
    simp (disch := omega) only [↓reduceIte, Option.bind_some, Option.some.injEq, Prod.mk.injEq, and_self, and_true, true_and, eq_self, reduceCtorEq, not_false_eq_true, not_true_eq_false, or_true, true_or, or_false, false_or, bft, nAdd, nMul, nSub, nDiv, nRem, nAm1, nIx, nIn, bI_z, bI_o, ite_b1, ite_b0, zI_add, zI_sub, li0, li1, li2, li3, li4, li5, li6, li7, li8, li9, li10, li11, li12, li13, li14, li15, li16, li17, li18, li19, li20, li21, li22, li23, li24, li25, li26, li27, li28, li29, li30, li31, li32, li33, li34, li35, li36, li37, li40, li42, li43, li45, li47, li48, li57, li59, li60, li61, li62, li64, li80, li91, li93, li97, li99, li100, li122, li182, li199, li255, li300, li380, li400, li999, li1000, li3640, li4100, li65536, li99999, ln1, ln2, ln3, ln100, ln100000, tLe, fLe, tLt, fLt, tEq, fEq, zLe_t, zLe_f, zLt_t, zLt_f, zEq_t, zEq_f, nzLe_t, nzLe_f, znLe_t, znLe_f, nzLt_t, nzLt_f, znLt_t, znLt_f, nzEq_t, nzEq_f, znEq_t, znEq_f, rP_29, sg, show zI 37 = nI 37 from rfl, rP_28, rP_s28]
    rfl
theorem t8_n (ok : okT T) (hx : txR I T) (hq : q ≤ T.2) (h : isM (kd T q) = false) {g : Nat} : mX12_term_8 (g + 1) (rP I q 0) = some (rP I q 0) := by
  have hn := ok.1
  have sg := sign_ok (I := I) (f := 0) ok hx (p := q) (by omega)
  have sr := sgn_rng (T := T) (q := q)
  have n1 : sgn T q ≠ 42 := fun z => by rw [(kd_sg (q := q) ok (c := 42) (k := 24) rfl (by omega)).mpr z] at h; cases h
  have n2 : sgn T q ≠ 47 := fun z => by rw [(kd_sg (q := q) ok (c := 47) (k := 25) rfl (by omega)).mpr z] at h; cases h
  have n3 : sgn T q ≠ 37 := fun z => by rw [(kd_sg (q := q) ok (c := 37) (k := 26) rfl (by omega)).mpr z] at h; cases h
  rw [mX12_term_8]
  simp (disch := omega) only [↓reduceIte, Option.bind_some, Option.some.injEq, Prod.mk.injEq, and_self, and_true, true_and, eq_self, reduceCtorEq, not_false_eq_true, not_true_eq_false, or_true, true_or, or_false, false_or, bft, nAdd, nMul, nSub, nDiv, nRem, nAm1, nIx, nIn, bI_z, bI_o, ite_b1, ite_b0, zI_add, zI_sub, li0, li1, li2, li3, li4, li5, li6, li7, li8, li9, li10, li11, li12, li13, li14, li15, li16, li17, li18, li19, li20, li21, li22, li23, li24, li25, li26, li27, li28, li29, li30, li31, li32, li33, li34, li35, li36, li37, li40, li42, li43, li45, li47, li48, li57, li59, li60, li61, li62, li64, li80, li91, li93, li97, li99, li100, li122, li182, li199, li255, li300, li380, li400, li999, li1000, li3640, li4100, li65536, li99999, ln1, ln2, ln3, ln100, ln100000, tLe, fLe, tLt, fLt, tEq, fEq, zLe_t, zLe_f, zLt_t, zLt_f, zEq_t, zEq_f, nzLe_t, nzLe_f, znLe_t, znLe_f, nzLt_t, nzLt_f, znLt_t, znLt_f, nzEq_t, nzEq_f, znEq_t, znEq_f, rP_29, sg]
theorem s4_m (ok : okT T) (hx : txR I T) (hq : q ≤ T.2) (h : isA (kd T q) = true) {g : Nat} : mX12_sum_4 (g + 1) (rP I q 0) = Option.bind (mX12_term (rP I (q + 1) 0)) (fun q10 => Option.bind (mX12_entry q10 (nI (sortOf (kd T q))) (nI 0)) (fun q12 => mX12_sum_4 g q12)) := by
  have hn := ok.1
  have sg := sign_ok (I := I) (f := 0) ok hx (p := q) (by omega)
  rw [mX12_sum_4]
  unfold mX12_sum_29 mX12_sum_43
  rcases isA_cases h with e | e
  · have s := (kd_sg (q := q) ok (c := 43) (k := 22) rfl (by omega)).mp e
    rw [s] at sg
    rw [e]
    simp (disch := omega) only [↓reduceIte, Option.bind_some, Option.some.injEq, Prod.mk.injEq, and_self, and_true, true_and, eq_self, reduceCtorEq, not_false_eq_true, not_true_eq_false, or_true, true_or, or_false, false_or, bft, nAdd, nMul, nSub, nDiv, nRem, nAm1, nIx, nIn, bI_z, bI_o, ite_b1, ite_b0, zI_add, zI_sub, li0, li1, li2, li3, li4, li5, li6, li7, li8, li9, li10, li11, li12, li13, li14, li15, li16, li17, li18, li19, li20, li21, li22, li23, li24, li25, li26, li27, li28, li29, li30, li31, li32, li33, li34, li35, li36, li37, li40, li42, li43, li45, li47, li48, li57, li59, li60, li61, li62, li64, li80, li91, li93, li97, li99, li100, li122, li182, li199, li255, li300, li380, li400, li999, li1000, li3640, li4100, li65536, li99999, ln1, ln2, ln3, ln100, ln100000, tLe, fLe, tLt, fLt, tEq, fEq, zLe_t, zLe_f, zLt_t, zLt_f, zEq_t, zEq_f, nzLe_t, nzLe_f, znLe_t, znLe_f, nzLt_t, nzLt_f, znLt_t, znLt_f, nzEq_t, nzEq_f, znEq_t, znEq_f, rP_29, sg, show zI 43 = nI 43 from rfl, rP_28, rP_s28]
    rfl
  · have s := (kd_sg (q := q) ok (c := 45) (k := 23) rfl (by omega)).mp e
    rw [s] at sg
    rw [e]
    simp (disch := omega) only [↓reduceIte, Option.bind_some, Option.some.injEq, Prod.mk.injEq, and_self, and_true, true_and, eq_self, reduceCtorEq, not_false_eq_true, not_true_eq_false, or_true, true_or, or_false, false_or, bft, nAdd, nMul, nSub, nDiv, nRem, nAm1, nIx, nIn, bI_z, bI_o, ite_b1, ite_b0, zI_add, zI_sub, li0, li1, li2, li3, li4, li5, li6, li7, li8, li9, li10, li11, li12, li13, li14, li15, li16, li17, li18, li19, li20, li21, li22, li23, li24, li25, li26, li27, li28, li29, li30, li31, li32, li33, li34, li35, li36, li37, li40, li42, li43, li45, li47, li48, li57, li59, li60, li61, li62, li64, li80, li91, li93, li97, li99, li100, li122, li182, li199, li255, li300, li380, li400, li999, li1000, li3640, li4100, li65536, li99999, ln1, ln2, ln3, ln100, ln100000, tLe, fLe, tLt, fLt, tEq, fEq, zLe_t, zLe_f, zLt_t, zLt_f, zEq_t, zEq_f, nzLe_t, nzLe_f, znLe_t, znLe_f, nzLt_t, nzLt_f, znLt_t, znLt_f, nzEq_t, nzEq_f, znEq_t, znEq_f, rP_29, sg, show zI 45 = nI 45 from rfl, rP_28, rP_s28]
    rfl
theorem s4_n (ok : okT T) (hx : txR I T) (hq : q ≤ T.2) (h : isA (kd T q) = false) {g : Nat} : mX12_sum_4 (g + 1) (rP I q 0) = some (rP I q 0) := by
  have hn := ok.1
  have sg := sign_ok (I := I) (f := 0) ok hx (p := q) (by omega)
  have sr := sgn_rng (T := T) (q := q)
  have n1 : sgn T q ≠ 43 := fun z => by rw [(kd_sg (q := q) ok (c := 43) (k := 22) rfl (by omega)).mpr z] at h; cases h
  have n2 : sgn T q ≠ 45 := fun z => by rw [(kd_sg (q := q) ok (c := 45) (k := 23) rfl (by omega)).mpr z] at h; cases h
  rw [mX12_sum_4]
  simp (disch := omega) only [↓reduceIte, Option.bind_some, Option.some.injEq, Prod.mk.injEq, and_self, and_true, true_and, eq_self, reduceCtorEq, not_false_eq_true, not_true_eq_false, or_true, true_or, or_false, false_or, bft, nAdd, nMul, nSub, nDiv, nRem, nAm1, nIx, nIn, bI_z, bI_o, ite_b1, ite_b0, zI_add, zI_sub, li0, li1, li2, li3, li4, li5, li6, li7, li8, li9, li10, li11, li12, li13, li14, li15, li16, li17, li18, li19, li20, li21, li22, li23, li24, li25, li26, li27, li28, li29, li30, li31, li32, li33, li34, li35, li36, li37, li40, li42, li43, li45, li47, li48, li57, li59, li60, li61, li62, li64, li80, li91, li93, li97, li99, li100, li122, li182, li199, li255, li300, li380, li400, li999, li1000, li3640, li4100, li65536, li99999, ln1, ln2, ln3, ln100, ln100000, tLe, fLe, tLt, fLt, tEq, fEq, zLe_t, zLe_f, zLt_t, zLt_f, zEq_t, zEq_f, nzLe_t, nzLe_f, znLe_t, znLe_f, nzLt_t, nzLt_f, znLt_t, znLt_f, nzEq_t, nzEq_f, znEq_t, znEq_f, rP_29, sg]
theorem numOf_0 {k : Nat} (h : 13 ≤ k ∧ k < 64) : numOf k = 0 := by unfold numOf; rw [if_neg (by omega), if_neg (by omega)]
theorem tmR_go (ok : okT T) (hr : r < 6) : ∀ (m g q c : Nat) (cd : List Nat) (I : Nat → Nat → Int32), T.2 - q < m → T.2 - q < g → q ≤ T.2 → sk T q = q → txR I T → rC I r c cd → 3 * cd.length ≤ 6 * c + q → c ≤ 60 → bRes T r I cd (tmL T m q c) (mX12_term_8 g (rP I q 0))
  | 0, g, q, c, cd, I, h, _, _, _, _, _, _, _ => absurd h (by omega)
  | m + 1, g, q, c, cd, I, h1, h2, hq, hs, hx, C, hb, hc => by
    have hn := ok.1
    obtain ⟨g, rfl⟩ : ∃ z, g = z + 1 := ⟨g - 1, by omega⟩
    rw [tmL]
    cases hm : isM (kd T q) with
    | false =>
      rw [if_neg (by decide), t8_n ok hx hq hm]
      exact ⟨I, rfl, by rw [List.append_nil]; exact C, frB_rfl⟩
    | true =>
      rw [if_pos rfl, t8_m ok hx hq hm]
      have mb := isM_bin hm
      have kn := kd_nx (T := T) (q := q) (by omega)
      have e1 := en_1 (T := T) (q := q) (by omega)
      have vo := valR_ok (p := q + 1) (q := nx T q) ok hx hr C (by omega) (by unfold nx; rw [e1.1]) (by omega) hc
      cases hv : valT T (nx T q) c with
      | error e =>
        rw [hv] at vo
        obtain ⟨he, J, p', v1, v2, v3⟩ := vo
        rw [bd_e]
        obtain ⟨g, rfl⟩ : ∃ z, g = z + 1 := ⟨g - 1, by omega⟩
        refine ⟨he, J, sk T p', ?_, sk_n v2, v3⟩
        rw [v1, Option.bind_some, entry_f he.1 (by omega), Option.bind_some, blanks_ok ok (txR_B v3 hx) (by omega), Option.bind_some, t8_f he.1 (by omega)]
      | ok y =>
        obtain ⟨x, q1, c1⟩ := y
        rw [hv] at vo
        obtain ⟨J, p', v1, v2, v3, v4, v5⟩ := vo
        have pv := val_pr (T := T) (q := nx T q) hc _ _ _ hv
        have xl : 3 * (cd ++ x).length + 3 ≤ 6 * c1 + q1 := by rw [List.length_append]; omega
        obtain ⟨K, w1, w2, w3⟩ := entry_ok (p := p') (x := kd T q) v4 hr (by omega)
        rw [numOf_0 (by omega)] at w1
        have ih := tmR_go ok hr m g q1 c1 (cd ++ x ++ [kd T q]) K (by omega) (by omega) pv.1.2.1 pv.1.2.2 (txR_B (frB_tr v5 w3) hx) w2 (by rw [List.length_append]; simp only [List.length_cons, List.length_nil]; omega) (by omega)
        rw [bd_o, v1, Option.bind_some, w1, Option.bind_some, blanks_ok ok (txR_B (frB_tr v5 w3) hx) (by omega), Option.bind_some, v3]
        refine bRes_fr (frB_tr v5 w3) ?_
        cases ht : tmL T m q1 c1 with
        | error e =>
          rw [ht] at ih
          exact ih
        | ok y =>
          obtain ⟨o, q2, c2⟩ := y
          rw [ht] at ih
          obtain ⟨N, n1, n2, n3⟩ := ih
          exact ⟨N, n1, by rw [show cd ++ (x ++ kd T q :: o) = cd ++ x ++ [kd T q] ++ o by simp]; exact n2, n3⟩
theorem termR_ok (ok : okT T) (hr : r < 6) (hx : txR I T) (C : rC I r c cd) (hp : p ≤ T.2) (hq : sk T p = q) (hb : 3 * cd.length ≤ 6 * c + q) (hc : c ≤ 60) : bRes T r I cd (term T q c) (mX12_term (rP I p 0)) := by
  have hn := ok.1
  have hqn := sk_n (T := T) hp
  rw [hq] at hqn
  have vo := valR_ok (p := p) (q := q) ok hx hr C hp hq (by omega) hc
  unfold term mX12_term
  cases hv : valT T q c with
  | error e =>
    rw [hv] at vo
    obtain ⟨he, J, p', v1, v2, v3⟩ := vo
    rw [bd_e]
    refine ⟨he, J, sk T p', ?_, sk_n v2, v3⟩
    rw [v1, Option.bind_some, blanks_ok ok (txR_B v3 hx) (by omega), Option.bind_some, show xf = 999999 + 1 from rfl, t8_f he.1 (by omega)]
  | ok y =>
    obtain ⟨x, q1, c1⟩ := y
    rw [hv] at vo
    obtain ⟨J, p', v1, v2, v3, v4, v5⟩ := vo
    have pv := val_pr (T := T) (q := q) hc _ _ _ hv
    have ih := tmR_go ok hr 401 xf q1 c1 (cd ++ x) J (by omega) (by unfold xf; omega) pv.1.2.1 pv.1.2.2 (txR_B v5 hx) v4 (by rw [List.length_append]; omega) (by omega)
    rw [bd_o, v1, Option.bind_some, blanks_ok ok (txR_B v5 hx) (by omega), Option.bind_some, v3]
    refine bRes_fr v5 ?_
    cases ht : tmL T 401 q1 c1 with
    | error e =>
      rw [ht] at ih
      exact ih
    | ok y =>
      obtain ⟨o, q2, c2⟩ := y
      rw [ht] at ih
      obtain ⟨N, n1, n2, n3⟩ := ih
      exact ⟨N, n1, by rw [show cd ++ (x ++ o) = cd ++ x ++ o by simp]; exact n2, n3⟩
theorem smR_go (ok : okT T) (hr : r < 6) : ∀ (m g q c : Nat) (cd : List Nat) (I : Nat → Nat → Int32), T.2 - q < m → T.2 - q < g → q ≤ T.2 → sk T q = q → txR I T → rC I r c cd → 3 * cd.length ≤ 6 * c + q → c ≤ 60 → bRes T r I cd (smL T m q c) (mX12_sum_4 g (rP I q 0))
  | 0, g, q, c, cd, I, h, _, _, _, _, _, _, _ => absurd h (by omega)
  | m + 1, g, q, c, cd, I, h1, h2, hq, hs, hx, C, hb, hc => by
    have hn := ok.1
    obtain ⟨g, rfl⟩ : ∃ z, g = z + 1 := ⟨g - 1, by omega⟩
    rw [smL]
    cases hm : isA (kd T q) with
    | false =>
      rw [if_neg (by decide), s4_n ok hx hq hm]
      exact ⟨I, rfl, by rw [List.append_nil]; exact C, frB_rfl⟩
    | true =>
      rw [if_pos rfl, s4_m ok hx hq hm]
      have mb := isA_bin hm
      have kn := kd_nx (T := T) (q := q) (by omega)
      have e1 := en_1 (T := T) (q := q) (by omega)
      have vo := termR_ok (p := q + 1) (q := nx T q) ok hr hx C (by omega) (by unfold nx; rw [e1.1]) (by omega) hc
      cases hv : term T (nx T q) c with
      | error e =>
        rw [hv] at vo
        obtain ⟨he, J, p', v1, v2, v3⟩ := vo
        rw [bd_e]
        obtain ⟨g, rfl⟩ : ∃ z, g = z + 1 := ⟨g - 1, by omega⟩
        refine ⟨he, J, p', ?_, v2, v3⟩
        rw [v1, Option.bind_some, entry_f he.1 (by omega), Option.bind_some, s4_f he.1 (by omega)]
      | ok y =>
        obtain ⟨x, q1, c1⟩ := y
        rw [hv] at vo
        obtain ⟨J, v1, v4, v5⟩ := vo
        have pv := term_pr (T := T) (q := nx T q) hc _ _ _ hv
        have xl : 3 * (cd ++ x).length + 3 ≤ 6 * c1 + q1 := by rw [List.length_append]; omega
        obtain ⟨K, w1, w2, w3⟩ := entry_ok (p := q1) (x := kd T q) v4 hr (by omega)
        rw [numOf_0 (by omega)] at w1
        have ih := smR_go ok hr m g q1 c1 (cd ++ x ++ [kd T q]) K (by omega) (by omega) pv.1.2.1 pv.1.2.2 (txR_B (frB_tr v5 w3) hx) w2 (by rw [List.length_append]; simp only [List.length_cons, List.length_nil]; omega) (by omega)
        rw [bd_o, v1, Option.bind_some, w1, Option.bind_some]
        refine bRes_fr (frB_tr v5 w3) ?_
        cases ht : smL T m q1 c1 with
        | error e =>
          rw [ht] at ih
          exact ih
        | ok y =>
          obtain ⟨o, q2, c2⟩ := y
          rw [ht] at ih
          obtain ⟨N, n1, n2, n3⟩ := ih
          exact ⟨N, n1, by rw [show cd ++ (x ++ kd T q :: o) = cd ++ x ++ [kd T q] ++ o by simp]; exact n2, n3⟩
theorem sumR_ok (ok : okT T) (hr : r < 6) (hx : txR I T) (C : rC I r c cd) (hp : p ≤ T.2) (hq : sk T p = q) (hb : 3 * cd.length ≤ 6 * c + q) (hc : c ≤ 60) : bRes T r I cd (sumT T q c) (mX12_sum (rP I p 0)) := by
  have hn := ok.1
  have vo := termR_ok (p := p) (q := q) ok hr hx C hp hq hb hc
  unfold sumT mX12_sum
  cases hv : term T q c with
  | error e =>
    rw [hv] at vo
    obtain ⟨he, J, p', v1, v2, v3⟩ := vo
    rw [bd_e]
    refine ⟨he, J, p', ?_, v2, v3⟩
    rw [v1, Option.bind_some, show xf = 999999 + 1 from rfl, s4_f he.1 (by omega)]
  | ok y =>
    obtain ⟨x, q1, c1⟩ := y
    rw [hv] at vo
    obtain ⟨J, v1, v4, v5⟩ := vo
    have pv := term_pr (T := T) (q := q) hc _ _ _ hv
    have ih := smR_go ok hr 401 xf q1 c1 (cd ++ x) J (by omega) (by unfold xf; omega) pv.1.2.1 pv.1.2.2 (txR_B v5 hx) v4 (by rw [List.length_append]; omega) (by omega)
    rw [bd_o, v1, Option.bind_some]
    refine bRes_fr v5 ?_
    cases ht : smL T 401 q1 c1 with
    | error e =>
      rw [ht] at ih
      exact ih
    | ok y =>
      obtain ⟨o, q2, c2⟩ := y
      rw [ht] at ih
      obtain ⟨N, n1, n2, n3⟩ := ih
      exact ⟨N, n1, by rw [show cd ++ (x ++ o) = cd ++ x ++ o by simp]; exact n2, n3⟩
theorem sumR_f (ok : okT T) (hx : txR I T) (h36 : I 123 36 = nI 13) (hp : p ≤ T.2) (hf : 0 < f) (hf2 : f < 100000) : ∃ J p', mX12_sum (rP I p f) = some (rP J p' f) ∧ p' ≤ T.2 ∧ frB r I J := by
  have hn := ok.1
  obtain ⟨J, p', v1, v2, v3⟩ := valR_f (r := r) ok hx h36 hp hf hf2
  refine ⟨J, sk T p', ?_, sk_n v2, v3⟩
  unfold mX12_sum mX12_term
  rw [v1, Option.bind_some, blanks_ok ok (txR_B v3 hx) (by omega), Option.bind_some, show xf = 999999 + 1 from rfl, t8_f hf hf2, Option.bind_some, s4_f hf hf2]
/-- a comparison's sign and what it is -/
theorem isP_cases {k : Nat} (h : isP k = true) : k = 27 ∨ k = 28 ∨ k = 29 ∨ k = 33 ∨ k = 34 := by unfold isP at h; simp at h; omega
theorem cmp_no (ok : okT T) (hx : txR I T) (hq : q ≤ T.2) (h : isP (kd T q) = false) (F : Int32 → Option (Nat → Nat → Int32)) (G : Option (Nat → Nat → Int32)) : Option.bind (mX12_sign (rP I q f)) (fun q3 => (if q3 = (60 : Int32) then F q3 else (if q3 = (61 : Int32) then F q3 else (if q3 = (62 : Int32) then F q3 else G)))) = G := by
  have hn := ok.1
  have sg := sign_ok (I := I) (f := f) ok hx (p := q) (by omega)
  have sr := sgn_rng (T := T) (q := q)
  have n1 : sgn T q ≠ 60 := fun z => by rcases (kd_le (q := q) ok).mpr z with e | e <;> (rw [e] at h; cases h)
  have n2 : sgn T q ≠ 61 := fun z => by rw [(kd_sg (q := q) ok (c := 61) (k := 28) rfl (by omega)).mpr z] at h; cases h
  have n3 : sgn T q ≠ 62 := fun z => by rcases (kd_ge (q := q) ok).mpr z with e | e <;> (rw [e] at h; cases h)
  simp (disch := omega) only [↓reduceIte, Option.bind_some, Option.some.injEq, Prod.mk.injEq, and_self, and_true, true_and, eq_self, reduceCtorEq, not_false_eq_true, not_true_eq_false, or_true, true_or, or_false, false_or, bft, nAdd, nMul, nSub, nDiv, nRem, nAm1, nIx, nIn, bI_z, bI_o, ite_b1, ite_b0, zI_add, zI_sub, li0, li1, li2, li3, li4, li5, li6, li7, li8, li9, li10, li11, li12, li13, li14, li15, li16, li17, li18, li19, li20, li21, li22, li23, li24, li25, li26, li27, li28, li29, li30, li31, li32, li33, li34, li35, li36, li37, li40, li42, li43, li45, li47, li48, li57, li59, li60, li61, li62, li64, li80, li91, li93, li97, li99, li100, li122, li182, li199, li255, li300, li380, li400, li999, li1000, li3640, li4100, li65536, li99999, ln1, ln2, ln3, ln100, ln100000, tLe, fLe, tLt, fLt, tEq, fEq, zLe_t, zLe_f, zLt_t, zLt_f, zEq_t, zEq_f, nzLe_t, nzLe_f, znLe_t, znLe_f, nzLt_t, nzLt_f, znLt_t, znLt_f, nzEq_t, nzEq_f, znEq_t, znEq_f, sg]
/-- the sign's place is gone past, and its sort is known -/
theorem cmp_37 (ok : okT T) (hx : txR I T) (hq : q ≤ T.2) (h : isP (kd T q) = true) (v : Int32) : ∃ a1 : Int32, (a1 = (60 : Int32) ∨ a1 = (61 : Int32) ∨ a1 = (62 : Int32)) ∧ mX12_sign (rP I q 0) = some a1 ∧ (∀ f K, mX12_isCounted (rP I q 0) (nI q) = some (rP K q f) → txR K T → mX12_compared_37 (rP I q 0) a1 = Option.bind (mX12_sum (rP K (en T q) f)) (fun q10 => mX12_compared_139 q10 (nI (sortOf (kd T q))))) := by
  have hn := ok.1
  have rb := isBin_rng (isP_bin h)
  have sg := sign_ok (I := I) (f := 0) ok hx (p := q) (by omega)
  have hq2 : q < T.2 := (kd_nx (by omega)).1
  rcases isP_cases h with e | e | e | e | e
  · have s := (kd_le (q := q) ok).mp (Or.inl e)
    have s2 : sgn T (q + 1) ≠ 61 := fun z => by have := (kd_two (q := q) ok (Or.inl s)).mpr z; omega
    have e1 := en_1 (T := T) (q := q) (by omega)
    rw [s] at sg
    refine ⟨nI 60, Or.inl rfl, sg, fun f K hK hxK => ?_⟩
    have sg2 := sign_ok (I := K) (f := f) ok hxK (p := q + 1) (by omega)
    have sr2 := sgn_rng (T := T) (q := q + 1)
    rw [e1.1, e]
    unfold mX12_compared_37 mX12_compared_74 mX12_compared_75 mX12_compared_90
    simp (disch := omega) only [↓reduceIte, Option.bind_some, Option.some.injEq, Prod.mk.injEq, and_self, and_true, true_and, eq_self, reduceCtorEq, not_false_eq_true, not_true_eq_false, or_true, true_or, or_false, false_or, bft, nAdd, nMul, nSub, nDiv, nRem, nAm1, nIx, nIn, bI_z, bI_o, ite_b1, ite_b0, zI_add, zI_sub, li0, li1, li2, li3, li4, li5, li6, li7, li8, li9, li10, li11, li12, li13, li14, li15, li16, li17, li18, li19, li20, li21, li22, li23, li24, li25, li26, li27, li28, li29, li30, li31, li32, li33, li34, li35, li36, li37, li40, li42, li43, li45, li47, li48, li57, li59, li60, li61, li62, li64, li80, li91, li93, li97, li99, li100, li122, li182, li199, li255, li300, li380, li400, li999, li1000, li3640, li4100, li65536, li99999, ln1, ln2, ln3, ln100, ln100000, tLe, fLe, tLt, fLt, tEq, fEq, zLe_t, zLe_f, zLt_t, zLt_f, zEq_t, zEq_f, nzLe_t, nzLe_f, znLe_t, znLe_f, nzLt_t, nzLt_f, znLt_t, znLt_f, nzEq_t, nzEq_f, znEq_t, znEq_f, rP_28, hK, rP_s28, sg2]
    rfl
  · have s := (kd_sg (q := q) ok (c := 61) (k := 28) rfl (by omega)).mp e
    have e1 := en_1 (T := T) (q := q) (by omega)
    rw [s] at sg
    refine ⟨nI 61, Or.inr (Or.inl rfl), sg, fun f K hK hxK => ?_⟩
    rw [e1.1, e]
    unfold mX12_compared_37 mX12_compared_74 mX12_compared_75 mX12_compared_90
    simp (disch := omega) only [↓reduceIte, Option.bind_some, Option.some.injEq, Prod.mk.injEq, and_self, and_true, true_and, eq_self, reduceCtorEq, not_false_eq_true, not_true_eq_false, or_true, true_or, or_false, false_or, bft, nAdd, nMul, nSub, nDiv, nRem, nAm1, nIx, nIn, bI_z, bI_o, ite_b1, ite_b0, zI_add, zI_sub, li0, li1, li2, li3, li4, li5, li6, li7, li8, li9, li10, li11, li12, li13, li14, li15, li16, li17, li18, li19, li20, li21, li22, li23, li24, li25, li26, li27, li28, li29, li30, li31, li32, li33, li34, li35, li36, li37, li40, li42, li43, li45, li47, li48, li57, li59, li60, li61, li62, li64, li80, li91, li93, li97, li99, li100, li122, li182, li199, li255, li300, li380, li400, li999, li1000, li3640, li4100, li65536, li99999, ln1, ln2, ln3, ln100, ln100000, tLe, fLe, tLt, fLt, tEq, fEq, zLe_t, zLe_f, zLt_t, zLt_f, zEq_t, zEq_f, nzLe_t, nzLe_f, znLe_t, znLe_f, nzLt_t, nzLt_f, znLt_t, znLt_f, nzEq_t, nzEq_f, znEq_t, znEq_f, rP_28, hK, rP_s28]
    rfl
  · have s := (kd_ge (q := q) ok).mp (Or.inl e)
    have s2 : sgn T (q + 1) ≠ 61 := fun z => by have := (kd_two (q := q) ok (Or.inr s)).mpr z; omega
    have e1 := en_1 (T := T) (q := q) (by omega)
    rw [s] at sg
    refine ⟨nI 62, Or.inr (Or.inr rfl), sg, fun f K hK hxK => ?_⟩
    have sg2 := sign_ok (I := K) (f := f) ok hxK (p := q + 1) (by omega)
    have sr2 := sgn_rng (T := T) (q := q + 1)
    rw [e1.1, e]
    unfold mX12_compared_37 mX12_compared_74 mX12_compared_75 mX12_compared_90
    simp (disch := omega) only [↓reduceIte, Option.bind_some, Option.some.injEq, Prod.mk.injEq, and_self, and_true, true_and, eq_self, reduceCtorEq, not_false_eq_true, not_true_eq_false, or_true, true_or, or_false, false_or, bft, nAdd, nMul, nSub, nDiv, nRem, nAm1, nIx, nIn, bI_z, bI_o, ite_b1, ite_b0, zI_add, zI_sub, li0, li1, li2, li3, li4, li5, li6, li7, li8, li9, li10, li11, li12, li13, li14, li15, li16, li17, li18, li19, li20, li21, li22, li23, li24, li25, li26, li27, li28, li29, li30, li31, li32, li33, li34, li35, li36, li37, li40, li42, li43, li45, li47, li48, li57, li59, li60, li61, li62, li64, li80, li91, li93, li97, li99, li100, li122, li182, li199, li255, li300, li380, li400, li999, li1000, li3640, li4100, li65536, li99999, ln1, ln2, ln3, ln100, ln100000, tLe, fLe, tLt, fLt, tEq, fEq, zLe_t, zLe_f, zLt_t, zLt_f, zEq_t, zEq_f, nzLe_t, nzLe_f, znLe_t, znLe_f, nzLt_t, nzLt_f, znLt_t, znLt_f, nzEq_t, nzEq_f, znEq_t, znEq_f, rP_28, hK, rP_s28, sg2]
    rfl
  · have s := (kd_le (q := q) ok).mp (Or.inr e)
    have s2 := (kd_two (q := q) ok (Or.inl s)).mp (Or.inl e)
    have e1 := en_2 (T := T) (q := q) (by omega)
    rw [s] at sg
    refine ⟨nI 60, Or.inl rfl, sg, fun f K hK hxK => ?_⟩
    have sg2 := sign_ok (I := K) (f := f) ok hxK (p := q + 1) (by omega)
    rw [s2] at sg2
    rw [e1.1, e]
    unfold mX12_compared_37 mX12_compared_74 mX12_compared_75 mX12_compared_90
    simp (disch := omega) only [↓reduceIte, Option.bind_some, Option.some.injEq, Prod.mk.injEq, and_self, and_true, true_and, eq_self, reduceCtorEq, not_false_eq_true, not_true_eq_false, or_true, true_or, or_false, false_or, bft, nAdd, nMul, nSub, nDiv, nRem, nAm1, nIx, nIn, bI_z, bI_o, ite_b1, ite_b0, zI_add, zI_sub, li0, li1, li2, li3, li4, li5, li6, li7, li8, li9, li10, li11, li12, li13, li14, li15, li16, li17, li18, li19, li20, li21, li22, li23, li24, li25, li26, li27, li28, li29, li30, li31, li32, li33, li34, li35, li36, li37, li40, li42, li43, li45, li47, li48, li57, li59, li60, li61, li62, li64, li80, li91, li93, li97, li99, li100, li122, li182, li199, li255, li300, li380, li400, li999, li1000, li3640, li4100, li65536, li99999, ln1, ln2, ln3, ln100, ln100000, tLe, fLe, tLt, fLt, tEq, fEq, zLe_t, zLe_f, zLt_t, zLt_f, zEq_t, zEq_f, nzLe_t, nzLe_f, znLe_t, znLe_f, nzLt_t, nzLt_f, znLt_t, znLt_f, nzEq_t, nzEq_f, znEq_t, znEq_f, rP_28, hK, rP_s28, sg2, show zI 61 = nI 61 from rfl]
    rfl
  · have s := (kd_ge (q := q) ok).mp (Or.inr e)
    have s2 := (kd_two (q := q) ok (Or.inr s)).mp (Or.inr e)
    have e1 := en_2 (T := T) (q := q) (by omega)
    rw [s] at sg
    refine ⟨nI 62, Or.inr (Or.inr rfl), sg, fun f K hK hxK => ?_⟩
    have sg2 := sign_ok (I := K) (f := f) ok hxK (p := q + 1) (by omega)
    rw [s2] at sg2
    rw [e1.1, e]
    unfold mX12_compared_37 mX12_compared_74 mX12_compared_75 mX12_compared_90
    simp (disch := omega) only [↓reduceIte, Option.bind_some, Option.some.injEq, Prod.mk.injEq, and_self, and_true, true_and, eq_self, reduceCtorEq, not_false_eq_true, not_true_eq_false, or_true, true_or, or_false, false_or, bft, nAdd, nMul, nSub, nDiv, nRem, nAm1, nIx, nIn, bI_z, bI_o, ite_b1, ite_b0, zI_add, zI_sub, li0, li1, li2, li3, li4, li5, li6, li7, li8, li9, li10, li11, li12, li13, li14, li15, li16, li17, li18, li19, li20, li21, li22, li23, li24, li25, li26, li27, li28, li29, li30, li31, li32, li33, li34, li35, li36, li37, li40, li42, li43, li45, li47, li48, li57, li59, li60, li61, li62, li64, li80, li91, li93, li97, li99, li100, li122, li182, li199, li255, li300, li380, li400, li999, li1000, li3640, li4100, li65536, li99999, ln1, ln2, ln3, ln100, ln100000, tLe, fLe, tLt, fLt, tEq, fEq, zLe_t, zLe_f, zLt_t, zLt_f, zEq_t, zEq_f, nzLe_t, nzLe_f, znLe_t, znLe_f, nzLt_t, nzLt_f, znLt_t, znLt_f, nzEq_t, nzEq_f, znEq_t, znEq_f, rP_28, hK, rP_s28, sg2, show zI 61 = nI 61 from rfl]
    rfl
end

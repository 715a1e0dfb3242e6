/-! A reader's steps: in the class, in the reference. -/
def tA (T : txT) (q : Nat) (I : Nat → Nat → Int32) : Prop := ∃ i m, i ≤ m ∧ m ≤ 400 ∧ tkA T i = q ∧ tkA T m = T.2 ∧ (∀ j, j < m → tkA T j < T.2) ∧ I 3 4 = nI i ∧ I 3 3 = nI (m + 1) ∧ ∀ j, j ≤ m → tkR I T j
def tkN (T : txT) (q lo : Nat) (hi : Int) : Except Nat (Nat × Nat) := if kd T q = 35 then (if nm T q < lo ∨ hi < nm T q then .error (1 + 8 * q + 1) else .ok ((nm T q).toNat, nx T q)) else .error (1 + 8 * q)
section
variable {T : txT} {I J : Nat → Nat → Int32} {p q m : Nat}
theorem tA_n (h : tA T q I) : q ≤ T.2 := by
  obtain ⟨i, m, h1, h2, h3, h4, h5, h6⟩ := h
  rcases Nat.lt_or_ge i m with c | c
  · have := h5 i c; omega
  · rw [show i = m by omega] at h3; omega
theorem tA_congr (hb : ∀ b, 4 ≤ b → b ≤ 6 → J b = I b) (h3 : J 3 3 = I 3 3) (h4 : J 3 4 = I 3 4) (h : tA T q I) : tA T q J := by
  obtain ⟨i, m, a1, a2, a3, a4, a5, a6, a7, a8⟩ := h
  refine ⟨i, m, a1, a2, a3, a4, a5, h4.trans a6, h3.trans a7, fun j hj => ?_⟩
  unfold tkR
  rw [hb 4 (by omega) (by omega), hb 5 (by omega) (by omega), hb 6 (by omega) (by omega)]
  exact a8 j hj
theorem kind_ok (h : tA T q I) : mX9_kind I = some (nI (kd T q)) := by
  obtain ⟨i, m, a1, a2, a3, a4, a5, a6, a7, a8⟩ := h
  have r := a8 i a1
  unfold tkR at r
  rw [a3] at r
  unfold mX9_kind
  simp (disch := omega) only [↓reduceIte, Option.bind_some, Option.some.injEq, Prod.mk.injEq, and_self, and_true, true_and, eq_self, reduceCtorEq, not_false_eq_true, not_true_eq_false, or_true, true_or, or_false, false_or, bft, nAdd, nMul, nSub, nDiv, nRem, nAm1, nIx, nIn, bI_z, bI_o, ite_b1, ite_b0, zI_add, zI_sub, li0, li1, li2, li3, li4, li5, li6, li7, li8, li9, li10, li11, li12, li13, li14, li15, li16, li17, li18, li19, li20, li21, li22, li23, li24, li25, li26, li27, li28, li29, li30, li31, li32, li33, li34, li35, li36, li37, li40, li42, li43, li45, li47, li48, li57, li59, li60, li61, li62, li64, li80, li91, li93, li97, li99, li100, li122, li182, li199, li255, li300, li380, li400, li999, li1000, li3640, li4100, li65536, li99999, ln1, ln2, ln3, ln100, ln100000, tLe, fLe, tLt, fLt, tEq, fEq, zLe_t, zLe_f, zLt_t, zLt_f, zEq_t, zEq_f, nzLe_t, nzLe_f, znLe_t, znLe_f, nzLt_t, nzLt_f, znLt_t, znLt_f, nzEq_t, nzEq_f, znEq_t, znEq_f, a6, a7, r.1]
theorem number_ok (h : tA T q I) : mX9_number I = some (zI (nm T q)) := by
  obtain ⟨i, m, a1, a2, a3, a4, a5, a6, a7, a8⟩ := h
  have r := a8 i a1
  unfold tkR at r
  rw [a3] at r
  unfold mX9_number
  simp (disch := omega) only [↓reduceIte, Option.bind_some, Option.some.injEq, Prod.mk.injEq, and_self, and_true, true_and, eq_self, reduceCtorEq, not_false_eq_true, not_true_eq_false, or_true, true_or, or_false, false_or, bft, nAdd, nMul, nSub, nDiv, nRem, nAm1, nIx, nIn, bI_z, bI_o, ite_b1, ite_b0, zI_add, zI_sub, li0, li1, li2, li3, li4, li5, li6, li7, li8, li9, li10, li11, li12, li13, li14, li15, li16, li17, li18, li19, li20, li21, li22, li23, li24, li25, li26, li27, li28, li29, li30, li31, li32, li33, li34, li35, li36, li37, li40, li42, li43, li45, li47, li48, li57, li59, li60, li61, li62, li64, li80, li91, li93, li97, li99, li100, li122, li182, li199, li255, li300, li380, li400, li999, li1000, li3640, li4100, li65536, li99999, ln1, ln2, ln3, ln100, ln100000, tLe, fLe, tLt, fLt, tEq, fEq, zLe_t, zLe_f, zLt_t, zLt_f, zEq_t, zEq_f, nzLe_t, nzLe_f, znLe_t, znLe_f, nzLt_t, nzLt_f, znLt_t, znLt_f, nzEq_t, nzEq_f, znEq_t, znEq_f, a6, a7, r.2.2]
theorem fail_ok (ok : okT T) (h : tA T q I) {k : Nat} (hk : k < 8) : mX9_fail I (nI k) = some (nI 0, xu I 3 5 (nI (1 + 8 * q + k))) := by
  have hq := tA_n h
  have hn := ok.1
  obtain ⟨i, m, a1, a2, a3, a4, a5, a6, a7, a8⟩ := h
  have r := a8 i a1
  unfold tkR at r
  rw [a3] at r
  unfold mX9_fail mX9_fail_24
  simp (disch := omega) only [↓reduceIte, Option.bind_some, Option.some.injEq, Prod.mk.injEq, and_self, and_true, true_and, eq_self, reduceCtorEq, not_false_eq_true, not_true_eq_false, or_true, true_or, or_false, false_or, bft, nAdd, nMul, nSub, nDiv, nRem, nAm1, nIx, nIn, bI_z, bI_o, ite_b1, ite_b0, zI_add, zI_sub, li0, li1, li2, li3, li4, li5, li6, li7, li8, li9, li10, li11, li12, li13, li14, li15, li16, li17, li18, li19, li20, li21, li22, li23, li24, li25, li26, li27, li28, li29, li30, li31, li32, li33, li34, li35, li36, li37, li40, li42, li43, li45, li47, li48, li57, li59, li60, li61, li62, li64, li80, li91, li93, li97, li99, li100, li122, li182, li199, li255, li300, li380, li400, li999, li1000, li3640, li4100, li65536, li99999, ln1, ln2, ln3, ln100, ln100000, tLe, fLe, tLt, fLt, tEq, fEq, zLe_t, zLe_f, zLt_t, zLt_f, zEq_t, zEq_f, nzLe_t, nzLe_f, znLe_t, znLe_f, nzLt_t, nzLt_f, znLt_t, znLt_f, nzEq_t, nzEq_f, znEq_t, znEq_f, a6, a7, r.2.1]
theorem step_ok (h : tA T q I) (hq : q < T.2) : ∃ v, mX9_step I = some (xu I 3 4 v) ∧ tA T (nx T q) (xu I 3 4 v) := by
  obtain ⟨i, m, a1, a2, a3, a4, a5, a6, a7, a8⟩ := h
  have hi : i < m := by
    rcases Nat.lt_or_ge i m with c | c
    · exact c
    · rw [show i = m by omega] at a3; omega
  refine ⟨nI (i + 1), ?_, i + 1, m, hi, a2, by rw [tkA, a3], a4, a5, xu_s, by rw [xu_c (by decide)]; exact a7, fun j hj => ?_⟩
  · unfold mX9_step
    simp (disch := omega) only [↓reduceIte, Option.bind_some, Option.some.injEq, Prod.mk.injEq, and_self, and_true, true_and, eq_self, reduceCtorEq, not_false_eq_true, not_true_eq_false, or_true, true_or, or_false, false_or, bft, nAdd, nMul, nSub, nDiv, nRem, nAm1, nIx, nIn, bI_z, bI_o, ite_b1, ite_b0, zI_add, zI_sub, li0, li1, li2, li3, li4, li5, li6, li7, li8, li9, li10, li11, li12, li13, li14, li15, li16, li17, li18, li19, li20, li21, li22, li23, li24, li25, li26, li27, li28, li29, li30, li31, li32, li33, li34, li35, li36, li37, li40, li42, li43, li45, li47, li48, li57, li59, li60, li61, li62, li64, li80, li91, li93, li97, li99, li100, li122, li182, li199, li255, li300, li380, li400, li999, li1000, li3640, li4100, li65536, li99999, ln1, ln2, ln3, ln100, ln100000, tLe, fLe, tLt, fLt, tEq, fEq, zLe_t, zLe_f, zLt_t, zLt_f, zEq_t, zEq_f, nzLe_t, nzLe_f, znLe_t, znLe_f, nzLt_t, nzLt_f, znLt_t, znLt_f, nzEq_t, nzEq_f, znEq_t, znEq_f, a6, a7]
  · unfold tkR
    rw [xu_r (by decide), xu_r (by decide), xu_r (by decide)]
    exact a8 j hj
theorem tN_err {lo : Nat} {hi : Int} (ok : okT T) (h : tA T q I) (h1 : lo < 1000) (h2 : -1 ≤ hi) (h3 : hi < 1000) {e : Nat} (he : tkN T q lo hi = .error e) : mX9_takeNumber I (nI lo) (zI hi) = some (zI (-1), xu I 3 5 (nI e)) := by
  have hn := ok.1
  have hq := tA_n h
  have nr := nm_rng (T := T) (q := q)
  have kl := kd_lt37 (T := T) (q := q)
  have f0 := fail_ok ok h (k := 0) (by omega)
  have f1 := fail_ok ok h (k := 1) (by omega)
  unfold tkN at he
  unfold mX9_takeNumber mX9_takeNumber_32
  by_cases c : kd T q = 35
  · rw [if_pos c] at he
    by_cases c2 : nm T q < lo ∨ hi < nm T q
    · rw [if_pos c2] at he
      cases he
      by_cases c3 : nm T q < lo
      · simp (disch := omega) only [↓reduceIte, Option.bind_some, Option.some.injEq, Prod.mk.injEq, and_self, and_true, true_and, eq_self, reduceCtorEq, not_false_eq_true, not_true_eq_false, or_true, true_or, or_false, false_or, bft, nAdd, nMul, nSub, nDiv, nRem, nAm1, nIx, nIn, bI_z, bI_o, ite_b1, ite_b0, zI_add, zI_sub, li0, li1, li2, li3, li4, li5, li6, li7, li8, li9, li10, li11, li12, li13, li14, li15, li16, li17, li18, li19, li20, li21, li22, li23, li24, li25, li26, li27, li28, li29, li30, li31, li32, li33, li34, li35, li36, li37, li40, li42, li43, li45, li47, li48, li57, li59, li60, li61, li62, li64, li80, li91, li93, li97, li99, li100, li122, li182, li199, li255, li300, li380, li400, li999, li1000, li3640, li4100, li65536, li99999, ln1, ln2, ln3, ln100, ln100000, tLe, fLe, tLt, fLt, tEq, fEq, zLe_t, zLe_f, zLt_t, zLt_f, zEq_t, zEq_f, nzLe_t, nzLe_f, znLe_t, znLe_f, nzLt_t, nzLt_f, znLt_t, znLt_f, nzEq_t, nzEq_f, znEq_t, znEq_f, kind_ok h, number_ok h, c, f1]
        try rfl
      · simp (disch := omega) only [↓reduceIte, Option.bind_some, Option.some.injEq, Prod.mk.injEq, and_self, and_true, true_and, eq_self, reduceCtorEq, not_false_eq_true, not_true_eq_false, or_true, true_or, or_false, false_or, bft, nAdd, nMul, nSub, nDiv, nRem, nAm1, nIx, nIn, bI_z, bI_o, ite_b1, ite_b0, zI_add, zI_sub, li0, li1, li2, li3, li4, li5, li6, li7, li8, li9, li10, li11, li12, li13, li14, li15, li16, li17, li18, li19, li20, li21, li22, li23, li24, li25, li26, li27, li28, li29, li30, li31, li32, li33, li34, li35, li36, li37, li40, li42, li43, li45, li47, li48, li57, li59, li60, li61, li62, li64, li80, li91, li93, li97, li99, li100, li122, li182, li199, li255, li300, li380, li400, li999, li1000, li3640, li4100, li65536, li99999, ln1, ln2, ln3, ln100, ln100000, tLe, fLe, tLt, fLt, tEq, fEq, zLe_t, zLe_f, zLt_t, zLt_f, zEq_t, zEq_f, nzLe_t, nzLe_f, znLe_t, znLe_f, nzLt_t, nzLt_f, znLt_t, znLt_f, nzEq_t, nzEq_f, znEq_t, znEq_f, kind_ok h, number_ok h, c, f1]
        try rfl
    · rw [if_neg c2] at he
      cases he
  · rw [if_neg c] at he
    cases he
    simp (disch := omega) only [↓reduceIte, Option.bind_some, Option.some.injEq, Prod.mk.injEq, and_self, and_true, true_and, eq_self, reduceCtorEq, not_false_eq_true, not_true_eq_false, or_true, true_or, or_false, false_or, bft, nAdd, nMul, nSub, nDiv, nRem, nAm1, nIx, nIn, bI_z, bI_o, ite_b1, ite_b0, zI_add, zI_sub, li0, li1, li2, li3, li4, li5, li6, li7, li8, li9, li10, li11, li12, li13, li14, li15, li16, li17, li18, li19, li20, li21, li22, li23, li24, li25, li26, li27, li28, li29, li30, li31, li32, li33, li34, li35, li36, li37, li40, li42, li43, li45, li47, li48, li57, li59, li60, li61, li62, li64, li80, li91, li93, li97, li99, li100, li122, li182, li199, li255, li300, li380, li400, li999, li1000, li3640, li4100, li65536, li99999, ln1, ln2, ln3, ln100, ln100000, tLe, fLe, tLt, fLt, tEq, fEq, zLe_t, zLe_f, zLt_t, zLt_f, zEq_t, zEq_f, nzLe_t, nzLe_f, znLe_t, znLe_f, nzLt_t, nzLt_f, znLt_t, znLt_f, nzEq_t, nzEq_f, znEq_t, znEq_f, kind_ok h, f0, Nat.add_zero]
    try rfl
theorem tN_ok {lo : Nat} {hi : Int} (h : tA T q I) (h1 : lo < 1000) (h2 : -1 ≤ hi) (h3 : hi < 1000) {v q1 : Nat} (he : tkN T q lo hi = .ok (v, q1)) : ∃ x, mX9_takeNumber I (nI lo) (zI hi) = some (nI v, xu I 3 4 x) ∧ tA T q1 (xu I 3 4 x) ∧ lo ≤ v ∧ (v : Int) ≤ hi ∧ kd T q = 35 ∧ q < T.2 ∧ q1 = nx T q ∧ nm T q = v := by
  have nr := nm_rng (T := T) (q := q)
  unfold tkN at he
  by_cases c : kd T q = 35
  · rw [if_pos c] at he
    by_cases c2 : nm T q < lo ∨ hi < nm T q
    · rw [if_pos c2] at he
      cases he
    · rw [if_neg c2] at he
      have hq := isDg_n (kd_35.mp c)
      obtain ⟨x, s1, s2⟩ := step_ok h hq
      injection he with he
      injection he with e1 e2
      obtain ⟨u, hu⟩ : ∃ u : Nat, nm T q = u := ⟨(nm T q).toNat, by omega⟩
      have ev : v = u := by rw [← e1, hu]; rfl
      subst ev
      refine ⟨x, ?_, by rw [← e2]; exact s2, by omega, by omega, c, hq, e2.symm, hu⟩
      have nk := number_ok h
      rw [hu, zI_nat] at nk
      unfold mX9_takeNumber
      simp (disch := omega) only [↓reduceIte, Option.bind_some, Option.some.injEq, Prod.mk.injEq, and_self, and_true, true_and, eq_self, reduceCtorEq, not_false_eq_true, not_true_eq_false, or_true, true_or, or_false, false_or, bft, nAdd, nMul, nSub, nDiv, nRem, nAm1, nIx, nIn, bI_z, bI_o, ite_b1, ite_b0, zI_add, zI_sub, li0, li1, li2, li3, li4, li5, li6, li7, li8, li9, li10, li11, li12, li13, li14, li15, li16, li17, li18, li19, li20, li21, li22, li23, li24, li25, li26, li27, li28, li29, li30, li31, li32, li33, li34, li35, li36, li37, li40, li42, li43, li45, li47, li48, li57, li59, li60, li61, li62, li64, li80, li91, li93, li97, li99, li100, li122, li182, li199, li255, li300, li380, li400, li999, li1000, li3640, li4100, li65536, li99999, ln1, ln2, ln3, ln100, ln100000, tLe, fLe, tLt, fLt, tEq, fEq, zLe_t, zLe_f, zLt_t, zLt_f, zEq_t, zEq_f, nzLe_t, nzLe_f, znLe_t, znLe_f, nzLt_t, nzLt_f, znLt_t, znLt_f, nzEq_t, nzEq_f, znEq_t, znEq_f, kind_ok h, nk, c, s1]
  · rw [if_neg c] at he
    cases he
theorem takeTape_ok (ok : okT T) (hx : txC I T) (h1 : I 1 1 = nI T.2) : ∃ J, mX11_takeTape I = some J ∧ tA T (sk T 0) J ∧ J 1 1 = nI 0 ∧ ∀ b k, b < 3 ∨ 6 < b → b ≠ 1 ∨ k ≠ 1 → J b k = I b k := by
  have hn := ok.1
  obtain ⟨J, m, g1, g2, g3, g4, g5, g6, g7⟩ := split_go ok xf 0 0 (xu (xu (xu I 3 3 (nI 0)) 3 4 (nI 0)) 3 5 (nI 0)) (by unfold xf; omega) (by omega) (by omega) rfl (fun j hj => absurd hj (by omega)) (by rw [xu_c (by decide), xu_c (by decide), xu_s]) (fun i hi => by rw [xu_r (by decide), xu_r (by decide), xu_r (by decide)]; exact hx i hi) (fun j hj => absurd hj (by omega))
  have e : mX9_split I 2 400 (nI T.2) = some J := g1
  refine ⟨xu J 1 1 (nI 0), ?_, ⟨0, m, by omega, g2, rfl, g4, g5, ?_, ?_, fun j hj => ?_⟩, xu_s, fun b k hb hk => ?_⟩
  · unfold mX11_takeTape
    rw [h1, e]; rfl
  · rw [xu_r (by decide), g7 3 4 (by decide) (by decide) (by decide) (by decide), xu_c (by decide), xu_s]
  · rw [xu_r (by decide)]; exact g3
  · unfold tkR
    rw [xu_r (by decide), xu_r (by decide), xu_r (by decide)]
    exact g6 j hj
  · rw [xu_off (by omega), g7 b k (by omega) (by omega) (by omega) (by omega), xu_r (by omega), xu_r (by omega), xu_r (by omega)]
end

/-! rule: the reference's reader, sums. -/
def rC (I : Nat → Nat → Int32) (r c : Nat) (cd : List Nat) : Prop := (I 123 30 = nI r ∧ I 123 36 = nI 13) ∧ I 123 32 = nI cd.length ∧ I 123 34 = nI c ∧ ∀ i x, cd[i]? = some x → I 151 (300 * r + i) = nI (sortOf x) ∧ I 152 (300 * r + i) = nI (numOf x)
def frB (r : Nat) (I J : Nat → Nat → Int32) : Prop := ∀ b k, b ≠ 123 ∨ (k ≠ 32 ∧ k ≠ 34) → (b ≠ 151 ∧ b ≠ 152) ∨ k < 300 * r → J b k = I b k
def vRes (T : txT) (r : Nat) (I : Nat → Nat → Int32) (cd : List Nat) (y : eT) (x : Option (Nat → Nat → Int32)) : Prop := match y with
  | .error e => (0 < e ∧ e < 10000) ∧ ∃ J p, x = some (rP J p e) ∧ p ≤ T.2 ∧ frB r I J
  | .ok (o, q, c) => ∃ J p, x = some (rP J p 0) ∧ p ≤ T.2 ∧ sk T p = q ∧ rC J r c (cd ++ o) ∧ frB r I J
def bRes (T : txT) (r : Nat) (I : Nat → Nat → Int32) (cd : List Nat) (y : eT) (x : Option (Nat → Nat → Int32)) : Prop := match y with
  | .error e => (0 < e ∧ e < 10000) ∧ ∃ J p, x = some (rP J p e) ∧ p ≤ T.2 ∧ frB r I J
  | .ok (o, q, c) => ∃ J, x = some (rP J q 0) ∧ rC J r c (cd ++ o) ∧ frB r I J
section
variable {T : txT} {I J H : Nat → Nat → Int32} {p q c r f : Nat} {cd : List Nat}
theorem frB_rfl : frB r I I := fun _ _ _ _ => rfl
theorem frB_tr (h1 : frB r I J) (h2 : frB r J H) : frB r I H := fun b k x y => (h2 b k x y).trans (h1 b k x y)
theorem frB_34 {v : Int32} : frB r I (xu I 123 34 v) := fun b k h1 _ => by rw [xu_off (by omega)]
theorem txR_B (h : frB r I J) (hx : txR I T) : txR J T := ⟨by rw [h 123 27 (by omega) (by omega)]; exact hx.1, fun i hi => by rw [h 150 i (by omega) (by omega)]; exact hx.2 i hi⟩
theorem bRes_fr {y : eT} {x : Option (Nat → Nat → Int32)} (h : frB r I J) (g : bRes T r J cd y x) : bRes T r I cd y x := by
  cases y with
  | error e => obtain ⟨a, K, p, b, c, d⟩ := g; exact ⟨a, K, p, b, c, frB_tr h d⟩
  | ok z => obtain ⟨o, q, c⟩ := z; obtain ⟨K, b, c, d⟩ := g; exact ⟨K, b, c, frB_tr h d⟩
theorem entry_ok {x : Nat} (C : rC I r c cd) (hr : r < 6) (hl : cd.length < 300) : ∃ J, mX12_entry (rP I p 0) (nI (sortOf x)) (nI (numOf x)) = some (rP J p 0) ∧ rC J r c (cd ++ [x]) ∧ frB r I J := by
  obtain ⟨⟨c0, c36⟩, c1, c2, c3⟩ := C
  refine ⟨xu (xu (xu I 151 (300 * r + cd.length) (nI (sortOf x))) 152 (300 * r + cd.length) (nI (numOf x))) 123 32 (nI (cd.length + 1)), ?_, ⟨⟨?_, ?_⟩, ?_, ?_, fun i y hy => ?_⟩, fun b k h1 h2 => ?_⟩
  · unfold mX12_entry
    simp (disch := omega) only [↓reduceIte, Option.bind_some, Option.some.injEq, Prod.mk.injEq, and_self, and_true, true_and, eq_self, reduceCtorEq, not_false_eq_true, not_true_eq_false, or_true, true_or, or_false, false_or, bft, nAdd, nMul, nSub, nDiv, nRem, nAm1, nIx, nIn, bI_z, bI_o, ite_b1, ite_b0, zI_add, zI_sub, li0, li1, li2, li3, li4, li5, li6, li7, li8, li9, li10, li11, li12, li13, li14, li15, li16, li17, li18, li19, li20, li21, li22, li23, li24, li25, li26, li27, li28, li29, li30, li31, li32, li33, li34, li35, li36, li37, li40, li42, li43, li45, li47, li48, li57, li59, li60, li61, li62, li64, li80, li91, li93, li97, li99, li100, li122, li182, li199, li255, li300, li380, li400, li999, li1000, li3640, li4100, li65536, li99999, ln1, ln2, ln3, ln100, ln100000, tLe, fLe, tLt, fLt, tEq, fEq, zLe_t, zLe_f, zLt_t, zLt_f, zEq_t, zEq_f, nzLe_t, nzLe_f, znLe_t, znLe_f, nzLt_t, nzLt_f, znLt_t, znLt_f, nzEq_t, nzEq_f, znEq_t, znEq_f, xu_s, xu_r, xu_c, xrow_at, xrow_r, rP_29, rP_o, rP_xu, c0, c1]
  · rw [xu_c (by decide), xu_r (by decide), xu_r (by decide)]; exact c0
  · rw [xu_c (by decide), xu_r (by decide), xu_r (by decide)]; exact c36
  · rw [xu_s, List.length_append]; rfl
  · rw [xu_c (by decide), xu_r (by decide), xu_r (by decide)]; exact c2
  · rw [xu_r (b := 151) (by decide), xu_r (b := 152) (by decide), xu_r (b := 151) (by decide)]
    have hi := (List.getElem?_eq_some_iff.mp hy).1
    rw [List.length_append] at hi
    simp only [List.length_cons, List.length_nil] at hi
    by_cases e : i = cd.length
    · subst e
      rw [List.getElem?_append_right (Nat.le_refl _), Nat.sub_self] at hy
      cases hy
      rw [xu_s, xu_s]
      exact ⟨rfl, rfl⟩
    · rw [List.getElem?_append_left (by omega)] at hy
      rw [xu_c (by omega), xu_c (by omega), xu_r (by decide)]
      exact c3 i y hy
  · rw [xu_off (by omega), xu_off (by omega), xu_off (by omega)]
theorem entry_f (hf : 0 < f) (hf2 : f < 100000) (a b : Int32) : mX12_entry (rP I p f) a b = some (rP I p f) := by
  unfold mX12_entry
  rw [if_neg (show ¬ rP I p f 123 29 = (0 : Int32) by rw [rP_29]; exact nNeL (x := 0) (b := 0) rfl (by omega) (by omega) (by omega))]
theorem count_ok {a : Nat} (h : I 123 34 = nI c) (hc : c ≤ 60) (hf : f < 100000) (ha : a < 1000) : mX12_isCounted (rP I p f) (nI a) = some (rP (xu I 123 34 (nI (c + 1))) p (if c = 60 then fl f (1 + 8 * a + 3) else f)) := by
  unfold mX12_isCounted
  by_cases e : c = 60
  · subst e
    have fa := fails_ok (I := I) (p := p) (f := f) (k := 3) (a := a) hf (by omega) ha
    rw [if_pos rfl]
    simp (disch := omega) only [↓reduceIte, Option.bind_some, Option.some.injEq, Prod.mk.injEq, and_self, and_true, true_and, eq_self, reduceCtorEq, not_false_eq_true, not_true_eq_false, or_true, true_or, or_false, false_or, bft, nAdd, nMul, nSub, nDiv, nRem, nAm1, nIx, nIn, bI_z, bI_o, ite_b1, ite_b0, zI_add, zI_sub, li0, li1, li2, li3, li4, li5, li6, li7, li8, li9, li10, li11, li12, li13, li14, li15, li16, li17, li18, li19, li20, li21, li22, li23, li24, li25, li26, li27, li28, li29, li30, li31, li32, li33, li34, li35, li36, li37, li40, li42, li43, li45, li47, li48, li57, li59, li60, li61, li62, li64, li80, li91, li93, li97, li99, li100, li122, li182, li199, li255, li300, li380, li400, li999, li1000, li3640, li4100, li65536, li99999, ln1, ln2, ln3, ln100, ln100000, tLe, fLe, tLt, fLt, tEq, fEq, zLe_t, zLe_f, zLt_t, zLt_f, zEq_t, zEq_f, nzLe_t, nzLe_f, znLe_t, znLe_f, nzLt_t, nzLt_f, znLt_t, znLt_f, nzEq_t, nzEq_f, znEq_t, znEq_f, rP_o, h, fa, rP_xu]
  · rw [if_neg e]
    simp (disch := omega) only [↓reduceIte, Option.bind_some, Option.some.injEq, Prod.mk.injEq, and_self, and_true, true_and, eq_self, reduceCtorEq, not_false_eq_true, not_true_eq_false, or_true, true_or, or_false, false_or, bft, nAdd, nMul, nSub, nDiv, nRem, nAm1, nIx, nIn, bI_z, bI_o, ite_b1, ite_b0, zI_add, zI_sub, li0, li1, li2, li3, li4, li5, li6, li7, li8, li9, li10, li11, li12, li13, li14, li15, li16, li17, li18, li19, li20, li21, li22, li23, li24, li25, li26, li27, li28, li29, li30, li31, li32, li33, li34, li35, li36, li37, li40, li42, li43, li45, li47, li48, li57, li59, li60, li61, li62, li64, li80, li91, li93, li97, li99, li100, li122, li182, li199, li255, li300, li380, li400, li999, li1000, li3640, li4100, li65536, li99999, ln1, ln2, ln3, ln100, ln100000, tLe, fLe, tLt, fLt, tEq, fEq, zLe_t, zLe_f, zLt_t, zLt_f, zEq_t, zEq_f, nzLe_t, nzLe_f, znLe_t, znLe_f, nzLt_t, nzLt_f, znLt_t, znLt_f, nzEq_t, nzEq_f, znEq_t, znEq_f, rP_o, h, rP_xu]
theorem count_f {a : Nat} (hf : 0 < f) (hf2 : f < 100000) (ha : a < 1000) : ∃ v, mX12_isCounted (rP I p f) (nI a) = some (rP (xu I 123 34 v) p f) := by
  have fa := fails_ok (I := I) (p := p) (f := f) (k := 3) (a := a) hf2 (by omega) ha
  have e : fl f (1 + 8 * a + 3) = f := by unfold fl; rw [if_neg (by omega)]
  rw [e] at fa
  refine ⟨I 123 34 + 1, ?_⟩
  unfold mX12_isCounted
  by_cases h : rP I p f 123 34 = (60 : Int32)
  · rw [if_pos h]
    change Option.bind (mX12_fails (rP I p f) (nI 3) (nI a)) _ = _
    rw [fa, Option.bind_some, rP_o (b := 123) (k := 34) (by decide), rP_xu (by decide)]
  · rw [if_neg h, rP_o (b := 123) (k := 34) (by decide), rP_xu (by decide)]
theorem rC_34 (C : rC I r c cd) {v : Nat} : rC (xu I 123 34 (nI v)) r v cd := by
  obtain ⟨⟨c0, c36⟩, c1, c2, c3⟩ := C
  exact ⟨⟨by rw [xu_c (by decide)]; exact c0, by rw [xu_c (by decide)]; exact c36⟩, by rw [xu_c (by decide)]; exact c1, xu_s, fun i x hx => by rw [xu_r (by decide), xu_r (by decide)]; exact c3 i x hx⟩
theorem wOrd : ∀ i, i < 13 → ∃ t, mX12_wordOf (nI i) = some t ∧ 2 ≤ t ∧ t < 24 ∧ wdN t = i := by
  have : ∀ i, i < 13 → ∃ t, t < 24 ∧ mX12_wordOf (nI i) = some t ∧ 2 ≤ t ∧ wdN t = i := by decide +kernel
  intro i hi
  obtain ⟨t, a, b, c, d⟩ := this i hi
  exact ⟨t, b, c, a, d⟩
def vIx (T : txT) (q : Nat) : Nat := if kd T q < 13 then kd T q else 13
theorem v37_go (ok : okT T) (hx : txR I T) (h36 : I 123 36 = nI 13) (hq : q ≤ T.2) {e62 : (Nat → Nat → Int32) → Int32 → Int32 → Option (Nat → Nat → Int32)} {a1 : Int32} : ∀ (g d i : Nat), d < g → i + d = 13 → i ≤ vIx T q → mX12_value_37 e62 g (rP I q f) a1 (nI i) = e62 (rP I q f) a1 (nI (vIx T q))
  | 0, d, i, h, _, _ => absurd h (by omega)
  | g + 1, d, i, h1, h2, h3 => by
    have hv : vIx T q ≤ 13 := by unfold vIx; split <;> omega
    rw [mX12_value_37]
    cases d with
    | zero =>
      rw [show vIx T q = i by omega, show i = 13 by omega]
      simp (disch := omega) only [↓reduceIte, Option.bind_some, Option.some.injEq, Prod.mk.injEq, and_self, and_true, true_and, eq_self, reduceCtorEq, not_false_eq_true, not_true_eq_false, or_true, true_or, or_false, false_or, bft, nAdd, nMul, nSub, nDiv, nRem, nAm1, nIx, nIn, bI_z, bI_o, ite_b1, ite_b0, zI_add, zI_sub, li0, li1, li2, li3, li4, li5, li6, li7, li8, li9, li10, li11, li12, li13, li14, li15, li16, li17, li18, li19, li20, li21, li22, li23, li24, li25, li26, li27, li28, li29, li30, li31, li32, li33, li34, li35, li36, li37, li40, li42, li43, li45, li47, li48, li57, li59, li60, li61, li62, li64, li80, li91, li93, li97, li99, li100, li122, li182, li199, li255, li300, li380, li400, li999, li1000, li3640, li4100, li65536, li99999, ln1, ln2, ln3, ln100, ln100000, tLe, fLe, tLt, fLt, tEq, fEq, zLe_t, zLe_f, zLt_t, zLt_f, zEq_t, zEq_f, nzLe_t, nzLe_f, znLe_t, znLe_f, nzLt_t, nzLt_f, znLt_t, znLt_f, nzEq_t, nzEq_f, znEq_t, znEq_f, rP_o, h36]
    | succ d =>
      obtain ⟨t, w1, w2, w3, w4⟩ := wOrd i (by omega)
      have s := stood_ok (I := I) (f := f) ok hx w2 w3 hq
      rw [w4] at s
      by_cases e : kd T q = i
      · rw [decide_eq_true e] at s
        have ev : vIx T q = i := by unfold vIx; rw [if_pos (by omega)]; exact e
        rw [ev]
        simp (disch := omega) only [↓reduceIte, Option.bind_some, Option.some.injEq, Prod.mk.injEq, and_self, and_true, true_and, eq_self, reduceCtorEq, not_false_eq_true, not_true_eq_false, or_true, true_or, or_false, false_or, bft, nAdd, nMul, nSub, nDiv, nRem, nAm1, nIx, nIn, bI_z, bI_o, ite_b1, ite_b0, zI_add, zI_sub, li0, li1, li2, li3, li4, li5, li6, li7, li8, li9, li10, li11, li12, li13, li14, li15, li16, li17, li18, li19, li20, li21, li22, li23, li24, li25, li26, li27, li28, li29, li30, li31, li32, li33, li34, li35, li36, li37, li40, li42, li43, li45, li47, li48, li57, li59, li60, li61, li62, li64, li80, li91, li93, li97, li99, li100, li122, li182, li199, li255, li300, li380, li400, li999, li1000, li3640, li4100, li65536, li99999, ln1, ln2, ln3, ln100, ln100000, tLe, fLe, tLt, fLt, tEq, fEq, zLe_t, zLe_f, zLt_t, zLt_f, zEq_t, zEq_f, nzLe_t, nzLe_f, znLe_t, znLe_f, nzLt_t, nzLt_f, znLt_t, znLt_f, nzEq_t, nzEq_f, znEq_t, znEq_f, rP_o, h36, w1, s]
      · rw [decide_eq_false e] at s
        have ih := v37_go ok hx h36 hq (e62 := e62) (a1 := a1) g d (i + 1) (by omega) (by omega) (by
          rcases Nat.lt_or_ge (vIx T q) (i + 1) with c | c
          · exfalso
            have ev : vIx T q = i := by omega
            unfold vIx at ev
            split at ev
            · exact e ev
            · omega
          · exact c)
        simp (disch := omega) only [↓reduceIte, Option.bind_some, Option.some.injEq, Prod.mk.injEq, and_self, and_true, true_and, eq_self, reduceCtorEq, not_false_eq_true, not_true_eq_false, or_true, true_or, or_false, false_or, bft, nAdd, nMul, nSub, nDiv, nRem, nAm1, nIx, nIn, bI_z, bI_o, ite_b1, ite_b0, zI_add, zI_sub, li0, li1, li2, li3, li4, li5, li6, li7, li8, li9, li10, li11, li12, li13, li14, li15, li16, li17, li18, li19, li20, li21, li22, li23, li24, li25, li26, li27, li28, li29, li30, li31, li32, li33, li34, li35, li36, li37, li40, li42, li43, li45, li47, li48, li57, li59, li60, li61, li62, li64, li80, li91, li93, li97, li99, li100, li122, li182, li199, li255, li300, li380, li400, li999, li1000, li3640, li4100, li65536, li99999, ln1, ln2, ln3, ln100, ln100000, tLe, fLe, tLt, fLt, tEq, fEq, zLe_t, zLe_f, zLt_t, zLt_f, zEq_t, zEq_f, nzLe_t, nzLe_f, znLe_t, znLe_f, nzLt_t, nzLt_f, znLt_t, znLt_f, nzEq_t, nzEq_f, znEq_t, znEq_f, rP_o, h36, w1, s, ih]
theorem fl_e {e : Nat} : fl 0 e = e := rfl
theorem fl_f {e : Nat} (h : 0 < f) : fl f e = f := by unfold fl; rw [if_neg (by omega)]
theorem valR_ok (ok : okT T) (hx : txR I T) (hr : r < 6) (C : rC I r c cd) (hp : p ≤ T.2) (hq : sk T p = q) (hl : cd.length < 300) (hc : c ≤ 60) : vRes T r I cd (valT T q c) (mX12_value (rP I p 0)) := by
  have hn := ok.1
  have hqn := sk_n (T := T) hp
  rw [hq] at hqn
  have kl := kd_lt37 (T := T) (q := q)
  have b := blanks_ok (I := I) (f := 0) ok hx (p := p) (by omega)
  rw [hq] at b
  have dg := sDig (I := I) (f := 0) ok hx (p := q) (by omega)
  unfold mX12_value valT
  cases hd : isDg T q with
  | true =>
    rw [hd] at dg
    have k35 := kd_35.mpr hd
    obtain ⟨v, g1, g2, g3⟩ := digs_ok (I := I) (f := 0) ok hx (by omega) hd
    have eR := en_rng (isDg_n hd)
    rw [en_dg hd] at eR
    rw [if_pos (Or.inl k35)]
    by_cases hm : nm T q = -1
    · rw [if_pos ⟨k35, hm⟩]
      rw [if_pos hm, fl_e] at g1
      obtain ⟨w, co⟩ := count_f (I := I) (p := deE T q) (f := 1 + 8 * q + 1) (a := q) (by omega) (by omega) (by omega)
      have en := entry_f (I := xu I 123 34 w) (p := deE T q) (f := 1 + 8 * q + 1) (by omega) (by omega) (nI 0) (nI v)
      refine ⟨by omega, xu I 123 34 w, deE T q, ?_, by omega, frB_34⟩
      simp (disch := omega) only [↓reduceIte, Option.bind_some, Option.some.injEq, Prod.mk.injEq, and_self, and_true, true_and, eq_self, reduceCtorEq, not_false_eq_true, not_true_eq_false, or_true, true_or, or_false, false_or, bft, nAdd, nMul, nSub, nDiv, nRem, nAm1, nIx, nIn, bI_z, bI_o, ite_b1, ite_b0, zI_add, zI_sub, li0, li1, li2, li3, li4, li5, li6, li7, li8, li9, li10, li11, li12, li13, li14, li15, li16, li17, li18, li19, li20, li21, li22, li23, li24, li25, li26, li27, li28, li29, li30, li31, li32, li33, li34, li35, li36, li37, li40, li42, li43, li45, li47, li48, li57, li59, li60, li61, li62, li64, li80, li91, li93, li97, li99, li100, li122, li182, li199, li255, li300, li380, li400, li999, li1000, li3640, li4100, li65536, li99999, ln1, ln2, ln3, ln100, ln100000, tLe, fLe, tLt, fLt, tEq, fEq, zLe_t, zLe_f, zLt_t, zLt_f, zEq_t, zEq_f, nzLe_t, nzLe_f, znLe_t, znLe_f, nzLt_t, nzLt_f, znLt_t, znLt_f, nzEq_t, nzEq_f, znEq_t, znEq_f, b, dg, g1, rP_28, co, en]
    · rw [if_neg (fun z => hm z.2)]
      rw [if_neg hm] at g1
      have co := count_ok (I := I) (p := deE T q) (f := 0) (a := q) C.2.2.1 hc (by omega) (by omega)
      by_cases h6 : 60 ≤ c
      · rw [if_pos h6]
        rw [if_pos (show c = 60 by omega), fl_e] at co
        have en := entry_f (I := xu I 123 34 (nI (c + 1))) (p := deE T q) (f := 1 + 8 * q + 3) (by omega) (by omega) (nI 0) (nI v)
        refine ⟨by omega, xu I 123 34 (nI (c + 1)), deE T q, ?_, by omega, frB_34⟩
        simp (disch := omega) only [↓reduceIte, Option.bind_some, Option.some.injEq, Prod.mk.injEq, and_self, and_true, true_and, eq_self, reduceCtorEq, not_false_eq_true, not_true_eq_false, or_true, true_or, or_false, false_or, bft, nAdd, nMul, nSub, nDiv, nRem, nAm1, nIx, nIn, bI_z, bI_o, ite_b1, ite_b0, zI_add, zI_sub, li0, li1, li2, li3, li4, li5, li6, li7, li8, li9, li10, li11, li12, li13, li14, li15, li16, li17, li18, li19, li20, li21, li22, li23, li24, li25, li26, li27, li28, li29, li30, li31, li32, li33, li34, li35, li36, li37, li40, li42, li43, li45, li47, li48, li57, li59, li60, li61, li62, li64, li80, li91, li93, li97, li99, li100, li122, li182, li199, li255, li300, li380, li400, li999, li1000, li3640, li4100, li65536, li99999, ln1, ln2, ln3, ln100, ln100000, tLe, fLe, tLt, fLt, tEq, fEq, zLe_t, zLe_f, zLt_t, zLt_f, zEq_t, zEq_f, nzLe_t, nzLe_f, znLe_t, znLe_f, nzLt_t, nzLt_f, znLt_t, znLt_f, nzEq_t, nzEq_f, znEq_t, znEq_f, b, dg, g1, rP_28, co, en]
      · rw [if_neg h6, if_pos k35]
        rw [if_neg (show ¬ c = 60 by omega)] at co
        have ev : nm T q = v := by omega
        obtain ⟨J, e1, e2, e3⟩ := entry_ok (p := deE T q) (x := 64 + (nm T q).toNat) (rC_34 (v := c + 1) C) hr hl
        rw [sortOf_v (by omega), show numOf (64 + (nm T q).toNat) = v by unfold numOf; rw [if_pos (by omega)]; omega] at e1
        refine ⟨J, deE T q, ?_, by omega, by unfold nx; rw [en_dg hd], e2, frB_tr frB_34 e3⟩
        simp (disch := omega) only [↓reduceIte, Option.bind_some, Option.some.injEq, Prod.mk.injEq, and_self, and_true, true_and, eq_self, reduceCtorEq, not_false_eq_true, not_true_eq_false, or_true, true_or, or_false, false_or, bft, nAdd, nMul, nSub, nDiv, nRem, nAm1, nIx, nIn, bI_z, bI_o, ite_b1, ite_b0, zI_add, zI_sub, li0, li1, li2, li3, li4, li5, li6, li7, li8, li9, li10, li11, li12, li13, li14, li15, li16, li17, li18, li19, li20, li21, li22, li23, li24, li25, li26, li27, li28, li29, li30, li31, li32, li33, li34, li35, li36, li37, li40, li42, li43, li45, li47, li48, li57, li59, li60, li61, li62, li64, li80, li91, li93, li97, li99, li100, li122, li182, li199, li255, li300, li380, li400, li999, li1000, li3640, li4100, li65536, li99999, ln1, ln2, ln3, ln100, ln100000, tLe, fLe, tLt, fLt, tEq, fEq, zLe_t, zLe_f, zLt_t, zLt_f, zEq_t, zEq_f, nzLe_t, nzLe_f, znLe_t, znLe_f, nzLt_t, nzLt_f, znLt_t, znLt_f, nzEq_t, nzEq_f, znEq_t, znEq_f, b, dg, g1, rP_28, co, e1]
  | false =>
    rw [hd] at dg
    have k35 : kd T q ≠ 35 := fun z => by rw [kd_35.mp z] at hd; cases hd
    have v37 := v37_go (I := I) (f := 0) ok hx C.1.2 hqn (a1 := nI q) (e62 := fun (I_12 : (Nat → Nat → Int32)) (a1_12 : Int32) (a2_12 : Int32) => (mX12_value_62 I_12 a1_12 a2_12)) xf 13 0 (by unfold xf; omega) (by omega) (by omega)
    have ev : Option.bind (mX12_blanks (rP I p 0)) (fun q1 => (Option.bind (mX12_isDigit q1) (fun q3 => (if q3 = 0 then (mX12_value_37 (fun (I_12 : (Nat → Nat → Int32)) (a1_12 : Int32) (a2_12 : Int32) => (mX12_value_62 I_12 a1_12 a2_12)) xf q1 (q1 123 28) (0 : Int32)) else (Option.bind (mX12_digits q1 (99999 : Int32)) (fun q24 => (Option.bind (mX12_isCounted q24.2 (q1 123 28)) (fun q26 => (Option.bind (mX12_entry q26 (0 : Int32) q24.1) (fun q28 => (some q28))))))))))) = mX12_value_62 (rP I q 0) (nI q) (nI (vIx T q)) := by
      rw [b, Option.bind_some, dg, Option.bind_some, if_pos (show bI false = (0 : Int32) by decide), rP_28]
      exact v37
    rw [ev]
    unfold mX12_value_62
    by_cases h13 : kd T q < 13
    · rw [if_pos (Or.inr h13), if_neg (fun z => k35 z.1)]
      have ex : vIx T q = kd T q := by unfold vIx; rw [if_pos h13]
      rw [ex]
      obtain ⟨t, w1, w2, w3, w4⟩ := wOrd (kd T q) h13
      have ln := len_t t w3 w2
      rw [w4] at ln
      have ew := en_w (T := T) (q := q) (m := kd T q) (by omega) rfl
      have eR := en_rng ew.2
      have co := count_ok (I := I) (p := q) (f := 0) (a := q) C.2.2.1 hc (by omega) (by omega)
      by_cases h6 : 60 ≤ c
      · rw [if_pos h6]
        rw [if_pos (show c = 60 by omega), fl_e] at co
        have en := entry_f (I := xu I 123 34 (nI (c + 1))) (p := q + (wdA (kd T q)).length) (f := 1 + 8 * q + 3) (by omega) (by omega) (nI 1) (nI (kd T q))
        refine ⟨by omega, xu I 123 34 (nI (c + 1)), q + (wdA (kd T q)).length, ?_, by omega, frB_34⟩
        simp (disch := omega) only [↓reduceIte, Option.bind_some, Option.some.injEq, Prod.mk.injEq, and_self, and_true, true_and, eq_self, reduceCtorEq, not_false_eq_true, not_true_eq_false, or_true, true_or, or_false, false_or, bft, nAdd, nMul, nSub, nDiv, nRem, nAm1, nIx, nIn, bI_z, bI_o, ite_b1, ite_b0, zI_add, zI_sub, li0, li1, li2, li3, li4, li5, li6, li7, li8, li9, li10, li11, li12, li13, li14, li15, li16, li17, li18, li19, li20, li21, li22, li23, li24, li25, li26, li27, li28, li29, li30, li31, li32, li33, li34, li35, li36, li37, li40, li42, li43, li45, li47, li48, li57, li59, li60, li61, li62, li64, li80, li91, li93, li97, li99, li100, li122, li182, li199, li255, li300, li380, li400, li999, li1000, li3640, li4100, li65536, li99999, ln1, ln2, ln3, ln100, ln100000, tLe, fLe, tLt, fLt, tEq, fEq, zLe_t, zLe_f, zLt_t, zLt_f, zEq_t, zEq_f, nzLe_t, nzLe_f, znLe_t, znLe_f, nzLt_t, nzLt_f, znLt_t, znLt_f, nzEq_t, nzEq_f, znEq_t, znEq_f, rP_o, C.1.2, co, w1, ln, rP_28, rP_s28, en]
      · rw [if_neg h6, if_neg k35]
        rw [if_neg (show ¬ c = 60 by omega)] at co
        obtain ⟨J, e1, e2, e3⟩ := entry_ok (p := q + (wdA (kd T q)).length) (x := kd T q) (rC_34 (v := c + 1) C) hr hl
        rw [sortOf_w h13, show numOf (kd T q) = kd T q by unfold numOf; rw [if_neg (by omega), if_pos h13]] at e1
        refine ⟨J, q + (wdA (kd T q)).length, ?_, by omega, by unfold nx; rw [ew.1], e2, frB_tr frB_34 e3⟩
        simp (disch := omega) only [↓reduceIte, Option.bind_some, Option.some.injEq, Prod.mk.injEq, and_self, and_true, true_and, eq_self, reduceCtorEq, not_false_eq_true, not_true_eq_false, or_true, true_or, or_false, false_or, bft, nAdd, nMul, nSub, nDiv, nRem, nAm1, nIx, nIn, bI_z, bI_o, ite_b1, ite_b0, zI_add, zI_sub, li0, li1, li2, li3, li4, li5, li6, li7, li8, li9, li10, li11, li12, li13, li14, li15, li16, li17, li18, li19, li20, li21, li22, li23, li24, li25, li26, li27, li28, li29, li30, li31, li32, li33, li34, li35, li36, li37, li40, li42, li43, li45, li47, li48, li57, li59, li60, li61, li62, li64, li80, li91, li93, li97, li99, li100, li122, li182, li199, li255, li300, li380, li400, li999, li1000, li3640, li4100, li65536, li99999, ln1, ln2, ln3, ln100, ln100000, tLe, fLe, tLt, fLt, tEq, fEq, zLe_t, zLe_f, zLt_t, zLt_f, zEq_t, zEq_f, nzLe_t, nzLe_f, znLe_t, znLe_f, nzLt_t, nzLt_f, znLt_t, znLt_f, nzEq_t, nzEq_f, znEq_t, znEq_f, rP_o, C.1.2, co, w1, ln, rP_28, rP_s28, e1]
    · rw [if_neg (show ¬ (kd T q = 35 ∨ kd T q < 13) by omega)]
      have ex : vIx T q = 13 := by unfold vIx; rw [if_neg h13]
      rw [ex]
      have fa := fails_ok (I := I) (p := q) (f := 0) (k := 0) (a := q) (by omega) (by omega) (by omega)
      rw [fl_e, Nat.add_zero] at fa
      refine ⟨by omega, I, q, ?_, hqn, frB_rfl⟩
      simp (disch := omega) only [↓reduceIte, Option.bind_some, Option.some.injEq, Prod.mk.injEq, and_self, and_true, true_and, eq_self, reduceCtorEq, not_false_eq_true, not_true_eq_false, or_true, true_or, or_false, false_or, bft, nAdd, nMul, nSub, nDiv, nRem, nAm1, nIx, nIn, bI_z, bI_o, ite_b1, ite_b0, zI_add, zI_sub, li0, li1, li2, li3, li4, li5, li6, li7, li8, li9, li10, li11, li12, li13, li14, li15, li16, li17, li18, li19, li20, li21, li22, li23, li24, li25, li26, li27, li28, li29, li30, li31, li32, li33, li34, li35, li36, li37, li40, li42, li43, li45, li47, li48, li57, li59, li60, li61, li62, li64, li80, li91, li93, li97, li99, li100, li122, li182, li199, li255, li300, li380, li400, li999, li1000, li3640, li4100, li65536, li99999, ln1, ln2, ln3, ln100, ln100000, tLe, fLe, tLt, fLt, tEq, fEq, zLe_t, zLe_f, zLt_t, zLt_f, zEq_t, zEq_f, nzLe_t, nzLe_f, znLe_t, znLe_f, nzLt_t, nzLt_f, znLt_t, znLt_f, nzEq_t, nzEq_f, znEq_t, znEq_f, rP_o, C.1.2, fa]
/-- behind a fault -/
theorem valR_f (ok : okT T) (hx : txR I T) (h36 : I 123 36 = nI 13) (hp : p ≤ T.2) (hf : 0 < f) (hf2 : f < 100000) : ∃ J p', mX12_value (rP I p f) = some (rP J p' f) ∧ p' ≤ T.2 ∧ frB r I J := by
  have hn := ok.1
  have hqn := sk_n (T := T) hp
  generalize hq : sk T p = q at hqn
  have b := blanks_ok (I := I) (f := f) ok hx (p := p) (by omega)
  rw [hq] at b
  have dg := sDig (I := I) (f := f) ok hx (p := q) (by omega)
  unfold mX12_value
  cases hd : isDg T q with
  | true =>
    rw [hd] at dg
    obtain ⟨v, g1, g2, g3⟩ := digs_ok (I := I) (f := f) ok hx hf2 hd
    have eR := en_rng (isDg_n hd)
    rw [en_dg hd] at eR
    rw [fl_f hf, ite_self] at g1
    obtain ⟨w, co⟩ := count_f (I := I) (p := deE T q) (f := f) (a := q) hf hf2 (by omega)
    have en := entry_f (I := xu I 123 34 w) (p := deE T q) hf hf2 (nI 0) (nI v)
    refine ⟨xu I 123 34 w, deE T q, ?_, by omega, frB_34⟩
    simp (disch := omega) only [↓reduceIte, Option.bind_some, Option.some.injEq, Prod.mk.injEq, and_self, and_true, true_and, eq_self, reduceCtorEq, not_false_eq_true, not_true_eq_false, or_true, true_or, or_false, false_or, bft, nAdd, nMul, nSub, nDiv, nRem, nAm1, nIx, nIn, bI_z, bI_o, ite_b1, ite_b0, zI_add, zI_sub, li0, li1, li2, li3, li4, li5, li6, li7, li8, li9, li10, li11, li12, li13, li14, li15, li16, li17, li18, li19, li20, li21, li22, li23, li24, li25, li26, li27, li28, li29, li30, li31, li32, li33, li34, li35, li36, li37, li40, li42, li43, li45, li47, li48, li57, li59, li60, li61, li62, li64, li80, li91, li93, li97, li99, li100, li122, li182, li199, li255, li300, li380, li400, li999, li1000, li3640, li4100, li65536, li99999, ln1, ln2, ln3, ln100, ln100000, tLe, fLe, tLt, fLt, tEq, fEq, zLe_t, zLe_f, zLt_t, zLt_f, zEq_t, zEq_f, nzLe_t, nzLe_f, znLe_t, znLe_f, nzLt_t, nzLt_f, znLt_t, znLt_f, nzEq_t, nzEq_f, znEq_t, znEq_f, b, dg, g1, rP_28, co, en]
  | false =>
    rw [hd] at dg
    have v37 := v37_go (I := I) (f := f) ok hx h36 hqn (a1 := nI q) (e62 := fun (I_12 : (Nat → Nat → Int32)) (a1_12 : Int32) (a2_12 : Int32) => (mX12_value_62 I_12 a1_12 a2_12)) xf 13 0 (by unfold xf; omega) (by omega) (by omega)
    have ev : Option.bind (mX12_blanks (rP I p f)) (fun q1 => (Option.bind (mX12_isDigit q1) (fun q3 => (if q3 = 0 then (mX12_value_37 (fun (I_12 : (Nat → Nat → Int32)) (a1_12 : Int32) (a2_12 : Int32) => (mX12_value_62 I_12 a1_12 a2_12)) xf q1 (q1 123 28) (0 : Int32)) else (Option.bind (mX12_digits q1 (99999 : Int32)) (fun q24 => (Option.bind (mX12_isCounted q24.2 (q1 123 28)) (fun q26 => (Option.bind (mX12_entry q26 (0 : Int32) q24.1) (fun q28 => (some q28))))))))))) = mX12_value_62 (rP I q f) (nI q) (nI (vIx T q)) := by
      rw [b, Option.bind_some, dg, Option.bind_some, if_pos (show bI false = (0 : Int32) by decide), rP_28]
      exact v37
    rw [ev]
    unfold mX12_value_62
    by_cases h13 : kd T q < 13
    · have ex : vIx T q = kd T q := by unfold vIx; rw [if_pos h13]
      rw [ex]
      obtain ⟨t, w1, w2, w3, w4⟩ := wOrd (kd T q) h13
      have ln := len_t t w3 w2
      rw [w4] at ln
      have ew := en_w (T := T) (q := q) (m := kd T q) (by omega) rfl
      have eR := en_rng ew.2
      obtain ⟨w, co⟩ := count_f (I := I) (p := q) (f := f) (a := q) hf hf2 (by omega)
      have en := entry_f (I := xu I 123 34 w) (p := q + (wdA (kd T q)).length) hf hf2 (nI 1) (nI (kd T q))
      refine ⟨xu I 123 34 w, q + (wdA (kd T q)).length, ?_, by omega, frB_34⟩
      simp (disch := omega) only [↓reduceIte, Option.bind_some, Option.some.injEq, Prod.mk.injEq, and_self, and_true, true_and, eq_self, reduceCtorEq, not_false_eq_true, not_true_eq_false, or_true, true_or, or_false, false_or, bft, nAdd, nMul, nSub, nDiv, nRem, nAm1, nIx, nIn, bI_z, bI_o, ite_b1, ite_b0, zI_add, zI_sub, li0, li1, li2, li3, li4, li5, li6, li7, li8, li9, li10, li11, li12, li13, li14, li15, li16, li17, li18, li19, li20, li21, li22, li23, li24, li25, li26, li27, li28, li29, li30, li31, li32, li33, li34, li35, li36, li37, li40, li42, li43, li45, li47, li48, li57, li59, li60, li61, li62, li64, li80, li91, li93, li97, li99, li100, li122, li182, li199, li255, li300, li380, li400, li999, li1000, li3640, li4100, li65536, li99999, ln1, ln2, ln3, ln100, ln100000, tLe, fLe, tLt, fLt, tEq, fEq, zLe_t, zLe_f, zLt_t, zLt_f, zEq_t, zEq_f, nzLe_t, nzLe_f, znLe_t, znLe_f, nzLt_t, nzLt_f, znLt_t, znLt_f, nzEq_t, nzEq_f, znEq_t, znEq_f, rP_o, h36, co, w1, ln, rP_28, rP_s28, en]
    · have ex : vIx T q = 13 := by unfold vIx; rw [if_neg h13]
      rw [ex]
      have fa := fails_ok (I := I) (p := q) (f := f) (k := 0) (a := q) hf2 (by omega) (by omega)
      rw [fl_f hf] at fa
      refine ⟨I, q, ?_, hqn, frB_rfl⟩
      simp (disch := omega) only [↓reduceIte, Option.bind_some, Option.some.injEq, Prod.mk.injEq, and_self, and_true, true_and, eq_self, reduceCtorEq, not_false_eq_true, not_true_eq_false, or_true, true_or, or_false, false_or, bft, nAdd, nMul, nSub, nDiv, nRem, nAm1, nIx, nIn, bI_z, bI_o, ite_b1, ite_b0, zI_add, zI_sub, li0, li1, li2, li3, li4, li5, li6, li7, li8, li9, li10, li11, li12, li13, li14, li15, li16, li17, li18, li19, li20, li21, li22, li23, li24, li25, li26, li27, li28, li29, li30, li31, li32, li33, li34, li35, li36, li37, li40, li42, li43, li45, li47, li48, li57, li59, li60, li61, li62, li64, li80, li91, li93, li97, li99, li100, li122, li182, li199, li255, li300, li380, li400, li999, li1000, li3640, li4100, li65536, li99999, ln1, ln2, ln3, ln100, ln100000, tLe, fLe, tLt, fLt, tEq, fEq, zLe_t, zLe_f, zLt_t, zLt_f, zEq_t, zEq_f, nzLe_t, nzLe_f, znLe_t, znLe_f, nzLt_t, nzLt_f, znLt_t, znLt_f, nzEq_t, nzEq_f, znEq_t, znEq_f, rP_o, h36, fa]
end

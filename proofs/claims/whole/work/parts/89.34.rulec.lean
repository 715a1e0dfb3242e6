/-! rule: the class's reader, sums. -/
def cC (I : Nat → Nat → Int32) (c : Nat) (cd : List Nat) : Prop := I 7 4 = nI cd.length ∧ I 7 6 = nI c ∧ ∀ i x, cd[i]? = some x → I 8 i = nI x
def frK (I J : Nat → Nat → Int32) : Prop := ∀ b k, b ≠ 3 → b ≠ 8 → b ≠ 7 ∨ (k ≠ 4 ∧ k ≠ 6) → J b k = I b k
def kRes (T : txT) (I : Nat → Nat → Int32) (cd : List Nat) (r : eT) (x : Option (Int32 × (Nat → Nat → Int32))) : Prop := match r with
  | .error e => ∃ J, x = some (nI 0, J) ∧ J 3 5 = nI e ∧ (∃ z, z ≤ 400 ∧ J 7 4 = nI z) ∧ frK I J
  | .ok (o, q, c) => ∃ J, x = some (nI 1, J) ∧ tA T q J ∧ cC J c (cd ++ o) ∧ frK I J
section
variable {T : txT} {I J H : Nat → Nat → Int32} {q c : Nat} {cd : List Nat}
theorem frK_rfl : frK I I := fun _ _ _ _ _ => rfl
theorem frK_tr (h1 : frK I J) (h2 : frK J H) : frK I H := fun b k x y z => (h2 b k x y z).trans (h1 b k x y z)
theorem frK_3 {k : Nat} {v : Int32} : frK I (xu I 3 k v) := fun b j h1 _ _ => by rw [xu_r h1]
theorem kRes_fr {r : eT} {x : Option (Int32 × (Nat → Nat → Int32))} (f : frK I J) (h : kRes T J cd r x) : kRes T I cd r x := by
  cases r with
  | error e => obtain ⟨H, a, b, z, d⟩ := h; exact ⟨H, a, b, z, frK_tr f d⟩
  | ok y => obtain ⟨o, q, c⟩ := y; obtain ⟨H, a, b, z, d⟩ := h; exact ⟨H, a, b, z, frK_tr f d⟩
theorem emit_ok {x : Nat} (C : cC I c cd) (hl : cd.length < 400) : ∃ J, mX4_emit I (nI x) = some J ∧ cC J c (cd ++ [x]) ∧ (∀ q, tA T q I → tA T q J) ∧ frK I J := by
  obtain ⟨c1, c2, c3⟩ := C
  refine ⟨xu (xu I 8 cd.length (nI x)) 7 4 (nI (cd.length + 1)), ?_, ⟨?_, ?_, fun i y hy => ?_⟩, fun q h => tA_row (by omega) (tA_row (by omega) h), fun b k h1 h2 h3 => ?_⟩
  · unfold mX4_emit
    simp (disch := omega) only [↓reduceIte, Option.bind_some, Option.some.injEq, Prod.mk.injEq, and_self, and_true, true_and, eq_self, reduceCtorEq, not_false_eq_true, not_true_eq_false, or_true, true_or, or_false, false_or, bft, nAdd, nMul, nSub, nDiv, nRem, nAm1, nIx, nIn, bI_z, bI_o, ite_b1, ite_b0, zI_add, zI_sub, li0, li1, li2, li3, li4, li5, li6, li7, li8, li9, li10, li11, li12, li13, li14, li15, li16, li17, li18, li19, li20, li21, li22, li23, li24, li25, li26, li27, li28, li29, li30, li31, li32, li33, li34, li35, li36, li37, li40, li42, li43, li45, li47, li48, li57, li59, li60, li61, li62, li64, li80, li91, li93, li97, li99, li100, li122, li182, li199, li255, li300, li380, li400, li999, li1000, li3640, li4100, li65536, li99999, ln1, ln2, ln3, ln100, ln100000, tLe, fLe, tLt, fLt, tEq, fEq, zLe_t, zLe_f, zLt_t, zLt_f, zEq_t, zEq_f, nzLe_t, nzLe_f, znLe_t, znLe_f, nzLt_t, nzLt_f, znLt_t, znLt_f, nzEq_t, nzEq_f, znEq_t, znEq_f, xu_s, xu_r, xu_c, xrow_at, xrow_r, c1]
  · rw [xu_s, List.length_append]; rfl
  · rw [xu_c (by decide), xu_r (by decide)]; exact c2
  · rw [xu_r (by decide)]
    have hi := (List.getElem?_eq_some_iff.mp hy).1
    rw [List.length_append] at hi
    simp only [List.length_cons, List.length_nil] at hi
    by_cases e : i = cd.length
    · subst e
      rw [List.getElem?_append_right (Nat.le_refl _), Nat.sub_self] at hy
      cases hy
      rw [xu_s]
    · rw [List.getElem?_append_left (by omega)] at hy
      rw [xu_c e]
      exact c3 i y hy
  · rw [xu_off (by omega), xu_r h2]
theorem emit_any {x : Nat} {z : Nat} (hz : z ≤ 400) (h : I 7 4 = nI z) : ∃ J, mX4_emit I (nI x) = some J ∧ J 3 5 = I 3 5 ∧ (∃ z, z ≤ 400 ∧ J 7 4 = nI z) ∧ frK I J := by
  by_cases c : z = 400
  · refine ⟨I, ?_, rfl, ⟨z, hz, h⟩, frK_rfl⟩
    unfold mX4_emit
    simp (disch := omega) only [↓reduceIte, Option.bind_some, Option.some.injEq, Prod.mk.injEq, and_self, and_true, true_and, eq_self, reduceCtorEq, not_false_eq_true, not_true_eq_false, or_true, true_or, or_false, false_or, bft, nAdd, nMul, nSub, nDiv, nRem, nAm1, nIx, nIn, bI_z, bI_o, ite_b1, ite_b0, zI_add, zI_sub, li0, li1, li2, li3, li4, li5, li6, li7, li8, li9, li10, li11, li12, li13, li14, li15, li16, li17, li18, li19, li20, li21, li22, li23, li24, li25, li26, li27, li28, li29, li30, li31, li32, li33, li34, li35, li36, li37, li40, li42, li43, li45, li47, li48, li57, li59, li60, li61, li62, li64, li80, li91, li93, li97, li99, li100, li122, li182, li199, li255, li300, li380, li400, li999, li1000, li3640, li4100, li65536, li99999, ln1, ln2, ln3, ln100, ln100000, tLe, fLe, tLt, fLt, tEq, fEq, zLe_t, zLe_f, zLt_t, zLt_f, zEq_t, zEq_f, nzLe_t, nzLe_f, znLe_t, znLe_f, nzLt_t, nzLt_f, znLt_t, znLt_f, nzEq_t, nzEq_f, znEq_t, znEq_f, h]
  · refine ⟨xu (xu I 8 z (nI x)) 7 4 (nI (z + 1)), ?_, ?_, ⟨z + 1, by omega, xu_s⟩, fun b k h1 h2 h3 => ?_⟩
    · unfold mX4_emit
      simp (disch := omega) only [↓reduceIte, Option.bind_some, Option.some.injEq, Prod.mk.injEq, and_self, and_true, true_and, eq_self, reduceCtorEq, not_false_eq_true, not_true_eq_false, or_true, true_or, or_false, false_or, bft, nAdd, nMul, nSub, nDiv, nRem, nAm1, nIx, nIn, bI_z, bI_o, ite_b1, ite_b0, zI_add, zI_sub, li0, li1, li2, li3, li4, li5, li6, li7, li8, li9, li10, li11, li12, li13, li14, li15, li16, li17, li18, li19, li20, li21, li22, li23, li24, li25, li26, li27, li28, li29, li30, li31, li32, li33, li34, li35, li36, li37, li40, li42, li43, li45, li47, li48, li57, li59, li60, li61, li62, li64, li80, li91, li93, li97, li99, li100, li122, li182, li199, li255, li300, li380, li400, li999, li1000, li3640, li4100, li65536, li99999, ln1, ln2, ln3, ln100, ln100000, tLe, fLe, tLt, fLt, tEq, fEq, zLe_t, zLe_f, zLt_t, zLt_f, zEq_t, zEq_f, nzLe_t, nzLe_f, znLe_t, znLe_f, nzLt_t, nzLt_f, znLt_t, znLt_f, nzEq_t, nzEq_f, znEq_t, znEq_f, xu_s, xu_r, xu_c, xrow_at, xrow_r, h]
    · rw [xu_r (by decide), xu_r (by decide)]
    · rw [xu_off (by omega), xu_r h2]
theorem cC_3 {k : Nat} {v : Int32} (C : cC I c cd) : cC (xu I 3 k v) c cd := by
  unfold cC
  rw [xu_r (b := 7) (by decide), xu_r (b := 8) (by decide)]
  exact C
theorem kFail {e k : Nat} (ok : okT T) (h : tA T q I) (C : cC I c cd) (hl : cd.length ≤ 400) (hk : k < 8) (he : e = 1 + 8 * q + k) : kRes T I cd (.error e) (mX9_fail I (nI k)) := by
  subst he
  exact ⟨xu I 3 5 (nI (1 + 8 * q + k)), fail_ok ok h hk, xu_s, ⟨cd.length, hl, (cC_3 C).1⟩, frK_3⟩
theorem if01k {x : Option (Int32 × (Nat → Nat → Int32))} {r : eT} (h : kRes T I cd r x) : kRes T I cd r (Option.bind x (fun q => if q.1 = 0 ∨ q.1 = 1 then some (q.1, q.2) else none)) := by
  cases r with
  | error e =>
    obtain ⟨J, h1, h2⟩ := h
    refine ⟨J, ?_, h2⟩
    rw [h1, Option.bind_some]
    exact if_pos (Or.inl rfl)
  | ok y =>
    obtain ⟨o, q, c⟩ := y
    obtain ⟨J, h1, h2⟩ := h
    refine ⟨J, ?_, h2⟩
    rw [h1, Option.bind_some]
    exact if_pos (Or.inr rfl)
theorem rv57 {x : Nat} (ok : okT T) (h : tA T q I) (C : cC I c cd) (hl : cd.length ≤ q) (hq : q < T.2) (hc : c ≤ 60) {a1 a2 : Int32} (ha : (a1 = (35 : Int32) ∧ (64 : Int32) + a2 = nI x) ∨ (a1 ≠ 35 ∧ a1 = nI x)) : kRes T I cd (if 60 ≤ c then .error (1 + 8 * q + 3) else .ok ([x], nx T q, c + 1)) (mX4_readValue_57 I a1 a2) := by
  have hn := ok.1
  have c6 := C.2.1
  unfold mX4_readValue_57
  by_cases h6 : 60 ≤ c
  · rw [if_pos h6, c6, if_neg (show ¬ nI c < (60 : Int32) from fun z => absurd ((nLt (b := 60) (by omega) (by omega)).mp z) (by omega))]
    exact if01k (kFail ok h C (k := 3) (by omega) (by omega) rfl)
  · rw [if_neg h6]
    have C1 : cC (xu I 7 6 (nI (c + 1))) (c + 1) cd := ⟨by rw [xu_c (by decide)]; exact C.1, xu_s, fun i y hy => by rw [xu_r (by decide)]; exact C.2.2 i y hy⟩
    have f1 : frK I (xu I 7 6 (nI (c + 1))) := fun b k h1 h2 h3 => by rw [xu_off (by omega)]
    obtain ⟨J, e1, e2, e3, e4⟩ := emit_ok (T := T) (x := x) C1 (by omega)
    obtain ⟨v, s1, s2⟩ := step_ok (e3 q (tA_row (by omega) h)) hq
    have main : mX4_readValue_100 (xu I 7 6 (nI (c + 1))) (nI x) = some (nI 1, xu J 3 4 v) := by
      unfold mX4_readValue_100
      rw [e1, Option.bind_some, s1, Option.bind_some]
      rfl
    refine ⟨xu J 3 4 v, ?_, s2, cC_3 e2, frK_tr f1 (frK_tr e4 frK_3)⟩
    rw [c6, if_pos (show nI c < (60 : Int32) from (nLt (b := 60) (by omega) (by omega)).mpr (by omega)), show nI c + (1 : Int32) = nI (c + 1) by rw [li1, nAdd]]
    rcases ha with ⟨z1, z2⟩ | ⟨z1, z2⟩
    · rw [if_pos z1, z2, main]
    · rw [if_neg z1, z2, main]
theorem value_ok (ok : okT T) (h : tA T q I) (C : cC I c cd) (hl : cd.length ≤ q) (hc : c ≤ 60) : kRes T I cd (valT T q c) (mX4_readValue I) := by
  have hn := ok.1
  have hq := tA_n h
  have kl := kd_lt37 (T := T) (q := q)
  have kk := kind_ok h
  have nn := number_ok h
  have nr := nm_rng (T := T) (q := q)
  unfold valT mX4_readValue
  rw [kk, Option.bind_some, nn, Option.bind_some]
  by_cases h1 : kd T q = 35 ∨ kd T q < 13
  · rw [if_pos h1]
    have hq2 : q < T.2 := (kd_nx (by omega)).1
    by_cases h35 : kd T q = 35
    · rw [if_pos (show nI (kd T q) = (35 : Int32) by rw [h35]; rfl)]
      unfold mX4_readValue_37
      rw [if_pos (show nI (kd T q) = (35 : Int32) by rw [h35]; rfl)]
      by_cases hm : nm T q = -1
      · rw [if_pos ⟨h35, hm⟩, hm, if_pos (show zI (-1) = (-1 : Int32) by decide +kernel)]
        exact if01k (kFail ok h C (k := 1) (by omega) (by omega) rfl)
      · rw [if_neg (fun z => hm z.2), if_neg (show ¬ zI (nm T q) = (-1 : Int32) from fun z => hm ((zI_eq (b := -1) (by omega) (by omega) (by omega) (by omega)).mp (z.trans (by decide +kernel)))), if_pos h35]
        refine rv57 ok h C hl hq2 hc (Or.inl ⟨show nI (kd T q) = (35 : Int32) by rw [h35]; rfl, ?_⟩)
        rw [show zI (nm T q) = nI (nm T q).toNat by rw [← zI_nat]; congr 1; omega, show (64 : Int32) = nI 64 from rfl, nAdd]
    · rw [if_neg (nNeL (x := 35) (b := 35) rfl (by omega) (by omega) h35), if_pos (show nI (kd T q) < (13 : Int32) from (nLt (b := 13) (by omega) (by omega)).mpr (by omega)), if_neg (fun z => h35 z.1)]
      unfold mX4_readValue_37
      rw [if_neg (nNeL (x := 35) (b := 35) rfl (by omega) (by omega) h35), if_neg h35]
      exact rv57 ok h C hl hq2 hc (Or.inr ⟨nNeL (x := 35) (b := 35) rfl (by omega) (by omega) h35, rfl⟩)
  · rw [if_neg h1, if_neg (nNeL (x := 35) (b := 35) rfl (by omega) (by omega) (by omega)), if_neg (show ¬ nI (kd T q) < (13 : Int32) from fun z => absurd ((nLt (b := 13) (by omega) (by omega)).mp z) (by omega))]
    exact if01k (kFail ok h C (by omega) (k := 0) (by omega) rfl)
theorem mul_ok {k : Nat} (h : k ≤ 37) : mX4_multiplies (nI k) = some (bI (isM k)) ∧ mX4_adds (nI k) = some (bI (isA k)) ∧ mX4_compares (nI k) = some (bI (isP k)) := by
  have : ∀ k, k < 38 → mX4_multiplies (nI k) = some (bI (isM k)) ∧ mX4_adds (nI k) = some (bI (isA k)) ∧ mX4_compares (nI k) = some (bI (isP k)) := by decide +kernel
  exact this k (by omega)
theorem mul_m1 : mX4_multiplies (-1 : Int32) = some (nI 0) := by decide +kernel
def wI : Option Nat → Int32
  | none => -1
  | some w => nI w
def wLn : Option Nat → List Nat
  | none => []
  | some w => [w]
/-- what is behind a term -/
def restS (f : Nat) (I : Nat → Nat → Int32) (w : Option Nat) (k a3 : Nat) : Option (Int32 × (Nat → Nat → Int32)) := if wI w = (-1 : Int32) then mX4_readSum_59 (fun I a1 a2 a3 => mX4_readSum_6 f I a1 a2 a3) I (nI k) (nI a3) else Option.bind (mX4_emit I (wI w)) (fun q19 => mX4_readSum_59 (fun I a1 a2 a3 => mX4_readSum_6 f I a1 a2 a3) q19 (nI k) (nI a3))
theorem r34 (h : tA T q I) {f a3 : Nat} {w : Option Nat} (hm : isM (kd T q) = false) : mX4_readSum_34 (fun I a1 a2 a3 => mX4_readSum_6 f I a1 a2 a3) I (wI w) (nI a3) = restS f I w (kd T q) a3 := by
  have kl := kd_lt37 (T := T) (q := q)
  have mm := (mul_ok kl).1
  rw [hm] at mm
  unfold mX4_readSum_34 restS
  rw [kind_ok h, Option.bind_some, mm, Option.bind_some, if_pos (show bI false = (0 : Int32) by decide)]
theorem tm_go (ok : okT T) {w : Option Nat} : ∀ (m f a3 q c : Nat) (cd : List Nat) (I : Nat → Nat → Int32), T.2 - q < m → T.2 - q < f → a3 < q → tA T q I → cC I c cd → cd.length + (wLn w).length ≤ q → c ≤ 60 → match tmL T m q c with
    | .error e => ∃ J, mX4_readSum_34 (fun I a1 a2 a3 => mX4_readSum_6 f I a1 a2 a3) I (wI w) (nI a3) = some (nI 0, J) ∧ J 3 5 = nI e ∧ (∃ z, z ≤ 400 ∧ J 7 4 = nI z) ∧ frK I J
    | .ok (o, q', c') => ∃ J f' a3', mX4_readSum_34 (fun I a1 a2 a3 => mX4_readSum_6 f I a1 a2 a3) I (wI w) (nI a3) = restS f' J w (kd T q') a3' ∧ tA T q' J ∧ cC J c' (cd ++ o) ∧ frK I J ∧ T.2 - q' < f' ∧ a3' < q'
  | 0, f, a3, q, c, cd, I, h, _, _, _, _, _, _ => absurd h (by omega)
  | m + 1, f, a3, q, c, cd, I, h1, h2, h3, h, C, hl, hc => by
    have hn := ok.1
    have hq := tA_n h
    have kl := kd_lt37 (T := T) (q := q)
    rw [tmL]
    cases hm : isM (kd T q) with
    | false =>
      rw [if_neg (by decide)]
      exact ⟨I, f, a3, r34 h hm, h, by rw [List.append_nil]; exact C, frK_rfl, h2, h3⟩
    | true =>
      rw [if_pos rfl]
      have mb := isM_bin hm
      have kn := kd_nx (T := T) (q := q) (by omega)
      have mm := (mul_ok kl).1
      rw [hm] at mm
      obtain ⟨v, s1, s2⟩ := step_ok h kn.1
      obtain ⟨f, rfl⟩ : ∃ g, f = g + 1 := ⟨f - 1, by omega⟩
      have e34 : mX4_readSum_34 (fun I a1 a2 a3 => mX4_readSum_6 (f + 1) I a1 a2 a3) I (wI w) (nI a3) = mX4_readSum_6 (f + 1) (xu I 3 4 v) (wI w) (nI (kd T q)) (nI (a3 + 1)) := by
        unfold mX4_readSum_34 mX4_readSum_70
        rw [kind_ok h, Option.bind_some, mm, Option.bind_some, if_neg (show ¬ bI true = (0 : Int32) by decide), s1, Option.bind_some, show nI a3 + 1 = nI (a3 + 1) by rw [li1, nAdd]]
      have vo := value_ok ok s2 (cC_3 C) (by omega) hc
      have e6 : mX4_readSum_6 (f + 1) (xu I 3 4 v) (wI w) (nI (kd T q)) (nI (a3 + 1)) = Option.bind (mX4_readValue (xu I 3 4 v)) (fun q2 => (if q2.1 = 0 then (some ((0 : Int32), q2.2)) else (Option.bind (mX4_emit q2.2 (nI (kd T q))) (fun q21 => (mX4_readSum_34 (fun I a1 a2 a3 => mX4_readSum_6 f I a1 a2 a3) q21 (wI w) (nI (a3 + 1))))))) := by
        rw [mX4_readSum_6, if_neg (show ¬ (400 : Int32) ≤ nI (a3 + 1) from fun z => absurd ((nLe (a := 400) (by omega) (by omega)).mp z) (by omega)), mm]
        simp only [Option.bind_some, if_neg (show ¬ bI true = (0 : Int32) by decide)]
      rw [e34, e6]
      cases hv : valT T (nx T q) c with
      | error e =>
        rw [hv] at vo
        obtain ⟨J, v1, v2, v3, v4⟩ := vo
        rw [bd_e]
        refine ⟨J, ?_, v2, v3, frK_tr frK_3 v4⟩
        rw [v1, Option.bind_some]
        rfl
      | ok y =>
        obtain ⟨x, q1, c1⟩ := y
        rw [hv] at vo
        obtain ⟨J, v1, v2, v3, v4⟩ := vo
        have pv := val_pr (T := T) (q := nx T q) hc _ _ _ hv
        rw [bd_o]
        obtain ⟨H, g1, g2, g3, g4⟩ := emit_ok (T := T) (x := kd T q) v3 (by rw [List.length_append]; omega)
        have ih := tm_go ok (w := w) m f (a3 + 1) q1 c1 (cd ++ x ++ [kd T q]) H (by omega) (by omega) (by omega) (g3 _ v2) g2 (by rw [List.length_append, List.length_append]; simp only [List.length_cons, List.length_nil]; omega) (by omega)
        rw [v1, Option.bind_some]
        dsimp only
        rw [if_neg (show ¬ nI 1 = (0 : Int32) by decide), g1, Option.bind_some]
        cases ht : tmL T m q1 c1 with
        | error e =>
          rw [ht] at ih
          obtain ⟨K, k1, k2, k3, k4⟩ := ih
          rw [bd_e]
          exact ⟨K, k1, k2, k3, frK_tr frK_3 (frK_tr v4 (frK_tr g4 k4))⟩
        | ok y =>
          obtain ⟨o, q2, c2⟩ := y
          rw [ht] at ih
          obtain ⟨K, f', a', k1, k2, k3, k4, k5, k6⟩ := ih
          rw [bd_o]
          exact ⟨K, f', a', k1, k2, by rw [show cd ++ (x ++ kd T q :: o) = cd ++ x ++ [kd T q] ++ o by simp]; exact k3, frK_tr frK_3 (frK_tr v4 (frK_tr g4 k4)), k5, k6⟩
theorem sm_go (ok : okT T) : ∀ (m f a3 q c : Nat) (w : Option Nat) (cd : List Nat) (I : Nat → Nat → Int32), T.2 - q < m → T.2 - q < f → a3 < q → (∀ x, w = some x → x ≤ 37) → tA T q I → cC I c cd → cd.length + (wLn w).length ≤ q → c ≤ 60 → kRes T I cd (bd (smL T m q c) fun o q' c' => .ok (wLn w ++ o, q', c')) (restS f I w (kd T q) a3)
  | 0, f, a3, q, c, w, cd, I, h, _, _, _, _, _, _, _ => absurd h (by omega)
  | m + 1, f, a3, q, c, w, cd, I, h1, h2, h3, hw, h, C, hl, hc => by
    have hn := ok.1
    have hq := tA_n h
    have kl := kd_lt37 (T := T) (q := q)
    have key : ∀ H, tA T q H → cC H c (cd ++ wLn w) → frK I H → kRes T I cd (bd (smL T (m + 1) q c) fun o q' c' => .ok (wLn w ++ o, q', c')) (mX4_readSum_59 (fun I a1 a2 a3 => mX4_readSum_6 f I a1 a2 a3) H (nI (kd T q)) (nI a3)) := by
      intro H hH CH fH
      have mm := (mul_ok kl).2.1
      rw [smL]
      unfold mX4_readSum_59
      rw [mm, Option.bind_some]
      cases ha : isA (kd T q) with
      | false =>
        rw [if_neg (by decide), if_pos (by decide)]
        exact ⟨H, rfl, hH, by rw [List.append_nil]; exact CH, fH⟩
      | true =>
        rw [if_pos rfl, if_neg (by decide)]
        have mb := isA_bin ha
        have kn := kd_nx (T := T) (q := q) (by omega)
        have nm' : isM (kd T q) = false := by unfold isA at ha; simp at ha; unfold isM; rcases ha with e | e <;> rw [e] <;> rfl
        obtain ⟨v, s1, s2⟩ := step_ok hH kn.1
        obtain ⟨f, rfl⟩ : ∃ g, f = g + 1 := ⟨f - 1, by omega⟩
        unfold mX4_readSum_70
        rw [s1, Option.bind_some, show nI a3 + 1 = nI (a3 + 1) by rw [li1, nAdd]]
        have ml := (mul_ok kl).1
        rw [nm'] at ml
        have e6 : mX4_readSum_6 (f + 1) (xu H 3 4 v) (nI (kd T q)) (nI (kd T q)) (nI (a3 + 1)) = Option.bind (mX4_readValue (xu H 3 4 v)) (fun q2 => (if q2.1 = 0 then (some ((0 : Int32), q2.2)) else (mX4_readSum_34 (fun I a1 a2 a3 => mX4_readSum_6 f I a1 a2 a3) q2.2 (nI (kd T q)) (nI (a3 + 1))))) := by
          rw [mX4_readSum_6, if_neg (show ¬ (400 : Int32) ≤ nI (a3 + 1) from fun z => absurd ((nLe (a := 400) (by omega) (by omega)).mp z) (by omega)), ml]
          simp only [Option.bind_some, if_pos (show bI false = (0 : Int32) by decide)]
        change kRes T I cd _ (mX4_readSum_6 (f + 1) (xu H 3 4 v) (nI (kd T q)) (nI (kd T q)) (nI (a3 + 1)))
        rw [e6]
        have lw : (cd ++ wLn w).length ≤ q := by rw [List.length_append]; exact hl
        have vo := value_ok ok s2 (cC_3 CH) (by omega) hc
        unfold term
        cases hv : valT T (nx T q) c with
        | error e =>
          rw [hv] at vo
          obtain ⟨J, v1, v2, v3, v4⟩ := vo
          refine ⟨J, ?_, v2, v3, frK_tr fH (frK_tr frK_3 v4)⟩
          rw [v1, Option.bind_some]
          rfl
        | ok y =>
          obtain ⟨x, q1, c1⟩ := y
          rw [hv] at vo
          obtain ⟨J, v1, v2, v3, v4⟩ := vo
          have pv := val_pr (T := T) (q := nx T q) hc _ _ _ hv
          rw [bd_o, v1, Option.bind_some]
          dsimp only
          rw [if_neg (show ¬ nI 1 = (0 : Int32) by decide)]
          have tg := tm_go ok (w := some (kd T q)) 401 f (a3 + 1) q1 c1 (cd ++ wLn w ++ x) J (by omega) (by omega) (by omega) v2 v3 (by rw [List.length_append]; show _ + 1 ≤ _; omega) (by omega)
          cases ht : tmL T 401 q1 c1 with
          | error e =>
            rw [ht] at tg
            obtain ⟨K, k1, k2, k3, k4⟩ := tg
            exact ⟨K, k1, k2, k3, frK_tr fH (frK_tr frK_3 (frK_tr v4 k4))⟩
          | ok y =>
            obtain ⟨o, q2, c2⟩ := y
            rw [ht] at tg
            obtain ⟨K, f', a', k1, k2, k3, k4, k5, k6⟩ := tg
            have pt := tmL_pr 401 q1 c1 pv.1.2.1 pv.1.2.2 pv.2.2.1.2 _ _ _ ht
            have ih := sm_go ok m f' a' q2 c2 (some (kd T q)) (cd ++ wLn w ++ x ++ o) K (by omega) k5 k6 (fun x hx => by cases hx; exact kl) k2 k3 (by rw [List.length_append, List.length_append]; show _ + 1 ≤ _; omega) (by omega)
            rw [bd_o, bd_o]
            change mX4_readSum_34 _ J (nI (kd T q)) (nI (a3 + 1)) = _ at k1
            rw [k1]
            refine kRes_fr (frK_tr fH (frK_tr frK_3 (frK_tr v4 k4))) ?_
            cases hs : smL T m q2 c2 with
            | error e =>
              rw [hs] at ih
              exact ih
            | ok y =>
              obtain ⟨o2, q3, c3⟩ := y
              rw [hs] at ih
              obtain ⟨N, n1, n2, n3, n4⟩ := ih
              refine ⟨N, n1, n2, ?_, n4⟩
              rw [show cd ++ (wLn w ++ (x ++ o ++ kd T q :: o2)) = cd ++ wLn w ++ x ++ o ++ ([kd T q] ++ o2) by simp]
              exact n3
    unfold restS
    cases w with
    | none =>
      rw [if_pos (show wI none = (-1 : Int32) from rfl)]
      exact key I h (by rw [show wLn none = [] from rfl, List.append_nil]; exact C) frK_rfl
    | some x =>
      have hx := hw x rfl
      rw [if_neg (show ¬ wI (some x) = (-1 : Int32) from nNe1 (by omega))]
      obtain ⟨H, g1, g2, g3, g4⟩ := emit_ok (T := T) (x := x) C (by change cd.length + 1 ≤ q at hl; omega)
      change kRes T I cd _ (Option.bind (mX4_emit I (nI x)) _)
      rw [g1, Option.bind_some]
      exact key H (g3 _ h) g2 g4
theorem sumC_ok (ok : okT T) (h : tA T q I) (C : cC I c cd) (hl : cd.length ≤ q) (hc : c ≤ 60) : kRes T I cd (sumT T q c) (mX4_readSum I) := by
  have hn := ok.1
  have hq := tA_n h
  have e6 : mX4_readSum I = Option.bind (mX4_readValue I) (fun q2 => (if q2.1 = 0 then (some ((0 : Int32), q2.2)) else (mX4_readSum_34 (fun I a1 a2 a3 => mX4_readSum_6 999999 I a1 a2 a3) q2.2 (-1 : Int32) (nI 0)))) := by
    unfold mX4_readSum
    rw [show xf = 999999 + 1 from rfl, mX4_readSum_6, if_neg (show ¬ (400 : Int32) ≤ 0 by decide), mul_m1]
    simp only [Option.bind_some, if_pos (show nI 0 = (0 : Int32) from rfl)]
    rfl
  rw [e6]
  have vo := value_ok ok h C hl hc
  unfold sumT term
  cases hv : valT T q c with
  | error e =>
    rw [hv] at vo
    obtain ⟨J, v1, v2, v3, v4⟩ := vo
    refine ⟨J, ?_, v2, v3, v4⟩
    rw [v1, Option.bind_some]
    rfl
  | ok y =>
    obtain ⟨x, q1, c1⟩ := y
    rw [hv] at vo
    obtain ⟨J, v1, v2, v3, v4⟩ := vo
    have pv := val_pr (T := T) (q := q) hc _ _ _ hv
    rw [bd_o, v1, Option.bind_some]
    dsimp only
    rw [if_neg (show ¬ nI 1 = (0 : Int32) by decide)]
    have tg := tm_go ok (w := none) 401 999999 0 q1 c1 (cd ++ x) J (by omega) (by omega) (by omega) v2 v3 (by rw [List.length_append]; show _ + 0 ≤ _; omega) (by omega)
    cases ht : tmL T 401 q1 c1 with
    | error e =>
      rw [ht] at tg
      obtain ⟨K, k1, k2, k3, k4⟩ := tg
      exact ⟨K, k1, k2, k3, frK_tr v4 k4⟩
    | ok y =>
      obtain ⟨o, q2, c2⟩ := y
      rw [ht] at tg
      obtain ⟨K, f', a', k1, k2, k3, k4, k5, k6⟩ := tg
      have pt := tmL_pr 401 q1 c1 pv.1.2.1 pv.1.2.2 pv.2.2.1.2 _ _ _ ht
      have ih := sm_go ok 401 f' a' q2 c2 none (cd ++ x ++ o) K (by omega) k5 k6 (fun x hx => by cases hx) k2 k3 (by rw [List.length_append, List.length_append]; show _ + 0 ≤ _; omega) (by omega)
      rw [bd_o, bd_o]
      change mX4_readSum_34 _ J (-1 : Int32) (nI 0) = _ at k1
      rw [k1]
      refine kRes_fr (frK_tr v4 k4) ?_
      cases hs : smL T 401 q2 c2 with
      | error e =>
        rw [hs] at ih
        exact ih
      | ok y =>
        obtain ⟨o2, q3, c3⟩ := y
        rw [hs] at ih
        obtain ⟨N, n1, n2, n3, n4⟩ := ih
        refine ⟨N, n1, n2, ?_, n4⟩
        rw [show cd ++ (x ++ o ++ o2) = cd ++ x ++ o ++ ([] ++ o2) by simp]
        exact n3
end

/-! rule: the reference's reader, comparisons; the stack of what is open. -/
section
variable {T : txT} {I J H : Nat → Nat → Int32} {p q c r f : Nat} {cd : List Nat}
theorem zNeL {a b : Int} {x : Int32} (hx : x = zI b) (ha : -2147483648 ≤ a) (ha2 : a < 2147483648) (hb : -2147483648 ≤ b) (hb2 : b < 2147483648) (h : a ≠ b) : ¬ zI a = x := fun c => h ((zI_eq ha ha2 hb hb2).mp (c.trans hx))
theorem c139_f (hf : 0 < f) (hf2 : f < 100000) (v : Int32) : mX12_compared_139 (rP I p f) v = some (rP I p f) := by
  unfold mX12_compared_139
  rw [entry_f hf hf2, Option.bind_some]
theorem c90_f (ok : okT T) (hx : txR I T) (h36 : I 123 36 = nI 13) {p2 : Nat} (hp : p2 ≤ T.2) (hf : 0 < f) (hf2 : f < 100000) {a1 a2 t0 t1 : Int32} (ht : t1 + t0 = nI p2) : ∃ J p', mX12_compared_90 (rP I p f) a1 a2 t0 t1 = some (rP J p' f) ∧ p' ≤ T.2 ∧ frB r I J := by
  obtain ⟨J, p', v1, v2, v3⟩ := sumR_f (r := r) ok hx h36 hp hf hf2
  refine ⟨J, p', ?_, v2, v3⟩
  unfold mX12_compared_90
  rw [ht, rP_s28, v1, Option.bind_some]
  simp only [c139_f hf hf2, ite_self]
theorem comp_f (ok : okT T) (hx : txR I T) (h36 : I 123 36 = nI 13) (hp : p ≤ T.2) (hf : 0 < f) (hf2 : f < 100000) : ∃ J p', Option.bind (mX12_sign (rP I p f)) (fun q3 => (if q3 = (60 : Int32) then (mX12_compared_37 (rP I p f) q3) else (if q3 = (61 : Int32) then (mX12_compared_37 (rP I p f) q3) else (if q3 = (62 : Int32) then (mX12_compared_37 (rP I p f) q3) else (Option.bind (mX12_fails (rP I p f) (0 : Int32) (rP I p f 123 28)) (fun q23 => (some q23))))))) = some (rP J p' f) ∧ p' ≤ T.2 ∧ frB r I J := by
  have hn := ok.1
  have sg := sign_ok (I := I) (f := f) ok hx (p := p) (by omega)
  have sr := sgn_rng (T := T) (q := p)
  obtain ⟨w, co⟩ := count_f (I := I) (p := p) (f := f) (a := p) hf hf2 (by omega)
  have hx2 : txR (xu I 123 34 w) T := txR_B (r := r) frB_34 hx
  have h362 : xu I 123 34 w 123 36 = nI 13 := by rw [xu_c (by decide)]; exact h36
  have sg2 := sign_ok (I := xu I 123 34 w) (f := f) ok hx2 (p := p + 1) (by omega)
  have key : ∀ a : Nat, sgn T p = a → (a = 60 ∨ a = 61 ∨ a = 62) → ∃ J p', mX12_compared_37 (rP I p f) (nI a) = some (rP J p' f) ∧ p' ≤ T.2 ∧ frB r I J := by
    intro a ha h3
    have hp2 := ((sgn_iff (q := p) ok (c := (a : Int)) (by omega) (by omega)).mp ha).1
    have c0 : ∀ a1, ∃ J p', mX12_compared_75 (rP (xu I 123 34 w) (p + 1) f) a1 (0 : Int32) = some (rP J p' f) ∧ p' ≤ T.2 ∧ frB r I J := by
      intro a1
      obtain ⟨J, p', v1, v2, v3⟩ := c90_f (I := xu I 123 34 w) (r := r) (p := p + 1) ok hx2 h362 (p2 := p + 1) (by omega) hf hf2 (a1 := a1) (a2 := 0) (t0 := nI 0) (t1 := nI (p + 1)) (by rw [nAdd, Nat.add_zero])
      refine ⟨J, p', ?_, v2, frB_tr frB_34 v3⟩
      unfold mX12_compared_75
      rw [if_pos rfl, rP_28]
      exact v1
    unfold mX12_compared_37
    rw [rP_28, co, Option.bind_some, rP_28, show nI p + (1 : Int32) = nI (p + 1) by rw [li1, nAdd], rP_s28]
    unfold mX12_compared_74
    by_cases e : a = 61
    · rw [if_pos (show nI a = (61 : Int32) by rw [e]; rfl)]
      exact c0 _
    · rw [if_neg (nNeL (x := 61) (b := 61) rfl (by omega) (by omega) e), sg2, Option.bind_some]
      by_cases e2 : sgn T (p + 1) = 61
      · rw [e2, if_pos (show zI 61 = (61 : Int32) from rfl)]
        have hp3 := ((sgn_iff (q := p + 1) ok (c := 61) (by omega) (by omega)).mp e2).1
        obtain ⟨J, p', v1, v2, v3⟩ := c90_f (I := xu I 123 34 w) (r := r) (p := p + 1) ok hx2 h362 (p2 := p + 1 + 1) (by omega) hf hf2 (a1 := nI a) (a2 := 1) (t0 := nI 1) (t1 := nI (p + 1)) (by rw [nAdd])
        refine ⟨J, p', ?_, v2, frB_tr frB_34 v3⟩
        unfold mX12_compared_75
        rw [if_neg (show ¬ (1 : Int32) = 0 by decide), rP_28]
        exact v1
      · have sr2 := sgn_rng (T := T) (q := p + 1)
        rw [if_neg (zNeL (x := 61) (b := 61) rfl (by omega) (by omega) (by omega) (by omega) e2)]
        exact c0 _
  rw [sg, Option.bind_some]
  by_cases e60 : sgn T p = 60
  · rw [e60, if_pos (show zI 60 = (60 : Int32) from rfl)]
    exact key 60 e60 (by omega)
  rw [if_neg (zNeL (x := 60) (b := 60) rfl (by omega) (by omega) (by omega) (by omega) e60)]
  by_cases e61 : sgn T p = 61
  · rw [e61, if_pos (show zI 61 = (61 : Int32) from rfl)]
    exact key 61 e61 (by omega)
  rw [if_neg (zNeL (x := 61) (b := 61) rfl (by omega) (by omega) (by omega) (by omega) e61)]
  by_cases e62 : sgn T p = 62
  · rw [e62, if_pos (show zI 62 = (62 : Int32) from rfl)]
    exact key 62 e62 (by omega)
  rw [if_neg (zNeL (x := 62) (b := 62) rfl (by omega) (by omega) (by omega) (by omega) e62), rP_28]
  have fa := fails_ok (I := I) (p := p) (f := f) (k := 0) (a := p) hf2 (by omega) (by omega)
  rw [fl_f hf] at fa
  refine ⟨I, p, ?_, hp, frB_rfl⟩
  change Option.bind (mX12_fails (rP I p f) (nI 0) (nI p)) _ = _
  rw [fa, Option.bind_some]
theorem cmpR_ok (ok : okT T) (hr : r < 6) (hx : txR I T) (C : rC I r c cd) (hp : p ≤ T.2) (hq : sk T p = q) (hb : 3 * cd.length ≤ 6 * c + q) (hc : c ≤ 60) : bRes T r I cd (cmpF T q c) (mX12_compared (rP I p 0)) := by
  have hn := ok.1
  have so := sumR_ok ok hr hx C hp hq hb hc
  unfold cmpF mX12_compared
  cases hv : sumT T q c with
  | error e =>
    rw [hv] at so
    obtain ⟨he, J, p', v1, v2, v3⟩ := so
    obtain ⟨K, p2, w1, w2, w3⟩ := comp_f (r := r) (I := J) (p := p') (f := e) ok (txR_B v3 hx) (by rw [v3 123 36 (by omega) (by omega)]; exact C.1.2) v2 he.1 (by omega)
    rw [bd_e]
    refine ⟨he, K, p2, ?_, w2, frB_tr v3 w3⟩
    rw [v1, Option.bind_some]
    exact w1
  | ok y =>
    obtain ⟨x, q1, c1⟩ := y
    rw [hv] at so
    obtain ⟨J, v1, v4, v5⟩ := so
    have pv := sum_pr (T := T) (q := q) hc _ _ _ hv
    have hxJ := txR_B v5 hx
    have kl := kd_lt37 (T := T) (q := q1)
    rw [bd_o, v1, Option.bind_some]
    refine bRes_fr v5 ?_
    cases hP : isP (kd T q1) with
    | false =>
      rw [if_neg (by decide)]
      have fa := fails_ok (I := J) (p := q1) (f := 0) (k := 0) (a := q1) (by omega) (by omega) (by omega)
      rw [fl_e, Nat.add_zero] at fa
      refine ⟨by omega, J, q1, ?_, pv.1.2.1, frB_rfl⟩
      refine Eq.trans (cmp_no (f := 0) ok hxJ pv.1.2.1 hP (fun q3 => mX12_compared_37 (rP J q1 0) q3) _) ?_
      rw [rP_28]
      change Option.bind (mX12_fails (rP J q1 0) (nI 0) (nI q1)) _ = _
      rw [fa, Option.bind_some]
    | true =>
      rw [if_pos rfl]
      have rb := isBin_rng (isP_bin hP)
      have kn := kd_nx (T := T) (q := q1) (by omega)
      have er := en_rng kn.1
      obtain ⟨a1, z1, z2, z3⟩ := cmp_37 ok hxJ pv.1.2.1 hP 0
      have e37 : Option.bind (mX12_sign (rP J q1 0)) (fun q3 => (if q3 = (60 : Int32) then (mX12_compared_37 (rP J q1 0) q3) else (if q3 = (61 : Int32) then (mX12_compared_37 (rP J q1 0) q3) else (if q3 = (62 : Int32) then (mX12_compared_37 (rP J q1 0) q3) else (Option.bind (mX12_fails (rP J q1 0) (0 : Int32) (rP J q1 0 123 28)) (fun q23 => (some q23))))))) = mX12_compared_37 (rP J q1 0) a1 := by
        rw [z2, Option.bind_some]
        rcases z1 with z | z | z
        · rw [if_pos z]
        · rw [z, if_neg (by decide), if_pos rfl]
        · rw [z, if_neg (by decide), if_neg (by decide), if_pos rfl]
      rw [e37]
      have co := count_ok (I := J) (p := q1) (f := 0) (a := q1) v4.2.2.1 pv.2.2.1.2 (by omega) (by omega)
      have hx2 : txR (xu J 123 34 (nI (c1 + 1))) T := txR_B (r := r) frB_34 hxJ
      rw [z3 _ _ co hx2]
      by_cases h6 : 60 ≤ c1
      · rw [if_pos h6, if_pos (show c1 = 60 by omega), fl_e]
        obtain ⟨K, p2, w1, w2, w3⟩ := sumR_f (r := r) (I := xu J 123 34 (nI (c1 + 1))) (p := en T q1) (f := 1 + 8 * q1 + 3) ok hx2 (by rw [xu_c (by decide)]; exact v4.1.2) er.2 (by omega) (by omega)
        refine ⟨by omega, K, p2, ?_, w2, frB_tr frB_34 w3⟩
        rw [w1, Option.bind_some, c139_f (by omega) (by omega)]
      · rw [if_neg h6, if_neg (show ¬ c1 = 60 by omega)]
        have xl : 3 * (cd ++ x).length + 3 ≤ 6 * c1 + q1 := by rw [List.length_append]; omega
        have so2 := sumR_ok (p := en T q1) (q := nx T q1) ok hr hx2 (rC_34 (v := c1 + 1) v4) er.2 rfl (by omega) (by omega)
        refine bRes_fr (J := xu J 123 34 (nI (c1 + 1))) frB_34 ?_
        cases hv2 : sumT T (nx T q1) (c1 + 1) with
        | error e =>
          rw [hv2] at so2
          obtain ⟨he, K, p2, w1, w2, w3⟩ := so2
          rw [bd_e]
          refine ⟨he, K, p2, ?_, w2, w3⟩
          rw [w1, Option.bind_some, c139_f he.1 (by omega)]
        | ok y =>
          obtain ⟨o, q2, c2⟩ := y
          rw [hv2] at so2
          obtain ⟨K, w1, w2, w3⟩ := so2
          have pv2 := sum_pr (T := T) (q := nx T q1) (show c1 + 1 ≤ 60 by omega) _ _ _ hv2
          obtain ⟨N, n1, n2, n3⟩ := entry_ok (p := q2) (x := kd T q1) w2 hr (by rw [List.length_append]; omega)
          rw [numOf_0 (by omega)] at n1
          rw [bd_o]
          refine ⟨N, ?_, by rw [show cd ++ (x ++ (o ++ [kd T q1])) = cd ++ x ++ o ++ [kd T q1] by simp]; exact n2, frB_tr w3 n3⟩
          rw [w1, Option.bind_some]
          unfold mX12_compared_139
          change Option.bind (mX12_entry (rP K q2 0) (nI (sortOf (kd T q1))) (nI 0)) _ = _
          rw [n1, Option.bind_some]
/-- the stack -/
def sK (I : Nat → Nat → Int32) (d : Nat) (s : List Nat) : Prop := I 123 35 = nI s.length ∧ I 123 33 = nI d ∧ ∀ i x, s.reverse[i]? = some x → I 157 i = nI x
def frT (r : Nat) (I J : Nat → Nat → Int32) : Prop := ∀ b k, b ≠ 123 ∨ (k ≠ 32 ∧ k ≠ 33 ∧ k ≠ 34 ∧ k ≠ 35) → (b ≠ 151 ∧ b ≠ 152) ∨ k < 300 * r → b ≠ 157 → J b k = I b k
theorem frT_rfl : frT r I I := fun _ _ _ _ _ => rfl
theorem frT_tr (h1 : frT r I J) (h2 : frT r J H) : frT r I H := fun b k x y z => (h2 b k x y z).trans (h1 b k x y z)
theorem frT_B (h : frB r I J) : frT r I J := fun b k x y _ => h b k (by omega) y
theorem txR_T (h : frT r I J) (hx : txR I T) : txR J T := ⟨by rw [h 123 27 (by omega) (by omega) (by omega)]; exact hx.1, fun i hi => by rw [h 150 i (by omega) (by omega) (by omega)]; exact hx.2 i hi⟩
theorem sK_B {d : Nat} {s : List Nat} (h : frB r I J) (S : sK I d s) : sK J d s := ⟨by rw [h 123 35 (by omega) (by omega)]; exact S.1, by rw [h 123 33 (by omega) (by omega)]; exact S.2.1, fun i x hi => by rw [h 157 i (by omega) (by omega)]; exact S.2.2 i x hi⟩
theorem rC_K {v w : Int32} (C : rC I r c cd) : rC (xu (xu I 123 35 v) 123 33 w) r c cd := by
  obtain ⟨⟨c0, c36⟩, c1, c2, c3⟩ := C
  refine ⟨⟨?_, ?_⟩, ?_, ?_, fun i x hx => ?_⟩
  · rw [xu_c (by decide), xu_c (by decide)]; exact c0
  · rw [xu_c (by decide), xu_c (by decide)]; exact c36
  · rw [xu_c (by decide), xu_c (by decide)]; exact c1
  · rw [xu_c (by decide), xu_c (by decide)]; exact c2
  · rw [xu_r (by decide), xu_r (by decide), xu_r (by decide), xu_r (by decide)]; exact c3 i x hx
theorem sK_top {d x : Nat} {s : List Nat} (S : sK I d (x :: s)) (hl : s.length < 402) : mX12_top (rP I p f) = some (nI x) := by
  obtain ⟨s1, s2, s3⟩ := S
  rw [List.length_cons] at s1
  have e := s3 s.length x (by rw [List.reverse_cons, List.getElem?_append_right (by rw [List.length_reverse]; exact Nat.le_refl _), List.length_reverse, Nat.sub_self]; rfl)
  unfold mX12_top
  simp (disch := omega) only [↓reduceIte, Option.bind_some, Option.some.injEq, Prod.mk.injEq, and_self, and_true, true_and, eq_self, reduceCtorEq, not_false_eq_true, not_true_eq_false, or_true, true_or, or_false, false_or, bft, nAdd, nMul, nSub, nDiv, nRem, nAm1, nIx, nIn, bI_z, bI_o, ite_b1, ite_b0, zI_add, zI_sub, li0, li1, li2, li3, li4, li5, li6, li7, li8, li9, li10, li11, li12, li13, li14, li15, li16, li17, li18, li19, li20, li21, li22, li23, li24, li25, li26, li27, li28, li29, li30, li31, li32, li33, li34, li35, li36, li37, li40, li42, li43, li45, li47, li48, li57, li59, li60, li61, li62, li64, li80, li91, li93, li97, li99, li100, li122, li182, li199, li255, li300, li380, li400, li999, li1000, li3640, li4100, li65536, li99999, ln1, ln2, ln3, ln100, ln100000, tLe, fLe, tLt, fLt, tEq, fEq, zLe_t, zLe_f, zLt_t, zLt_f, zEq_t, zEq_f, nzLe_t, nzLe_f, znLe_t, znLe_f, nzLt_t, nzLt_f, znLt_t, znLt_f, nzEq_t, nzEq_f, znEq_t, znEq_f, rP_o, s1, Nat.add_sub_cancel, e]
theorem sK_top0 {d : Nat} (S : sK I d []) : mX12_top (rP I p f) = some (-1 : Int32) := by
  obtain ⟨s1, s2, s3⟩ := S
  change I 123 35 = nI 0 at s1
  unfold mX12_top
  rw [if_pos (show rP I p f 123 35 = (0 : Int32) by rw [rP_o (by decide)]; exact s1)]
theorem sK_pop {d x y : Nat} {s : List Nat} (S : sK I d (x :: s)) : sK (xu (xu I 123 35 (nI s.length)) 123 33 (nI y)) y s := by
  obtain ⟨s1, s2, s3⟩ := S
  refine ⟨by rw [xu_c (by decide), xu_s], xu_s, fun i z hz => ?_⟩
  rw [xu_r (by decide), xu_r (by decide)]
  have hi := (List.getElem?_eq_some_iff.mp hz).1
  refine s3 i z ?_
  rw [List.reverse_cons, List.getElem?_append_left hi]
  exact hz
theorem sK_push {d x y : Nat} {s : List Nat} (S : sK I d s) : sK (xu (xu (xu I 123 33 (nI y)) 157 s.length (nI x)) 123 35 (nI (s.length + 1))) y (x :: s) := by
  obtain ⟨s1, s2, s3⟩ := S
  refine ⟨xu_s, by rw [xu_c (by decide), xu_r (by decide), xu_s], fun i z hz => ?_⟩
  rw [xu_r (by decide)]
  have hi := (List.getElem?_eq_some_iff.mp hz).1
  rw [List.length_reverse, List.length_cons] at hi
  rw [List.reverse_cons] at hz
  by_cases e : i = s.length
  · subst e
    rw [List.getElem?_append_right (by rw [List.length_reverse]; exact Nat.le_refl _), List.length_reverse, Nat.sub_self] at hz
    cases hz
    rw [xu_s]
  · rw [List.getElem?_append_left (by rw [List.length_reverse]; omega)] at hz
    rw [xu_c e, xu_r (by decide)]
    exact s3 i z hz
end

/-! rule: the class's reader, tests. -/
abbrev rdT : Type := (Nat → Nat → Int32) → Int32 → Option (Int32 × (Nat → Nat → Int32))
section
variable {T : txT} {I J H : Nat → Nat → Int32} {q c : Nat} {cd : List Nat} {r r' : rdT} {F : Nat → Nat → eT}
theorem partC_go (ok : okT T) {a1 : Int32} (hF : ∀ q c cd I, tA T q I → cC I c cd → cd.length ≤ q → c ≤ 60 → kRes T I cd (F q c) (mX4_readFact r r' I a1)) (hP : ∀ q c, q ≤ T.2 → c ≤ 60 → prP T 9 true q c (F q c)) : ∀ (m f a2 q c : Nat) (cd : List Nat) (I : Nat → Nat → Int32), T.2 - q < m → T.2 - q < f → a2 < q → tA T q I → cC I c cd → cd.length ≤ q → c ≤ 60 → kRes T I cd (jnL T 19 F m q c) (mX4_readPart_29 r r' (fun I a1 a2 => mX4_readPart_2 r r' f I a1 a2) I a1 (nI a2))
  | 0, f, a2, q, c, cd, I, h, _, _, _, _, _, _ => absurd h (by omega)
  | m + 1, f, a2, q, c, cd, I, h1, h2, h3, h, C, hl, hc => by
    have hn := ok.1
    have hq := tA_n h
    have kl := kd_lt37 (T := T) (q := q)
    rw [jnL]
    unfold mX4_readPart_29
    rw [kind_ok h, Option.bind_some]
    by_cases hw : kd T q = 19
    · rw [if_pos hw, if_pos (show nI (kd T q) = (19 : Int32) by rw [hw]; rfl)]
      have kn := kd_nx (T := T) (q := q) (by omega)
      obtain ⟨v, s1, s2⟩ := step_ok h kn.1
      obtain ⟨f, rfl⟩ : ∃ g, f = g + 1 := ⟨f - 1, by omega⟩
      rw [s1, Option.bind_some, show nI a2 + 1 = nI (a2 + 1) by rw [li1, nAdd]]
      change kRes T I cd _ (mX4_readPart_2 r r' (f + 1) (xu I 3 4 v) a1 (nI (a2 + 1)))
      have fo := hF (nx T q) c cd (xu I 3 4 v) s2 (cC_3 C) (by omega) hc
      have e2 : mX4_readPart_2 r r' (f + 1) (xu I 3 4 v) a1 (nI (a2 + 1)) = Option.bind (mX4_readFact r r' (xu I 3 4 v) a1) (fun q2 => (if q2.1 = 0 then (some ((0 : Int32), q2.2)) else (Option.bind (mX4_emit q2.2 (nI 19)) (fun q11 => (mX4_readPart_29 r r' (fun I a1 a2 => mX4_readPart_2 r r' f I a1 a2) q11 a1 (nI (a2 + 1))))))) := by
        rw [mX4_readPart_2, if_neg (show ¬ (400 : Int32) ≤ nI (a2 + 1) from fun z => absurd ((nLe (a := 400) (by omega) (by omega)).mp z) (by omega))]
        simp only [if_neg (show ¬ nI (a2 + 1) ≤ (0 : Int32) from fun z => absurd ((nLe (b := 0) (by omega) (by omega)).mp z) (by omega))]
        rfl
      rw [e2]
      cases hv : F (nx T q) c with
      | error e =>
        rw [hv] at fo
        obtain ⟨J, v1, v2, v3, v4⟩ := fo
        rw [bd_e]
        refine ⟨J, ?_, v2, v3, frK_tr frK_3 v4⟩
        rw [v1, Option.bind_some]
        rfl
      | ok y =>
        obtain ⟨x, q1, c1⟩ := y
        rw [hv] at fo
        obtain ⟨J, v1, v2, v3, v4⟩ := fo
        have pv := hP (nx T q) c kn.2.2 hc _ _ _ hv
        rw [bd_o]
        obtain ⟨H, g1, g2, g3, g4⟩ := emit_ok (T := T) (x := 19) v3 (by rw [List.length_append]; omega)
        have ih := partC_go ok (a1 := a1) hF hP m f (a2 + 1) q1 c1 (cd ++ x ++ [19]) H (by omega) (by omega) (by omega) (g3 _ v2) g2 (by rw [List.length_append, List.length_append]; simp only [List.length_cons, List.length_nil]; omega) (by omega)
        rw [v1, Option.bind_some]
        dsimp only
        rw [if_neg (show ¬ nI 1 = (0 : Int32) by decide), g1, Option.bind_some]
        refine kRes_fr (frK_tr frK_3 (frK_tr v4 g4)) ?_
        cases ht : jnL T 19 F m q1 c1 with
        | error e =>
          rw [ht] at ih
          exact ih
        | ok y =>
          obtain ⟨o, q2, c2⟩ := y
          rw [ht] at ih
          obtain ⟨K, k1, k2, k3, k4⟩ := ih
          exact ⟨K, k1, k2, by rw [show cd ++ (x ++ 19 :: o) = cd ++ x ++ [19] ++ o by simp]; exact k3, k4⟩
    · rw [if_neg hw, if_neg (nNeL (x := 19) (b := 19) rfl (by omega) (by omega) hw)]
      exact ⟨I, rfl, h, by rw [List.append_nil]; exact C, frK_rfl⟩
theorem partC_ok (ok : okT T) {a1 : Int32} (hF : ∀ q c cd I, tA T q I → cC I c cd → cd.length ≤ q → c ≤ 60 → kRes T I cd (F q c) (mX4_readFact r r' I a1)) (hP : ∀ q c, q ≤ T.2 → c ≤ 60 → prP T 9 true q c (F q c)) (h : tA T q I) (C : cC I c cd) (hl : cd.length ≤ q) (hc : c ≤ 60) : kRes T I cd (jnT T 19 F q c) (mX4_readPart r r' I a1) := by
  have hn := ok.1
  have hq := tA_n h
  have e2 : mX4_readPart r r' I a1 = Option.bind (mX4_readFact r r' I a1) (fun q2 => (if q2.1 = 0 then (some ((0 : Int32), q2.2)) else (mX4_readPart_29 r r' (fun I a1 a2 => mX4_readPart_2 r r' 999999 I a1 a2) q2.2 a1 (nI 0)))) := by
    unfold mX4_readPart
    rw [show xf = 999999 + 1 from rfl, mX4_readPart_2, if_neg (show ¬ (400 : Int32) ≤ 0 by decide)]
    simp only [if_pos (show (0 : Int32) ≤ 0 by decide)]
    rfl
  rw [e2]
  have fo := hF q c cd I h C hl hc
  unfold jnT
  cases hv : F q c with
  | error e =>
    rw [hv] at fo
    obtain ⟨J, v1, v2, v3, v4⟩ := fo
    refine ⟨J, ?_, v2, v3, v4⟩
    rw [v1, Option.bind_some]
    rfl
  | ok y =>
    obtain ⟨x, q1, c1⟩ := y
    rw [hv] at fo
    obtain ⟨J, v1, v2, v3, v4⟩ := fo
    have pv := hP q c hq hc _ _ _ hv
    have ih := partC_go ok (a1 := a1) hF hP 401 999999 0 q1 c1 (cd ++ x) J (by omega) (by omega) (by omega) v2 v3 (by rw [List.length_append]; omega) (by omega)
    rw [bd_o, v1, Option.bind_some]
    dsimp only
    rw [if_neg (show ¬ nI 1 = (0 : Int32) by decide)]
    refine kRes_fr v4 ?_
    cases ht : jnL T 19 F 401 q1 c1 with
    | error e =>
      rw [ht] at ih
      exact ih
    | ok y =>
      obtain ⟨o, q2, c2⟩ := y
      rw [ht] at ih
      obtain ⟨K, k1, k2, k3, k4⟩ := ih
      exact ⟨K, k1, k2, by rw [show cd ++ (x ++ o) = cd ++ x ++ o by simp]; exact k3, k4⟩
theorem testC_go (ok : okT T) {a1 : Int32} (hF : ∀ q c cd I, tA T q I → cC I c cd → cd.length ≤ q → c ≤ 60 → kRes T I cd (F q c) (mX4_readPart r r' I a1)) (hP : ∀ q c, q ≤ T.2 → c ≤ 60 → prP T 9 true q c (F q c)) : ∀ (m f a2 q c : Nat) (cd : List Nat) (I : Nat → Nat → Int32), T.2 - q < m → T.2 - q < f → a2 < q → tA T q I → cC I c cd → cd.length ≤ q → c ≤ 60 → kRes T I cd (jnL T 20 F m q c) (mX4_readTest_29 r r' (fun I a1 a2 => mX4_readTest_2 r r' f I a1 a2) I a1 (nI a2))
  | 0, f, a2, q, c, cd, I, h, _, _, _, _, _, _ => absurd h (by omega)
  | m + 1, f, a2, q, c, cd, I, h1, h2, h3, h, C, hl, hc => by
    have hn := ok.1
    have hq := tA_n h
    have kl := kd_lt37 (T := T) (q := q)
    rw [jnL]
    unfold mX4_readTest_29
    rw [kind_ok h, Option.bind_some]
    by_cases hw : kd T q = 20
    · rw [if_pos hw, if_pos (show nI (kd T q) = (20 : Int32) by rw [hw]; rfl)]
      have kn := kd_nx (T := T) (q := q) (by omega)
      obtain ⟨v, s1, s2⟩ := step_ok h kn.1
      obtain ⟨f, rfl⟩ : ∃ g, f = g + 1 := ⟨f - 1, by omega⟩
      rw [s1, Option.bind_some, show nI a2 + 1 = nI (a2 + 1) by rw [li1, nAdd]]
      change kRes T I cd _ (mX4_readTest_2 r r' (f + 1) (xu I 3 4 v) a1 (nI (a2 + 1)))
      have fo := hF (nx T q) c cd (xu I 3 4 v) s2 (cC_3 C) (by omega) hc
      have e2 : mX4_readTest_2 r r' (f + 1) (xu I 3 4 v) a1 (nI (a2 + 1)) = Option.bind (mX4_readPart r r' (xu I 3 4 v) a1) (fun q2 => (if q2.1 = 0 then (some ((0 : Int32), q2.2)) else (Option.bind (mX4_emit q2.2 (nI 20)) (fun q11 => (mX4_readTest_29 r r' (fun I a1 a2 => mX4_readTest_2 r r' f I a1 a2) q11 a1 (nI (a2 + 1))))))) := by
        rw [mX4_readTest_2, if_neg (show ¬ (400 : Int32) ≤ nI (a2 + 1) from fun z => absurd ((nLe (a := 400) (by omega) (by omega)).mp z) (by omega))]
        simp only [if_neg (show ¬ nI (a2 + 1) ≤ (0 : Int32) from fun z => absurd ((nLe (b := 0) (by omega) (by omega)).mp z) (by omega))]
        rfl
      rw [e2]
      cases hv : F (nx T q) c with
      | error e =>
        rw [hv] at fo
        obtain ⟨J, v1, v2, v3, v4⟩ := fo
        rw [bd_e]
        refine ⟨J, ?_, v2, v3, frK_tr frK_3 v4⟩
        rw [v1, Option.bind_some]
        rfl
      | ok y =>
        obtain ⟨x, q1, c1⟩ := y
        rw [hv] at fo
        obtain ⟨J, v1, v2, v3, v4⟩ := fo
        have pv := hP (nx T q) c kn.2.2 hc _ _ _ hv
        rw [bd_o]
        obtain ⟨H, g1, g2, g3, g4⟩ := emit_ok (T := T) (x := 20) v3 (by rw [List.length_append]; omega)
        have ih := testC_go ok (a1 := a1) hF hP m f (a2 + 1) q1 c1 (cd ++ x ++ [20]) H (by omega) (by omega) (by omega) (g3 _ v2) g2 (by rw [List.length_append, List.length_append]; simp only [List.length_cons, List.length_nil]; omega) (by omega)
        rw [v1, Option.bind_some]
        dsimp only
        rw [if_neg (show ¬ nI 1 = (0 : Int32) by decide), g1, Option.bind_some]
        refine kRes_fr (frK_tr frK_3 (frK_tr v4 g4)) ?_
        cases ht : jnL T 20 F m q1 c1 with
        | error e =>
          rw [ht] at ih
          exact ih
        | ok y =>
          obtain ⟨o, q2, c2⟩ := y
          rw [ht] at ih
          obtain ⟨K, k1, k2, k3, k4⟩ := ih
          exact ⟨K, k1, k2, by rw [show cd ++ (x ++ 20 :: o) = cd ++ x ++ [20] ++ o by simp]; exact k3, k4⟩
    · rw [if_neg hw, if_neg (nNeL (x := 20) (b := 20) rfl (by omega) (by omega) hw)]
      exact ⟨I, rfl, h, by rw [List.append_nil]; exact C, frK_rfl⟩
theorem testC_ok (ok : okT T) {a1 : Int32} (hF : ∀ q c cd I, tA T q I → cC I c cd → cd.length ≤ q → c ≤ 60 → kRes T I cd (F q c) (mX4_readPart r r' I a1)) (hP : ∀ q c, q ≤ T.2 → c ≤ 60 → prP T 9 true q c (F q c)) (h : tA T q I) (C : cC I c cd) (hl : cd.length ≤ q) (hc : c ≤ 60) : kRes T I cd (jnT T 20 F q c) (mX4_readTest r r' I a1) := by
  have hn := ok.1
  have hq := tA_n h
  have e2 : mX4_readTest r r' I a1 = Option.bind (mX4_readPart r r' I a1) (fun q2 => (if q2.1 = 0 then (some ((0 : Int32), q2.2)) else (mX4_readTest_29 r r' (fun I a1 a2 => mX4_readTest_2 r r' 999999 I a1 a2) q2.2 a1 (nI 0)))) := by
    unfold mX4_readTest
    rw [show xf = 999999 + 1 from rfl, mX4_readTest_2, if_neg (show ¬ (400 : Int32) ≤ 0 by decide)]
    simp only [if_pos (show (0 : Int32) ≤ 0 by decide)]
    rfl
  rw [e2]
  have fo := hF q c cd I h C hl hc
  unfold jnT
  cases hv : F q c with
  | error e =>
    rw [hv] at fo
    obtain ⟨J, v1, v2, v3, v4⟩ := fo
    refine ⟨J, ?_, v2, v3, v4⟩
    rw [v1, Option.bind_some]
    rfl
  | ok y =>
    obtain ⟨x, q1, c1⟩ := y
    rw [hv] at fo
    obtain ⟨J, v1, v2, v3, v4⟩ := fo
    have pv := hP q c hq hc _ _ _ hv
    have ih := testC_go ok (a1 := a1) hF hP 401 999999 0 q1 c1 (cd ++ x) J (by omega) (by omega) (by omega) v2 v3 (by rw [List.length_append]; omega) (by omega)
    rw [bd_o, v1, Option.bind_some]
    dsimp only
    rw [if_neg (show ¬ nI 1 = (0 : Int32) by decide)]
    refine kRes_fr v4 ?_
    cases ht : jnL T 20 F 401 q1 c1 with
    | error e =>
      rw [ht] at ih
      exact ih
    | ok y =>
      obtain ⟨o, q2, c2⟩ := y
      rw [ht] at ih
      obtain ⟨K, k1, k2, k3, k4⟩ := ih
      exact ⟨K, k1, k2, by rw [show cd ++ (x ++ o) = cd ++ x ++ o by simp]; exact k3, k4⟩
theorem cmpC_ok (ok : okT T) (h : tA T q I) (C : cC I c cd) (hl : cd.length ≤ q) (hc : c ≤ 60) : kRes T I cd (cmpF T q c) (Option.bind (mX4_readSum I) (fun q18 => (if q18.1 = 0 then (some ((0 : Int32), q18.2)) else (Option.bind (mX9_kind q18.2) (fun q21 => (Option.bind (mX4_compares q21) (fun q23 => (if q23 = 0 then (Option.bind (mX9_fail q18.2 (0 : Int32)) (fun q37 => (if q37.1 = 0 ∨ q37.1 = 1 then (some (q37.1, q37.2)) else none))) else (if (q18.2 7 6) < (60 : Int32) then (Option.bind (mX9_step (xu q18.2 7 6 ((q18.2 7 6) + (1 : Int32)))) (fun q27 => (Option.bind (mX4_readSum q27) (fun q29 => (Option.bind (mX4_emit q29.2 q21) (fun q31 => (if q29.1 = 0 ∨ q29.1 = 1 then (some (q29.1, q31)) else none))))))) else (Option.bind (mX9_fail q18.2 (3 : Int32)) (fun q34 => (if q34.1 = 0 ∨ q34.1 = 1 then (some (q34.1, q34.2)) else none)))))))))))) := by
  have hn := ok.1
  have hq := tA_n h
  have so := sumC_ok ok h C hl hc
  unfold cmpF
  cases hv : sumT T q c with
  | error e =>
    rw [hv] at so
    obtain ⟨J, v1, v2, v3, v4⟩ := so
    rw [bd_e]
    refine ⟨J, ?_, v2, v3, v4⟩
    rw [v1, Option.bind_some]
    rfl
  | ok y =>
    obtain ⟨x, q1, c1⟩ := y
    rw [hv] at so
    obtain ⟨J, v1, v2, v3, v4⟩ := so
    have pv := sum_pr (T := T) (q := q) hc _ _ _ hv
    have kl := kd_lt37 (T := T) (q := q1)
    have cl : (cd ++ x).length ≤ q1 := by rw [List.length_append]; omega
    rw [bd_o, v1, Option.bind_some]
    dsimp only
    rw [if_neg (show ¬ nI 1 = (0 : Int32) by decide), kind_ok v2, Option.bind_some, (mul_ok kl).2.2, Option.bind_some]
    cases hp : isP (kd T q1) with
    | false =>
      rw [if_neg (by decide), if_pos (by decide)]
      refine kRes_fr v4 ?_
      have kf := kFail (k := 0) ok v2 v3 (by omega) (by omega) rfl
      obtain ⟨K, k1, k2, k3, k4⟩ := if01k kf
      exact ⟨K, k1, k2, k3, k4⟩
    | true =>
      have j6 : J 7 6 = nI c1 := v3.2.1
      have j7 : J 7 6 + (1 : Int32) = nI (c1 + 1) := by rw [j6, li1, nAdd]
      rw [if_pos rfl, if_neg (show ¬ bI true = (0 : Int32) by decide)]
      by_cases h6 : 60 ≤ c1
      · rw [if_pos h6, if_neg (show ¬ J 7 6 < (60 : Int32) by rw [j6]; exact fun z => absurd ((nLt (b := 60) (by omega) (by omega)).mp z) (by omega))]
        refine kRes_fr v4 ?_
        have kf := kFail (k := 3) ok v2 v3 (by omega) (by omega) rfl
        obtain ⟨K, k1, k2, k3, k4⟩ := if01k kf
        exact ⟨K, k1, k2, k3, k4⟩
      · rw [if_neg h6, if_pos (show J 7 6 < (60 : Int32) by rw [j6]; exact (nLt (b := 60) (by omega) (by omega)).mpr (by omega)), j7]
        have rb := isBin_rng (isP_bin hp)
        have kn := kd_nx (T := T) (q := q1) (by omega)
        have C1 : cC (xu J 7 6 (nI (c1 + 1))) (c1 + 1) (cd ++ x) := ⟨by rw [xu_c (by decide)]; exact v3.1, xu_s, fun i y hy => by rw [xu_r (by decide)]; exact v3.2.2 i y hy⟩
        have f1 : frK J (xu J 7 6 (nI (c1 + 1))) := fun b k h1 h2 h3 => by rw [xu_off (by omega)]
        obtain ⟨v, s1, s2⟩ := step_ok (tA_row (r := 7) (c := 6) (v := nI (c1 + 1)) (by omega) v2) kn.1
        have so2 := sumC_ok ok s2 (cC_3 C1) (by omega) (by omega)
        rw [s1, Option.bind_some]
        refine kRes_fr (J := xu (xu J 7 6 (nI (c1 + 1))) 3 4 v) (frK_tr v4 (frK_tr f1 frK_3)) ?_
        cases hv2 : sumT T (nx T q1) (c1 + 1) with
        | error e =>
          rw [hv2] at so2
          obtain ⟨K, w1, w2, ⟨z, z1, z2⟩, w4⟩ := so2
          obtain ⟨N, e1, e2, e3, e4⟩ := emit_any (x := kd T q1) z1 z2
          rw [bd_e, w1, Option.bind_some]
          dsimp only
          rw [e1, Option.bind_some]
          exact ⟨N, rfl, by rw [e2]; exact w2, e3, frK_tr w4 e4⟩
        | ok y =>
          obtain ⟨o, q2, c2⟩ := y
          rw [hv2] at so2
          obtain ⟨K, w1, w2, w3, w4⟩ := so2
          have pv2 := sum_pr (T := T) (q := nx T q1) (show c1 + 1 ≤ 60 by omega) _ _ _ hv2
          obtain ⟨N, e1, e2, e3, e4⟩ := emit_ok (T := T) (x := kd T q1) w3 (by rw [List.length_append]; omega)
          rw [bd_o, w1, Option.bind_some]
          dsimp only
          rw [e1, Option.bind_some]
          exact ⟨N, rfl, e3 _ w2, by rw [show cd ++ (x ++ (o ++ [kd T q1])) = cd ++ x ++ o ++ [kd T q1] by simp]; exact e2, frK_tr w4 e4⟩
theorem rd_ok (ok : okT T) : ∀ g, (∀ d q c cd I, g + d = 12 → d ≤ 10 → tA T q I → cC I c cd → cd.length ≤ q → c ≤ 60 → kRes T I cd (facT T g d q c) (zX4_rd g true I (nI d))) ∧ (∀ d q c cd I, g + d = 12 → d ≤ 10 → tA T q I → cC I c cd → cd.length ≤ q → c ≤ 60 → kRes T I cd (tstT T (facT T g d) q c) (zX4_rd g false I (nI d)))
  | 0 => ⟨fun d q c cd I h1 h2 => absurd h1 (by omega), fun d q c cd I h1 h2 => absurd h1 (by omega)⟩
  | g + 1 => by
    have ih := rd_ok ok g
    have first : ∀ d q c cd I, g + 1 + d = 12 → d ≤ 10 → tA T q I → cC I c cd → cd.length ≤ q → c ≤ 60 → kRes T I cd (facT T (g + 1) d q c) (mX4_readFact (fun I a1 => zX4_rd g true I a1) (fun I a1 => zX4_rd g false I a1) I (nI d)) := by
      intro d q c cd I hg hd h C hl hc
      have hn := ok.1
      have hq := tA_n h
      have kl := kd_lt37 (T := T) (q := q)
      rw [facT]
      unfold mX4_readFact
      rw [kind_ok h, Option.bind_some]
      have e20 : ∀ w, (w = 21 ∨ w = 30) → kd T q = w → kRes T I cd (if 10 ≤ d then .error (1 + 8 * q + 2) else if w = 21 then bd (facT T g (d + 1) (nx T q) c) fun o q1 c1 => .ok (o ++ [21], q1, c1) else bd (tstT T (facT T g (d + 1)) (nx T q) c) fun o q1 c1 => if kd T q1 = 31 then .ok (o, nx T q1, c1) else .error (1 + 8 * q1)) (mX4_readFact_20 (fun I a1 => zX4_rd g true I a1) (fun I a1 => zX4_rd g false I a1) I (nI d) (nI w)) := by
        intro w hw hkw
        unfold mX4_readFact_20
        by_cases h10 : 10 ≤ d
        · rw [if_pos h10, if_neg (show ¬ nI d < (10 : Int32) from fun z => absurd ((nLt (b := 10) (by omega) (by omega)).mp z) (by omega))]
          exact if01k (kFail (k := 2) ok h C (by omega) (by omega) rfl)
        · rw [if_neg h10, if_pos (show nI d < (10 : Int32) from (nLt (b := 10) (by omega) (by omega)).mpr (by omega))]
          have kn := kd_nx (T := T) (q := q) (by omega)
          obtain ⟨v, s1, s2⟩ := step_ok h kn.1
          rw [s1, Option.bind_some, show nI d + (1 : Int32) = nI (d + 1) by rw [li1, nAdd]]
          refine kRes_fr (J := xu I 3 4 v) frK_3 ?_
          by_cases h21 : w = 21
          · rw [if_pos h21, if_pos (show nI w = (21 : Int32) by rw [h21]; rfl)]
            refine if01k ?_
            unfold mX4_readDenied
            have fo := ih.1 (d + 1) (nx T q) c cd (xu I 3 4 v) (by omega) (by omega) s2 (cC_3 C) (by omega) hc
            cases hv : facT T g (d + 1) (nx T q) c with
            | error e =>
              rw [hv] at fo
              obtain ⟨J, v1, v2, ⟨z, z1, z2⟩, v4⟩ := fo
              obtain ⟨N, e1, e2, e3, e4⟩ := emit_any (x := 21) z1 z2
              rw [bd_e]
              refine ⟨N, ?_, by rw [e2]; exact v2, e3, frK_tr v4 e4⟩
              change Option.bind (zX4_rd g true (xu I 3 4 v) (nI (d + 1))) _ = _
              rw [v1, Option.bind_some]
              change Option.bind (mX4_emit J (nI 21)) _ = _
              rw [e1]
              rfl
            | ok y =>
              obtain ⟨o, q1, c1⟩ := y
              rw [hv] at fo
              obtain ⟨J, v1, v2, v3, v4⟩ := fo
              have pv := fac_pr (T := T) g (d + 1) (nx T q) c kn.2.2 hc _ _ _ hv
              obtain ⟨N, e1, e2, e3, e4⟩ := emit_ok (T := T) (x := 21) v3 (by rw [List.length_append]; omega)
              rw [bd_o]
              refine ⟨N, ?_, e3 _ v2, by rw [show cd ++ (o ++ [21]) = cd ++ o ++ [21] by simp]; exact e2, frK_tr v4 e4⟩
              change Option.bind (zX4_rd g true (xu I 3 4 v) (nI (d + 1))) _ = _
              rw [v1, Option.bind_some]
              change Option.bind (mX4_emit J (nI 21)) _ = _
              rw [e1]
              rfl
          · rw [if_neg h21, if_neg (nNeL (x := 21) (b := 21) rfl (by omega) (by omega) h21)]
            refine if01k ?_
            unfold mX4_readBracketed
            have fo := ih.2 (d + 1) (nx T q) c cd (xu I 3 4 v) (by omega) (by omega) s2 (cC_3 C) (by omega) hc
            change kRes T (xu I 3 4 v) cd _ (Option.bind (zX4_rd g false (xu I 3 4 v) (nI (d + 1))) _)
            cases hv : tstT T (facT T g (d + 1)) (nx T q) c with
            | error e =>
              rw [hv] at fo
              obtain ⟨J, v1, v2, v3, v4⟩ := fo
              rw [bd_e]
              refine ⟨J, ?_, v2, v3, v4⟩
              rw [v1, Option.bind_some]
              rfl
            | ok y =>
              obtain ⟨o, q1, c1⟩ := y
              rw [hv] at fo
              obtain ⟨J, v1, v2, v3, v4⟩ := fo
              have pv := tst_pr (T := T) (fun q c h1 h2 => fac_pr g (d + 1) q c h1 h2) kn.2.2 hc _ _ _ hv
              have kl1 := kd_lt37 (T := T) (q := q1)
              rw [bd_o, v1, Option.bind_some]
              dsimp only
              rw [if_neg (show ¬ nI 1 = (0 : Int32) by decide), kind_ok v2, Option.bind_some]
              refine kRes_fr v4 ?_
              by_cases h31 : kd T q1 = 31
              · rw [if_pos h31, if_pos (show nI (kd T q1) = (31 : Int32) by rw [h31]; rfl)]
                have kn1 := kd_nx (T := T) (q := q1) (by omega)
                obtain ⟨v5, s3, s4⟩ := step_ok v2 kn1.1
                rw [s3, Option.bind_some]
                exact ⟨xu J 3 4 v5, rfl, s4, cC_3 v3, frK_3⟩
              · rw [if_neg h31, if_neg (nNeL (x := 31) (b := 31) rfl (by omega) (by omega) h31)]
                have kf := kFail (k := 0) ok v2 v3 (by rw [List.length_append]; omega) (by omega) rfl
                obtain ⟨K, k1, k2, k3, k4⟩ := if01k kf
                exact ⟨K, k1, k2, k3, k4⟩
      by_cases h21 : kd T q = 21
      · rw [if_pos (Or.inl h21), if_pos (show nI (kd T q) = (21 : Int32) by rw [h21]; rfl)]
        exact e20 (kd T q) (Or.inl h21) rfl
      · by_cases h30 : kd T q = 30
        · rw [if_pos (Or.inr h30), if_neg (nNeL (x := 21) (b := 21) rfl (by omega) (by omega) h21), if_pos (show nI (kd T q) = (30 : Int32) by rw [h30]; rfl)]
          exact e20 (kd T q) (Or.inr h30) rfl
        · rw [if_neg (show ¬ (kd T q = 21 ∨ kd T q = 30) by omega), if_neg (nNeL (x := 21) (b := 21) rfl (by omega) (by omega) h21), if_neg (nNeL (x := 30) (b := 30) rfl (by omega) (by omega) h30)]
          exact cmpC_ok ok h C hl hc
    refine ⟨first, fun d q c cd I hg hd h C hl hc => ?_⟩
    exact testC_ok ok (F := jnT T 19 (facT T (g + 1) d)) (r := fun I a1 => zX4_rd g true I a1) (r' := fun I a1 => zX4_rd g false I a1) (fun q c cd I h C hl hc => partC_ok ok (fun q c cd I h C hl hc => first d q c cd I hg hd h C hl hc) (fun q c h1 h2 => fac_pr (g + 1) d q c h1 h2) h C hl hc) (fun q c h1 h2 => jnT_pr (Or.inl rfl) (fun q c h1 h2 => fac_pr (g + 1) d q c h1 h2) h1 h2) h C hl hc
end

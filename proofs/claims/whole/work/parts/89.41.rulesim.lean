/-! rule: the reference's reader, whole tests. -/
def tRes (T : txT) (r : Nat) (I : Nat → Nat → Int32) (p0 s0 : Nat) (cd : List Nat) (q d : Nat) (t : List Nat) (am bm : Nat) (y : eT) : Prop := match y with
  | .error e => (0 < e ∧ e < 10000) ∧ ∃ n J p a, stp n (rP I p0 0) s0 (rP J p e) a ∧ (n ≤ T.2 + 1 - q ∧ p ≤ T.2 + 1) ∧ frT r I J
  | .ok (o, q', c') => ∃ n J p m a b E0, stp n (rP I p0 0) s0 (rP J p 0) 0 ∧ n ≤ q' - q ∧ (p ≤ T.2 ∧ sk T p = q') ∧ rC J r c' E0 ∧ cd ++ o = E0 ++ rep m 21 ++ rep a 19 ++ rep b 20 ∧ sK J (d + m) (rep m 9 ++ (rep a 10 ++ (rep b 11 ++ t))) ∧ (a ≤ am ∧ b ≤ bm) ∧ (m + a + b + t.length ≤ q' ∧ d + m ≤ 10) ∧ frT r I J
def factR (T : txT) (r d : Nat) (F : Nat → Nat → eT) : Prop := ∀ q c cd I p s, p ≤ T.2 → sk T p = q → txR I T → rC I r c cd → sK I d s → s.length ≤ q → (∀ y ∈ s, y < 100) → 3 * cd.length ≤ 6 * c + q → c ≤ 60 → tRes T r I p 1 cd q d s 0 0 (F q c)
section
variable {T : txT} {I J H : Nat → Nat → Int32} {p q c r f d : Nat} {cd t : List Nat} {F : Nat → Nat → eT}
theorem parR_go (ok : okT T) (hr : r < 6) (hd : d ≤ 10) (hs9 : ntop 9 t) (hs10 : ntop 10 t) (hb : ∀ y ∈ t, y < 100) (hF : factR T r d F) (hP : ∀ q c, q ≤ T.2 → c ≤ 60 → prP T 9 true q c (F q c)) : ∀ (mm q c : Nat) (E E0 : List Nat) (m a p : Nat) (J : Nat → Nat → Int32), T.2 - q < mm → p ≤ T.2 → sk T p = q → txR J T → rC J r c E0 → E = E0 ++ rep m 21 ++ rep a 19 → sK J (d + m) (rep m 9 ++ (rep a 10 ++ t)) → a ≤ 1 → d + m ≤ 10 → m + a + t.length ≤ q → 3 * E.length + 9 ≤ 6 * c + q → c ≤ 60 → tRes T r J p 0 E q d t 1 0 (jnL T 19 F mm q c)
  | 0, q, c, E, E0, m, a, p, J, h, _, _, _, _, _, _, _, _, _, _, _ => absurd h (by omega)
  | mm + 1, q, c, E, E0, m, a, p, J, h1, hp, hq, hx, C, hE, S, ha, hm, hl, hb3, hc => by
    have hn := ok.1
    have hqn := sk_n (T := T) hp
    rw [hq] at hqn
    have el : E.length = E0.length + m + a := by rw [hE, List.length_append, List.length_append, rep_len, rep_len]
    rw [jnL]
    by_cases hk : kd T q = 19
    · rw [if_pos hk]
      have kn := kd_nx (T := T) (q := q) (by omega)
      have er := en_rng kn.1
      obtain ⟨K, k1, k2, k3, k4⟩ := st_and ok hr hx hp hq hk hs9 hs10 hb S C (by omega) (by omega) (by omega) ha (by omega)
      rw [← hE] at k2
      have fo := hF (nx T q) c E K (en T q) (10 :: t) er.2 rfl (txR_T k4 hx) k2 k3 (by rw [List.length_cons]; omega) (fun y hy => (List.mem_cons.mp hy).elim (fun e => by omega) (hb y)) (by omega) hc
      cases hv : F (nx T q) c with
      | error e =>
        rw [hv] at fo
        obtain ⟨he, n, N, p2, x, f1, f2, f3⟩ := fo
        rw [bd_e]
        exact ⟨he, n + 1, N, p2, x, stp_tr k1 f1, ⟨by omega, f2.2⟩, frT_tr k4 f3⟩
      | ok y =>
        obtain ⟨x, q1, c1⟩ := y
        rw [hv] at fo
        obtain ⟨n, N, p2, m2, a2, b2, E2, f1, f2, f3, f4, f5, f6, f7, f8, f9⟩ := fo
        have pv := hP (nx T q) c kn.2.2 hc _ _ _ hv
        have ea : a2 = 0 := by omega
        have eb : b2 = 0 := by omega
        subst ea eb
        rw [List.length_cons] at f8
        have ih := parR_go ok hr hd hs9 hs10 hb hF hP mm q1 c1 (E ++ x ++ [19]) E2 m2 1 p2 N (by omega) f3.1 f3.2 (txR_T (frT_tr k4 f9) hx) f4 (by rw [f5, rep_0, rep_0, List.append_nil, List.append_nil]; rfl) f6 (by omega) f8.2 (by omega) (by rw [List.length_append, List.length_append]; simp only [List.length_cons, List.length_nil]; omega) (by omega)
        rw [bd_o]
        cases ht : jnL T 19 F mm q1 c1 with
        | error e =>
          rw [ht] at ih
          obtain ⟨he, n2, N2, p3, y, g1, g2, g3⟩ := ih
          rw [bd_e]
          exact ⟨he, n2 + (n + 1), N2, p3, y, stp_tr (stp_tr k1 f1) g1, ⟨by omega, g2.2⟩, frT_tr (frT_tr k4 f9) g3⟩
        | ok y =>
          obtain ⟨o, q2, c2⟩ := y
          rw [ht] at ih
          have pl := jnL_pr (T := T) (w := 19) (Or.inl rfl) hP mm q1 c1 pv.1.2.1 pv.1.2.2 pv.2.2.1.2 _ _ _ ht
          obtain ⟨n2, N2, p3, m3, a3, b3, E3, g1, g2, g3, g4, g5, g6, g7, g8, g9⟩ := ih
          rw [bd_o]
          exact ⟨n2 + (n + 1), N2, p3, m3, a3, b3, E3, stp_tr (stp_tr k1 f1) g1, by omega, g3, g4, by rw [show E ++ (x ++ 19 :: o) = E ++ x ++ [19] ++ o by simp]; exact g5, g6, g7, g8, frT_tr (frT_tr k4 f9) g9⟩
    · rw [if_neg hk]
      exact ⟨0, J, p, m, a, 0, E0, fun fu => rfl, by omega, ⟨hp, hq⟩, C, by rw [List.append_nil, rep_0, List.append_nil]; exact hE, S, ⟨ha, Nat.le_refl _⟩, ⟨by omega, hm⟩, frT_rfl⟩
theorem parR_ok (ok : okT T) (hr : r < 6) (hd : d ≤ 10) (hs9 : ntop 9 t) (hs10 : ntop 10 t) (hb : ∀ y ∈ t, y < 100) (hF : factR T r d F) (hP : ∀ q c, q ≤ T.2 → c ≤ 60 → prP T 9 true q c (F q c)) (hp : p ≤ T.2) (hq : sk T p = q) (hx : txR I T) (C : rC I r c cd) (S : sK I d t) (hl : t.length ≤ q) (hb3 : 3 * cd.length ≤ 6 * c + q) (hc : c ≤ 60) : tRes T r I p 1 cd q d t 1 0 (jnT T 19 F q c) := by
  have hn := ok.1
  have hqn := sk_n (T := T) hp
  rw [hq] at hqn
  have fo := hF q c cd I p t hp hq hx C S hl hb hb3 hc
  unfold jnT
  cases hv : F q c with
  | error e =>
    rw [hv] at fo
    exact fo
  | ok y =>
    obtain ⟨x, q1, c1⟩ := y
    rw [hv] at fo
    obtain ⟨n, N, p2, m2, a2, b2, E2, f1, f2, f3, f4, f5, f6, f7, f8, f9⟩ := fo
    have pv := hP q c hqn hc _ _ _ hv
    have ea : a2 = 0 := by omega
    have eb : b2 = 0 := by omega
    subst ea eb
    have ih := parR_go ok hr hd hs9 hs10 hb hF hP 401 q1 c1 (cd ++ x) E2 m2 0 p2 N (by omega) f3.1 f3.2 (txR_T f9 hx) f4 (by rw [f5]; simp only [rep_0, List.append_nil]) f6 (by omega) f8.2 (by omega) (by rw [List.length_append]; omega) (by omega)
    rw [bd_o]
    cases ht : jnL T 19 F 401 q1 c1 with
    | error e =>
      rw [ht] at ih
      obtain ⟨he, n2, N2, p3, y, g1, g2, g3⟩ := ih
      exact ⟨he, n2 + n, N2, p3, y, stp_tr f1 g1, ⟨by omega, g2.2⟩, frT_tr f9 g3⟩
    | ok y =>
      obtain ⟨o, q2, c2⟩ := y
      rw [ht] at ih
      have pl := jnL_pr (T := T) (w := 19) (Or.inl rfl) hP 401 q1 c1 pv.1.2.1 pv.1.2.2 pv.2.2.1.2 _ _ _ ht
      obtain ⟨n2, N2, p3, m3, a3, b3, E3, g1, g2, g3, g4, g5, g6, g7, g8, g9⟩ := ih
      exact ⟨n2 + n, N2, p3, m3, a3, b3, E3, stp_tr f1 g1, by omega, g3, g4, by rw [show cd ++ (x ++ o) = cd ++ x ++ o by simp]; exact g5, g6, g7, g8, frT_tr f9 g9⟩
theorem tstR_go (ok : okT T) (hr : r < 6) (hd : d ≤ 10) (hs9 : ntop 9 t) (hs10 : ntop 10 t) (hs11 : ntop 11 t) (hb : ∀ y ∈ t, y < 100) (hF : factR T r d F) (hP : ∀ q c, q ≤ T.2 → c ≤ 60 → prP T 9 true q c (F q c)) : ∀ (mm q c : Nat) (E E0 : List Nat) (m a b p : Nat) (J : Nat → Nat → Int32), T.2 - q < mm → p ≤ T.2 → sk T p = q → txR J T → rC J r c E0 → E = E0 ++ rep m 21 ++ rep a 19 ++ rep b 20 → sK J (d + m) (rep m 9 ++ (rep a 10 ++ (rep b 11 ++ t))) → a ≤ 1 → b ≤ 1 → d + m ≤ 10 → m + a + b + t.length ≤ q → 3 * E.length + 9 ≤ 6 * c + q → c ≤ 60 → tRes T r J p 0 E q d t 1 1 (jnL T 20 (jnT T 19 F) mm q c)
  | 0, q, c, E, E0, m, a, b, p, J, h, _, _, _, _, _, _, _, _, _, _, _, _ => absurd h (by omega)
  | mm + 1, q, c, E, E0, m, a, b, p, J, h1, hp, hq, hx, C, hE, S, ha, hbb, hm, hl, hb3, hc => by
    have hn := ok.1
    have hqn := sk_n (T := T) hp
    rw [hq] at hqn
    have hP2 : ∀ q c, q ≤ T.2 → c ≤ 60 → prP T 9 true q c (jnT T 19 F q c) := fun q c h1 h2 => jnT_pr (Or.inl rfl) hP h1 h2
    have el : E.length = E0.length + m + a + b := by rw [hE, List.length_append, List.length_append, List.length_append, rep_len, rep_len, rep_len]
    rw [jnL]
    by_cases hk : kd T q = 20
    · rw [if_pos hk]
      have kn := kd_nx (T := T) (q := q) (by omega)
      have er := en_rng kn.1
      obtain ⟨K, k1, k2, k3, k4⟩ := st_or ok hr hx hp hq hk hs9 hs10 hs11 hb S C (by omega) (by omega) (by omega) ha hbb (by omega)
      rw [← hE] at k2
      have fo := parR_ok (I := K) (p := en T q) (q := nx T q) (c := c) (cd := E) (t := 11 :: t) ok hr hd (ntop_cons (by decide)) (ntop_cons (by decide)) (fun y hy => (List.mem_cons.mp hy).elim (fun e => by omega) (hb y)) hF hP er.2 rfl (txR_T k4 hx) k2 k3 (by rw [List.length_cons]; omega) (by omega) hc
      cases hv : jnT T 19 F (nx T q) c with
      | error e =>
        rw [hv] at fo
        obtain ⟨he, n, N, p2, x, f1, f2, f3⟩ := fo
        rw [bd_e]
        exact ⟨he, n + 1, N, p2, x, stp_tr k1 f1, ⟨by omega, f2.2⟩, frT_tr k4 f3⟩
      | ok y =>
        obtain ⟨x, q1, c1⟩ := y
        rw [hv] at fo
        obtain ⟨n, N, p2, m2, a2, b2, E2, f1, f2, f3, f4, f5, f6, f7, f8, f9⟩ := fo
        have pv := hP2 (nx T q) c kn.2.2 hc _ _ _ hv
        have eb : b2 = 0 := by omega
        subst eb
        rw [List.length_cons] at f8
        have ih := tstR_go ok hr hd hs9 hs10 hs11 hb hF hP mm q1 c1 (E ++ x ++ [20]) E2 m2 a2 1 p2 N (by omega) f3.1 f3.2 (txR_T (frT_tr k4 f9) hx) f4 (by rw [f5, rep_0, List.append_nil]; rfl) f6 f7.1 (by omega) f8.2 (by omega) (by rw [List.length_append, List.length_append]; simp only [List.length_cons, List.length_nil]; omega) (by omega)
        rw [bd_o]
        cases ht : jnL T 20 (jnT T 19 F) mm q1 c1 with
        | error e =>
          rw [ht] at ih
          obtain ⟨he, n2, N2, p3, y, g1, g2, g3⟩ := ih
          rw [bd_e]
          exact ⟨he, n2 + (n + 1), N2, p3, y, stp_tr (stp_tr k1 f1) g1, ⟨by omega, g2.2⟩, frT_tr (frT_tr k4 f9) g3⟩
        | ok y =>
          obtain ⟨o, q2, c2⟩ := y
          rw [ht] at ih
          have pl := jnL_pr (T := T) (w := 20) (Or.inr rfl) hP2 mm q1 c1 pv.1.2.1 pv.1.2.2 pv.2.2.1.2 _ _ _ ht
          obtain ⟨n2, N2, p3, m3, a3, b3, E3, g1, g2, g3, g4, g5, g6, g7, g8, g9⟩ := ih
          rw [bd_o]
          exact ⟨n2 + (n + 1), N2, p3, m3, a3, b3, E3, stp_tr (stp_tr k1 f1) g1, by omega, g3, g4, by rw [show E ++ (x ++ 20 :: o) = E ++ x ++ [20] ++ o by simp]; exact g5, g6, g7, g8, frT_tr (frT_tr k4 f9) g9⟩
    · rw [if_neg hk]
      exact ⟨0, J, p, m, a, b, E0, fun fu => rfl, by omega, ⟨hp, hq⟩, C, by rw [List.append_nil]; exact hE, S, ⟨ha, hbb⟩, ⟨hl, hm⟩, frT_rfl⟩
theorem tstR_ok (ok : okT T) (hr : r < 6) (hd : d ≤ 10) (hs9 : ntop 9 t) (hs10 : ntop 10 t) (hs11 : ntop 11 t) (hb : ∀ y ∈ t, y < 100) (hF : factR T r d F) (hP : ∀ q c, q ≤ T.2 → c ≤ 60 → prP T 9 true q c (F q c)) (hp : p ≤ T.2) (hq : sk T p = q) (hx : txR I T) (C : rC I r c cd) (S : sK I d t) (hl : t.length ≤ q) (hb3 : 3 * cd.length ≤ 6 * c + q) (hc : c ≤ 60) : tRes T r I p 1 cd q d t 1 1 (tstT T F q c) := by
  have hn := ok.1
  have hqn := sk_n (T := T) hp
  rw [hq] at hqn
  have hP2 : ∀ q c, q ≤ T.2 → c ≤ 60 → prP T 9 true q c (jnT T 19 F q c) := fun q c h1 h2 => jnT_pr (Or.inl rfl) hP h1 h2
  have fo := parR_ok (I := I) (p := p) (q := q) (c := c) (cd := cd) (t := t) ok hr hd hs9 hs10 hb hF hP hp hq hx C S hl hb3 hc
  unfold tstT
  rw [jnT]
  cases hv : jnT T 19 F q c with
  | error e =>
    rw [hv] at fo
    exact fo
  | ok y =>
    obtain ⟨x, q1, c1⟩ := y
    rw [hv] at fo
    obtain ⟨n, N, p2, m2, a2, b2, E2, f1, f2, f3, f4, f5, f6, f7, f8, f9⟩ := fo
    have pv := hP2 q c hqn hc _ _ _ hv
    have eb : b2 = 0 := by omega
    subst eb
    have ih := tstR_go ok hr hd hs9 hs10 hs11 hb hF hP 401 q1 c1 (cd ++ x) E2 m2 a2 0 p2 N (by omega) f3.1 f3.2 (txR_T f9 hx) f4 f5 f6 f7.1 (by omega) f8.2 (by omega) (by rw [List.length_append]; omega) (by omega)
    rw [bd_o]
    cases ht : jnL T 20 (jnT T 19 F) 401 q1 c1 with
    | error e =>
      rw [ht] at ih
      obtain ⟨he, n2, N2, p3, y, g1, g2, g3⟩ := ih
      exact ⟨he, n2 + n, N2, p3, y, stp_tr f1 g1, ⟨by omega, g2.2⟩, frT_tr f9 g3⟩
    | ok y =>
      obtain ⟨o, q2, c2⟩ := y
      rw [ht] at ih
      have pl := jnL_pr (T := T) (w := 20) (Or.inr rfl) hP2 401 q1 c1 pv.1.2.1 pv.1.2.2 pv.2.2.1.2 _ _ _ ht
      obtain ⟨n2, N2, p3, m3, a3, b3, E3, g1, g2, g3, g4, g5, g6, g7, g8, g9⟩ := ih
      exact ⟨n2 + n, N2, p3, m3, a3, b3, E3, stp_tr f1 g1, by omega, g3, g4, by rw [show cd ++ (x ++ o) = cd ++ x ++ o by simp]; exact g5, g6, g7, g8, frT_tr f9 g9⟩
/-- behind a test no and, no or -/
theorem jnL_end {w : Nat} : ∀ (f q c : Nat) (o : List Nat) (q' c' : Nat), jnL T w F f q c = .ok (o, q', c') → kd T q' ≠ w
  | 0, q, c, o, q', c', h => by cases h
  | f + 1, q, c, o, q', c', h => by
    rw [jnL] at h
    by_cases hk : kd T q = w
    · rw [if_pos hk] at h
      obtain ⟨x, q1, c1, e1, h⟩ := bd_ok h
      obtain ⟨o2, q2, c2, e2, h⟩ := bd_ok h
      have := jnL_end f q1 c1 o2 q2 c2 e2
      cases h
      exact this
    · rw [if_neg hk] at h
      cases h
      exact hk
theorem jnT_end {w : Nat} {o : List Nat} {q' c' : Nat} (h : jnT T w F q c = .ok (o, q', c')) : kd T q' ≠ w := by
  obtain ⟨x, q1, c1, e1, h⟩ := bd_ok h
  obtain ⟨o2, q2, c2, e2, h⟩ := bd_ok h
  have := jnL_end 401 q1 c1 o2 q2 c2 e2
  cases h
  exact this
theorem jnL_in {w w2 : Nat} (hF : ∀ q c o q' c', F q c = .ok (o, q', c') → kd T q' ≠ w2) : ∀ (f q c : Nat) (o : List Nat) (q' c' : Nat), kd T q ≠ w2 → jnL T w F f q c = .ok (o, q', c') → kd T q' ≠ w2
  | 0, q, c, o, q', c', _, h => by cases h
  | f + 1, q, c, o, q', c', h0, h => by
    rw [jnL] at h
    by_cases hk : kd T q = w
    · rw [if_pos hk] at h
      obtain ⟨x, q1, c1, e1, h⟩ := bd_ok h
      obtain ⟨o2, q2, c2, e2, h⟩ := bd_ok h
      have := jnL_in hF f q1 c1 o2 q2 c2 (hF _ _ _ _ _ e1) e2
      cases h
      exact this
    · rw [if_neg hk] at h
      cases h
      exact h0
theorem tst_end {o : List Nat} {q' c' : Nat} (h : tstT T F q c = .ok (o, q', c')) : kd T q' ≠ 19 ∧ kd T q' ≠ 20 := by
  refine ⟨?_, jnT_end h⟩
  obtain ⟨x, q1, c1, e1, h⟩ := bd_ok h
  obtain ⟨o2, q2, c2, e2, h⟩ := bd_ok h
  have := jnL_in (T := T) (F := jnT T 19 F) (w := 20) (w2 := 19) (fun q c o q' c' h => jnT_end h) 401 q1 c1 o2 q2 c2 (jnT_end e1) e2
  cases h
  exact this
/-- a fact is wanted -/
theorem t9_1 (fu : Nat) : mX12_test_9 (fu + 1) (rP I p 0) (nI 1) (nI 1) = Option.bind (mX12_fact (rP I p 0)) (fun q33 => (if q33.1 = 0 then (mX12_test_9 fu q33.2 (nI 1) (nI 1)) else (mX12_test_9 fu q33.2 (nI 0) (nI 1)))) := by
  rw [mX12_test_9, if_neg (show ¬ nI 1 = (0 : Int32) by decide), if_pos (show rP I p 0 123 29 = (0 : Int32) from rP_29), if_neg (show ¬ nI 1 = (0 : Int32) by decide)]
  rfl
theorem facR_ok (ok : okT T) (hr : r < 6) : ∀ (g d : Nat), g + d = 12 → d ≤ 10 → factR T r d (facT T g d)
  | 0, d, h1, h2 => absurd h1 (by omega)
  | g + 1, d, hg, hd => by
    intro q c cd I p s hp hq hx C S hl hb hb3 hc
    have hn := ok.1
    have hqn := sk_n (T := T) hp
    rw [hq] at hqn
    have kl := kd_lt37 (T := T) (q := q)
    have b := blanks_ok (I := I) (f := 0) ok hx (p := p) (by omega)
    rw [hq] at b
    have w1 := stood_ok (I := I) (f := 0) (t := 21) ok hx (by omega) (by omega) hqn
    rw [show wdN 21 = 21 from rfl] at w1
    have sg := sign_ok (I := I) (f := 0) ok hx (p := q) (by omega)
    have sr := sgn_rng (T := T) (q := q)
    rw [facT]
    by_cases h : kd T q = 21 ∨ kd T q = 30
    · rw [if_pos h]
      have kn := kd_nx (T := T) (q := q) (by omega)
      have er := en_rng kn.1
      -- what opens is pushed
      have op : ∀ (w : Nat) (f : Nat) (K : Nat → Nat → Int32), ((w = 9 ∧ kd T q = 21) ∨ (w = 12 ∧ kd T q = 30)) → mX12_opens (rP I q 0) (nI w) = some (rP K q f) → stp 1 (rP I p 0) 1 (rP K (en T q) f) 1 := by
        intro w f K hw ho fu
        rw [t9_1 fu]
        unfold mX12_fact
        rcases hw with ⟨rfl, hk⟩ | ⟨rfl, hk⟩
        · have ew := en_w (T := T) (q := q) (m := 21) (by omega) hk
          rw [decide_eq_true hk] at w1
          rw [b, Option.bind_some, w1, Option.bind_some, if_neg (show ¬ bI true = (0 : Int32) by decide)]
          change Option.bind (Option.bind (mX12_opens (rP I q 0) (nI 9)) _) _ = _
          rw [ho, Option.bind_some, Option.bind_some, rP_28, show nI q + (3 : Int32) = nI (q + 3) by rw [show (3 : Int32) = nI 3 from rfl, nAdd], rP_s28, ew.1]
          rfl
        · have s := (kd_sg (q := q) ok (c := 91) (k := 30) rfl (by omega)).mp hk
          have e1 := en_1 (T := T) (q := q) (by omega)
          rw [decide_eq_false (show ¬ kd T q = 21 by omega)] at w1
          rw [s] at sg
          rw [b, Option.bind_some, w1, Option.bind_some, if_pos (show bI false = (0 : Int32) by decide), sg, Option.bind_some, if_pos (show zI 91 = (91 : Int32) from rfl)]
          change Option.bind (Option.bind (mX12_opens (rP I q 0) (nI 12)) _) _ = _
          rw [ho, Option.bind_some, Option.bind_some, rP_28, show nI q + (1 : Int32) = nI (q + 1) by rw [li1, nAdd], rP_s28, e1.1]
          rfl
      by_cases h10 : 10 ≤ d
      · rw [if_pos h10]
        have e10 : d = 10 := by omega
        rw [e10] at S
        rcases h with hk | hk
        · obtain ⟨K, o1, o2⟩ := open_e (r := r) (p := q) (w := 9) (Or.inl rfl) S (by omega) (by omega)
          exact ⟨by omega, 1, K, en T q, 1, op 9 _ K (Or.inl ⟨rfl, hk⟩) o1, by omega, o2⟩
        · obtain ⟨K, o1, o2⟩ := open_e (r := r) (p := q) (w := 12) (Or.inr rfl) S (by omega) (by omega)
          exact ⟨by omega, 1, K, en T q, 1, op 12 _ K (Or.inr ⟨rfl, hk⟩) o1, by omega, o2⟩
      · rw [if_neg h10]
        by_cases h21 : kd T q = 21
        · rw [if_pos h21]
          obtain ⟨K, o1, o2, o3, o4⟩ := open_ok (r := r) (p := q) (w := 9) (Or.inl rfl) C S (by omega) (by omega)
          have st := op 9 0 K (Or.inl ⟨rfl, h21⟩) o1
          have fo := facR_ok ok hr g (d + 1) (by omega) (by omega) (nx T q) c cd K (en T q) (9 :: s) er.2 rfl (txR_T o4 hx) o2 o3 (by rw [List.length_cons]; omega) (fun y hy => (List.mem_cons.mp hy).elim (fun e => by omega) (hb y)) (by omega) hc
          cases hv : facT T g (d + 1) (nx T q) c with
          | error e =>
            rw [hv] at fo
            obtain ⟨he, n, N, p2, x, f1, f2, f3⟩ := fo
            rw [bd_e]
            exact ⟨he, n + 1, N, p2, x, stp_tr st f1, ⟨by omega, f2.2⟩, frT_tr o4 f3⟩
          | ok y =>
            obtain ⟨o, q1, c1⟩ := y
            rw [hv] at fo
            obtain ⟨n, N, p2, m2, a2, b2, E2, f1, f2, f3, f4, f5, f6, f7, f8, f9⟩ := fo
            have pv := fac_pr (T := T) g (d + 1) (nx T q) c kn.2.2 hc _ _ _ hv
            have ea : a2 = 0 := by omega
            have eb : b2 = 0 := by omega
            subst ea eb
            rw [List.length_cons] at f8
            rw [bd_o]
            refine ⟨n + 1, N, p2, m2 + 1, 0, 0, E2, stp_tr st f1, by omega, f3, f4, ?_, ?_, ⟨Nat.le_refl _, Nat.le_refl _⟩, ⟨by omega, by omega⟩, frT_tr o4 f9⟩
            · rw [← List.append_assoc, f5, rep_s' m2 21]
              simp only [rep_0, List.append_nil, List.append_assoc]
            · rw [show d + (m2 + 1) = d + 1 + m2 by omega]
              have e : rep (m2 + 1) 9 ++ (rep 0 10 ++ (rep 0 11 ++ s)) = rep m2 9 ++ (rep 0 10 ++ (rep 0 11 ++ (9 :: s))) := by
                rw [rep_s' m2 9]
                simp only [rep_0, List.nil_append, List.append_assoc, List.cons_append]
              rw [e]
              exact f6
        · rw [if_neg h21]
          have hk : kd T q = 30 := by omega
          obtain ⟨K, o1, o2, o3, o4⟩ := open_ok (r := r) (p := q) (w := 12) (Or.inr rfl) C S (by omega) (by omega)
          have st := op 12 0 K (Or.inr ⟨rfl, hk⟩) o1
          have fo := tstR_ok (I := K) (p := en T q) (q := nx T q) (c := c) (cd := cd) (t := 12 :: s) (F := facT T g (d + 1)) (d := d + 1) ok hr (by omega) (ntop_cons (by decide)) (ntop_cons (by decide)) (ntop_cons (by decide)) (fun y hy => (List.mem_cons.mp hy).elim (fun e => by omega) (hb y)) (facR_ok ok hr g (d + 1) (by omega) (by omega)) (fun q c h1 h2 => fac_pr g (d + 1) q c h1 h2) er.2 rfl (txR_T o4 hx) o2 o3 (by rw [List.length_cons]; omega) (by omega) hc
          cases hv : tstT T (facT T g (d + 1)) (nx T q) c with
          | error e =>
            rw [hv] at fo
            obtain ⟨he, n, N, p2, x, f1, f2, f3⟩ := fo
            rw [bd_e]
            exact ⟨he, n + 1, N, p2, x, stp_tr st f1, ⟨by omega, f2.2⟩, frT_tr o4 f3⟩
          | ok y =>
            obtain ⟨o, q1, c1⟩ := y
            rw [hv] at fo
            obtain ⟨n, N, p2, m2, a2, b2, E2, f1, f2, f3, f4, f5, f6, f7, f8, f9⟩ := fo
            have pv := tst_pr (T := T) (fun q c h1 h2 => fac_pr g (d + 1) q c h1 h2) kn.2.2 hc _ _ _ hv
            have te := tst_end hv
            rw [List.length_cons] at f8
            have el := congrArg List.length f5
            simp only [List.length_append, rep_len] at el
            obtain ⟨N2, z1, z2, z3, z4, z5⟩ := st_close ok hr (txR_T (frT_tr o4 f9) hx) f3.1 f3.2 te.1 te.2 hb f6 f4 (by omega) (by omega) (by omega) f7.1
            rw [bd_o]
            by_cases h31 : kd T q1 = 31
            · rw [if_pos h31]
              have kn1 := kd_nx (T := T) (q := q1) (by omega)
              have er1 := en_rng kn1.1
              exact ⟨1 + (n + 1), N2, en T q1, 0, 0, 0, cd ++ o, stp_tr (stp_tr st f1) (z1 h31), by omega, ⟨er1.2, rfl⟩, by rw [f5]; exact z3, by simp only [rep_0, List.append_nil], z4, ⟨Nat.le_refl _, Nat.le_refl _⟩, ⟨by omega, by omega⟩, frT_tr (frT_tr o4 f9) z5⟩
            · rw [if_neg h31]
              exact ⟨by omega, 1 + (n + 1), N2, q1 + 1, 0, stp_tr (stp_tr st f1) (z2 h31), by omega, frT_tr (frT_tr o4 f9) z5⟩
    · rw [if_neg h]
      have co := cmpR_ok (p := q) (q := q) ok hr hx C hqn (by rw [← hq]; exact sk_sk) hb3 hc
      have n91 : sgn T q ≠ 91 := fun z => h (Or.inr ((kd_sg (q := q) ok (c := 91) (k := 30) rfl (by omega)).mpr z))
      rw [decide_eq_false (show ¬ kd T q = 21 by omega)] at w1
      have fact : mX12_fact (rP I p 0) = Option.bind (mX12_compared (rP I q 0)) (fun q9 => some (nI 1, q9)) := by
        unfold mX12_fact
        rw [b, Option.bind_some, w1, Option.bind_some, if_pos (show bI false = (0 : Int32) by decide), sg, Option.bind_some, if_neg (zNeL (x := 91) (b := 91) rfl (by omega) (by omega) (by omega) (by omega) n91)]
        rfl
      cases hv : cmpF T q c with
      | error e =>
        rw [hv] at co
        obtain ⟨he, J, p', v1, v2, v3⟩ := co
        refine ⟨he, 1, J, p', 0, fun fu => ?_, by omega, frT_B v3⟩
        rw [t9_1 fu, fact, v1, Option.bind_some, Option.bind_some]
        exact if_neg (show ¬ nI 1 = (0 : Int32) by decide)
      | ok y =>
        obtain ⟨o, q1, c1⟩ := y
        rw [hv] at co
        obtain ⟨J, v1, v2, v3⟩ := co
        have pv := cmp_pr (T := T) (q := q) hc _ _ _ hv
        refine ⟨1, J, q1, 0, 0, 0, cd ++ o, fun fu => ?_, by omega, ⟨pv.1.2.1, pv.1.2.2⟩, v2, by simp only [rep_0, List.append_nil], sK_B v3 S, ⟨Nat.le_refl _, Nat.le_refl _⟩, ⟨by omega, by omega⟩, frT_B v3⟩
        rw [t9_1 fu, fact, v1, Option.bind_some, Option.bind_some]
        exact if_neg (show ¬ nI 1 = (0 : Int32) by decide)
end

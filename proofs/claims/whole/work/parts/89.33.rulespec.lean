/-! rule: what a text tells. -/
abbrev eT : Type := Except Nat (List Nat × Nat × Nat)
def bd {α : Type} (e : eT) (f : List Nat → Nat → Nat → Except Nat α) : Except Nat α := match e with
  | .error k => .error k
  | .ok (o, q, c) => f o q c
def isM (k : Nat) : Bool := k == 24 || k == 25 || k == 26
def isA (k : Nat) : Bool := k == 22 || k == 23
def isP (k : Nat) : Bool := k == 27 || k == 28 || k == 29 || k == 33 || k == 34
def valT (T : txT) (q c : Nat) : eT := if kd T q = 35 ∨ kd T q < 13 then (if kd T q = 35 ∧ nm T q = -1 then .error (1 + 8 * q + 1) else if 60 ≤ c then .error (1 + 8 * q + 3) else .ok ([if kd T q = 35 then 64 + (nm T q).toNat else kd T q], nx T q, c + 1)) else .error (1 + 8 * q)
def tmL (T : txT) : Nat → Nat → Nat → eT
  | 0, _, _ => .error 0
  | f + 1, q, c => if isM (kd T q) = true then bd (valT T (nx T q) c) fun x q1 c1 => bd (tmL T f q1 c1) fun o q2 c2 => .ok (x ++ (kd T q :: o), q2, c2) else .ok ([], q, c)
def term (T : txT) (q c : Nat) : eT := bd (valT T q c) fun x q1 c1 => bd (tmL T 401 q1 c1) fun o q2 c2 => .ok (x ++ o, q2, c2)
def smL (T : txT) : Nat → Nat → Nat → eT
  | 0, _, _ => .error 0
  | f + 1, q, c => if isA (kd T q) = true then bd (term T (nx T q) c) fun x q1 c1 => bd (smL T f q1 c1) fun o q2 c2 => .ok (x ++ (kd T q :: o), q2, c2) else .ok ([], q, c)
def sumT (T : txT) (q c : Nat) : eT := bd (term T q c) fun x q1 c1 => bd (smL T 401 q1 c1) fun o q2 c2 => .ok (x ++ o, q2, c2)
def cmpF (T : txT) (q c : Nat) : eT := bd (sumT T q c) fun o q1 c1 => if isP (kd T q1) = true then (if 60 ≤ c1 then .error (1 + 8 * q1 + 3) else bd (sumT T (nx T q1) (c1 + 1)) fun o2 q2 c2 => .ok (o ++ (o2 ++ [kd T q1]), q2, c2)) else .error (1 + 8 * q1)
def jnL (T : txT) (w : Nat) (F : Nat → Nat → eT) : Nat → Nat → Nat → eT
  | 0, _, _ => .error 0
  | f + 1, q, c => if kd T q = w then bd (F (nx T q) c) fun x q1 c1 => bd (jnL T w F f q1 c1) fun o q2 c2 => .ok (x ++ (w :: o), q2, c2) else .ok ([], q, c)
def jnT (T : txT) (w : Nat) (F : Nat → Nat → eT) (q c : Nat) : eT := bd (F q c) fun x q1 c1 => bd (jnL T w F 401 q1 c1) fun o q2 c2 => .ok (x ++ o, q2, c2)
def tstT (T : txT) (F : Nat → Nat → eT) : Nat → Nat → eT := jnT T 20 (jnT T 19 F)
def facT (T : txT) : Nat → Nat → Nat → Nat → eT
  | 0, _, _, _ => .error 0
  | g + 1, d, q, c => if kd T q = 21 ∨ kd T q = 30 then (if 10 ≤ d then .error (1 + 8 * q + 2) else if kd T q = 21 then bd (facT T g (d + 1) (nx T q) c) fun o q1 c1 => .ok (o ++ [21], q1, c1) else bd (tstT T (facT T g (d + 1)) (nx T q) c) fun o q1 c1 => if kd T q1 = 31 then .ok (o, nx T q1, c1) else .error (1 + 8 * q1)) else cmpF T q c
def clsT (T : txT) (q c : Nat) : Except Nat (List Nat × List Nat × Nat × Nat) := bd (sumT T q c) fun o q1 c1 => if kd T q1 = 18 then bd (tstT T (facT T 12 0) (nx T q1) c1) fun o2 q2 c2 => .ok (o, o2, q2, c2) else .ok (o, [], q1, c1)
def rlS (T : txT) : Nat → Nat → Nat → Nat → List Nat → List (Nat × Nat) → Except Nat ruT
  | 0, _, _, _, _, _ => .error 0
  | f + 1, k, q, c, cd, cl => if kd T q = 17 then (if k = 12 then .error (1 + 8 * q + 4) else match clsT T (nx T q) c with
    | .error e => .error e
    | .ok (o, o2, q2, c2) => if kd T q2 = 36 then .ok (cd ++ (o ++ o2), cl ++ [(cd.length + o.length, cd.length + o.length + o2.length)]) else if kd T q2 = 32 then rlS T f (k + 1) (nx T q2) c2 (cd ++ (o ++ o2)) (cl ++ [(cd.length + o.length, cd.length + o.length + o2.length)]) else .error (1 + 8 * q2)) else .error (1 + 8 * q)
theorem bd_ok {α : Type} {e : eT} {f : List Nat → Nat → Nat → Except Nat α} {r : α} (h : bd e f = .ok r) : ∃ o q c, e = .ok (o, q, c) ∧ f o q c = .ok r := by
  cases e with
  | error x => cases h
  | ok x => obtain ⟨o, q, c⟩ := x; exact ⟨o, q, c, rfl, h⟩
theorem bd_e {α : Type} {e : Nat} {f : List Nat → Nat → Nat → Except Nat α} : bd (.error e) f = .error e := rfl
theorem bd_o {α : Type} {o : List Nat} {q c : Nat} {f : List Nat → Nat → Nat → Except Nat α} : bd (.ok (o, q, c)) f = f o q c := rfl
theorem evC_app (env : Nat → Int64) : ∀ (a b : List Nat) (st : List Int64), evC env (a ++ b) st = Option.bind (evC env a st) (fun r => evC env b r)
  | [], b, st => rfl
  | x :: a, b, st => by
    rw [List.cons_append, evC, evC]
    by_cases h1 : 64 ≤ x
    · rw [if_pos h1, if_pos h1]; exact evC_app env a b _
    rw [if_neg h1, if_neg h1]
    by_cases h2 : x < 13
    · rw [if_pos h2, if_pos h2]; exact evC_app env a b _
    rw [if_neg h2, if_neg h2]
    by_cases h3 : x = 21
    · rw [if_pos h3, if_pos h3]
      cases notS st with
      | none => rfl
      | some r => exact evC_app env a b r
    rw [if_neg h3, if_neg h3]
    cases binS x st with
    | none => rfl
    | some r => exact evC_app env a b r
theorem evC_bin {env : Nat → Int64} {k : Nat} (hk : isBin k) (o : List Nat) (a b : Int64) (st : List Int64) : evC env (k :: o) (b :: a :: st) = evC env o (opW k a b :: st) := by
  have r := isBin_rng hk
  rw [evC, if_neg (by omega), if_neg (by omega), if_neg r.2.2]
  rfl
theorem nvC_op {k : Nat} {o : List Nat} (h : 13 ≤ k ∧ k < 64) : nvC (k :: o) = nvC o := by
  rw [nvC, if_neg (by omega), Nat.zero_add]
theorem isM_bin {k : Nat} (h : isM k = true) : isBin k ∧ 22 ≤ k ∧ k ≤ 32 := by unfold isM at h; simp at h; unfold isBin; omega
theorem isA_bin {k : Nat} (h : isA k = true) : isBin k ∧ 22 ≤ k ∧ k ≤ 32 := by unfold isA at h; simp at h; unfold isBin; omega
theorem isP_bin {k : Nat} (h : isP k = true) : isBin k := by unfold isP at h; simp at h; unfold isBin; omega
theorem isP_01 {k : Nat} (h : isP k = true) (a b : Int64) : opW k a b = 0 ∨ opW k a b = 1 := by
  unfold isP at h
  simp at h
  rcases h with (((rfl | rfl) | rfl) | rfl) | rfl
  all_goals (simp only [opW]; split <;> simp)
theorem and_01 {a b : Int64} (ha : a = 0 ∨ a = 1) (hb : b = 0 ∨ b = 1) {w : Nat} (hw : w = 19 ∨ w = 20) : opW w a b = 0 ∨ opW w a b = 1 := by
  rcases ha with rfl | rfl <;> rcases hb with rfl | rfl <;> rcases hw with rfl | rfl <;> decide +kernel
def prP (T : txT) (sl : Nat) (b : Bool) (q c : Nat) (r : eT) : Prop := ∀ o q' c', r = .ok (o, q', c') → (q < q' ∧ q' ≤ T.2 ∧ sk T q' = q') ∧ o.length ≤ q' - q ∧ (c ≤ c' ∧ c' ≤ 60) ∧ 3 * o.length + sl ≤ 6 * (c' - c) + (q' - q) ∧ nvC o ≤ c' - c ∧ (∀ x ∈ o, okI x) ∧ ∀ env st, ∃ v, evC env o st = some (v :: st) ∧ (b = true → v = 0 ∨ v = 1)
def prL (T : txT) (b : Bool) (q c : Nat) (r : eT) : Prop := ∀ o q' c', r = .ok (o, q', c') → (q ≤ q' ∧ q' ≤ T.2 ∧ sk T q' = q') ∧ o.length ≤ q' - q ∧ (c ≤ c' ∧ c' ≤ 60) ∧ 3 * o.length ≤ 6 * (c' - c) + (q' - q) ∧ nvC o ≤ c' - c ∧ (∀ x ∈ o, okI x) ∧ ∀ env v st, (b = true → v = 0 ∨ v = 1) → ∃ u, evC env o (v :: st) = some (u :: st) ∧ (b = true → u = 0 ∨ u = 1)
section
variable {T : txT}
theorem val_pr {q c : Nat} (hc : c ≤ 60) : prP T 3 false q c (valT T q c) := by
  intro o q' c' h
  unfold valT at h
  by_cases h1 : kd T q = 35 ∨ kd T q < 13
  · rw [if_pos h1] at h
    by_cases h2 : kd T q = 35 ∧ nm T q = -1
    · rw [if_pos h2] at h; cases h
    · rw [if_neg h2] at h
      by_cases h3 : 60 ≤ c
      · rw [if_pos h3] at h; cases h
      · rw [if_neg h3] at h
        injection h with h
        injection h with e1 h
        injection h with e2 e3
        subst e1 e2 e3
        have hq : q < T.2 := by
          rcases Nat.lt_or_ge q T.2 with d | d
          · exact d
          · rw [kd_end d] at h1; omega
        have nr := nx_rng hq
        have mr := nm_rng (T := T) (q := q)
        refine ⟨⟨nr.1, nr.2, sk_sk⟩, ?_, by omega, ?_, ?_, fun x hx => ?_, fun env st => ?_⟩
        · show 1 ≤ _; omega
        · show 3 * 1 + 3 ≤ _; omega
        · by_cases e : kd T q = 35
          · rw [if_pos e, nvC, if_pos (by omega), nvC]; omega
          · rw [if_neg e, nvC, if_pos (by omega), nvC]; omega
        · rw [List.mem_singleton] at hx
          subst hx
          unfold okI
          by_cases e : kd T q = 35
          · rw [if_pos e]; omega
          · rw [if_neg e]; omega
        · by_cases e : kd T q = 35
          · rw [if_pos e, evC, if_pos (by omega)]
            exact ⟨_, rfl, fun h => by cases h⟩
          · rw [if_neg e, evC, if_neg (by omega), if_pos (by omega)]
            exact ⟨_, rfl, fun h => by cases h⟩
  · rw [if_neg h1] at h; cases h
/-- producer, then sign, then loop -/
theorem pr_step {sl : Nat} {b : Bool} {q c k : Nat} {x o : List Nat} {q1 c1 q2 c2 : Nat} {r1 r2 : eT} (hk : isBin k) (hsl : 3 ≤ sl) (hb : b = true → ∀ u v : Int64, (u = 0 ∨ u = 1) → (v = 0 ∨ v = 1) → opW k u v = 0 ∨ opW k u v = 1) (hq : q < nx T q) (h1 : r1 = .ok (x, q1, c1)) (h2 : r2 = .ok (o, q2, c2)) (p1 : prP T sl b (nx T q) c r1) (p2 : prL T b q1 c1 r2) : prL T b q c (.ok (x ++ (k :: o), q2, c2)) := by
  intro o' q' c' h
  injection h with h
  injection h with e1 h
  injection h with e2 e3
  subst e1 e2 e3
  obtain ⟨a1, a2, a3, a4, a5, a6, a7⟩ := p1 _ _ _ h1
  obtain ⟨b1, b2, b3, b4, b5, b6, b7⟩ := p2 _ _ _ h2
  have rk := isBin_rng hk
  refine ⟨⟨by omega, b1.2⟩, ?_, by omega, ?_, ?_, fun y hy => ?_, fun env v st hv => ?_⟩
  · rw [List.length_append, List.length_cons]; omega
  · rw [List.length_append, List.length_cons]; omega
  · rw [nvC_app, nvC_op (by omega)]; omega
  · rcases List.mem_append.mp hy with hy | hy
    · exact a6 y hy
    · rcases List.mem_cons.mp hy with rfl | hy
      · unfold okI; exact Or.inr (Or.inr (Or.inr hk))
      · exact b6 y hy
  · obtain ⟨w, e1, e2⟩ := a7 env (v :: st)
    obtain ⟨u, f1, f2⟩ := b7 env (opW k v w) st (fun h => hb h v w (hv h) (e2 h))
    refine ⟨u, ?_, f2⟩
    rw [evC_app, e1, Option.bind_some, evC_bin hk, f1]
theorem pr_seq {sl : Nat} {b : Bool} {q c : Nat} {x o : List Nat} {q1 c1 q2 c2 : Nat} {r1 r2 : eT} (h1 : r1 = .ok (x, q1, c1)) (h2 : r2 = .ok (o, q2, c2)) (p1 : prP T sl b q c r1) (p2 : prL T b q1 c1 r2) : prP T sl b q c (.ok (x ++ o, q2, c2)) := by
  intro o' q' c' h
  injection h with h
  injection h with e1 h
  injection h with e2 e3
  subst e1 e2 e3
  obtain ⟨a1, a2, a3, a4, a5, a6, a7⟩ := p1 _ _ _ h1
  obtain ⟨b1, b2, b3, b4, b5, b6, b7⟩ := p2 _ _ _ h2
  refine ⟨⟨by omega, b1.2⟩, ?_, by omega, ?_, ?_, fun y hy => ?_, fun env st => ?_⟩
  · rw [List.length_append]; omega
  · rw [List.length_append]; omega
  · rw [nvC_app]; omega
  · rcases List.mem_append.mp hy with hy | hy
    · exact a6 y hy
    · exact b6 y hy
  · obtain ⟨w, e1, e2⟩ := a7 env st
    obtain ⟨u, f1, f2⟩ := b7 env w st e2
    exact ⟨u, by rw [evC_app, e1, Option.bind_some, f1], f2⟩
theorem pr_nil {b : Bool} {q c : Nat} (hq : q ≤ T.2) (hs : sk T q = q) (hc : c ≤ 60) : prL T b q c (.ok ([], q, c)) := by
  intro o' q' c' h
  injection h with h
  injection h with e1 h
  injection h with e2 e3
  subst e1 e2 e3
  exact ⟨⟨Nat.le_refl _, hq, hs⟩, Nat.zero_le _, ⟨Nat.le_refl _, hc⟩, by show 3 * 0 ≤ _; omega, Nat.zero_le _, (fun x hx => by cases hx), fun env v st hv => ⟨v, rfl, hv⟩⟩
theorem kd_nx {q : Nat} (h : kd T q ≠ 36) : q < T.2 ∧ q < nx T q ∧ nx T q ≤ T.2 := by
  have hq : q < T.2 := by
    rcases Nat.lt_or_ge q T.2 with d | d
    · exact d
    · exact absurd (kd_end d) h
  exact ⟨hq, nx_rng hq⟩
theorem tmL_pr : ∀ (f q c : Nat), q ≤ T.2 → sk T q = q → c ≤ 60 → prL T false q c (tmL T f q c)
  | 0, q, c, _, _, _ => fun o q' c' h => by cases h
  | f + 1, q, c, hq, hs, hc => by
    rw [tmL]
    by_cases h : isM (kd T q) = true
    · rw [if_pos h]
      have mb := isM_bin h
      have kn := kd_nx (T := T) (q := q) (by omega)
      intro o' q' c' e
      obtain ⟨x, q1, c1, e1, e⟩ := bd_ok e
      obtain ⟨o, q2, c2, e2, e⟩ := bd_ok e
      have p1 := val_pr (T := T) (q := nx T q) hc
      have d := p1 _ _ _ e1
      exact pr_step mb.1 (by omega) (fun h => by cases h) kn.2.1 e1 e2 p1 (tmL_pr f q1 c1 d.1.2.1 d.1.2.2 d.2.2.1.2) o' q' c' e
    · rw [if_neg h]
      exact pr_nil hq hs hc
theorem term_pr {q c : Nat} (hc : c ≤ 60) : prP T 3 false q c (term T q c) := by
  intro o' q' c' e
  obtain ⟨x, q1, c1, e1, e⟩ := bd_ok e
  obtain ⟨o, q2, c2, e2, e⟩ := bd_ok e
  have p1 := val_pr (T := T) (q := q) hc
  have d := p1 _ _ _ e1
  exact pr_seq e1 e2 p1 (tmL_pr 401 q1 c1 d.1.2.1 d.1.2.2 d.2.2.1.2) o' q' c' e
theorem smL_pr : ∀ (f q c : Nat), q ≤ T.2 → sk T q = q → c ≤ 60 → prL T false q c (smL T f q c)
  | 0, q, c, _, _, _ => fun o q' c' h => by cases h
  | f + 1, q, c, hq, hs, hc => by
    rw [smL]
    by_cases h : isA (kd T q) = true
    · rw [if_pos h]
      have mb := isA_bin h
      have kn := kd_nx (T := T) (q := q) (by omega)
      intro o' q' c' e
      obtain ⟨x, q1, c1, e1, e⟩ := bd_ok e
      obtain ⟨o, q2, c2, e2, e⟩ := bd_ok e
      have p1 := term_pr (T := T) (q := nx T q) hc
      have d := p1 _ _ _ e1
      exact pr_step mb.1 (by omega) (fun h => by cases h) kn.2.1 e1 e2 p1 (smL_pr f q1 c1 d.1.2.1 d.1.2.2 d.2.2.1.2) o' q' c' e
    · rw [if_neg h]
      exact pr_nil hq hs hc
theorem sum_pr {q c : Nat} (hc : c ≤ 60) : prP T 3 false q c (sumT T q c) := by
  intro o' q' c' e
  obtain ⟨x, q1, c1, e1, e⟩ := bd_ok e
  obtain ⟨o, q2, c2, e2, e⟩ := bd_ok e
  have p1 := term_pr (T := T) (q := q) hc
  have d := p1 _ _ _ e1
  exact pr_seq e1 e2 p1 (smL_pr 401 q1 c1 d.1.2.1 d.1.2.2 d.2.2.1.2) o' q' c' e
theorem cmp_pr {q c : Nat} (hc : c ≤ 60) : prP T 9 true q c (cmpF T q c) := by
  intro o' q' c' e
  obtain ⟨x, q1, c1, e1, e⟩ := bd_ok e
  have d := sum_pr (T := T) (q := q) hc _ _ _ e1
  obtain ⟨a1, a2, a3, a4, a5, a6, a7⟩ := d
  by_cases h : isP (kd T q1) = true
  · rw [if_pos h] at e
    have hb := isP_bin h
    have rb := isBin_rng hb
    have kn := kd_nx (T := T) (q := q1) (by omega)
    by_cases h6 : 60 ≤ c1
    · rw [if_pos h6] at e; cases e
    · rw [if_neg h6] at e
      obtain ⟨o, q2, c2, e2, e⟩ := bd_ok e
      obtain ⟨b1, b2, b3, b4, b5, b6, b7⟩ := sum_pr (T := T) (q := nx T q1) (show c1 + 1 ≤ 60 by omega) _ _ _ e2
      injection e with e
      injection e with f1 e
      injection e with f2 f3
      subst f1 f2 f3
      refine ⟨⟨by omega, b1.2⟩, ?_, by omega, ?_, ?_, fun y hy => ?_, fun env st => ?_⟩
      · simp only [List.length_append, List.length_cons, List.length_nil]; omega
      · simp only [List.length_append, List.length_cons, List.length_nil]; omega
      · rw [nvC_app, nvC_app, nvC_op (by omega), nvC]; omega
      · rcases List.mem_append.mp hy with hy | hy
        · exact a6 y hy
        · rcases List.mem_append.mp hy with hy | hy
          · exact b6 y hy
          · rw [List.mem_singleton] at hy
            subst hy
            unfold okI; exact Or.inr (Or.inr (Or.inr hb))
      · obtain ⟨v, g1, -⟩ := a7 env st
        obtain ⟨w, g2, -⟩ := b7 env (v :: st)
        refine ⟨opW (kd T q1) v w, ?_, fun _ => isP_01 h v w⟩
        rw [evC_app, g1, Option.bind_some, evC_app, g2, Option.bind_some, evC_bin hb, evC]
  · rw [if_neg h] at e; cases e
theorem jnL_pr {w : Nat} {F : Nat → Nat → eT} (hw : w = 19 ∨ w = 20) (hF : ∀ q c, q ≤ T.2 → c ≤ 60 → prP T 9 true q c (F q c)) : ∀ (f q c : Nat), q ≤ T.2 → sk T q = q → c ≤ 60 → prL T true q c (jnL T w F f q c)
  | 0, q, c, _, _, _ => fun o q' c' h => by cases h
  | f + 1, q, c, hq, hs, hc => by
    rw [jnL]
    by_cases h : kd T q = w
    · rw [if_pos h]
      have hb : isBin w := by unfold isBin; omega
      have kn := kd_nx (T := T) (q := q) (by omega)
      intro o' q' c' e
      obtain ⟨x, q1, c1, e1, e⟩ := bd_ok e
      obtain ⟨o, q2, c2, e2, e⟩ := bd_ok e
      have p1 := hF (nx T q) c kn.2.2 hc
      have d := p1 _ _ _ e1
      exact pr_step hb (by omega) (fun _ u v hu hv => and_01 hu hv hw) kn.2.1 e1 e2 p1 (jnL_pr hw hF f q1 c1 d.1.2.1 d.1.2.2 d.2.2.1.2) o' q' c' e
    · rw [if_neg h]
      exact pr_nil hq hs hc
theorem jnT_pr {w : Nat} {F : Nat → Nat → eT} (hw : w = 19 ∨ w = 20) (hF : ∀ q c, q ≤ T.2 → c ≤ 60 → prP T 9 true q c (F q c)) {q c : Nat} (hq : q ≤ T.2) (hc : c ≤ 60) : prP T 9 true q c (jnT T w F q c) := by
  intro o' q' c' e
  obtain ⟨x, q1, c1, e1, e⟩ := bd_ok e
  obtain ⟨o, q2, c2, e2, e⟩ := bd_ok e
  have p1 := hF q c hq hc
  have d := p1 _ _ _ e1
  exact pr_seq e1 e2 p1 (jnL_pr hw hF 401 q1 c1 d.1.2.1 d.1.2.2 d.2.2.1.2) o' q' c' e
theorem tst_pr {F : Nat → Nat → eT} (hF : ∀ q c, q ≤ T.2 → c ≤ 60 → prP T 9 true q c (F q c)) {q c : Nat} (hq : q ≤ T.2) (hc : c ≤ 60) : prP T 9 true q c (tstT T F q c) := jnT_pr (Or.inr rfl) (fun q c h1 h2 => jnT_pr (Or.inl rfl) hF h1 h2) hq hc
theorem fac_pr : ∀ (g d q c : Nat), q ≤ T.2 → c ≤ 60 → prP T 9 true q c (facT T g d q c)
  | 0, d, q, c, _, _ => fun o q' c' h => by cases h
  | g + 1, d, q, c, hq, hc => by
    rw [facT]
    by_cases h : kd T q = 21 ∨ kd T q = 30
    · rw [if_pos h]
      have kn := kd_nx (T := T) (q := q) (by omega)
      by_cases h10 : 10 ≤ d
      · rw [if_pos h10]
        intro o q' c' h; cases h
      · rw [if_neg h10]
        by_cases h21 : kd T q = 21
        · rw [if_pos h21]
          intro o' q' c' e
          obtain ⟨o, q1, c1, e1, e⟩ := bd_ok e
          obtain ⟨a1, a2, a3, a4, a5, a6, a7⟩ := fac_pr g (d + 1) (nx T q) c kn.2.2 hc _ _ _ e1
          have ew := en_w (T := T) (q := q) (m := 21) (by omega) h21
          have l3 : (wdA 21).length = 3 := rfl
          have sl := sk_le (T := T) (p := en T q)
          change en T q ≤ nx T q at sl
          injection e with e
          injection e with f1 e
          injection e with f2 f3
          subst f1 f2 f3
          refine ⟨⟨by omega, a1.2⟩, ?_, by omega, ?_, ?_, fun y hy => ?_, fun env st => ?_⟩
          · simp only [List.length_append, List.length_cons, List.length_nil]; omega
          · simp only [List.length_append, List.length_cons, List.length_nil]; omega
          · rw [nvC_app, nvC_op (by omega), nvC]; omega
          · rcases List.mem_append.mp hy with hy | hy
            · exact a6 y hy
            · rw [List.mem_singleton] at hy
              subst hy
              unfold okI; exact Or.inr (Or.inr (Or.inl rfl))
          · obtain ⟨v, g1, g2⟩ := a7 env st
            refine ⟨1 - v, ?_, fun h => ?_⟩
            · rw [evC_app, g1, Option.bind_some, evC, if_neg (by decide), if_neg (by decide), if_pos rfl]
              rfl
            · rcases g2 h with rfl | rfl
              · exact Or.inr (by decide)
              · exact Or.inl (by decide)
        · rw [if_neg h21]
          intro o' q' c' e
          obtain ⟨o, q1, c1, e1, e⟩ := bd_ok e
          obtain ⟨a1, a2, a3, a4, a5, a6, a7⟩ := tst_pr (T := T) (fun q c h1 h2 => fac_pr g (d + 1) q c h1 h2) kn.2.2 hc _ _ _ e1
          by_cases h31 : kd T q1 = 31
          · rw [if_pos h31] at e
            have kn1 := kd_nx (T := T) (q := q1) (by omega)
            injection e with e
            injection e with f1 e
            injection e with f2 f3
            subst f1 f2 f3
            exact ⟨⟨by omega, kn1.2.2, sk_sk⟩, by omega, by omega, by omega, by omega, a6, a7⟩
          · rw [if_neg h31] at e; cases e
    · rw [if_neg h]
      exact cmp_pr hc
end
section
variable {T : txT} {q c : Nat}
theorem cls_pr {o o2 : List Nat} {q2 c2 : Nat} (hc : c ≤ 60) (hq : q ≤ T.2) (h : clsT T q c = .ok (o, o2, q2, c2)) : (q < q2 ∧ q2 ≤ T.2 ∧ sk T q2 = q2) ∧ c2 ≤ 60 ∧ c ≤ c2 ∧ 3 * (o.length + o2.length) + 3 ≤ 6 * (c2 - c) + (q2 - q) ∧ nvC o + nvC o2 ≤ c2 - c ∧ (∀ x ∈ o ++ o2, okI x) ∧ okSg false o ∧ (o2 = [] ∨ okSg true o2) := by
  unfold clsT at h
  obtain ⟨x, q1, c1, e1, h⟩ := bd_ok h
  obtain ⟨a1, a2, a3, a4, a5, a6, a7⟩ := sum_pr (T := T) (q := q) hc _ _ _ e1
  by_cases h18 : kd T q1 = 18
  · rw [if_pos h18] at h
    have kn := kd_nx (T := T) (q := q1) (by omega)
    obtain ⟨y, q3, c3, e2, h⟩ := bd_ok h
    obtain ⟨b1, b2, b3, b4, b5, b6, b7⟩ := tst_pr (T := T) (fun q c h1 h2 => fac_pr 12 0 q c h1 h2) kn.2.2 a3.2 _ _ _ e2
    injection h with h
    injection h with f1 h
    injection h with f2 h
    injection h with f3 f4
    subst f1 f2 f3 f4
    refine ⟨⟨by omega, b1.2⟩, by omega, by omega, by omega, by omega, fun z hz => ?_, fun env => ?_, Or.inr (fun env => b7 env [])⟩
    · rcases List.mem_append.mp hz with hz | hz
      · exact a6 z hz
      · exact b6 z hz
    · obtain ⟨v, g1, g2⟩ := a7 env []
      exact ⟨v, g1, g2⟩
  · rw [if_neg h18] at h
    injection h with h
    injection h with f1 h
    injection h with f2 h
    injection h with f3 f4
    subst f1 f2 f3 f4
    refine ⟨a1, a3.2, a3.1, by simp only [List.length_nil]; omega, by rw [nvC]; omega, fun z hz => ?_, fun env => a7 env [], Or.inl rfl⟩
    rw [List.append_nil] at hz
    exact a6 z hz
end

/-! Texts: blanks, words, numbers, signs. -/
abbrev txT : Type := (Nat → Int) × Nat
def okT (T : txT) : Prop := T.2 ≤ 400 ∧ ∀ i, i < T.2 → -128 ≤ T.1 i ∧ T.1 i ≤ 127
def ruE (F : Nat → Bool) : Nat → Nat → Nat
  | 0, p => p
  | m + 1, p => if F p = true then ruE F m (p + 1) else p
def run (T : txT) (F : Nat → Bool) (p : Nat) : Nat := ruE F (T.2 - p) p
def isBl (T : txT) (p : Nat) : Bool := decide (p < T.2) && decide (T.1 p = 32)
def isLt (T : txT) (p : Nat) : Bool := decide (p < T.2) && (decide (97 ≤ T.1 p) && decide (T.1 p ≤ 122))
def isDg (T : txT) (p : Nat) : Bool := decide (p < T.2) && (decide (48 ≤ T.1 p) && decide (T.1 p ≤ 57))
def sk (T : txT) (p : Nat) : Nat := run T (isBl T) p
def leE (T : txT) (p : Nat) : Nat := run T (isLt T) p
def deE (T : txT) (p : Nat) : Nat := run T (isDg T) p
def wdL : List (List Int) := [[112, 97, 105, 110, 116, 101, 114], [99, 101, 108, 108], [116, 104, 105, 110, 103], [114, 101, 110, 116], [116, 111, 112], [119, 101, 116], [119, 104, 111, 115, 101], [109, 105, 110, 101], [111, 119, 110, 101, 114], [99, 111, 97, 116, 115], [112, 117, 114, 115, 101], [104, 111, 117, 114], [114, 97, 105, 110], [115, 116, 114, 101, 101, 116], [99, 111, 97, 116], [98, 97, 114, 101], [115, 117, 105, 116], [112, 97, 105, 110, 116], [105, 102], [97, 110, 100], [111, 114], [110, 111, 116]]
def wdA (m : Nat) : List Int := wdL.getD m []
def eqF (T : txT) : List Int → Nat → Bool
  | [], _ => true
  | c :: r, q => decide (T.1 q = c) && eqF T r (q + 1)
def eqW (T : txT) (q : Nat) (l : List Int) : Bool := decide (leE T q = q + l.length) && eqF T l q
def wkF (T : txT) (q : Nat) : List (List Int) → Nat → Nat
  | [], _ => 37
  | l :: r, m => if eqW T q l = true then m else wkF T q r (m + 1)
def wk (T : txT) (q : Nat) : Nat := wkF T q wdL 0
def sgK (b : Int) : Nat := if b = 43 then 22 else if b = 45 then 23 else if b = 42 then 24 else if b = 47 then 25 else if b = 37 then 26 else if b = 60 then 27 else if b = 61 then 28 else if b = 62 then 29 else if b = 91 then 30 else if b = 93 then 31 else if b = 59 then 32 else 37
def two (T : txT) (q : Nat) : Bool := (decide (T.1 q = 60) || decide (T.1 q = 62)) && (decide (q + 1 < T.2) && decide (T.1 (q + 1) = 61))
def kd (T : txT) (q : Nat) : Nat := if T.2 ≤ q then 36 else if isLt T q = true then wk T q else if isDg T q = true then 35 else if two T q = true then (if T.1 q = 60 then 33 else 34) else sgK (T.1 q)
def en (T : txT) (q : Nat) : Nat := if isLt T q = true then leE T q else if isDg T q = true then deE T q else if two T q = true then q + 2 else q + 1
def nx (T : txT) (q : Nat) : Nat := sk T (en T q)
def dv (T : txT) (q : Nat) : Nat → Nat
  | 0 => 0
  | j + 1 => 10 * dv T q j + (T.1 (q + j) - 48).toNat
def nm (T : txT) (q : Nat) : Int := if isDg T q = true then (if deE T q ≤ q + 5 then (dv T q (deE T q - q) : Int) else -1) else -1
def sgn (T : txT) (p : Nat) : Int := if p < T.2 then T.1 p % 256 else -1
section
variable {T : txT} {F : Nat → Bool} {p q m : Nat}
theorem run_eq (hF : F p = true → p < T.2) : run T F p = if F p = true then run T F (p + 1) else p := by
  unfold run
  by_cases h : F p = true
  · obtain ⟨d, e⟩ : ∃ d, T.2 - p = d + 1 := ⟨T.2 - p - 1, by have := hF h; omega⟩
    rw [if_pos h, e, ruE, if_pos h, show T.2 - (p + 1) = d by omega]
  · rw [if_neg h]
    cases T.2 - p with
    | zero => rfl
    | succ d => rw [ruE, if_neg h]
theorem ruE_pr : ∀ (d p : Nat), p ≤ ruE F d p ∧ ruE F d p ≤ p + d ∧ (∀ i, p ≤ i → i < ruE F d p → F i = true) ∧ (F (ruE F d p) = false ∨ ruE F d p = p + d)
  | 0, p => ⟨Nat.le_refl _, Nat.le_refl _, fun i h1 h2 => by rw [ruE] at h2; omega, Or.inr rfl⟩
  | d + 1, p => by
    rw [ruE]
    by_cases h : F p = true
    · rw [if_pos h]
      have a := ruE_pr d (p + 1)
      refine ⟨by omega, by omega, fun i h1 h2 => ?_, a.2.2.2.imp id (fun h => by omega)⟩
      by_cases e : i = p
      · rw [e]; exact h
      · exact a.2.2.1 i (by omega) h2
    · rw [if_neg h]
      exact ⟨Nat.le_refl _, by omega, fun i h1 h2 => by omega, Or.inl (by simpa using h)⟩
theorem run_le : p ≤ run T F p := (ruE_pr _ _).1
theorem run_n (h : p ≤ T.2) : run T F p ≤ T.2 := by
  have := (ruE_pr (F := F) (T.2 - p) p).2.1
  unfold run
  omega
theorem run_in {i : Nat} (h1 : p ≤ i) (h2 : i < run T F p) : F i = true := (ruE_pr _ _).2.2.1 i h1 h2
theorem run_out (hF : ∀ p, F p = true → p < T.2) : F (run T F p) = false := by
  cases h : F (run T F p) with
  | false => rfl
  | true =>
    have a := hF _ h
    rcases (ruE_pr (F := F) (T.2 - p) p).2.2.2 with e | e
    · change F (run T F p) = false at e
      rw [h] at e; exact e
    · change run T F p = _ at e
      omega
theorem isBl_n (h : isBl T p = true) : p < T.2 := by unfold isBl at h; simp at h; exact h.1
theorem isLt_n (h : isLt T p = true) : p < T.2 := by unfold isLt at h; simp at h; exact h.1
theorem isDg_n (h : isDg T p = true) : p < T.2 := by unfold isDg at h; simp at h; exact h.1
theorem isLt_iff : isLt T p = true ↔ p < T.2 ∧ 97 ≤ T.1 p ∧ T.1 p ≤ 122 := by unfold isLt; simp
theorem isDg_iff : isDg T p = true ↔ p < T.2 ∧ 48 ≤ T.1 p ∧ T.1 p ≤ 57 := by unfold isDg; simp
theorem isBl_iff : isBl T p = true ↔ p < T.2 ∧ T.1 p = 32 := by unfold isBl; simp
theorem two_iff : two T p = true ↔ (T.1 p = 60 ∨ T.1 p = 62) ∧ p + 1 < T.2 ∧ T.1 (p + 1) = 61 := by unfold two; simp
theorem sk_le : p ≤ sk T p := run_le
theorem sk_n (h : p ≤ T.2) : sk T p ≤ T.2 := run_n h
theorem sk_bl (h : isBl T p = true) : sk T p = sk T (p + 1) := by
  unfold sk
  rw [run_eq (F := isBl T) (p := p) isBl_n, if_pos h]
theorem sk_id (h : isBl T p = false) : sk T p = p := by
  unfold sk
  rw [run_eq (F := isBl T) isBl_n, h]; rfl
theorem sk_out : isBl T (sk T p) = false := run_out (fun _ => isBl_n)
theorem sk_sk : sk T (sk T p) = sk T p := sk_id sk_out
theorem sk_ge (h : T.2 ≤ p) : sk T p = p := sk_id (by cases e : isBl T p with | false => rfl | true => have := isBl_n e; omega)
theorem leE_lt (h : isLt T q = true) : q < leE T q := by
  have a := run_eq (F := isLt T) (p := q) isLt_n
  rw [if_pos h] at a
  have b := run_le (T := T) (F := isLt T) (p := q + 1)
  unfold leE
  omega
theorem deE_lt (h : isDg T q = true) : q < deE T q := by
  have a := run_eq (F := isDg T) (p := q) isDg_n
  rw [if_pos h] at a
  have b := run_le (T := T) (F := isDg T) (p := q + 1)
  unfold deE
  omega
theorem leE_id (h : isLt T q = false) : leE T q = q := by
  unfold leE
  rw [run_eq (F := isLt T) isLt_n, h]; rfl
theorem en_rng (h : q < T.2) : q < en T q ∧ en T q ≤ T.2 := by
  unfold en
  by_cases h1 : isLt T q = true
  · rw [if_pos h1]
    exact ⟨leE_lt h1, run_n (by omega)⟩
  · rw [if_neg h1]
    by_cases h2 : isDg T q = true
    · rw [if_pos h2]
      exact ⟨deE_lt h2, run_n (by omega)⟩
    · rw [if_neg h2]
      by_cases h3 : two T q = true
      · rw [if_pos h3]
        have := two_iff.mp h3
        omega
      · rw [if_neg h3]; omega
theorem nx_rng (h : q < T.2) : q < nx T q ∧ nx T q ≤ T.2 := by
  have a := en_rng h
  have b := sk_le (T := T) (p := en T q)
  have c := sk_n (T := T) a.2
  unfold nx
  omega
/-- words -/
theorem eqF_eq : ∀ (l l2 : List Int) (q : Nat), l.length = l2.length → eqF T l q = true → eqF T l2 q = true → l = l2
  | [], [], _, _, _, _ => rfl
  | a :: l, b :: l2, q, h, h1, h2 => by
    rw [eqF, Bool.and_eq_true, decide_eq_true_eq] at h1 h2
    rw [eqF_eq l l2 (q + 1) (by simpa using h) h1.2 h2.2, ← h1.1, ← h2.1]
theorem eqW_eq {l l2 : List Int} (h1 : eqW T q l = true) (h2 : eqW T q l2 = true) : l = l2 := by
  unfold eqW at h1 h2
  rw [Bool.and_eq_true, decide_eq_true_eq] at h1 h2
  exact eqF_eq l l2 q (by omega) h1.2 h2.2
theorem wkF_pr : ∀ (ws : List (List Int)) (m : Nat), (wkF T q ws m = 37 ∧ ∀ (j : Nat) l, ws[j]? = some l → eqW T q l = false) ∨ ∃ (j : Nat) (l : List Int), ws[j]? = some l ∧ wkF T q ws m = m + j ∧ eqW T q l = true ∧ ∀ (i : Nat) l2, i < j → ws[i]? = some l2 → eqW T q l2 = false
  | [], m => Or.inl ⟨rfl, fun j l h => by simp at h⟩
  | w :: ws, m => by
    rw [wkF]
    cases h : eqW T q w with
    | true => exact Or.inr ⟨0, w, rfl, rfl, h, fun i l2 hi => absurd hi (by omega)⟩
    | false =>
      rw [if_neg (by decide)]
      rcases wkF_pr ws (m + 1) with ⟨a, b⟩ | ⟨j, l, a, b, c, d⟩
      · refine Or.inl ⟨a, fun j l hj => ?_⟩
        cases j with
        | zero => cases hj; exact h
        | succ j => exact b j l hj
      · refine Or.inr ⟨j + 1, l, a, by omega, c, fun i l2 hi h2 => ?_⟩
        cases i with
        | zero => cases h2; exact h
        | succ i => exact d i l2 (by omega) h2
theorem wdL_len : wdL.length = 22 := rfl
theorem wdL_get (h : m < 22) : wdL[m]? = some (wdA m) := by
  have h2 : m < wdL.length := by rw [wdL_len]; exact h
  unfold wdA
  rw [List.getD_eq_getElem?_getD, List.getElem?_eq_getElem h2]; rfl
theorem wdA_inj : ∀ i, i < 22 → ∀ j, j < 22 → wdA i = wdA j → i = j := by decide +kernel
theorem wdA_pos : ∀ i, i < 22 → 0 < (wdA i).length := by decide +kernel
theorem wk_iff (h : m < 22) : wk T q = m ↔ eqW T q (wdA m) = true := by
  unfold wk
  rcases wkF_pr (T := T) (q := q) wdL 0 with ⟨a, b⟩ | ⟨j, l, a, b, c, d⟩
  · rw [a]
    have := b m _ (wdL_get h)
    rw [this]
    constructor
    · omega
    · intro e; cases e
  · have hj : j < 22 := by have := (List.getElem?_eq_some_iff.mp a).1; rw [wdL_len] at this; exact this
    have e : l = wdA j := by rw [wdL_get hj] at a; cases a; rfl
    rw [b, Nat.zero_add]
    constructor
    · intro e2; subst e2; rw [← e]; exact c
    · intro e2
      rw [e] at c
      exact wdA_inj j hj m h (eqW_eq c e2)
theorem wk_rng : wk T q < 22 ∨ wk T q = 37 := by
  unfold wk
  rcases wkF_pr (T := T) (q := q) wdL 0 with ⟨a, b⟩ | ⟨j, l, a, b, c, d⟩
  · exact Or.inr a
  · have hj : j < 22 := by have := (List.getElem?_eq_some_iff.mp a).1; rw [wdL_len] at this; exact this
    omega
theorem sgK_rng (b : Int) : (22 ≤ sgK b ∧ sgK b ≤ 32) ∨ sgK b = 37 := by
  unfold sgK
  repeat (split; · omega)
  omega
/-- kinds -/
theorem kd_cases (hq : q < T.2) : (isLt T q = true ∧ kd T q = wk T q ∧ en T q = leE T q) ∨ (isLt T q = false ∧ isDg T q = true ∧ kd T q = 35 ∧ en T q = deE T q) ∨ (isLt T q = false ∧ isDg T q = false ∧ two T q = true ∧ kd T q = (if T.1 q = 60 then 33 else 34) ∧ en T q = q + 2) ∨ (isLt T q = false ∧ isDg T q = false ∧ two T q = false ∧ kd T q = sgK (T.1 q) ∧ en T q = q + 1) := by
  unfold kd en
  rw [if_neg (show ¬ T.2 ≤ q by omega)]
  cases isLt T q with
  | true => exact Or.inl ⟨rfl, rfl, rfl⟩
  | false =>
    cases isDg T q with
    | true => exact Or.inr (Or.inl ⟨rfl, rfl, rfl, rfl⟩)
    | false =>
      cases two T q with
      | true => exact Or.inr (Or.inr (Or.inl ⟨rfl, rfl, rfl, rfl, rfl⟩))
      | false => exact Or.inr (Or.inr (Or.inr ⟨rfl, rfl, rfl, rfl, rfl⟩))
theorem kd_end (h : T.2 ≤ q) : kd T q = 36 := if_pos h
theorem kd_36 : kd T q = 36 ↔ T.2 ≤ q := by
  constructor
  · intro h
    rcases Nat.lt_or_ge q T.2 with c | c
    · exfalso
      rcases kd_cases c with ⟨-, a, -⟩ | ⟨-, -, a, -⟩ | ⟨-, -, -, a, -⟩ | ⟨-, -, -, a, -⟩
      · have := wk_rng (T := T) (q := q); omega
      · omega
      · rw [h] at a; split at a <;> omega
      · have := sgK_rng (T.1 q); omega
    · exact c
  · exact kd_end
theorem kd_lt37 : kd T q ≤ 37 := by
  rcases Nat.lt_or_ge q T.2 with c | c
  · rcases kd_cases c with ⟨-, a, -⟩ | ⟨-, -, a, -⟩ | ⟨-, -, -, a, -⟩ | ⟨-, -, -, a, -⟩
    · have := wk_rng (T := T) (q := q); omega
    · omega
    · rw [a]; split <;> omega
    · have := sgK_rng (T.1 q); omega
  · rw [kd_end c]; omega
theorem eqW_lt (hm : m < 22) (h : eqW T q (wdA m) = true) : isLt T q = true := by
  cases e : isLt T q with
  | true => rfl
  | false =>
    unfold eqW at h
    rw [leE_id e, Bool.and_eq_true, decide_eq_true_eq] at h
    have := wdA_pos m hm
    omega
theorem kd_w (hm : m < 22) : kd T q = m ↔ eqW T q (wdA m) = true := by
  constructor
  · intro h
    rcases Nat.lt_or_ge q T.2 with c | c
    · rcases kd_cases c with ⟨-, a, -⟩ | ⟨-, -, a, -⟩ | ⟨-, -, -, a, -⟩ | ⟨-, -, -, a, -⟩
      · exact (wk_iff hm).mp (a.symm.trans h)
      · omega
      · rw [h] at a; split at a <;> omega
      · have := sgK_rng (T.1 q); omega
    · rw [kd_end c] at h; omega
  · intro h
    have hl := eqW_lt hm h
    rcases kd_cases (isLt_n hl) with ⟨-, a, -⟩ | ⟨a, -⟩ | ⟨a, -⟩ | ⟨a, -⟩
    · rw [a]; exact (wk_iff hm).mpr h
    all_goals rw [hl] at a; cases a
theorem en_w (hm : m < 22) (h : kd T q = m) : en T q = q + (wdA m).length ∧ q < T.2 := by
  have e := (kd_w hm).mp h
  have hl := eqW_lt hm e
  unfold eqW at e
  rw [Bool.and_eq_true, decide_eq_true_eq] at e
  refine ⟨?_, isLt_n hl⟩
  unfold en
  rw [if_pos hl]
  exact e.1
theorem kd_35 : kd T q = 35 ↔ isDg T q = true := by
  constructor
  · intro h
    rcases Nat.lt_or_ge q T.2 with c | c
    · rcases kd_cases c with ⟨-, a, -⟩ | ⟨-, a, -⟩ | ⟨-, -, -, a, -⟩ | ⟨-, -, -, a, -⟩
      · have := wk_rng (T := T) (q := q); omega
      · exact a
      · rw [h] at a; split at a <;> omega
      · have := sgK_rng (T.1 q); omega
    · rw [kd_end c] at h; omega
  · intro h
    have c := isDg_n h
    have d := isDg_iff.mp h
    rcases kd_cases c with ⟨a, -⟩ | ⟨-, -, a, -⟩ | ⟨-, a, -⟩ | ⟨-, a, -⟩
    · have := isLt_iff.mp a; omega
    · exact a
    all_goals rw [h] at a; cases a
theorem sgK_inv (b : Int) : sgK b = 37 ∨ (sgK b = 22 ∧ b = 43) ∨ (sgK b = 23 ∧ b = 45) ∨ (sgK b = 24 ∧ b = 42) ∨ (sgK b = 25 ∧ b = 47) ∨ (sgK b = 26 ∧ b = 37) ∨ (sgK b = 27 ∧ b = 60) ∨ (sgK b = 28 ∧ b = 61) ∨ (sgK b = 29 ∧ b = 62) ∨ (sgK b = 30 ∧ b = 91) ∨ (sgK b = 31 ∧ b = 93) ∨ (sgK b = 32 ∧ b = 59) := by
  unfold sgK
  repeat (split; · omega)
  omega
theorem sgn_iff (ok : okT T) {c : Int} (h0 : 0 ≤ c) (h1 : c ≤ 127) : sgn T q = c ↔ q < T.2 ∧ T.1 q = c := by
  unfold sgn
  by_cases h : q < T.2
  · rw [if_pos h]
    have := ok.2 q h
    omega
  · rw [if_neg h]
    omega
theorem sgn_rng : -1 ≤ sgn T q ∧ sgn T q < 256 := by
  unfold sgn
  split <;> omega
theorem kd_sg (ok : okT T) {c : Int} {k : Nat} (h : sgK c = k) (hk : k = 22 ∨ k = 23 ∨ k = 24 ∨ k = 25 ∨ k = 26 ∨ k = 28 ∨ k = 30 ∨ k = 31 ∨ k = 32) : kd T q = k ↔ sgn T q = c := by
  have i1 := sgK_inv c
  rw [sgn_iff ok (by omega) (by omega)]
  constructor
  · intro e
    rcases Nat.lt_or_ge q T.2 with d | d
    · refine ⟨d, ?_⟩
      rcases kd_cases d with ⟨-, a, -⟩ | ⟨-, -, a, -⟩ | ⟨-, -, -, a, -⟩ | ⟨-, -, -, a, -⟩
      · have := wk_rng (T := T) (q := q); omega
      · omega
      · rw [e] at a; split at a <;> omega
      · have i2 := sgK_inv (T.1 q)
        omega
    · rw [kd_end d] at e; omega
  · rintro ⟨d, e⟩
    rcases kd_cases d with ⟨a, -⟩ | ⟨-, a, -⟩ | ⟨-, -, a, -⟩ | ⟨-, -, -, a, -⟩
    · have := isLt_iff.mp a; omega
    · have := isDg_iff.mp a; omega
    · have := two_iff.mp a; omega
    · rw [a, e]; exact h
theorem kd_le (ok : okT T) : (kd T q = 27 ∨ kd T q = 33) ↔ sgn T q = 60 := by
  rw [sgn_iff ok (by omega) (by omega)]
  constructor
  · intro e
    rcases Nat.lt_or_ge q T.2 with d | d
    · refine ⟨d, ?_⟩
      rcases kd_cases d with ⟨-, a, -⟩ | ⟨-, -, a, -⟩ | ⟨-, -, -, a, -⟩ | ⟨-, -, -, a, -⟩
      · have := wk_rng (T := T) (q := q); omega
      · omega
      · split at a
        · assumption
        · omega
      · have i2 := sgK_inv (T.1 q)
        omega
    · rw [kd_end d] at e; omega
  · rintro ⟨d, e⟩
    rcases kd_cases d with ⟨a, -⟩ | ⟨-, a, -⟩ | ⟨-, -, -, a, -⟩ | ⟨-, -, -, a, -⟩
    · have := isLt_iff.mp a; omega
    · have := isDg_iff.mp a; omega
    · rw [if_pos e] at a; exact Or.inr a
    · left; rw [a, e]; rfl
theorem kd_ge (ok : okT T) : (kd T q = 29 ∨ kd T q = 34) ↔ sgn T q = 62 := by
  rw [sgn_iff ok (by omega) (by omega)]
  constructor
  · intro e
    rcases Nat.lt_or_ge q T.2 with d | d
    · refine ⟨d, ?_⟩
      rcases kd_cases d with ⟨-, a, -⟩ | ⟨-, -, a, -⟩ | ⟨-, -, b, a, -⟩ | ⟨-, -, -, a, -⟩
      · have := wk_rng (T := T) (q := q); omega
      · omega
      · have := two_iff.mp b
        split at a
        · omega
        · omega
      · have i2 := sgK_inv (T.1 q)
        omega
    · rw [kd_end d] at e; omega
  · rintro ⟨d, e⟩
    rcases kd_cases d with ⟨a, -⟩ | ⟨-, a, -⟩ | ⟨-, -, -, a, -⟩ | ⟨-, -, -, a, -⟩
    · have := isLt_iff.mp a; omega
    · have := isDg_iff.mp a; omega
    · rw [if_neg (by omega)] at a; exact Or.inr a
    · left; rw [a, e]; rfl
/-- of two signs -/
theorem kd_two (ok : okT T) (h : sgn T q = 60 ∨ sgn T q = 62) : (kd T q = 33 ∨ kd T q = 34) ↔ sgn T (q + 1) = 61 := by
  rw [sgn_iff ok (by omega) (by omega), sgn_iff ok (by omega) (by omega)] at h
  rw [sgn_iff ok (by omega) (by omega)]
  have d : q < T.2 := by omega
  rcases kd_cases d with ⟨a, -⟩ | ⟨-, a, -⟩ | ⟨-, -, b, a, -⟩ | ⟨-, -, b, a, -⟩
  · have := isLt_iff.mp a; omega
  · have := isDg_iff.mp a; omega
  · have := two_iff.mp b
    split at a <;> omega
  · have i2 := sgK_inv (T.1 q)
    have b2 : ¬ ((T.1 q = 60 ∨ T.1 q = 62) ∧ q + 1 < T.2 ∧ T.1 (q + 1) = 61) := fun c => by rw [two_iff.mpr c] at b; cases b
    omega
theorem en_1 (h : 22 ≤ kd T q ∧ kd T q ≤ 32) : en T q = q + 1 ∧ q < T.2 := by
  rcases Nat.lt_or_ge q T.2 with d | d
  · rcases kd_cases d with ⟨-, a, -⟩ | ⟨-, -, a, -⟩ | ⟨-, -, -, a, -⟩ | ⟨-, -, -, a, b⟩
    · have := wk_rng (T := T) (q := q); omega
    · omega
    · split at a <;> omega
    · exact ⟨b, d⟩
  · rw [kd_end d] at h; omega
theorem en_2 (h : kd T q = 33 ∨ kd T q = 34) : en T q = q + 2 ∧ q < T.2 := by
  rcases Nat.lt_or_ge q T.2 with d | d
  · rcases kd_cases d with ⟨-, a, -⟩ | ⟨-, -, a, -⟩ | ⟨-, -, -, a, b⟩ | ⟨-, -, -, a, b⟩
    · have := wk_rng (T := T) (q := q); omega
    · omega
    · exact ⟨b, d⟩
    · have := sgK_rng (T.1 q); omega
  · rw [kd_end d] at h; omega
theorem dv_lt (hd : ∀ j, j < 5 → q + j < deE T q → isDg T (q + j) = true) : ∀ j, j ≤ 5 → q + j ≤ deE T q → dv T q j < 10 ^ j
  | 0, _, _ => by rw [dv]; decide
  | j + 1, h1, h2 => by
    have a := dv_lt hd j (by omega) (by omega)
    have b := isDg_iff.mp (hd j (by omega) (by omega))
    rw [dv, Nat.pow_succ]
    omega
theorem nm_pr (h : isDg T q = true) : (deE T q ≤ q + 5 ∧ nm T q = (dv T q (deE T q - q) : Int) ∧ dv T q (deE T q - q) ≤ 99999) ∨ (q + 5 < deE T q ∧ nm T q = -1) := by
  have e := deE_lt h
  unfold nm
  rw [if_pos h]
  by_cases c : deE T q ≤ q + 5
  · left
    rw [if_pos c]
    refine ⟨c, rfl, ?_⟩
    have a := dv_lt (T := T) (q := q) (fun j _ h2 => run_in (by omega) h2) (deE T q - q) (by omega) (by omega)
    have b : 10 ^ (deE T q - q) ≤ 10 ^ 5 := Nat.pow_le_pow_right (by decide) (by omega)
    have : (10 : Nat) ^ 5 = 100000 := by decide
    omega
  · right
    rw [if_neg c]
    exact ⟨by omega, rfl⟩
theorem nm_rng : -1 ≤ nm T q ∧ nm T q ≤ 99999 := by
  cases h : isDg T q with
  | true =>
    rcases nm_pr h with ⟨-, a, b⟩ | ⟨-, a⟩ <;> omega
  | false =>
    unfold nm
    rw [if_neg (by rw [h]; decide)]
    omega
end

/-! The street as numbers; rain, dryness, owners by tallies, as the class has them. -/
abbrev sT : Type := (Nat → Nat) × (Nat → Nat) × (Nat → Nat) × (Nat → Nat) × (Nat → Nat) × (Nat → Nat)
def sDry (S : sT) : Nat := S.1 0
def sPart (S : sT) : Nat := S.1 1
def sCost (S : sT) : Nat := S.1 2
def sTh (S : sT) : Nat := S.1 3
def sCe (S : sT) : Nat := S.1 4
def sPa (S : sT) : Nat := S.1 5
def sSuit (S : sT) : Nat := S.1 6
def sRa (S : sT) : Nat := S.1 7
def sFi (S : sT) (t : Nat) : Nat := S.2.1 t
def sRe (S : sT) (t : Nat) : Nat := S.2.2.1 t
def sCo (S : sT) (q : Nat) : Nat := S.2.2.2.1 q
def sRf (S : sT) (k : Nat) : Nat := S.2.2.2.2.1 k
def sRt (S : sT) (k : Nat) : Nat := S.2.2.2.2.2 k
def okS (S : sT) : Prop := (sDry S ≤ 9 ∧ sPart S ≤ 100 ∧ sCost S ≤ 9 ∧ sTh S ≤ 4 ∧ sCe S ≤ 16 ∧ sPa S ≤ 4 ∧ sSuit S ≤ 1 ∧ sRa S ≤ 5) ∧ (sFi S 0 = 0 ∧ sFi S (sTh S) = sCe S ∧ ∀ t, t < sTh S → sFi S t < sFi S (t + 1) ∧ sFi S (t + 1) ≤ sFi S t + 6 ∧ sFi S (t + 1) ≤ sCe S ∧ sRe S t ≤ 20) ∧ (∀ q, q < sPa S → sCo S q ≤ 8) ∧ ∀ k, k < sRa S → sRf S k ≤ 199 ∧ sRt S k ≤ 199
/-- the class's street at place s tells S -/
def cS (I : Nat → Nat → Int32) (s : Nat) (S : sT) : Prop :=
  (I s 0 = bI (decide (0 < sDry S)) ∧ I s 1 = nI (sDry S) ∧ I s 2 = nI (sPart S) ∧ I s 3 = nI (sCost S) ∧ I s 4 = nI (sSuit S) ∧ I s 5 = nI (sTh S) ∧ I s 6 = nI (sCe S) ∧ I s 7 = nI (sPa S) ∧ I s 8 = nI (sRa S)) ∧
  (∀ t, t < sTh S → I (s + 1) t = nI (sFi S t) ∧ I (s + 2) t = nI (sFi S (t + 1) - sFi S t) ∧ I (s + 3) t = nI (sRe S t) ∧ ∀ c, sFi S t ≤ c → c < sFi S (t + 1) → I (s + 4) c = nI t) ∧
  (∀ q, q < sPa S → I (s + 5) q = nI (sCo S q)) ∧ ∀ k, k < sRa S → I (s + 6) k = nI (sRf S k) ∧ I (s + 7) k = nI (sRt S k)
def rainF (S : sT) (h : Nat) : Nat → Nat → Bool
  | 0, _ => false
  | n + 1, k => (decide (sRf S k ≤ h) && decide (h ≤ sRt S k)) || rainF S h n (k + 1)
def rainS (S : sT) (h : Nat) : Bool := rainF S h (sRa S) 0
theorem rainsIn_go {I : Nat → Nat → Int32} {s : Nat} {S : sT} (C : cS I s S) (O : okS S) {h : Nat} (hh : h < 100000) : ∀ (f n k : Nat), n < f → n + k = sRa S → mX7_rainsIn_2 I f s (nI h) (nI k) = some (bI (rainF S h n k))
  | 0, n, k, h1, _ => absurd h1 (by omega)
  | f + 1, n, k, h1, h2 => by
    have o1 := O.1
    rw [mX7_rainsIn_2, C.1.2.2.2.2.2.2.2.2]
    cases n with
    | zero => rw [if_pos ((nLe (by omega) (by omega)).mpr (by omega))]; rfl
    | succ n =>
      have hk : k < sRa S := by omega
      have ck := C.2.2.2 k hk
      have ok := O.2.2.2 k hk
      rw [if_neg (fun c => absurd ((nLe (by omega) (by omega)).mp c) (by omega)), if_pos (nIn (by omega) (by omega)), nIx (by omega), ck.1, ck.2, if_pos (nIn (by omega) (by omega)), nI_1, rainsIn_go C O hh f n (k + 1) (by omega) (by omega), rainF]
      by_cases q1 : sRf S k ≤ h
      · rw [if_neg (fun c => absurd ((nLt (by omega) (by omega)).mp c) (by omega))]
        by_cases q2 : h ≤ sRt S k
        · rw [if_neg (fun c => absurd ((nLt (by omega) (by omega)).mp c) (by omega))]
          simp [q1, q2, bI]
        · rw [if_pos ((nLt (by omega) (by omega)).mpr (by omega))]
          simp [q2]
      · rw [if_pos ((nLt (by omega) (by omega)).mpr (by omega))]
        simp [q1]
theorem rainsIn_ok {I : Nat → Nat → Int32} {s : Nat} {S : sT} (C : cS I s S) (O : okS S) {h : Nat} (hh : h < 100000) : mX7_rainsIn I s (nI h) = some (bI (rainS S h)) := rainsIn_go C O hh xf (sRa S) 0 (by have := O.1; unfold xf; omega) (by omega)
/-- what n hours in which nobody paints leave -/
def washR (S : sT) (l : List Nat) (h : Nat) : List Nat := if rainS S h then washL (sDry S) l h else l
def afterL (S : sT) : Nat → Nat → List Nat → List Nat
  | 0, _, l => l
  | n + 1, h, l => afterL S n (h + 1) (washR S l h)
theorem washR_ok (S : sT) {l : List Nat} (h : Nat) (hl : okC l) : okC (washR S l h) := by
  unfold washR
  cases rainS S h with
  | true => exact washL_ok _ h hl
  | false => exact hl
theorem afterL_ok (S : sT) : ∀ (n h : Nat) {l : List Nat}, okC l → okC (afterL S n h l)
  | 0, _, _, hl => hl
  | n + 1, h, _, hl => afterL_ok S n (h + 1) (washR_ok S h hl)
theorem afterRain_go {I : Nat → Nat → Int32} {s : Nat} {S : sT} (C : cS I s S) (O : okS S) {h N : Nat} (hh : h + N < 100000) : ∀ (f n k : Nat) (l : List Nat), n < f → n + k = N → okC l → mX7_afterRain_6 I f s (nI h) (nI N) (lN (enc l)) (nI k) = some (lN (enc (afterL S n (h + k) l)))
  | 0, n, k, l, h1, _, _ => absurd h1 (by omega)
  | f + 1, n, k, l, h1, h2, hl => by
    rw [mX7_afterRain_6]
    cases n with
    | zero => rw [if_pos ((nLe (by omega) (by omega)).mpr (by omega))]; rfl
    | succ n =>
      rw [if_neg (fun c => absurd ((nLe (by omega) (by omega)).mp c) (by omega)), nAdd, rainsIn_ok C O (by omega), Option.bind_some, washed_ok C.1.2.1 (by have := O.1; omega) hl (by omega), Option.bind_some, nI_1, afterL, washR]
      cases hr : rainS S (h + k) with
      | true => rw [if_neg ((bI_ne _).mpr rfl), if_pos rfl, afterRain_go C O hh f n (k + 1) _ (by omega) (by omega) (washL_ok _ _ hl)]; rfl
      | false => rw [if_pos ((bI_0 _).mpr rfl), if_neg (by decide), afterRain_go C O hh f n (k + 1) _ (by omega) (by omega) hl]; rfl
theorem afterRain_ok {I : Nat → Nat → Int32} {s : Nat} {S : sT} (C : cS I s S) (O : okS S) {h n : Nat} (hh : h + n < 100000) {l : List Nat} (hl : okC l) : mX7_afterRain I s (lN (enc l)) (nI h) (nI n) = some (lN (enc (afterL S n h l))) := afterRain_go C O hh xf n 0 l (by unfold xf; omega) (by omega) hl
/-- the coats painted in hours ahead of one -/
def aheadL : List Nat → Nat → List Nat
  | [], _ => []
  | c :: l, h => if h + 2 ≤ c / 4 then aheadL l h else c :: l
theorem aheadOf_go {l : List Nat} (h : okC l) {hr : Nat} (hh : hr < 100000) : ∀ (f k : Nat), 5 < f + k → k ≤ 5 → mX0_aheadOf_2 f (lN (enc l)) (nI hr) (nI k) = some (lN (enc (aheadL (l.drop k) hr)))
  | 0, k, h1, h2 => absurd h1 (by omega)
  | f + 1, k, h1, h2 => by
    have h5 := h.1
    rw [mX0_aheadOf_2, li5]
    by_cases e5 : 5 ≤ k
    · rw [if_pos ((nLe (by omega) (by omega)).mpr e5), List.drop_eq_nil_of_le (by omega)]
      rfl
    · rw [if_neg (fun c => e5 ((nLe (by omega) (by omega)).mp c)), without_ok h (by omega), Option.bind_some, nI_1, aheadOf_go h hh f (k + 1) (by omega) (by omega)]
      have hk := okC_drop h k
      cases e : l.drop k with
      | nil =>
        rw [if_pos ((lenc_0 okC_nil).mpr rfl)]; rfl
      | cons c r =>
        rw [e] at hk
        have er : l.drop (k + 1) = r := by rw [← List.tail_drop, e]; rfl
        have hc := hk.2 c List.mem_cons_self
        rw [er, aheadL, if_neg (fun q => nomatch (lenc_0 hk).mp q), topH_ok hk, Option.bind_some, nz hr]
        have e1 : zI (hr : Int) ≤ zI (topH (c :: r)) ↔ hr + 2 ≤ c / 4 := by
          rw [zI_le (by omega) (by omega) (by simp only [topH]; omega) (by simp only [topH]; omega)]
          simp only [topH]
          omega
        by_cases q : hr + 2 ≤ c / 4
        · rw [if_pos (e1.mpr q), if_pos q]
        · rw [if_neg (fun w => q (e1.mp w)), if_neg q]
theorem aheadOf_ok {l : List Nat} (h : okC l) {hr : Nat} (hh : hr < 100000) : mX0_aheadOf (lN (enc l)) (nI hr) = some (lN (enc (aheadL l hr))) := aheadOf_go h hh xf 0 (by unfold xf; omega) (by omega)
theorem aheadL_ok : ∀ {l : List Nat} (hr : Nat), okC l → okC (aheadL l hr)
  | [], _, h => h
  | c :: l, hr, h => by
    rw [aheadL]
    by_cases q : hr + 2 ≤ c / 4
    · rw [if_pos q]; exact aheadL_ok hr ⟨by have := h.1; simp at this ⊢; omega, fun x hx => h.2 x (List.mem_cons_of_mem _ hx)⟩
    · rw [if_neg q]; exact h

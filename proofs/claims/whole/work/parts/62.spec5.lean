/-! What acts and hours do to a state. -/
def updF {α : Type} (f : Nat → α) (k : Nat) (v : α) : Nat → α := fun j => if j = k then v else f j
theorem updF_s {α : Type} {f : Nat → α} {k : Nat} {v : α} : updF f k v k = v := if_pos rfl
theorem updF_n {α : Type} {f : Nat → α} {k j : Nat} {v : α} (h : j ≠ k) : updF f k v j = f j := if_neg h
def coA (A : aT) (c : Nat) (l : List Nat) : aT := (updF A.1 c l, A.2)
def puA (A : aT) (q n : Nat) : aT := (A.1, updF A.2.1 q n, A.2.2)
def hrA (A : aT) (h : Nat) : aT := (A.1, A.2.1, h, A.2.2.2)
def putA (S : sT) (A : aT) (c q : Nat) : aT := puA (coA A c (putC (A.1 c) q A.2.2.1)) q (A.2.1 q - sCost S)
def washA (S : sT) (A : aT) : aT := (fun c => washL (sDry S) (A.1 c) A.2.2.1, A.2)
theorem okA_co {S : sT} {A : aT} (hA : okA S A) {c : Nat} {l : List Nat} (hl : okC l) (hp : ∀ x ∈ l, x % 4 < sPa S) (hb : ∀ t, t < sTh S → A.2.2.2.testBit t = true → sFi S t ≤ c → c < sFi S (t + 1) → l = []) : okA S (coA A c l) := by
  refine ⟨fun d hd => ?_, hA.2.1, hA.2.2.1, fun t ht hB d h1 h2 => ?_⟩
  · by_cases e : d = c
    · subst e
      show okC (updF A.1 d l d) ∧ ∀ x ∈ updF A.1 d l d, _
      rw [updF_s]
      exact ⟨hl, hp⟩
    · show okC (updF A.1 c l d) ∧ ∀ x ∈ updF A.1 c l d, _
      rw [updF_n e]
      exact hA.1 d hd
  · by_cases e : d = c
    · subst e
      show updF A.1 d l d = []
      rw [updF_s]
      exact hb t ht hB h1 h2
    · show updF A.1 c l d = []
      rw [updF_n e]
      exact hA.2.2.2 t ht hB d h1 h2
theorem okA_pu {S : sT} {A : aT} (hA : okA S A) {q n : Nat} (h : n ≤ 999) : okA S (puA A q n) := by
  refine ⟨hA.1, fun p hp => ?_, hA.2.2.1, hA.2.2.2⟩
  show updF A.2.1 q n p ≤ 999
  by_cases e : p = q
  · subst e; rw [updF_s]; exact h
  · rw [updF_n e]; exact hA.2.1 p hp
theorem okA_hr {S : sT} {A : aT} (hA : okA S A) (h : Nat) : okA S (hrA A h) := hA
theorem washL_mem {dry : Nat} : ∀ {l : List Nat} {hr x : Nat}, x ∈ washL dry l hr → x ∈ l
  | [], _, _, h => h
  | c :: l, hr, x, h => by
    rw [washL] at h
    cases hw : wetL dry (c :: l) hr with
    | true => rw [hw] at h; exact List.mem_cons_of_mem _ (washL_mem h)
    | false => rw [hw] at h; exact h
theorem okA_wash {S : sT} {A : aT} (hA : okA S A) : okA S (washA S A) :=
  ⟨fun c hc => ⟨washL_ok _ _ (hA.1 c hc).1, fun x hx => (hA.1 c hc).2 x (washL_mem hx)⟩, hA.2.1, hA.2.2.1, fun t ht hB c h1 h2 => by
    show washL _ (A.1 c) _ = []
    rw [hA.2.2.2 t ht hB c h1 h2]; rfl⟩
theorem putC_mem {l : List Nat} {q hr n x : Nat} (hq : q < 4) (hn : q < n) (hl : ∀ y ∈ l, y % 4 < n) (h : x ∈ putC l q hr) : x % 4 < n := by
  rcases List.mem_cons.mp (List.mem_of_mem_take h) with rfl | h
  · omega
  · exact hl x h
theorem thOf_in {S : sT} (O : okS S) {c t : Nat} (ht : t < sTh S) (h1 : sFi S t ≤ c) (h2 : c < sFi S (t + 1)) : t = thOf S c := (thOf_eq O ht h1 h2).symm
theorem okA_put1 {S : sT} {A : aT} (O : okS S) (hA : okA S A) {c q : Nat} (hc : c < sCe S) (hq : q < sPa S) (hh : A.2.2.1 < 1000) (hb : A.2.2.2.testBit (thOf S c) = false) : okA S (coA A c (putC (A.1 c) q A.2.2.1)) := by
  have o1 := O.1
  refine okA_co hA (putC_ok (hA.1 c hc).1 (by omega) hh) (fun x hx => putC_mem (by omega) hq (hA.1 c hc).2 hx) (fun t ht hB h1 h2 => ?_)
  rw [thOf_in O ht h1 h2, hb] at hB
  exact absurd hB (by decide)
theorem okA_put {S : sT} {A : aT} (O : okS S) (hA : okA S A) {c q : Nat} (hc : c < sCe S) (hq : q < sPa S) (hh : A.2.2.1 < 1000) (hb : A.2.2.2.testBit (thOf S c) = false) : okA S (putA S A c q) :=
  okA_pu (okA_put1 O hA hc hq hh hb) (by have := hA.2.1 q hq; omega)
def payF (S : sT) (own : Nat → Int) : Nat → Nat → (Nat → Nat) → (Nat → Nat) → (Nat → Nat) × (Nat → Nat)
  | 0, _, p, g => (p, g)
  | n + 1, t, p, g => if own t < 0 then payF S own n (t + 1) p g else payF S own n (t + 1) (updF p (own t).toNat (min 999 (p (own t).toNat + sRe S t))) (updF g (own t).toNat (g (own t).toNat + sRe S t))
/-- rain, and an hour more -/
def dryA (S : sT) (A : aT) : aT := hrA (if rainS S A.2.2.1 then washA S A else A) (A.2.2.1 + 1)
/-- the end of an hour: the state, what was got in all -/
def endsA (S : sT) (A : aT) (g : Nat → Nat) : aT × (Nat → Nat) :=
  if (A.2.2.1 + 1) % 24 = 12 then (((dryA S A).1, (payF S (fun t => ownT S (dryA S A) t (sPart S)) (sTh S) 0 (dryA S A).2.1 g).1, (dryA S A).2.2), (payF S (fun t => ownT S (dryA S A) t (sPart S)) (sTh S) 0 (dryA S A).2.1 g).2) else (dryA S A, g)
theorem payF_le {S : sT} {own : Nat → Int} {N : Nat} : ∀ (n t : Nat) (p g : Nat → Nat), (∀ q, q < N → p q ≤ 999) → ∀ q, q < N → (payF S own n t p g).1 q ≤ 999
  | 0, _, _, _, h, q, hq => h q hq
  | n + 1, t, p, g, h, q, hq => by
    rw [payF]
    split
    · exact payF_le n (t + 1) p g h q hq
    · refine payF_le n (t + 1) _ _ (fun j hj => ?_) q hq
      by_cases e : j = (own t).toNat
      · rw [e, updF_s]; omega
      · rw [updF_n e]; exact h j hj
theorem okA_dry {S : sT} {A : aT} (hA : okA S A) : okA S (dryA S A) := by
  unfold dryA
  split
  · exact okA_wash hA
  · exact hA
theorem okA_ends {S : sT} {A : aT} (hA : okA S A) (g : Nat → Nat) : okA S (endsA S A g).1 := by
  unfold endsA
  split
  · exact ⟨(okA_dry hA).1, fun q hq => payF_le _ _ _ _ (okA_dry hA).2.1 q hq, (okA_dry hA).2.2.1, (okA_dry hA).2.2.2⟩
  · exact okA_dry hA
theorem dryA_hr (S : sT) (A : aT) : (dryA S A).2.2.1 = A.2.2.1 + 1 := rfl
theorem dryA_b (S : sT) (A : aT) : (dryA S A).2.2.2 = A.2.2.2 := by
  unfold dryA
  split <;> rfl
theorem endsA_hr (S : sT) (A : aT) (g : Nat → Nat) : (endsA S A g).1.2.2.1 = A.2.2.1 + 1 := by
  unfold endsA
  split <;> rfl
theorem endsA_b (S : sT) (A : aT) (g : Nat → Nat) : (endsA S A g).1.2.2.2 = A.2.2.2 := by
  unfold endsA
  split <;> exact dryA_b S A
theorem cntF_zero {own : Nat → Int} {q : Nat} : ∀ (n k : Nat), (∀ j, k ≤ j → j < k + n → own j = -1) → cntF own q n k = 0
  | 0, _, _ => rfl
  | n + 1, k, h => by rw [cntF, h k (by omega) (by omega), if_neg (by omega), cntF_zero n (k + 1) (fun j h1 h2 => h j (by omega) (by omega))]
theorem ownC_zero {cnt : Nat → Nat} (h : ∀ q, cnt q = 0) (n cells part : Nat) : ownC cnt n cells part = -1 := by
  unfold ownC
  have z := obF_zero (cnt := cnt) n 0 (-1) 0 (fun j _ _ => h j) (Or.inl rfl)
  rw [z.1]
  split <;> rfl
theorem ownT_bare {S : sT} {A : aT} (hA : okA S A) {t : Nat} (ht : t < sTh S) (hb : A.2.2.2.testBit t = true) (part : Nat) : ownT S A t part = -1 := by
  unfold ownT
  refine ownC_zero (fun q => cntF_zero _ _ (fun j h1 h2 => ?_)) _ _ _
  unfold ownA
  rw [hA.2.2.2 t ht hb j h1 (by omega)]
  rfl
theorem cntF_zero2 {own : Nat → Int} {q : Nat} : ∀ (n k : Nat), (∀ j, k ≤ j → j < k + n → own j ≠ q) → cntF own q n k = 0
  | 0, _, _ => rfl
  | n + 1, k, h => by rw [cntF, if_neg (h k (by omega) (by omega)), cntF_zero2 n (k + 1) (fun j h1 h2 => h j (by omega) (by omega))]
theorem cntT_zero {S : sT} {A : aT} (O : okS S) (hA : okA S A) {t : Nat} (ht : t < sTh S) {q : Nat} (hq : sPa S ≤ q) : cntT S A t q = 0 := by
  have ot := O.2.1.2.2 t ht
  refine cntF_zero2 _ _ (fun j h3 h4 => ?_)
  rcases ownL_rng (sSuit S) (sDry S) (sPa S) (A.1 j) A.2.2.1 (hA.1 j (by omega)).2 with h | ⟨p, h5, h6⟩
  · show ownL (sSuit S) (sDry S) (A.1 j) A.2.2.1 ≠ _
    rw [h]; omega
  · show ownL (sSuit S) (sDry S) (A.1 j) A.2.2.1 ≠ _
    rw [h6]; omega
theorem ownT_rng {S : sT} {A : aT} (O : okS S) (hA : okA S A) {t : Nat} (ht : t < sTh S) (part : Nat) : ownT S A t part = -1 ∨ ∃ q : Nat, q < sPa S ∧ ownT S A t part = q := by
  have o1 := O.1
  have ot := O.2.1.2.2 t ht
  unfold ownT
  have e : ownC (cntT S A t) 4 (sFi S (t + 1) - sFi S t) part = ownC (cntT S A t) (sPa S) (sFi S (t + 1) - sFi S t) part := by
    unfold ownC
    rw [obF_cut (cnt := cntT S A t) (n := sPa S) (by omega) (fun q h1 h2 => cntT_zero O hA ht h1)]
  rw [e]
  exact ownC_rng _ _ _ _

/-! What the street says of a cell's coats: wet, owner, washed, as the class has it. -/
theorem nz (n : Nat) : nI n = zI (n : Int) := (zI_nat n).symm
def wetL (dry : Nat) (l : List Nat) (hr : Nat) : Bool := match l with
  | [] => false
  | c :: _ => !(c / 4 == 1) && decide (hr + 2 < c / 4 + dry)
theorem isWet_ok {I : Nat → Nat → Int32} {s dry : Nat} (hd : I s 1 = nI dry) (hd2 : dry < 100) {l : List Nat} (h : okC l) {hr : Nat} (hh : hr < 100000) : mX7_isWet I s (lN (enc l)) (nI hr) = some (bI (wetL dry l hr)) := by
  unfold mX7_isWet
  cases l with
  | nil => rw [if_pos ((lenc_0 h).mpr rfl)]; rfl
  | cons c l =>
    have hc := h.2 c List.mem_cons_self
    rw [if_neg (fun e => nomatch (lenc_0 h).mp e), topH_ok h, Option.bind_some, hd, lm1, nz hr, zI_sub, nz dry]
    have e1 : zI (topH (c :: l)) = zI (-1) ↔ c / 4 = 1 := by
      rw [zI_eq (by simp only [topH]; omega) (by simp only [topH]; omega) (by omega) (by omega)]
      simp only [topH]
      omega
    have e2 : zI (dry : Int) ≤ zI ((hr : Int) - topH (c :: l)) ↔ ¬ hr + 2 < c / 4 + dry := by
      rw [zI_le (by omega) (by omega) (by simp only [topH]; omega) (by simp only [topH]; omega)]
      simp only [topH]
      omega
    by_cases q1 : c / 4 = 1
    · rw [if_pos (e1.mpr q1)]
      simp [wetL, q1, bI]
    · rw [if_neg (fun e => q1 (e1.mp e))]
      by_cases q2 : hr + 2 < c / 4 + dry
      · rw [if_neg (fun e => (e2.mp e) q2)]
        simp [wetL, q1, q2, bI]
      · rw [if_pos (e2.mpr q2)]
        simp [wetL, q1, q2, bI]
def washL (dry : Nat) : List Nat → Nat → List Nat
  | [], _ => []
  | c :: l, hr => if wetL dry (c :: l) hr then washL dry l hr else c :: l
def ownL (suit dry : Nat) : List Nat → Nat → Int
  | [], _ => -1
  | c :: l, hr => if wetL dry (c :: l) hr then (if suit = 0 then ownL suit dry l hr else -1) else ((c % 4 : Nat) : Int)
theorem washed_go {I : Nat → Nat → Int32} {s dry : Nat} (hd : I s 1 = nI dry) (hd2 : dry < 100) {l : List Nat} (h : okC l) {hr : Nat} (hh : hr < 100000) : ∀ (f k : Nat), 5 < f + k → k ≤ 5 → mX7_washed_3 I f s (lN (enc l)) (nI hr) (nI k) = some (lN (enc (washL dry (l.drop k) hr)))
  | 0, k, h1, h2 => absurd h1 (by omega)
  | f + 1, k, h1, h2 => by
    have h5 := h.1
    rw [mX7_washed_3, li5]
    by_cases e5 : 5 ≤ k
    · rw [if_pos ((nLe (by omega) (by omega)).mpr e5), List.drop_eq_nil_of_le (by omega)]
      rfl
    · rw [if_neg (fun c => e5 ((nLe (by omega) (by omega)).mp c)), without_ok h (by omega), Option.bind_some, isWet_ok hd hd2 (okC_drop h k) hh, Option.bind_some, nI_1, washed_go hd hd2 h hh f (k + 1) (by omega) (by omega)]
      cases e : l.drop k with
      | nil => rw [if_pos (show bI (wetL dry [] hr) = 0 from rfl)]; rfl
      | cons c r =>
        have er : l.drop (k + 1) = r := by rw [← List.tail_drop, e]; rfl
        rw [er, washL]
        cases hw : wetL dry (c :: r) hr with
        | false => rw [if_pos ((bI_0 _).mpr rfl)]; rfl
        | true => rw [if_neg ((bI_ne _).mpr rfl)]; rfl
theorem washed_ok {I : Nat → Nat → Int32} {s dry : Nat} (hd : I s 1 = nI dry) (hd2 : dry < 100) {l : List Nat} (h : okC l) {hr : Nat} (hh : hr < 100000) : mX7_washed I s (lN (enc l)) (nI hr) = some (lN (enc (washL dry l hr))) := washed_go hd hd2 h hh xf 0 (by unfold xf; omega) (by omega)
theorem ownerOf_go {I : Nat → Nat → Int32} {s dry suit : Nat} (hd : I s 1 = nI dry) (hd2 : dry < 100) (hs : I s 4 = nI suit) (hs2 : suit < 2) {l : List Nat} (h : okC l) {hr : Nat} (hh : hr < 100000) : ∀ (f k : Nat), 5 < f + k → k ≤ 5 → mX7_ownerOf_3 I f s (lN (enc l)) (nI hr) (nI k) = some (zI (ownL suit dry (l.drop k) hr))
  | 0, k, h1, h2 => absurd h1 (by omega)
  | f + 1, k, h1, h2 => by
    have h5 := h.1
    rw [mX7_ownerOf_3, li5]
    by_cases e5 : 5 ≤ k
    · rw [if_pos ((nLe (by omega) (by omega)).mpr e5), List.drop_eq_nil_of_le (by omega)]
      rfl
    · rw [if_neg (fun c => e5 ((nLe (by omega) (by omega)).mp c)), without_ok h (by omega), Option.bind_some, isWet_ok hd hd2 (okC_drop h k) hh, Option.bind_some, nI_1, ownerOf_go hd hd2 hs hs2 h hh f (k + 1) (by omega) (by omega), topP_ok (okC_drop h k), Option.bind_some, hs]
      cases e : l.drop k with
      | nil => rw [if_pos (show bI (wetL dry [] hr) = 0 from rfl)]; rfl
      | cons c r =>
        have er : l.drop (k + 1) = r := by rw [← List.tail_drop, e]; rfl
        rw [er, ownL]
        cases hw : wetL dry (c :: r) hr with
        | false => rw [if_pos ((bI_0 _).mpr rfl)]; rfl
        | true =>
          rw [if_neg ((bI_ne _).mpr rfl), if_pos rfl]
          rcases (show suit = 0 ∨ suit = 1 by omega) with rfl | rfl
          · rfl
          · rw [if_neg (by decide), if_neg (by decide)]; rfl
theorem ownerOf_ok {I : Nat → Nat → Int32} {s dry suit : Nat} (hd : I s 1 = nI dry) (hd2 : dry < 100) (hs : I s 4 = nI suit) (hs2 : suit < 2) {l : List Nat} (h : okC l) {hr : Nat} (hh : hr < 100000) : mX7_ownerOf I s (lN (enc l)) (nI hr) = some (zI (ownL suit dry l hr)) := ownerOf_go hd hd2 hs hs2 h hh xf 0 (by unfold xf; omega) (by omega)
theorem washL_ok (dry : Nat) : ∀ {l : List Nat} (hr : Nat), okC l → okC (washL dry l hr)
  | [], _, h => h
  | c :: l, hr, h => by
    rw [washL]
    cases wetL dry (c :: l) hr with
    | true => exact washL_ok dry hr ⟨by have := h.1; simp at this ⊢; omega, fun x hx => h.2 x (List.mem_cons_of_mem _ hx)⟩
    | false => exact h

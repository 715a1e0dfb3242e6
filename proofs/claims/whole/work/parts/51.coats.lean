/-! The coats of a cell: a list of codes, the top one first; as one long, and as the reference's rows. -/
theorem lN_bv {n : Nat} (h : n < 2 ^ 64) : (lN n).toBitVec.toNat = n := Nat.mod_eq_of_lt h
theorem lN_self (x : Int64) : lN x.toBitVec.toNat = x := Int64.toBitVec_inj.mp (BitVec.eq_of_toNat_eq (Nat.mod_eq_of_lt x.toBitVec.isLt))
theorem lN_of {x : Int64} {n : Nat} (h : x.toBitVec.toNat = n) : x = lN n := by rw [← h, lN_self]
theorem lN_eqI {a b : Nat} (ha : a < 2 ^ 64) (hb : b < 2 ^ 64) : lN a = lN b ↔ a = b := ⟨fun e => by rw [← lN_bv ha, ← lN_bv hb, e], fun e => by rw [e]⟩
theorem lN_and (a b : Nat) : lN a &&& lN b = lN (a &&& b) := by
  refine lN_of ?_ |>.trans (lN_of (n := (a % 2 ^ 64) &&& (b % 2 ^ 64)) ?_).symm
  · rw [Int64.toBitVec_and, BitVec.toNat_and]; rfl
  · show (a &&& b) % 2 ^ 64 = _
    rw [Nat.and_mod_two_pow]
theorem lN_or (a b : Nat) : lN a ||| lN b = lN (a ||| b) := by
  refine lN_of ?_ |>.trans (lN_of (n := (a % 2 ^ 64) ||| (b % 2 ^ 64)) ?_).symm
  · rw [Int64.toBitVec_or, BitVec.toNat_or]; rfl
  · show (a ||| b) % 2 ^ 64 = _
    rw [Nat.or_mod_two_pow]
theorem sh64u : ∀ s, s < 64 → ((nI s).toInt64.toUInt64 &&& Int64.toUInt64 63).toNat % 64 = s := by decide +kernel
theorem sh64l : ∀ s, s < 64 → (((nI s).toInt64 &&& 63).toBitVec.smod 64).toNat = s := by decide +kernel
theorem lN_ushr {v s : Nat} (hv : v < 2 ^ 64) (hs : s < 64) : xlushr (lN v) (nI s) = lN (v / 2 ^ s) := by
  refine lN_of ?_
  show (((lN v).toUInt64 >>> ((nI s).toInt64.toUInt64 &&& Int64.toUInt64 63))).toNat = _
  rw [UInt64.toNat_shiftRight, sh64u s hs, Nat.shiftRight_eq_div_pow]
  exact congrArg (· / 2 ^ s) (lN_bv hv)
theorem lN_shl {v s : Nat} (hv : v < 2 ^ 64) (hs : s < 64) : xlshl (lN v) (nI s) = lN (v * 2 ^ s) := by
  refine (lN_of (n := v * 2 ^ s % 2 ^ 64) ?_).trans (lN_of (n := v * 2 ^ s % 2 ^ 64) rfl).symm
  show ((lN v) <<< ((nI s).toInt64 &&& 63)).toBitVec.toNat = _
  rw [Int64.toBitVec_shiftLeft, BitVec.shiftLeft_eq', BitVec.toNat_shiftLeft, sh64l s hs, lN_bv hv, Nat.shiftLeft_eq]
theorem lg_0 (x : Int64) : lg_cmp x 0 = 0 ↔ x = 0 := by
  unfold lg_cmp
  by_cases h : x > 0
  · rw [if_pos h]
    refine ⟨fun c => absurd c (by decide), fun c => ?_⟩
    subst c
    exact absurd h (by decide)
  · rw [if_neg h]
    by_cases h2 : x = 0
    · rw [if_pos h2]; exact ⟨fun _ => h2, fun _ => rfl⟩
    · rw [if_neg h2]; exact ⟨fun c => absurd c (by decide), fun c => absurd c h2⟩
def enc : List Nat → Nat
  | [] => 0
  | c :: l => c + 4096 * enc l
/-- at most five coats; each code is 4 * (hour + 2) + painter -/
def okC (l : List Nat) : Prop := l.length ≤ 5 ∧ ∀ c ∈ l, 4 ≤ c ∧ c < 4096
theorem okC_nil : okC [] := ⟨by decide, fun c h => absurd h List.not_mem_nil⟩
theorem enc_lt : ∀ {l : List Nat}, (∀ c ∈ l, 4 ≤ c ∧ c < 4096) → enc l < 4096 ^ l.length
  | [], _ => by decide
  | c :: l, h => by
    have h1 := (h c List.mem_cons_self).2
    have h2 := enc_lt (l := l) (fun x hx => h x (List.mem_cons_of_mem _ hx))
    rw [enc, List.length_cons, Nat.pow_succ]
    omega
theorem enc_60 {l : List Nat} (h : okC l) : enc l < 2 ^ 60 := by
  have h1 := enc_lt h.2
  have h2 : 4096 ^ l.length ≤ 4096 ^ 5 := Nat.pow_le_pow_right (by decide) h.1
  have h3 : (4096 : Nat) ^ 5 = 2 ^ 60 := by decide
  omega
theorem enc_drop : ∀ (k : Nat) {l : List Nat}, (∀ c ∈ l, 4 ≤ c ∧ c < 4096) → enc l / 2 ^ (12 * k) = enc (l.drop k)
  | 0, l, _ => by rw [Nat.mul_zero, Nat.pow_zero, Nat.div_one, List.drop_zero]
  | k + 1, [], _ => by rw [List.drop_nil, enc, Nat.zero_div]
  | k + 1, c :: l, h => by
    have h1 := (h c List.mem_cons_self).2
    rw [List.drop_succ_cons, ← enc_drop k (fun x hx => h x (List.mem_cons_of_mem _ hx)), enc, show 12 * (k + 1) = 12 + 12 * k by omega, Nat.pow_add, ← Nat.div_div_eq_div_mul]
    congr 1
    rw [show (2 : Nat) ^ 12 = 4096 by decide]
    omega
theorem enc_0 : ∀ {l : List Nat}, (∀ c ∈ l, 4 ≤ c ∧ c < 4096) → (enc l = 0 ↔ l = [])
  | [], _ => ⟨fun _ => rfl, fun _ => rfl⟩
  | c :: l, h => by
    have h1 := (h c List.mem_cons_self).1
    rw [enc]
    exact ⟨fun e => absurd e (by omega), fun e => by cases e⟩
theorem okC_drop {l : List Nat} (h : okC l) (k : Nat) : okC (l.drop k) := ⟨by rw [List.length_drop]; have := h.1; omega, fun c hc => h.2 c (List.mem_of_mem_drop hc)⟩
theorem okC_take {l : List Nat} (h : ∀ c ∈ l, 4 ≤ c ∧ c < 4096) : okC (l.take 5) := ⟨by rw [List.length_take]; omega, fun c hc => h c (List.mem_of_mem_take hc)⟩
theorem without_ok {l : List Nat} (h : okC l) {k : Nat} (hk : k < 2147483648) : mX0_without (lN (enc l)) (nI k) = some (lN (enc (l.drop k))) := by
  unfold mX0_without
  rw [li5, show (0 : Int32) = nI 0 from rfl, if_neg (by rw [nLt (by omega) (by omega)]; omega)]
  have h60 := enc_60 h
  by_cases h5 : k < 5
  · rw [if_pos ((nLt (by omega) (by omega)).mpr h5), li12, nMul, lN_ushr (by omega) (by omega), show k * 12 = 12 * k by omega, enc_drop k h.2]
  · rw [if_neg (fun c => h5 ((nLt (by omega) (by omega)).mp c)), List.drop_eq_nil_of_le (by have := h.1; omega)]
    rfl
theorem lenc_0 {l : List Nat} (h : okC l) : lg_cmp (lN (enc l)) 0 = 0 ↔ l = [] := by
  have h60 := enc_60 h
  rw [lg_0, show (0 : Int64) = lN 0 from rfl, lN_eqI (by omega) (by omega), enc_0 h.2]
theorem height_go {l : List Nat} (h : okC l) : ∀ (f k : Nat), l.length < f + k → k ≤ l.length → mX0_height_2 f (lN (enc l)) (nI k) = some (nI l.length)
  | 0, k, h1, h2 => absurd h1 (by omega)
  | f + 1, k, h1, h2 => by
    have h5 := h.1
    have h60 := enc_60 h
    rw [mX0_height_2, li5, li12, nMul]
    by_cases e5 : 5 ≤ k
    · rw [if_pos ((nLe (by omega) (by omega)).mpr e5), show l.length = 5 by omega]
    · rw [if_neg (fun c => e5 ((nLe (by omega) (by omega)).mp c)), lN_ushr (by omega) (by omega), show k * 12 = 12 * k by omega, enc_drop k h.2]
      by_cases e : l.drop k = []
      · rw [if_pos ((lenc_0 (okC_drop h k)).mpr e)]
        have := List.drop_eq_nil_iff.mp e
        rw [show l.length = k by omega]
      · rw [if_neg (fun c => e ((lenc_0 (okC_drop h k)).mp c)), nI_1]
        have : k < l.length := by
          rcases Nat.lt_or_ge k l.length with q | q
          · exact q
          · exact absurd (List.drop_eq_nil_of_le q) e
        exact height_go h f (k + 1) (by omega) (by omega)
theorem height_ok {l : List Nat} (h : okC l) : mX0_height (lN (enc l)) = some (nI l.length) := height_go h xf 0 (by have := h.1; show l.length < xf + 0; unfold xf; omega) (by omega)
/-- who painted the top coat -/
def topP : List Nat → Int
  | [] => -1
  | c :: _ => (c % 4 : Nat)
/-- its hour -/
def topH : List Nat → Int
  | [] => -2
  | c :: _ => (c / 4 : Nat) - 2
theorem topP_ok {l : List Nat} (h : okC l) : mX0_topPainter (lN (enc l)) = some (zI (topP l)) := by
  unfold mX0_topPainter
  cases l with
  | nil => rw [if_pos ((lenc_0 h).mpr rfl)]; rfl
  | cons c l =>
    rw [if_neg (fun e => nomatch (lenc_0 h).mp e), show (3 : Int64) = lN 3 from rfl, lN_and, lN_i, show (3 : Nat) = 2 ^ 2 - 1 from rfl, Nat.and_two_pow_sub_one_eq_mod, topP, zI_nat, enc]
    congr 2
    omega
theorem topH_ok {c : Nat} {l : List Nat} (h : okC (c :: l)) : mX0_topHour (lN (enc (c :: l))) = some (zI (topH (c :: l))) := by
  have h60 := enc_60 h
  have hc := (h.2 c List.mem_cons_self).2
  unfold mX0_topHour
  rw [li2, lN_ushr (by omega) (by omega), show (1023 : Int64) = lN 1023 from rfl, lN_and, lN_i, show (1023 : Nat) = 2 ^ 10 - 1 from rfl, Nat.and_two_pow_sub_one_eq_mod, nSubZ, topH, enc]
  congr 3
  omega
/-- a coat more, the lowest of six goes -/
def putC (l : List Nat) (q hr : Nat) : List Nat := ((4 * (hr + 2) + q) :: l).take 5
theorem enc_take : ∀ (k : Nat) {l : List Nat}, (∀ c ∈ l, 4 ≤ c ∧ c < 4096) → enc (l.take k) = enc l % 2 ^ (12 * k)
  | 0, l, _ => by rw [List.take_zero, Nat.mul_zero, Nat.pow_zero, Nat.mod_one]; rfl
  | k + 1, [], _ => by rw [List.take_nil, enc, Nat.zero_mod]
  | k + 1, c :: l, h => by
    have h1 := (h c List.mem_cons_self).2
    rw [List.take_succ_cons, enc, enc, enc_take k (fun x hx => h x (List.mem_cons_of_mem _ hx)), show 12 * (k + 1) = 12 + 12 * k by omega, Nat.pow_add, Nat.mod_mul, show (2 : Nat) ^ 12 = 4096 by decide]
    rw [show (c + 4096 * enc l) % 4096 = c by omega, show (c + 4096 * enc l) / 4096 = enc l by omega]
theorem putC_ok {l : List Nat} (h : okC l) {q hr : Nat} (hq : q < 4) (hh : hr < 1000) : okC (putC l q hr) := okC_take (fun c hc => by
  rcases List.mem_cons.mp hc with rfl | hc
  · omega
  · exact h.2 c hc)
theorem with_ok {l : List Nat} (h : okC l) {q hr : Nat} (hq : q < 4) (hh : hr < 1000) : mX0_with (lN (enc l)) (nI q) (nI hr) = some (lN (enc (putC l q hr))) := by
  have h60 := enc_60 h
  unfold mX0_with putC
  have hall : ∀ c ∈ ((4 * (hr + 2) + q) :: l), 4 ≤ c ∧ c < 4096 := fun c hc => by
    rcases List.mem_cons.mp hc with rfl | hc
    · omega
    · exact h.2 c hc
  rw [enc_take 5 hall, enc, li12, li2, lN_shl (by omega) (by omega), nAdd, nI_l (by omega), nI_l (by omega), lN_shl (by omega) (by omega), lN_or, lN_or, show (1152921504606846975 : Int64) = lN (2 ^ 60 - 1) from rfl, lN_and, Nat.and_two_pow_sub_one_eq_mod]
  congr 2
  rw [show (hr + 2) * 2 ^ 2 = 2 ^ 2 * (hr + 2) by omega, ← Nat.two_pow_add_eq_or_of_lt (i := 2) (by omega), show enc l * 2 ^ 12 = 2 ^ 12 * enc l by omega, ← Nat.two_pow_add_eq_or_of_lt (i := 12) (by omega)]
  congr 1
  omega

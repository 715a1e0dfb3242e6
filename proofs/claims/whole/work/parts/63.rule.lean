/-! The code of rules: what it is worth, in the class and in the reference. -/
def zL (n : Int) : Int64 := Int64.ofInt n
theorem zI_l {n : Int} (h : -2147483648 ≤ n) (h2 : n < 2147483648) : (zI n).toInt64 = zL n := by
  rw [← Int64.toInt_inj, Int32.toInt_toInt64, zI_toInt h h2, zL, Int64.toInt_ofInt_of_le (by simpa using (by omega : -9223372036854775808 ≤ n)) (by simpa using (by omega : n < 9223372036854775808))]
theorem cmpLt (x y : Int64) : (lg_cmp x y < nI 0) = (x < y) := propext (cmp_lt x y)
theorem cmpGt (x y : Int64) : (nI 0 < lg_cmp x y) = (y < x) := propext (cmp_gt x y)
theorem cmpGe (x y : Int64) : (nI 0 ≤ lg_cmp x y) = (y ≤ x) := by
  have h := cmp_lt x y
  rw [← propext (Int32.not_lt (a := lg_cmp x y) (b := nI 0)), ← propext (Int64.not_lt (a := x) (b := y))]
  exact propext (not_congr h)
theorem cmpLe (x y : Int64) : (lg_cmp x y ≤ nI 0) = (x ≤ y) := by
  have h := cmp_gt x y
  rw [← propext (Int32.not_lt (a := nI 0) (b := lg_cmp x y)), ← propext (Int64.not_lt (a := y) (b := x))]
  exact propext (not_congr h)
theorem cmpEq (x y : Int64) : (lg_cmp x y = nI 0) = (x = y) := by
  apply propext
  have h1 := cmp_lt x y
  have h2 := cmp_gt x y
  constructor
  · intro e
    rw [e] at h1 h2
    have h3 : ¬ x < y := fun c => absurd (h1.mpr c) (by decide)
    have h4 : ¬ y < x := fun c => absurd (h2.mpr c) (by decide)
    rw [Int64.lt_iff_toInt_lt] at h3 h4
    exact Int64.toInt_inj.mp (by omega)
  · intro e
    subst e
    unfold lg_cmp
    rw [if_neg (fun c => absurd c Int64.lt_irrefl), if_pos rfl]
    rfl
def opW : Nat → Int64 → Int64 → Int64
  | 19, a, b => a &&& b
  | 22, a, b => a + b
  | 23, a, b => a - b
  | 24, a, b => a * b
  | 25, a, b => if b = 0 then 0 else a / b
  | 26, a, b => if b = 0 then 0 else xlrem a b
  | 27, a, b => if b ≤ a then 0 else 1
  | 28, a, b => if a = b then 1 else 0
  | 29, a, b => if a ≤ b then 0 else 1
  | 33, a, b => if b < a then 0 else 1
  | 34, a, b => if a < b then 0 else 1
  | _, a, b => a ||| b
def isBin (k : Nat) : Prop := k = 19 ∨ k = 20 ∨ k = 22 ∨ k = 23 ∨ k = 24 ∨ k = 25 ∨ k = 26 ∨ k = 27 ∨ k = 28 ∨ k = 29 ∨ k = 33 ∨ k = 34
theorem some_ite {α : Type} {c : Prop} [Decidable c] {a b : α} : (if c then some a else some b) = some (if c then a else b) := by split <;> rfl
theorem joined_ok {k : Nat} (hk : isBin k) (a b : Int64) : mX3_joined (nI k) a b = some (opW k a b) := by
  rcases hk with rfl | rfl | rfl | rfl | rfl | rfl | rfl | rfl | rfl | rfl | rfl | rfl
  all_goals simp (disch := omega) only [↓reduceIte, Option.bind_some, Option.some.injEq, Prod.mk.injEq, and_self, and_true, true_and, eq_self, reduceCtorEq, not_false_eq_true, not_true_eq_false, or_true, true_or, or_false, false_or, bft, nAdd, nMul, nSub, nDiv, nRem, nAm1, nIx, nIn, bI_z, bI_o, ite_b1, ite_b0, zI_add, zI_sub, li0, li1, li2, li3, li4, li5, li6, li7, li8, li9, li10, li11, li12, li13, li14, li15, li16, li17, li18, li19, li20, li21, li22, li23, li24, li25, li26, li27, li28, li29, li30, li31, li32, li33, li34, li35, li36, li37, li40, li42, li43, li45, li47, li48, li57, li59, li60, li61, li62, li64, li80, li91, li93, li97, li99, li100, li122, li182, li199, li255, li300, li380, li400, li999, li1000, li3640, li4100, li65536, li99999, ln1, ln2, ln3, ln100, ln100000, tLe, fLe, tLt, fLt, tEq, fEq, zLe_t, zLe_f, zLt_t, zLt_f, zEq_t, zEq_f, nzLe_t, nzLe_f, znLe_t, znLe_f, nzLt_t, nzLt_f, znLt_t, znLt_f, nzEq_t, nzEq_f, znEq_t, znEq_f, mX3_joined, opW, cmpLt, cmpGt, cmpGe, cmpLe, cmpEq, some_ite]
  · by_cases h : b = 0
    · rw [if_pos h, if_pos h]
    · rw [if_neg h, if_neg h, if_pos h]
  · by_cases h : b = 0
    · rw [if_pos h, if_pos h]
    · rw [if_neg h, if_neg h, if_pos h]
def sortOf : Nat → Nat
  | 22 => 2
  | 23 => 3
  | 27 => 4
  | 33 => 5
  | 28 => 6
  | 34 => 7
  | 29 => 8
  | 21 => 9
  | 19 => 10
  | 20 => 11
  | 24 => 13
  | 25 => 14
  | 26 => 15
  | x => if 64 ≤ x then 0 else 1
def numOf (x : Nat) : Nat := if 64 ≤ x then x - 64 else if x < 13 then x else 0
theorem both_ok {k : Nat} (hk : isBin k) (a b : Int64) : mX12_both (nI (sortOf k)) a b = some (opW k a b) := by
  rcases hk with rfl | rfl | rfl | rfl | rfl | rfl | rfl | rfl | rfl | rfl | rfl | rfl
  all_goals simp (disch := omega) only [↓reduceIte, Option.bind_some, Option.some.injEq, Prod.mk.injEq, and_self, and_true, true_and, eq_self, reduceCtorEq, not_false_eq_true, not_true_eq_false, or_true, true_or, or_false, false_or, bft, nAdd, nMul, nSub, nDiv, nRem, nAm1, nIx, nIn, bI_z, bI_o, ite_b1, ite_b0, zI_add, zI_sub, li0, li1, li2, li3, li4, li5, li6, li7, li8, li9, li10, li11, li12, li13, li14, li15, li16, li17, li18, li19, li20, li21, li22, li23, li24, li25, li26, li27, li28, li29, li30, li31, li32, li33, li34, li35, li36, li37, li40, li42, li43, li45, li47, li48, li57, li59, li60, li61, li62, li64, li80, li91, li93, li97, li99, li100, li122, li182, li199, li255, li300, li380, li400, li999, li1000, li3640, li4100, li65536, li99999, ln1, ln2, ln3, ln100, ln100000, tLe, fLe, tLt, fLt, tEq, fEq, zLe_t, zLe_f, zLt_t, zLt_f, zEq_t, zEq_f, nzLe_t, nzLe_f, znLe_t, znLe_f, nzLt_t, nzLt_f, znLt_t, znLt_f, nzEq_t, nzEq_f, znEq_t, znEq_f, mX12_both, sortOf, opW, mX12_both_123, mX12_both_138, mX12_both_153, mX12_both_168, mX12_both_183, mX12_truth, cmpLt, cmpGt, cmpGe, cmpLe, cmpEq, some_ite]
  · by_cases h : b = 0
    · rw [if_pos h, if_pos h]
    · rw [if_neg h, if_neg h, if_pos h]
  · by_cases h : b = 0
    · rw [if_pos h, if_pos h]
    · rw [if_neg h, if_neg h, if_pos h]
def notS : List Int64 → Option (List Int64)
  | a :: r => some ((1 - a) :: r)
  | [] => none
def binS (x : Nat) : List Int64 → Option (List Int64)
  | b :: a :: r => some (opW x a b :: r)
  | _ => none
def evC (env : Nat → Int64) : List Nat → List Int64 → Option (List Int64)
  | [], st => some st
  | x :: c, st => if 64 ≤ x then evC env c (lN (x - 64) :: st) else if x < 13 then evC env c (env x :: st) else if x = 21 then Option.bind (notS st) (fun r => evC env c r) else Option.bind (binS x st) (fun r => evC env c r)
def nvC : List Nat → Nat
  | [] => 0
  | x :: c => (if 64 ≤ x ∨ x < 13 then 1 else 0) + nvC c
def okI (x : Nat) : Prop := (64 ≤ x ∧ x < 100064) ∨ x < 13 ∨ x = 21 ∨ isBin x
theorem isBin_rng {x : Nat} (h : isBin x) : 19 ≤ x ∧ x ≤ 34 ∧ x ≠ 21 := by
  unfold isBin at h
  omega
def stk (st : List Int64) (f : Nat → Int64) : Prop := ∀ i x, st.reverse[i]? = some x → f i = x
theorem stk_cons {x : Int64} {st : List Int64} {f : Nat → Int64} : stk (x :: st) f ↔ f st.length = x ∧ stk st f := by
  unfold stk
  rw [List.reverse_cons]
  constructor
  · intro h
    refine ⟨h st.length x (by simp), fun i y hy => h i y ?_⟩
    rw [List.getElem?_append_left (List.getElem?_eq_some_iff.mp hy).1]
    exact hy
  · rintro ⟨h1, h2⟩ i y hy
    rcases Nat.lt_or_ge i st.length with q | q
    · rw [List.getElem?_append_left (by simpa using q)] at hy
      exact h2 i y hy
    · have hi : i < st.length + 1 := by
        have := (List.getElem?_eq_some_iff.mp hy).1
        simpa using this
      have : i = st.length := by omega
      subst this
      simp at hy
      subst hy
      exact h1
theorem stk_push {st : List Int64} {L : Nat → Nat → Int64} {p : Nat} (h : stk st (L p)) (x : Int64) : stk (x :: st) (xu L p st.length x p) := by
  refine stk_cons.mpr ⟨xu_s, fun i y hy => ?_⟩
  have hi := (List.getElem?_eq_some_iff.mp hy).1
  rw [List.length_reverse] at hi
  rw [xu_c (by omega)]
  exact h i y hy
theorem seg_cons {code : List Nat} {k to x : Nat} (hk : k < to) (hx : code[k]? = some x) : (code.take to).drop k = x :: (code.take to).drop (k + 1) := by
  have h1 : (code.take to)[k]? = some x := by rw [List.getElem?_take, if_pos hk]; exact hx
  obtain ⟨hl, he⟩ := List.getElem?_eq_some_iff.mp h1
  rw [List.drop_eq_getElem_cons hl, he]
theorem seg_nil {code : List Nat} {k : Nat} : (code.take k).drop k = [] := List.drop_eq_nil_of_le (by rw [List.length_take]; omega)
section RUN
variable {K : Nat → Nat × Nat} {I : Nat → Nat → Int32} {a : Nat} {code : List Nat} {env : Nat → Int64}
theorem run_go (hK : (K (a + 1)).2 = code.length) (hI : ∀ i x, code[i]? = some x → I (a + 1) i = nI x) (hlen : code.length < 1000) (hok : ∀ x ∈ code, okI x) {to : Nat} (hto : to ≤ code.length) {v : Int64} : ∀ (f k : Nat) (st : List Int64) (L : Nat → Nat → Int64), to - k < f → k ≤ to → (∀ i, i < 13 → L 96 i = env i) → stk st (L 97) → st.length + nvC ((code.take to).drop k) ≤ 60 → evC env ((code.take to).drop k) st = some [v] → ∃ L', mX3_run_6 K I f L a (nI to) 96 13 97 60 (nI st.length) (nI k) = some (v, L') ∧ ∀ b, b ≠ 97 → L' b = L b
  | 0, k, st, L, h1, _, _, _, _, _ => absurd h1 (by omega)
  | f + 1, k, st, L, h1, h2, hE, hS, hn, he => by
    rw [mX3_run_6]
    rcases Nat.eq_or_lt_of_le h2 with rfl | hk
    · rw [seg_nil, evC] at he
      have hst := Option.some.inj he
      subst hst
      refine ⟨L, ?_, fun _ _ => rfl⟩
      have hv : L 97 0 = v := (stk_cons.mp hS).1
      simp (disch := omega) only [↓reduceIte, Option.bind_some, Option.some.injEq, Prod.mk.injEq, and_self, and_true, true_and, eq_self, reduceCtorEq, not_false_eq_true, not_true_eq_false, or_true, true_or, or_false, false_or, bft, nAdd, nMul, nSub, nDiv, nRem, nAm1, nIx, nIn, bI_z, bI_o, ite_b1, ite_b0, zI_add, zI_sub, li0, li1, li2, li3, li4, li5, li6, li7, li8, li9, li10, li11, li12, li13, li14, li15, li16, li17, li18, li19, li20, li21, li22, li23, li24, li25, li26, li27, li28, li29, li30, li31, li32, li33, li34, li35, li36, li37, li40, li42, li43, li45, li47, li48, li57, li59, li60, li61, li62, li64, li80, li91, li93, li97, li99, li100, li122, li182, li199, li255, li300, li380, li400, li999, li1000, li3640, li4100, li65536, li99999, ln1, ln2, ln3, ln100, ln100000, tLe, fLe, tLt, fLt, tEq, fEq, zLe_t, zLe_f, zLt_t, zLt_f, zEq_t, zEq_f, nzLe_t, nzLe_f, znLe_t, znLe_f, nzLt_t, nzLt_f, znLt_t, znLt_f, nzEq_t, nzEq_f, znEq_t, znEq_f, List.length_cons, List.length_nil, hv]
    · obtain ⟨x, hx⟩ : ∃ x, code[k]? = some x := ⟨code[k]'(by omega), List.getElem?_eq_getElem (by omega)⟩
      have hxo := hok x (List.mem_of_getElem? hx)
      rw [seg_cons hk hx, evC] at he
      rw [seg_cons hk hx, nvC] at hn
      rcases hxo with ⟨h64, hx2⟩ | h13 | rfl | hb
      · rw [if_pos h64] at he
        rw [if_pos (Or.inl h64)] at hn
        simp (disch := omega) only [↓reduceIte, Option.bind_some, Option.some.injEq, Prod.mk.injEq, and_self, and_true, true_and, eq_self, reduceCtorEq, not_false_eq_true, not_true_eq_false, or_true, true_or, or_false, false_or, bft, nAdd, nMul, nSub, nDiv, nRem, nAm1, nIx, nIn, bI_z, bI_o, ite_b1, ite_b0, zI_add, zI_sub, li0, li1, li2, li3, li4, li5, li6, li7, li8, li9, li10, li11, li12, li13, li14, li15, li16, li17, li18, li19, li20, li21, li22, li23, li24, li25, li26, li27, li28, li29, li30, li31, li32, li33, li34, li35, li36, li37, li40, li42, li43, li45, li47, li48, li57, li59, li60, li61, li62, li64, li80, li91, li93, li97, li99, li100, li122, li182, li199, li255, li300, li380, li400, li999, li1000, li3640, li4100, li65536, li99999, ln1, ln2, ln3, ln100, ln100000, tLe, fLe, tLt, fLt, tEq, fEq, zLe_t, zLe_f, zLt_t, zLt_f, zEq_t, zEq_f, nzLe_t, nzLe_f, znLe_t, znLe_f, nzLt_t, nzLt_f, znLt_t, znLt_f, nzEq_t, nzEq_f, znEq_t, znEq_f, hK, hI k x hx, mX3_run_45]
        obtain ⟨L', e, p⟩ := run_go hK hI hlen hok hto f (k + 1) (lN (x - 64) :: st) (xu L 97 st.length (lN (x - 64))) (by omega) (by omega) (fun i hi => by rw [xu_r (by decide)]; exact hE i hi) (stk_push hS _) (by simp only [List.length_cons]; omega) he
        refine ⟨L', ?_, fun b hb => (p b hb).trans (xu_r hb)⟩
        rw [nI_l (by omega)]
        exact e
      · rw [if_neg (by omega), if_pos h13] at he
        rw [if_pos (Or.inr h13)] at hn
        simp (disch := omega) only [↓reduceIte, Option.bind_some, Option.some.injEq, Prod.mk.injEq, and_self, and_true, true_and, eq_self, reduceCtorEq, not_false_eq_true, not_true_eq_false, or_true, true_or, or_false, false_or, bft, nAdd, nMul, nSub, nDiv, nRem, nAm1, nIx, nIn, bI_z, bI_o, ite_b1, ite_b0, zI_add, zI_sub, li0, li1, li2, li3, li4, li5, li6, li7, li8, li9, li10, li11, li12, li13, li14, li15, li16, li17, li18, li19, li20, li21, li22, li23, li24, li25, li26, li27, li28, li29, li30, li31, li32, li33, li34, li35, li36, li37, li40, li42, li43, li45, li47, li48, li57, li59, li60, li61, li62, li64, li80, li91, li93, li97, li99, li100, li122, li182, li199, li255, li300, li380, li400, li999, li1000, li3640, li4100, li65536, li99999, ln1, ln2, ln3, ln100, ln100000, tLe, fLe, tLt, fLt, tEq, fEq, zLe_t, zLe_f, zLt_t, zLt_f, zEq_t, zEq_f, nzLe_t, nzLe_f, znLe_t, znLe_f, nzLt_t, nzLt_f, znLt_t, znLt_f, nzEq_t, nzEq_f, znEq_t, znEq_f, hK, hI k x hx, mX3_run_45, hE x h13]
        obtain ⟨L', e, p⟩ := run_go hK hI hlen hok hto f (k + 1) (env x :: st) (xu L 97 st.length (env x)) (by omega) (by omega) (fun i hi => by rw [xu_r (by decide)]; exact hE i hi) (stk_push hS _) (by simp only [List.length_cons]; omega) he
        exact ⟨L', e, fun b hb => (p b hb).trans (xu_r hb)⟩
      · rw [if_neg (by omega), if_neg (by omega), if_pos rfl] at he
        cases st with
        | nil => exact absurd he (by simp [notS])
        | cons y r =>
          have hS2 := stk_cons.mp hS
          simp only [List.length_cons] at hn ⊢
          have hy : L 97 r.length = y := hS2.1
          simp (disch := omega) only [↓reduceIte, Option.bind_some, Option.some.injEq, Prod.mk.injEq, and_self, and_true, true_and, eq_self, reduceCtorEq, not_false_eq_true, not_true_eq_false, or_true, true_or, or_false, false_or, bft, nAdd, nMul, nSub, nDiv, nRem, nAm1, nIx, nIn, bI_z, bI_o, ite_b1, ite_b0, zI_add, zI_sub, li0, li1, li2, li3, li4, li5, li6, li7, li8, li9, li10, li11, li12, li13, li14, li15, li16, li17, li18, li19, li20, li21, li22, li23, li24, li25, li26, li27, li28, li29, li30, li31, li32, li33, li34, li35, li36, li37, li40, li42, li43, li45, li47, li48, li57, li59, li60, li61, li62, li64, li80, li91, li93, li97, li99, li100, li122, li182, li199, li255, li300, li380, li400, li999, li1000, li3640, li4100, li65536, li99999, ln1, ln2, ln3, ln100, ln100000, tLe, fLe, tLt, fLt, tEq, fEq, zLe_t, zLe_f, zLt_t, zLt_f, zEq_t, zEq_f, nzLe_t, nzLe_f, znLe_t, znLe_f, nzLt_t, nzLt_f, znLt_t, znLt_f, nzEq_t, nzEq_f, znEq_t, znEq_f, hK, hI k 21 hx, Nat.add_sub_cancel, hy]
          obtain ⟨L', e, p⟩ := run_go hK hI hlen hok hto f (k + 1) ((1 - y) :: r) (xu L 97 r.length (1 - y)) (by omega) (by omega) (fun i hi => by rw [xu_r (by decide)]; exact hE i hi) (stk_push hS2.2 _) (by simp only [List.length_cons]; omega) he
          exact ⟨L', e, fun b hb => (p b hb).trans (xu_r hb)⟩
      · have hbr := isBin_rng hb
        rw [if_neg (by omega), if_neg (by omega), if_neg (by omega)] at he
        match st, he, hS, hn with
        | [], he, _, _ => exact absurd he (by simp [binS])
        | [_], he, _, _ => exact absurd he (by simp [binS])
        | z :: y :: r, he, hS, hn =>
          have hS2 := stk_cons.mp hS
          have hS3 := stk_cons.mp hS2.2
          simp only [List.length_cons] at hn hS2 ⊢
          have hz : L 97 (r.length + 1) = z := hS2.1
          have hy : L 97 r.length = y := hS3.1
          simp (disch := omega) only [↓reduceIte, Option.bind_some, Option.some.injEq, Prod.mk.injEq, and_self, and_true, true_and, eq_self, reduceCtorEq, not_false_eq_true, not_true_eq_false, or_true, true_or, or_false, false_or, bft, nAdd, nMul, nSub, nDiv, nRem, nAm1, nIx, nIn, bI_z, bI_o, ite_b1, ite_b0, zI_add, zI_sub, li0, li1, li2, li3, li4, li5, li6, li7, li8, li9, li10, li11, li12, li13, li14, li15, li16, li17, li18, li19, li20, li21, li22, li23, li24, li25, li26, li27, li28, li29, li30, li31, li32, li33, li34, li35, li36, li37, li40, li42, li43, li45, li47, li48, li57, li59, li60, li61, li62, li64, li80, li91, li93, li97, li99, li100, li122, li182, li199, li255, li300, li380, li400, li999, li1000, li3640, li4100, li65536, li99999, ln1, ln2, ln3, ln100, ln100000, tLe, fLe, tLt, fLt, tEq, fEq, zLe_t, zLe_f, zLt_t, zLt_f, zEq_t, zEq_f, nzLe_t, nzLe_f, znLe_t, znLe_f, nzLt_t, nzLt_f, znLt_t, znLt_f, nzEq_t, nzEq_f, znEq_t, znEq_f, hK, hI k x hx, Nat.add_sub_cancel, hy, hz, joined_ok hb]
          obtain ⟨L', e, p⟩ := run_go hK hI hlen hok hto f (k + 1) (opW x y z :: r) (xu L 97 r.length (opW x y z)) (by omega) (by omega) (fun i hi => by rw [xu_r (by decide)]; exact hE i hi) (stk_push hS3.2 _) (by simp only [List.length_cons]; omega) he
          exact ⟨L', e, fun b hb => (p b hb).trans (xu_r hb)⟩
end RUN
theorem sortOf_v {x : Nat} (h : 64 ≤ x) : sortOf x = 0 := by
  unfold sortOf
  split <;> first | omega | (rw [if_pos h])
theorem sortOf_w {x : Nat} (h : x < 13) : sortOf x = 1 := by
  unfold sortOf
  split <;> first | omega | (rw [if_neg (by omega)])
theorem sortOf_b {x : Nat} (h : isBin x) : sortOf x ≠ 0 ∧ sortOf x ≠ 1 ∧ sortOf x ≠ 9 ∧ sortOf x < 16 := by
  rcases h with rfl | rfl | rfl | rfl | rfl | rfl | rfl | rfl | rfl | rfl | rfl | rfl <;> decide
section ANS
variable {I : Nat → Nat → Int32} {s : Nat} {code : List Nat} {env : Nat → Int64}
theorem ans_go (hI : ∀ i x, code[i]? = some x → I 151 (300 * s + i) = nI (sortOf x) ∧ I 152 (300 * s + i) = nI (numOf x)) (hlen : code.length < 300) (hs : s < 6) (hok : ∀ x ∈ code, okI x) {to : Nat} (hto : to ≤ code.length) {v : Int64} : ∀ (f k : Nat) (st : List Int64) (L : Nat → Nat → Int64), to - k < f → k ≤ to → (∀ i, i < 13 → L 158 i = env i) → stk st (L 159) → st.length + nvC ((code.take to).drop k) ≤ 60 → evC env ((code.take to).drop k) st = some [v] → ∃ L', mX12_answer_6 I f L (nI s) (nI to) (nI st.length) (nI k) = some (v, L') ∧ ∀ b, b ≠ 159 → L' b = L b
  | 0, k, st, L, h1, _, _, _, _, _ => absurd h1 (by omega)
  | f + 1, k, st, L, h1, h2, hE, hS, hn, he => by
    rw [mX12_answer_6]
    rcases Nat.eq_or_lt_of_le h2 with rfl | hk
    · rw [seg_nil, evC] at he
      have hst := Option.some.inj he
      subst hst
      refine ⟨L, ?_, fun _ _ => rfl⟩
      have hv : L 159 0 = v := (stk_cons.mp hS).1
      simp (disch := omega) only [↓reduceIte, Option.bind_some, Option.some.injEq, Prod.mk.injEq, and_self, and_true, true_and, eq_self, reduceCtorEq, not_false_eq_true, not_true_eq_false, or_true, true_or, or_false, false_or, bft, nAdd, nMul, nSub, nDiv, nRem, nAm1, nIx, nIn, bI_z, bI_o, ite_b1, ite_b0, zI_add, zI_sub, li0, li1, li2, li3, li4, li5, li6, li7, li8, li9, li10, li11, li12, li13, li14, li15, li16, li17, li18, li19, li20, li21, li22, li23, li24, li25, li26, li27, li28, li29, li30, li31, li32, li33, li34, li35, li36, li37, li40, li42, li43, li45, li47, li48, li57, li59, li60, li61, li62, li64, li80, li91, li93, li97, li99, li100, li122, li182, li199, li255, li300, li380, li400, li999, li1000, li3640, li4100, li65536, li99999, ln1, ln2, ln3, ln100, ln100000, tLe, fLe, tLt, fLt, tEq, fEq, zLe_t, zLe_f, zLt_t, zLt_f, zEq_t, zEq_f, nzLe_t, nzLe_f, znLe_t, znLe_f, nzLt_t, nzLt_f, znLt_t, znLt_f, nzEq_t, nzEq_f, znEq_t, znEq_f, hv]
    · obtain ⟨x, hx⟩ : ∃ x, code[k]? = some x := ⟨code[k]'(by omega), List.getElem?_eq_getElem (by omega)⟩
      have hxo := hok x (List.mem_of_getElem? hx)
      have hx1 := (hI k x hx).1
      have hx2 := (hI k x hx).2
      rw [seg_cons hk hx, evC] at he
      rw [seg_cons hk hx, nvC] at hn
      rcases hxo with ⟨h64, hx3⟩ | h13 | rfl | hb
      · rw [if_pos h64] at he
        rw [if_pos (Or.inl h64)] at hn
        rw [sortOf_v h64] at hx1
        rw [numOf, if_pos h64] at hx2
        simp (disch := omega) only [↓reduceIte, Option.bind_some, Option.some.injEq, Prod.mk.injEq, and_self, and_true, true_and, eq_self, reduceCtorEq, not_false_eq_true, not_true_eq_false, or_true, true_or, or_false, false_or, bft, nAdd, nMul, nSub, nDiv, nRem, nAm1, nIx, nIn, bI_z, bI_o, ite_b1, ite_b0, zI_add, zI_sub, li0, li1, li2, li3, li4, li5, li6, li7, li8, li9, li10, li11, li12, li13, li14, li15, li16, li17, li18, li19, li20, li21, li22, li23, li24, li25, li26, li27, li28, li29, li30, li31, li32, li33, li34, li35, li36, li37, li40, li42, li43, li45, li47, li48, li57, li59, li60, li61, li62, li64, li80, li91, li93, li97, li99, li100, li122, li182, li199, li255, li300, li380, li400, li999, li1000, li3640, li4100, li65536, li99999, ln1, ln2, ln3, ln100, ln100000, tLe, fLe, tLt, fLt, tEq, fEq, zLe_t, zLe_f, zLt_t, zLt_f, zEq_t, zEq_f, nzLe_t, nzLe_f, znLe_t, znLe_f, nzLt_t, nzLt_f, znLt_t, znLt_f, nzEq_t, nzEq_f, znEq_t, znEq_f, hx1, hx2, mX12_answer_53]
        obtain ⟨L', e, p⟩ := ans_go hI hlen hs hok hto f (k + 1) (lN (x - 64) :: st) (xu L 159 st.length (lN (x - 64))) (by omega) (by omega) (fun i hi => by rw [xu_r (by decide)]; exact hE i hi) (stk_push hS _) (by simp only [List.length_cons]; omega) he
        refine ⟨L', ?_, fun b hb => (p b hb).trans (xu_r hb)⟩
        rw [nI_l (by omega)]
        exact e
      · rw [if_neg (by omega), if_pos h13] at he
        rw [if_pos (Or.inr h13)] at hn
        rw [sortOf_w h13] at hx1
        rw [numOf, if_neg (by omega), if_pos h13] at hx2
        simp (disch := omega) only [↓reduceIte, Option.bind_some, Option.some.injEq, Prod.mk.injEq, and_self, and_true, true_and, eq_self, reduceCtorEq, not_false_eq_true, not_true_eq_false, or_true, true_or, or_false, false_or, bft, nAdd, nMul, nSub, nDiv, nRem, nAm1, nIx, nIn, bI_z, bI_o, ite_b1, ite_b0, zI_add, zI_sub, li0, li1, li2, li3, li4, li5, li6, li7, li8, li9, li10, li11, li12, li13, li14, li15, li16, li17, li18, li19, li20, li21, li22, li23, li24, li25, li26, li27, li28, li29, li30, li31, li32, li33, li34, li35, li36, li37, li40, li42, li43, li45, li47, li48, li57, li59, li60, li61, li62, li64, li80, li91, li93, li97, li99, li100, li122, li182, li199, li255, li300, li380, li400, li999, li1000, li3640, li4100, li65536, li99999, ln1, ln2, ln3, ln100, ln100000, tLe, fLe, tLt, fLt, tEq, fEq, zLe_t, zLe_f, zLt_t, zLt_f, zEq_t, zEq_f, nzLe_t, nzLe_f, znLe_t, znLe_f, nzLt_t, nzLt_f, znLt_t, znLt_f, nzEq_t, nzEq_f, znEq_t, znEq_f, hx1, hx2, mX12_answer_53, hE x h13]
        obtain ⟨L', e, p⟩ := ans_go hI hlen hs hok hto f (k + 1) (env x :: st) (xu L 159 st.length (env x)) (by omega) (by omega) (fun i hi => by rw [xu_r (by decide)]; exact hE i hi) (stk_push hS _) (by simp only [List.length_cons]; omega) he
        exact ⟨L', e, fun b hb => (p b hb).trans (xu_r hb)⟩
      · rw [if_neg (by omega), if_neg (by omega), if_pos rfl] at he
        change I 151 (300 * s + k) = nI 9 at hx1
        cases st with
        | nil => exact absurd he (by simp [notS])
        | cons y r =>
          have hS2 := stk_cons.mp hS
          simp only [List.length_cons] at hn ⊢
          have hy : L 159 r.length = y := hS2.1
          simp (disch := omega) only [↓reduceIte, Option.bind_some, Option.some.injEq, Prod.mk.injEq, and_self, and_true, true_and, eq_self, reduceCtorEq, not_false_eq_true, not_true_eq_false, or_true, true_or, or_false, false_or, bft, nAdd, nMul, nSub, nDiv, nRem, nAm1, nIx, nIn, bI_z, bI_o, ite_b1, ite_b0, zI_add, zI_sub, li0, li1, li2, li3, li4, li5, li6, li7, li8, li9, li10, li11, li12, li13, li14, li15, li16, li17, li18, li19, li20, li21, li22, li23, li24, li25, li26, li27, li28, li29, li30, li31, li32, li33, li34, li35, li36, li37, li40, li42, li43, li45, li47, li48, li57, li59, li60, li61, li62, li64, li80, li91, li93, li97, li99, li100, li122, li182, li199, li255, li300, li380, li400, li999, li1000, li3640, li4100, li65536, li99999, ln1, ln2, ln3, ln100, ln100000, tLe, fLe, tLt, fLt, tEq, fEq, zLe_t, zLe_f, zLt_t, zLt_f, zEq_t, zEq_f, nzLe_t, nzLe_f, znLe_t, znLe_f, nzLt_t, nzLt_f, znLt_t, znLt_f, nzEq_t, nzEq_f, znEq_t, znEq_f, hx1, Nat.add_sub_cancel, hy]
          obtain ⟨L', e, p⟩ := ans_go hI hlen hs hok hto f (k + 1) ((1 - y) :: r) (xu L 159 r.length (1 - y)) (by omega) (by omega) (fun i hi => by rw [xu_r (by decide)]; exact hE i hi) (stk_push hS2.2 _) (by simp only [List.length_cons]; omega) he
          exact ⟨L', e, fun b hb => (p b hb).trans (xu_r hb)⟩
      · have hbr := isBin_rng hb
        have hsb := sortOf_b hb
        rw [if_neg (by omega), if_neg (by omega), if_neg (by omega)] at he
        match st, he, hS, hn with
        | [], he, _, _ => exact absurd he (by simp [binS])
        | [_], he, _, _ => exact absurd he (by simp [binS])
        | z :: y :: r, he, hS, hn =>
          have hS2 := stk_cons.mp hS
          have hS3 := stk_cons.mp hS2.2
          simp only [List.length_cons] at hn hS2 ⊢
          have hz : L 159 (r.length + 1) = z := hS2.1
          have hy : L 159 r.length = y := hS3.1
          simp (disch := omega) only [↓reduceIte, Option.bind_some, Option.some.injEq, Prod.mk.injEq, and_self, and_true, true_and, eq_self, reduceCtorEq, not_false_eq_true, not_true_eq_false, or_true, true_or, or_false, false_or, bft, nAdd, nMul, nSub, nDiv, nRem, nAm1, nIx, nIn, bI_z, bI_o, ite_b1, ite_b0, zI_add, zI_sub, li0, li1, li2, li3, li4, li5, li6, li7, li8, li9, li10, li11, li12, li13, li14, li15, li16, li17, li18, li19, li20, li21, li22, li23, li24, li25, li26, li27, li28, li29, li30, li31, li32, li33, li34, li35, li36, li37, li40, li42, li43, li45, li47, li48, li57, li59, li60, li61, li62, li64, li80, li91, li93, li97, li99, li100, li122, li182, li199, li255, li300, li380, li400, li999, li1000, li3640, li4100, li65536, li99999, ln1, ln2, ln3, ln100, ln100000, tLe, fLe, tLt, fLt, tEq, fEq, zLe_t, zLe_f, zLt_t, zLt_f, zEq_t, zEq_f, nzLe_t, nzLe_f, znLe_t, znLe_f, nzLt_t, nzLt_f, znLt_t, znLt_f, nzEq_t, nzEq_f, znEq_t, znEq_f, hx1, Nat.add_sub_cancel, hy, hz, both_ok hb]
          obtain ⟨L', e, p⟩ := ans_go hI hlen hs hok hto f (k + 1) (opW x y z :: r) (xu L 159 r.length (opW x y z)) (by omega) (by omega) (fun i hi => by rw [xu_r (by decide)]; exact hE i hi) (stk_push hS3.2 _) (by simp only [List.length_cons]; omega) he
          exact ⟨L', e, fun b hb => (p b hb).trans (xu_r hb)⟩
end ANS

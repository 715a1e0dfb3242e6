/-! fewest: rows of scrapes in their order; the class. -/
def sum6 (r : Nat → Nat) : Nat := r 0 + r 1 + r 2 + r 3 + r 4 + r 5
theorem sum6_up {r : Nat → Nat} {k x : Nat} (hk : k < 6) (h0 : r k = 0) : sum6 (updF r k x) = sum6 r + x := by
  unfold sum6 updF
  rcases (show k = 0 ∨ k = 1 ∨ k = 2 ∨ k = 3 ∨ k = 4 ∨ k = 5 by omega) with rfl | rfl | rfl | rfl | rfl | rfl <;> simp <;> omega
theorem updF_0 {r : Nat → Nat} {k : Nat} (h : r k = 0) : updF r k 0 = r := by
  funext j
  by_cases w : j = k
  · subst w; rw [updF_s, h]
  · rw [updF_n w]
theorem updF_2 {r : Nat → Nat} {k x y : Nat} : updF (updF r k x) k y = updF r k y := by
  funext j
  by_cases w : j = k
  · subst w; rw [updF_s, updF_s]
  · rw [updF_n w, updF_n w, updF_n w]
def blF (E : (Nat → Nat) → List (Nat → Nat)) (r : Nat → Nat) (k : Nat) : Nat → Nat → List (Nat → Nat)
  | 0, _ => []
  | n + 1, x => E (updF r k x) ++ blF E r k n (x + 1)
/-- the rows that go on from r at cell k, in their order -/
def enF (hs : Nat → Nat) : Nat → Nat → (Nat → Nat) → List (Nat → Nat)
  | 0, _, r => [r]
  | m + 1, k, r => blF (enF hs m (k + 1)) r k (hs k + 1) 0
abbrev fsT : Type := Nat × (Nat → Nat)
def stpF (okf : (Nat → Nat) → Bool) (b : fsT) (r : Nat → Nat) : fsT := if sum6 r < b.1 ∧ okf r = true then (sum6 r, r) else b
def foF (okf : (Nat → Nat) → Bool) : List (Nat → Nat) → fsT → fsT
  | [], b => b
  | r :: l, b => foF okf l (stpF okf b r)
theorem foF_app {okf : (Nat → Nat) → Bool} : ∀ (l1 l2 : List (Nat → Nat)) (b : fsT), foF okf (l1 ++ l2) b = foF okf l2 (foF okf l1 b)
  | [], _, _ => rfl
  | r :: l1, l2, b => by rw [List.cons_append, foF, foF, foF_app l1 l2]
theorem foF_no {okf : (Nat → Nat) → Bool} : ∀ (l : List (Nat → Nat)) (b : fsT), (∀ r ∈ l, b.1 ≤ sum6 r) → foF okf l b = b
  | [], _, _ => rfl
  | r :: l, b, h => by
    have e : stpF okf b r = b := by
      unfold stpF
      rw [if_neg (fun z => by have := h r List.mem_cons_self; omega)]
    rw [foF, e]
    exact foF_no l b (fun q hq => h q (List.mem_cons_of_mem _ hq))
theorem stpF_y {okf : (Nat → Nat) → Bool} {b : fsT} {r : Nat → Nat} (h1 : sum6 r < b.1) (h2 : okf r = true) : stpF okf b r = (sum6 r, r) := by
  unfold stpF
  rw [if_pos ⟨h1, h2⟩]
theorem stpF_n {okf : (Nat → Nat) → Bool} {b : fsT} {r : Nat → Nat} (h : ¬ (sum6 r < b.1 ∧ okf r = true)) : stpF okf b r = b := by
  unfold stpF
  rw [if_neg h]
theorem stpF_le {okf : (Nat → Nat) → Bool} {b : fsT} {r : Nat → Nat} : (stpF okf b r).1 ≤ b.1 := by
  unfold stpF
  split
  · rename_i h; exact Nat.le_of_lt h.1
  · exact Nat.le_refl _
theorem foF_le {okf : (Nat → Nat) → Bool} : ∀ (l : List (Nat → Nat)) (b : fsT), (foF okf l b).1 ≤ b.1
  | [], _ => Nat.le_refl _
  | r :: l, b => Nat.le_trans (foF_le l _) stpF_le
/-- what holds of all rows -/
theorem enF_all {hs : Nat → Nat} {Q : (Nat → Nat) → Prop} : ∀ (m k : Nat) (r : Nat → Nat), (∀ r', (∀ j, j < k → r' j = r j) → (∀ j, k + m ≤ j → r' j = r j) → (∀ j, k ≤ j → j < k + m → r' j ≤ hs j) → Q r') → ∀ r' ∈ enF hs m k r, Q r'
  | 0, k, r, h, r', hr => by
    simp [enF] at hr
    subst hr
    exact h r' (fun _ _ => rfl) (fun _ _ => rfl) (fun j h1 h2 => absurd h2 (by omega))
  | m + 1, k, r, h, r', hr => by
    have bl : ∀ (n x : Nat), x + n ≤ hs k + 1 → ∀ r' ∈ blF (enF hs m (k + 1)) r k n x, Q r' := by
      intro n
      induction n with
      | zero => intro x _ r' hr; simp [blF] at hr
      | succ n ih =>
        intro x hx r' hr
        rw [blF] at hr
        rcases List.mem_append.mp hr with z | z
        · refine enF_all m (k + 1) (updF r k x) (fun r'' h1 h2 h3 => ?_) r' z
          refine h r'' (fun j hj => ?_) (fun j hj => ?_) (fun j q1 q2 => ?_)
          · rw [h1 j (by omega), updF_n (by omega)]
          · rw [h2 j (by omega), updF_n (by omega)]
          · by_cases w : j = k
            · subst w; rw [h1 j (by omega), updF_s]; omega
            · exact h3 j (by omega) (by omega)
        · exact ih (x + 1) (by omega) r' z
    rw [enF] at hr
    exact bl _ 0 (by omega) r' hr
theorem enF_sum {hs : Nat → Nat} {m k : Nat} {r : Nat → Nat} (h0 : ∀ j, k ≤ j → r j = 0) : ∀ r' ∈ enF hs m k r, sum6 r ≤ sum6 r' := enF_all m k r (fun r' h1 h2 h3 => by
  have e : ∀ j, r j ≤ r' j := fun j => by
    by_cases w : j < k
    · rw [h1 j w]; exact Nat.le_refl _
    · rw [h0 j (by omega)]; omega
  unfold sum6
  have e0 := e 0
  have e1 := e 1
  have e2 := e 2
  have e3 := e 3
  have e4 := e 4
  have e5 := e 5
  omega)
section
variable {S : sT} {A : aT} {q t : Nat}
def oAf (S : sT) (A : aT) (t j x : Nat) : Int := ownL (sSuit S) (sDry S) ((A.1 (sFi S t + j)).drop x) A.2.2.1
def hsF (S : sT) (A : aT) (t j : Nat) : Nat := (A.1 (sFi S t + j)).length
def okF (S : sT) (A : aT) (q t : Nat) (r : Nat → Nat) : Bool := decide (ownC (fun p => cntF (fun j => oAf S A t j (r j)) p (sFi S (t + 1) - sFi S t) 0) 4 (sFi S (t + 1) - sFi S t) (sPart S) = q)
theorem oAf_rng (O : okS S) (hA : okA S A) {j : Nat} (hj : sFi S t + j < sCe S) (x : Nat) : oAf S A t j x = -1 ∨ ∃ p : Nat, p < 4 ∧ oAf S A t j x = p := by
  have o1 := O.1
  rcases ownL_rng (sSuit S) (sDry S) (sPa S) ((A.1 (sFi S t + j)).drop x) A.2.2.1 (fun y hy => (hA.1 _ hj).2 y (List.mem_of_mem_drop hy)) with h | ⟨p, h1, h2⟩
  · exact Or.inl h
  · exact Or.inr ⟨p, by omega, h2⟩
theorem talF_snoc {own : Nat → Int} : ∀ (n k : Nat), talF own (n + 1) k = talF own n k + one16 (own (k + n))
  | 0, k => by rw [talF, talF, talF]; simp
  | n + 1, k => by
    have e := talF_snoc (own := own) n (k + 1)
    rw [show k + 1 + n = k + (n + 1) by omega] at e
    rw [talF, e, talF, Nat.add_assoc]
/-- the class's table of owners -/
def tbF (I : Nat → Nat → Int32) (S : sT) (A : aT) (t N : Nat) : Prop := ∀ j, j < N → I 117 j = nI (hsF S A t j) ∧ ∀ x, x ≤ hsF S A t j → I (111 + j) x = zI (oAf S A t j x)
theorem fd68_go {L : Nat → Nat → Int64} {e111 : (Nat → Nat → Int32) → Nat → Nat → Int32 → Int32 → Option (Int32 × (Nat → Nat → Int32))} {s a j : Nat} {a4 : Int32} (O : okS S) (hA : okA S A) (hh : A.2.2.1 < 1000) (ps : s = 13 ∨ 171 < s) (pa : a = 24) (hj : sFi S t + j < sCe S) (hj6 : j < 6) : ∀ (f m x : Nat) (I : Nat → Nat → Int32), m < f → m + x = hsF S A t j + 1 → cS I s S → I a 2 = nI A.2.2.1 → I 117 j = nI (hsF S A t j) → (∀ y, y < x → I (111 + j) y = zI (oAf S A t j y)) → ∃ J, mX5_find_68 L e111 f I s a a4 (nI j) (lN (enc (A.1 (sFi S t + j)))) (nI x) = e111 J s a a4 (nI j) ∧ (∀ y, y ≤ hsF S A t j → J (111 + j) y = zI (oAf S A t j y)) ∧ ∀ b, b ≠ 111 + j → J b = I b
  | 0, m, x, I, h1, _, _, _, _, _ => absurd h1 (by omega)
  | f + 1, m, x, I, h1, h2, C, ha, h117, hx => by
    have o1 := O.1
    have hl := (hA.1 _ hj).1
    have hl5 : hsF S A t j ≤ 5 := hl.1
    rw [mX5_find_68]
    cases m with
    | zero =>
      refine ⟨I, ?_, fun y hy => hx y (by omega), fun _ _ => rfl⟩
      simp (disch := omega) only [↓reduceIte, Option.bind_some, Option.some.injEq, Prod.mk.injEq, and_self, and_true, true_and, eq_self, reduceCtorEq, not_false_eq_true, not_true_eq_false, or_true, true_or, or_false, false_or, bft, nAdd, nMul, nSub, nDiv, nRem, nAm1, nIx, nIn, bI_z, bI_o, ite_b1, ite_b0, zI_add, zI_sub, li0, li1, li2, li3, li4, li5, li6, li7, li8, li9, li10, li11, li12, li13, li14, li15, li16, li17, li18, li19, li20, li21, li22, li23, li24, li25, li26, li27, li28, li29, li30, li31, li32, li33, li34, li35, li36, li37, li40, li42, li43, li45, li47, li48, li57, li59, li60, li61, li62, li64, li80, li91, li93, li97, li99, li100, li122, li182, li199, li255, li300, li380, li400, li999, li1000, li3640, li4100, li65536, li99999, ln1, ln2, ln3, ln100, ln100000, tLe, fLe, tLt, fLt, tEq, fEq, zLe_t, zLe_f, zLt_t, zLt_f, zEq_t, zEq_f, nzLe_t, nzLe_f, znLe_t, znLe_f, nzLt_t, nzLt_f, znLt_t, znLt_f, nzEq_t, nzEq_f, znEq_t, znEq_f, h117]
    | succ m =>
      have e1 := without_ok hl (show x < 2147483648 by omega)
      have e2 := ownerOf_ok (I := I) (s := s) (cS_dry C) (by omega) (cS_suit C) (by omega) (okC_drop hl x) (show A.2.2.1 < 100000 by omega)
      change _ = some (zI (oAf S A t j x)) at e2
      have z : ∀ b, b ≠ 111 + j → xu I (111 + j) x (zI (oAf S A t j x)) b = I b := fun b hb => xu_r hb
      obtain ⟨J, j1, j2, j3⟩ := fd68_go (L := L) (e111 := e111) (a4 := a4) O hA hh ps pa hj hj6 f m (x + 1) (xu I (111 + j) x (zI (oAf S A t j x))) (by omega) (by omega) (cS_congr (fun b q1 q2 => z b (by omega)) C) (by rw [z a (by omega)]; exact ha) (by rw [z 117 (by omega)]; exact h117) (fun y hy => by
        by_cases w : y = x
        · subst w; exact xu_s
        · rw [xu_c w]; exact hx y (by omega))
      refine ⟨J, ?_, j2, fun b hb => (j3 b hb).trans (z b hb)⟩
      simp (disch := omega) only [↓reduceIte, Option.bind_some, Option.some.injEq, Prod.mk.injEq, and_self, and_true, true_and, eq_self, reduceCtorEq, not_false_eq_true, not_true_eq_false, or_true, true_or, or_false, false_or, bft, nAdd, nMul, nSub, nDiv, nRem, nAm1, nIx, nIn, bI_z, bI_o, ite_b1, ite_b0, zI_add, zI_sub, li0, li1, li2, li3, li4, li5, li6, li7, li8, li9, li10, li11, li12, li13, li14, li15, li16, li17, li18, li19, li20, li21, li22, li23, li24, li25, li26, li27, li28, li29, li30, li31, li32, li33, li34, li35, li36, li37, li40, li42, li43, li45, li47, li48, li57, li59, li60, li61, li62, li64, li80, li91, li93, li97, li99, li100, li122, li182, li199, li255, li300, li380, li400, li999, li1000, li3640, li4100, li65536, li99999, ln1, ln2, ln3, ln100, ln100000, tLe, fLe, tLt, fLt, tEq, fEq, zLe_t, zLe_f, zLt_t, zLt_f, zEq_t, zEq_f, nzLe_t, nzLe_f, znLe_t, znLe_f, nzLt_t, nzLt_f, znLt_t, znLt_f, nzEq_t, nzEq_f, znEq_t, znEq_f, h117, e1, ha, e2]
      exact j1
theorem fd27_go {L : Nat → Nat → Int64} {e117 : (Nat → Nat → Int32) → Option (Int32 × (Nat → Nat → Int32))} {s : Nat} (O : okS S) (hA : okA S A) (hh : A.2.2.1 < 1000) (ps : s = 13 ∨ 171 < s) (ht : t < sTh S) (hL : ∀ c, c < sCe S → L 25 c = lN (enc (A.1 c))) : ∀ (f m j : Nat) (I : Nat → Nat → Int32), m < f → m + j = sFi S (t + 1) - sFi S t → cS I s S → I 24 2 = nI A.2.2.1 → I 109 5 = nI (sFi S (t + 1) - sFi S t) → tbF I S A t j → ∃ J, mX5_find_27 L e117 f I s 24 (nI t) (nI j) = e117 J ∧ tbF J S A t (sFi S (t + 1) - sFi S t) ∧ ∀ b, b < 111 ∨ 117 < b → J b = I b
  | 0, m, j, I, h1, _, _, _, _, _ => absurd h1 (by omega)
  | f + 1, m, j, I, h1, h2, C, ha, h5, hT => by
    have o1 := O.1
    have ot := O.2.1.2.2 t ht
    rw [mX5_find_27]
    cases m with
    | zero =>
      refine ⟨I, ?_, by rw [← h2, Nat.zero_add]; exact hT, fun _ _ => rfl⟩
      simp (disch := omega) only [↓reduceIte, Option.bind_some, Option.some.injEq, Prod.mk.injEq, and_self, and_true, true_and, eq_self, reduceCtorEq, not_false_eq_true, not_true_eq_false, or_true, true_or, or_false, false_or, bft, nAdd, nMul, nSub, nDiv, nRem, nAm1, nIx, nIn, bI_z, bI_o, ite_b1, ite_b0, zI_add, zI_sub, li0, li1, li2, li3, li4, li5, li6, li7, li8, li9, li10, li11, li12, li13, li14, li15, li16, li17, li18, li19, li20, li21, li22, li23, li24, li25, li26, li27, li28, li29, li30, li31, li32, li33, li34, li35, li36, li37, li40, li42, li43, li45, li47, li48, li57, li59, li60, li61, li62, li64, li80, li91, li93, li97, li99, li100, li122, li182, li199, li255, li300, li380, li400, li999, li1000, li3640, li4100, li65536, li99999, ln1, ln2, ln3, ln100, ln100000, tLe, fLe, tLt, fLt, tEq, fEq, zLe_t, zLe_f, zLt_t, zLt_f, zEq_t, zEq_f, nzLe_t, nzLe_f, znLe_t, znLe_f, nzLt_t, nzLt_f, znLt_t, znLt_f, nzEq_t, nzEq_f, znEq_t, znEq_f, h5]
    | succ m =>
      have hj : sFi S t + j < sCe S := by omega
      have e1 := height_ok (hA.1 _ hj).1
      change _ = some (nI (hsF S A t j)) at e1
      have z : ∀ b, b ≠ 117 → xu I 117 j (nI (hsF S A t j)) b = I b := fun b hb => xu_r hb
      obtain ⟨J1, p1, p2, p3⟩ := fd68_go (L := L) (e111 := fun I_16 a1_16 a2_16 a4_16 a5_16 => (mX5_find_27 L e117 f I_16 a1_16 a2_16 a4_16 (a5_16 + 1))) (a4 := nI t) (a := 24) O hA hh ps rfl hj (by omega) xf (hsF S A t j + 1) 0 (xu I 117 j (nI (hsF S A t j))) (by have : hsF S A t j ≤ 5 := (hA.1 _ hj).1.1; unfold xf; omega) (by omega) (cS_congr (fun b q1 q2 => z b (by omega)) C) (by rw [z 24 (by decide)]; exact ha) xu_s (fun y hy => absurd hy (by omega))
      obtain ⟨J, k1, k2, k3⟩ := fd27_go (L := L) (e117 := e117) O hA hh ps ht hL f m (j + 1) J1 (by omega) (by omega) (cS_congr (fun b q1 q2 => (p3 b (by omega)).trans (z b (by omega))) C) (by rw [p3 24 (by omega), z 24 (by decide)]; exact ha) (by rw [p3 109 (by omega), z 109 (by decide)]; exact h5) (fun i hi => by
        by_cases w : i = j
        · subst w
          exact ⟨by rw [p3 117 (by omega), xu_s], p2⟩
        · refine ⟨by rw [p3 117 (by omega), xu_c w]; exact (hT i (by omega)).1, fun x hx => ?_⟩
          rw [p3 (111 + i) (by omega), z (111 + i) (by omega)]
          exact (hT i (by omega)).2 x hx)
      refine ⟨J, ?_, k2, fun b hb => by rw [k3 b hb, p3 b (by omega), z b (by omega)]⟩
      rw [h5, if_neg (fun y => absurd ((nLe (by omega) (by omega)).mp y) (by omega)), if_pos (nIn (by omega) (by omega)), nIx (by omega), cS_fi C ht, nAdd, if_pos (nIn (by omega) (by omega)), nIx (by omega), hL _ hj, e1, Option.bind_some, if_pos (nIn (by omega) (by omega)), nIx (by omega)]
      change mX5_find_68 L _ xf _ s 24 (nI t) (nI j) _ (nI 0) = _
      rw [p1, nI_1]
      exact k1
/-- the search's own cells -/
def srR (I : Nat → Nat → Int32) (S : sT) (A : aT) (q t : Nat) (b : fsT) : Prop := tbF I S A t (sFi S (t + 1) - sFi S t) ∧ I 109 4 = nI b.1 ∧ I 109 5 = nI (sFi S (t + 1) - sFi S t) ∧ I 109 6 = nI (sPart S) ∧ I 109 7 = nI q ∧ (b.1 < 31 → ∀ j, j < sFi S (t + 1) - sFi S t → I 119 j = nI (b.2 j))
theorem srch_leaf {I : Nat → Nat → Int32} {r : Nat → Nat} {b : fsT} {rs : (Nat → Nat → Int32) → Int32 → Int32 → Int32 → Option (Nat → Nat → Int32)} (O : okS S) (hA : okA S A) (ht : t < sTh S) (hq : q < sPa S) (hR : srR I S A q t b) (hb : b.1 ≤ 31) (hs : sum6 r ≤ 30) (h118 : ∀ j, j < sFi S (t + 1) - sFi S t → I 118 j = nI (r j)) : ∃ J, mX5_search rs I (nI (sFi S (t + 1) - sFi S t)) (nI (sum6 r)) (nI (talF (fun j => oAf S A t j (r j)) (sFi S (t + 1) - sFi S t) 0)) = some J ∧ srR J S A q t (stpF (okF S A q t) b r) ∧ ∀ x, x ≠ 109 → x ≠ 119 → J x = I x := by
  have o1 := O.1
  have ot := O.2.1.2.2 t ht
  obtain ⟨r1, r2, r3, r4, r5, r6⟩ := hR
  have hrg : ∀ j, 0 ≤ j → j < 0 + (sFi S (t + 1) - sFi S t) → (fun j => oAf S A t j (r j)) j = -1 ∨ ∃ p : Nat, p < 4 ∧ (fun j => oAf S A t j (r j)) j = p := fun j _ h => oAf_rng O hA (by omega) _
  have hT := talF_lt (by omega) hrg
  have eo := ownerBy_ok (T := talF (fun j => oAf S A t j (r j)) (sFi S (t + 1) - sFi S t) 0) (cells := sFi S (t + 1) - sFi S t) (part := sPart S) (by omega) (by omega) (by omega)
  have ec : ownC (fun p => talF (fun j => oAf S A t j (r j)) (sFi S (t + 1) - sFi S t) 0 / 16 ^ p % 16) 4 (sFi S (t + 1) - sFi S t) (sPart S) = ownC (fun p => cntF (fun j => oAf S A t j (r j)) p (sFi S (t + 1) - sFi S t) 0) 4 (sFi S (t + 1) - sFi S t) (sPart S) := ownC_congr (fun p hp => talF_at (by omega) hrg hp) _ _
  rw [ec] at eo
  have hcr := ownC_rng (fun p => cntF (fun j => oAf S A t j (r j)) p (sFi S (t + 1) - sFi S t) 0) 4 (sFi S (t + 1) - sFi S t) (sPart S)
  have ek : okF S A q t r = decide (ownC (fun p => cntF (fun j => oAf S A t j (r j)) p (sFi S (t + 1) - sFi S t) 0) 4 (sFi S (t + 1) - sFi S t) (sPart S) = q) := rfl
  generalize ownC (fun p => cntF (fun j => oAf S A t j (r j)) p (sFi S (t + 1) - sFi S t) 0) 4 (sFi S (t + 1) - sFi S t) (sPart S) = w at eo hcr ek
  have hw : -1 ≤ w ∧ w < 4 := by rcases hcr with z | ⟨p, z1, z2⟩ <;> omega
  unfold mX5_search
  by_cases h1 : sum6 r < b.1
  · by_cases h2 : w = q
    · rw [decide_eq_true h2] at ek
      rw [stpF_y h1 ek]
      have xc : ∀ c, c ≤ 6 → xcb (nI 0) (nI 0) (nI c) 6 6 = true := by decide +kernel
      refine ⟨xrow (xu I 109 4 (nI (sum6 r))) 119 (va_cpy ((xu I 109 4 (nI (sum6 r))) 118) ((xu I 109 4 (nI (sum6 r))) 119) 0 0 (sFi S (t + 1) - sFi S t)), ?_, ⟨fun j hj => ⟨?_, fun x hx => ?_⟩, ?_, ?_, ?_, ?_, fun _ j hj => ?_⟩, fun x hx1 hx2 => by rw [xrow_r hx2, xu_r hx1]⟩
      · simp (disch := omega) only [↓reduceIte, Option.bind_some, Option.some.injEq, Prod.mk.injEq, and_self, and_true, true_and, eq_self, reduceCtorEq, not_false_eq_true, not_true_eq_false, or_true, true_or, or_false, false_or, bft, nAdd, nMul, nSub, nDiv, nRem, nAm1, nIx, nIn, bI_z, bI_o, ite_b1, ite_b0, zI_add, zI_sub, li0, li1, li2, li3, li4, li5, li6, li7, li8, li9, li10, li11, li12, li13, li14, li15, li16, li17, li18, li19, li20, li21, li22, li23, li24, li25, li26, li27, li28, li29, li30, li31, li32, li33, li34, li35, li36, li37, li40, li42, li43, li45, li47, li48, li57, li59, li60, li61, li62, li64, li80, li91, li93, li97, li99, li100, li122, li182, li199, li255, li300, li380, li400, li999, li1000, li3640, li4100, li65536, li99999, ln1, ln2, ln3, ln100, ln100000, tLe, fLe, tLt, fLt, tEq, fEq, zLe_t, zLe_f, zLt_t, zLt_f, zEq_t, zEq_f, nzLe_t, nzLe_f, znLe_t, znLe_f, nzLt_t, nzLt_f, znLt_t, znLt_f, nzEq_t, nzEq_f, znEq_t, znEq_f, xu_s, xu_r, xu_c, xrow_at, xrow_r, r2, r3, r4, r5, eo, h2, xc]
      · rw [xrow_r (by decide), xu_r (by decide)]; exact (r1 j hj).1
      · rw [xrow_r (by omega), xu_r (by omega)]; exact (r1 j hj).2 x hx
      · rw [xrow_r (by decide), xu_s]
      · rw [xrow_r (by decide), xu_c (by decide)]; exact r3
      · rw [xrow_r (by decide), xu_c (by decide)]; exact r4
      · rw [xrow_r (by decide), xu_c (by decide)]; exact r5
      · rw [xrow_at, cpy0 hj, xu_r (by decide)]; exact h118 j hj
    · rw [decide_eq_false h2] at ek
      rw [stpF_n (fun z => absurd z.2 (by rw [ek]; decide))]
      refine ⟨I, ?_, ⟨r1, r2, r3, r4, r5, r6⟩, fun _ _ _ => rfl⟩
      simp (disch := omega) only [↓reduceIte, Option.bind_some, Option.some.injEq, Prod.mk.injEq, and_self, and_true, true_and, eq_self, reduceCtorEq, not_false_eq_true, not_true_eq_false, or_true, true_or, or_false, false_or, bft, nAdd, nMul, nSub, nDiv, nRem, nAm1, nIx, nIn, bI_z, bI_o, ite_b1, ite_b0, zI_add, zI_sub, li0, li1, li2, li3, li4, li5, li6, li7, li8, li9, li10, li11, li12, li13, li14, li15, li16, li17, li18, li19, li20, li21, li22, li23, li24, li25, li26, li27, li28, li29, li30, li31, li32, li33, li34, li35, li36, li37, li40, li42, li43, li45, li47, li48, li57, li59, li60, li61, li62, li64, li80, li91, li93, li97, li99, li100, li122, li182, li199, li255, li300, li380, li400, li999, li1000, li3640, li4100, li65536, li99999, ln1, ln2, ln3, ln100, ln100000, tLe, fLe, tLt, fLt, tEq, fEq, zLe_t, zLe_f, zLt_t, zLt_f, zEq_t, zEq_f, nzLe_t, nzLe_f, znLe_t, znLe_f, nzLt_t, nzLt_f, znLt_t, znLt_f, nzEq_t, nzEq_f, znEq_t, znEq_f, r2, r3, r4, r5, eo]
  · rw [stpF_n (fun z => h1 z.1)]
    refine ⟨I, ?_, ⟨r1, r2, r3, r4, r5, r6⟩, fun _ _ _ => rfl⟩
    simp (disch := omega) only [↓reduceIte, Option.bind_some, Option.some.injEq, Prod.mk.injEq, and_self, and_true, true_and, eq_self, reduceCtorEq, not_false_eq_true, not_true_eq_false, or_true, true_or, or_false, false_or, bft, nAdd, nMul, nSub, nDiv, nRem, nAm1, nIx, nIn, bI_z, bI_o, ite_b1, ite_b0, zI_add, zI_sub, li0, li1, li2, li3, li4, li5, li6, li7, li8, li9, li10, li11, li12, li13, li14, li15, li16, li17, li18, li19, li20, li21, li22, li23, li24, li25, li26, li27, li28, li29, li30, li31, li32, li33, li34, li35, li36, li37, li40, li42, li43, li45, li47, li48, li57, li59, li60, li61, li62, li64, li80, li91, li93, li97, li99, li100, li122, li182, li199, li255, li300, li380, li400, li999, li1000, li3640, li4100, li65536, li99999, ln1, ln2, ln3, ln100, ln100000, tLe, fLe, tLt, fLt, tEq, fEq, zLe_t, zLe_f, zLt_t, zLt_f, zEq_t, zEq_f, nzLe_t, nzLe_f, znLe_t, znLe_f, nzLt_t, nzLt_f, znLt_t, znLt_f, nzEq_t, nzEq_f, znEq_t, znEq_f, r2]
theorem srch_go (O : okS S) (hA : okA S A) (ht : t < sTh S) (hq : q < sPa S) : ∀ (f m k : Nat) (r : Nat → Nat) (b : fsT) (I : Nat → Nat → Int32), m < f → m + k = sFi S (t + 1) - sFi S t → (∀ j, k ≤ j → r j = 0) → sum6 r + 5 * m ≤ 30 → b.1 ≤ 31 → srR I S A q t b → (∀ j, j < k → I 118 j = nI (r j)) → ∃ J, zX5_search f I (nI k) (nI (sum6 r)) (nI (talF (fun j => oAf S A t j (r j)) k 0)) = some J ∧ srR J S A q t (foF (okF S A q t) (enF (hsF S A t) m k r) b) ∧ (∀ x, x ≠ 109 → x ≠ 118 → x ≠ 119 → J x = I x) ∧ ∀ j, j < k → J 118 j = I 118 j
  | 0, m, k, r, b, I, h1, _, _, _, _, _, _ => absurd h1 (by omega)
  | f + 1, m, k, r, b, I, h1, h2, h0, hs, hb, hR, h118 => by
    have o1 := O.1
    have ot := O.2.1.2.2 t ht
    rw [zX5_search]
    cases m with
    | zero =>
      have hk : k = sFi S (t + 1) - sFi S t := by omega
      subst hk
      obtain ⟨J, j1, j2, j3⟩ := srch_leaf (rs := fun I a1 a2 a3 => zX5_search f I a1 a2 a3) O hA ht hq hR hb (by omega) h118
      exact ⟨J, j1, j2, fun x q1 _ q3 => j3 x q1 q3, fun j _ => by rw [j3 118 (by decide) (by decide)]⟩
    | succ m =>
      have hkc : sFi S t + k < sCe S := by omega
      have hl5 : hsF S A t k ≤ 5 := (hA.1 _ hkc).1.1
      -- the loop over how many here
      have loop : ∀ (g c x : Nat) (b : fsT) (I : Nat → Nat → Int32), c < g → c + x = hsF S A t k + 1 → b.1 ≤ 31 → srR I S A q t b → (∀ j, j < k → I 118 j = nI (r j)) → ∃ J, mX5_search_62 (fun I a1 a2 a3 => zX5_search f I a1 a2 a3) g I (nI k) (nI (sum6 r)) (nI (talF (fun j => oAf S A t j (r j)) k 0)) (nI x) = some J ∧ srR J S A q t (foF (okF S A q t) (blF (enF (hsF S A t) m (k + 1)) r k c x) b) ∧ (∀ y, y ≠ 109 → y ≠ 118 → y ≠ 119 → J y = I y) ∧ ∀ j, j < k → J 118 j = I 118 j := by
        intro g
        induction g with
        | zero => intro c x b I hc; exact absurd hc (by omega)
        | succ g ih =>
          intro c x b I hc hx hb hR h118
          rw [mX5_search_62]
          have e117 := (hR.1 k (by omega)).1
          cases c with
          | zero =>
            refine ⟨I, ?_, hR, fun _ _ _ _ => rfl, fun _ _ => rfl⟩
            simp (disch := omega) only [↓reduceIte, Option.bind_some, Option.some.injEq, Prod.mk.injEq, and_self, and_true, true_and, eq_self, reduceCtorEq, not_false_eq_true, not_true_eq_false, or_true, true_or, or_false, false_or, bft, nAdd, nMul, nSub, nDiv, nRem, nAm1, nIx, nIn, bI_z, bI_o, ite_b1, ite_b0, zI_add, zI_sub, li0, li1, li2, li3, li4, li5, li6, li7, li8, li9, li10, li11, li12, li13, li14, li15, li16, li17, li18, li19, li20, li21, li22, li23, li24, li25, li26, li27, li28, li29, li30, li31, li32, li33, li34, li35, li36, li37, li40, li42, li43, li45, li47, li48, li57, li59, li60, li61, li62, li64, li80, li91, li93, li97, li99, li100, li122, li182, li199, li255, li300, li380, li400, li999, li1000, li3640, li4100, li65536, li99999, ln1, ln2, ln3, ln100, ln100000, tLe, fLe, tLt, fLt, tEq, fEq, zLe_t, zLe_f, zLt_t, zLt_f, zEq_t, zEq_f, nzLe_t, nzLe_f, znLe_t, znLe_f, nzLt_t, nzLt_f, znLt_t, znLt_f, nzEq_t, nzEq_f, znEq_t, znEq_f, e117]
          | succ c =>
            have eow := (hR.1 k (by omega)).2 x (by omega)
            have hrg := oAf_rng (t := t) O hA hkc x
            have h16 := one16_le hrg
            have e1 := oneFor_ok hrg
            clear hrg
            have z : ∀ y, y ≠ 118 → xu I 118 k (nI x) y = I y := fun y hy => xu_r hy
            have hR1 : srR (xu I 118 k (nI x)) S A q t b := by
              obtain ⟨r1, r2, r3, r4, r5, r6⟩ := hR
              exact ⟨fun j hj => ⟨by rw [z 117 (by decide)]; exact (r1 j hj).1, fun y hy => by rw [z (111 + j) (by omega)]; exact (r1 j hj).2 y hy⟩, by rw [z 109 (by decide)]; exact r2, by rw [z 109 (by decide)]; exact r3, by rw [z 109 (by decide)]; exact r4, by rw [z 109 (by decide)]; exact r5, by rw [z 119 (by decide)]; exact r6⟩
            have su : sum6 (updF r k x) = sum6 r + x := sum6_up (by omega) (h0 k (by omega))
            have tu : talF (fun j => oAf S A t j (updF r k x j)) (k + 1) 0 = talF (fun j => oAf S A t j (r j)) k 0 + one16 (oAf S A t k x) := by
              rw [talF_snoc, Nat.zero_add, updF_s]
              congr 1
              exact talF_congr _ _ (fun j _ hj => by rw [updF_n (by omega)])
            obtain ⟨J1, p1, p2, p3, p4⟩ := srch_go O hA ht hq f m (k + 1) (updF r k x) b (xu I 118 k (nI x)) (by omega) (by omega) (fun j hj => by rw [updF_n (by omega)]; exact h0 j (by omega)) (by rw [su]; omega) hb hR1 (fun j hj => by
              by_cases w : j = k
              · subst w; rw [xu_s, updF_s]
              · rw [xu_c w, updF_n w]; exact h118 j (by omega))
            rw [su, tu] at p1
            obtain ⟨J, u1, u2, u3, u4⟩ := ih c (x + 1) (foF (okF S A q t) (enF (hsF S A t) m (k + 1) (updF r k x)) b) J1 (by omega) (by omega) (Nat.le_trans (foF_le _ _) hb) p2 (fun j hj => by rw [p4 j (by omega), xu_c (by omega)]; exact h118 j hj)
            refine ⟨J, ?_, by rw [blF, foF_app]; exact u2, fun y q1 q2 q3 => by rw [u3 y q1 q2 q3, p3 y q1 q2 q3, z y q2], fun j hj => by rw [u4 j hj, p4 j (by omega), xu_c (by omega)]⟩
            have e111 : xu I 118 k (nI x) (111 + k) x = zI (oAf S A t k x) := by rw [z (111 + k) (by omega)]; exact eow
            simp (disch := omega) only [↓reduceIte, Option.bind_some, Option.some.injEq, Prod.mk.injEq, and_self, and_true, true_and, eq_self, reduceCtorEq, not_false_eq_true, not_true_eq_false, or_true, true_or, or_false, false_or, bft, nAdd, nMul, nSub, nDiv, nRem, nAm1, nIx, nIn, bI_z, bI_o, ite_b1, ite_b0, zI_add, zI_sub, li0, li1, li2, li3, li4, li5, li6, li7, li8, li9, li10, li11, li12, li13, li14, li15, li16, li17, li18, li19, li20, li21, li22, li23, li24, li25, li26, li27, li28, li29, li30, li31, li32, li33, li34, li35, li36, li37, li40, li42, li43, li45, li47, li48, li57, li59, li60, li61, li62, li64, li80, li91, li93, li97, li99, li100, li122, li182, li199, li255, li300, li380, li400, li999, li1000, li3640, li4100, li65536, li99999, ln1, ln2, ln3, ln100, ln100000, tLe, fLe, tLt, fLt, tEq, fEq, zLe_t, zLe_f, zLt_t, zLt_f, zEq_t, zEq_f, nzLe_t, nzLe_f, znLe_t, znLe_f, nzLt_t, nzLt_f, znLt_t, znLt_f, nzEq_t, nzEq_f, znEq_t, znEq_f, e117, e111, e1, p1]
            exact u1
      obtain ⟨r1, r2, r3, r4, r5, r6⟩ := hR
      by_cases hp : sum6 r < b.1
      · obtain ⟨J, u1, u2, u3, u4⟩ := loop xf (hsF S A t k + 1) 0 b I (by unfold xf; omega) (by omega) hb ⟨r1, r2, r3, r4, r5, r6⟩ h118
        refine ⟨J, ?_, u2, u3, u4⟩
        unfold mX5_search
        simp (disch := omega) only [↓reduceIte, Option.bind_some, Option.some.injEq, Prod.mk.injEq, and_self, and_true, true_and, eq_self, reduceCtorEq, not_false_eq_true, not_true_eq_false, or_true, true_or, or_false, false_or, bft, nAdd, nMul, nSub, nDiv, nRem, nAm1, nIx, nIn, bI_z, bI_o, ite_b1, ite_b0, zI_add, zI_sub, li0, li1, li2, li3, li4, li5, li6, li7, li8, li9, li10, li11, li12, li13, li14, li15, li16, li17, li18, li19, li20, li21, li22, li23, li24, li25, li26, li27, li28, li29, li30, li31, li32, li33, li34, li35, li36, li37, li40, li42, li43, li45, li47, li48, li57, li59, li60, li61, li62, li64, li80, li91, li93, li97, li99, li100, li122, li182, li199, li255, li300, li380, li400, li999, li1000, li3640, li4100, li65536, li99999, ln1, ln2, ln3, ln100, ln100000, tLe, fLe, tLt, fLt, tEq, fEq, zLe_t, zLe_f, zLt_t, zLt_f, zEq_t, zEq_f, nzLe_t, nzLe_f, znLe_t, znLe_f, nzLt_t, nzLt_f, znLt_t, znLt_f, nzEq_t, nzEq_f, znEq_t, znEq_f, r2, r3]
        exact u1
      · rw [foF_no _ _ (fun r' hr' => by have := enF_sum (hs := hsF S A t) (m := m + 1) h0 r' hr'; omega)]
        refine ⟨I, ?_, ⟨r1, r2, r3, r4, r5, r6⟩, fun _ _ _ _ => rfl, fun _ _ => rfl⟩
        unfold mX5_search
        simp (disch := omega) only [↓reduceIte, Option.bind_some, Option.some.injEq, Prod.mk.injEq, and_self, and_true, true_and, eq_self, reduceCtorEq, not_false_eq_true, not_true_eq_false, or_true, true_or, or_false, false_or, bft, nAdd, nMul, nSub, nDiv, nRem, nAm1, nIx, nIn, bI_z, bI_o, ite_b1, ite_b0, zI_add, zI_sub, li0, li1, li2, li3, li4, li5, li6, li7, li8, li9, li10, li11, li12, li13, li14, li15, li16, li17, li18, li19, li20, li21, li22, li23, li24, li25, li26, li27, li28, li29, li30, li31, li32, li33, li34, li35, li36, li37, li40, li42, li43, li45, li47, li48, li57, li59, li60, li61, li62, li64, li80, li91, li93, li97, li99, li100, li122, li182, li199, li255, li300, li380, li400, li999, li1000, li3640, li4100, li65536, li99999, ln1, ln2, ln3, ln100, ln100000, tLe, fLe, tLt, fLt, tEq, fEq, zLe_t, zLe_f, zLt_t, zLt_f, zEq_t, zEq_f, nzLe_t, nzLe_f, znLe_t, znLe_f, nzLt_t, nzLt_f, znLt_t, znLt_f, nzEq_t, nzEq_f, znEq_t, znEq_f, r2]
end

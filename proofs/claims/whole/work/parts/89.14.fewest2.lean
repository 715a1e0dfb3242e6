/-! fewest: the reference. -/
/-- the row that follows, counted from place k down -/
def nxF (hs : Nat → Nat) : (Nat → Nat) → Nat → Bool × (Nat → Nat)
  | r, 0 => (false, r)
  | r, k + 1 => if r k < hs k then (true, updF r k (r k + 1)) else nxF hs (updF r k 0) k
def cnF (hs : Nat → Nat) (N : Nat) : List (Nat → Nat) → Bool × (Nat → Nat) → Bool × (Nat → Nat) → Prop
  | [], s, e => s = e
  | r :: l, s, e => s = (true, r) ∧ cnF hs N l (nxF hs r N) e
theorem cnF_app {hs : Nat → Nat} {N : Nat} : ∀ (l1 l2 : List (Nat → Nat)) (s m e : Bool × (Nat → Nat)), cnF hs N l1 s m → cnF hs N l2 m e → cnF hs N (l1 ++ l2) s e
  | [], _, _, _, _, h1, h2 => by rw [cnF] at h1; rw [h1]; exact h2
  | r :: l1, l2, s, m, e, h1, h2 => ⟨h1.1, cnF_app l1 l2 _ m e h1.2 h2⟩
theorem enF_ch {hs : Nat → Nat} {N : Nat} : ∀ (m k : Nat) (r : Nat → Nat), m + k = N → (∀ j, k ≤ j → r j = 0) → cnF hs N (enF hs m k r) (true, r) (nxF hs r k)
  | 0, k, r, h1, _ => by
    have : k = N := by omega
    subst this
    exact ⟨rfl, rfl⟩
  | m + 1, k, r, h1, h0 => by
    have bl : ∀ (n x : Nat), n + x = hs k + 1 → cnF hs N (blF (enF hs m (k + 1)) r k n x) (if x ≤ hs k then (true, updF r k x) else nxF hs r k) (nxF hs r k) := by
      intro n
      induction n with
      | zero => intro x hx; rw [blF, if_neg (by omega)]; rfl
      | succ n ih =>
        intro x hx
        rw [blF, if_pos (by omega)]
        refine cnF_app _ _ _ _ _ (enF_ch m (k + 1) (updF r k x) (by omega) (fun j hj => by rw [updF_n (by omega)]; exact h0 j (by omega))) ?_
        have e : nxF hs (updF r k x) (k + 1) = if x + 1 ≤ hs k then (true, updF r k (x + 1)) else nxF hs r k := by
          rw [nxF, updF_s, updF_2, updF_2, updF_0 (h0 k (Nat.le_refl k))]
          rfl
        rw [e]
        exact ih (x + 1) (by omega)
    have b0 := bl (hs k + 1) 0 (by omega)
    rw [if_pos (by omega), updF_0 (h0 k (Nat.le_refl k))] at b0
    exact b0
theorem enF_len {hs : Nat → Nat} : ∀ (m k : Nat) (r : Nat → Nat), (∀ j, k ≤ j → j < k + m → hs j ≤ 5) → (enF hs m k r).length ≤ 6 ^ m
  | 0, _, _, _ => Nat.le_refl _
  | m + 1, k, r, h => by
    have bl : ∀ (n x : Nat), (blF (enF hs m (k + 1)) r k n x).length ≤ n * 6 ^ m := by
      intro n
      induction n with
      | zero => intro x; rw [Nat.zero_mul]; exact Nat.le_refl _
      | succ n ih =>
        intro x
        rw [blF, List.length_append, Nat.succ_mul]
        have e1 := ih (x + 1)
        have e2 := enF_len m (k + 1) (updF r k x) (fun j h1 h2 => h j (by omega) (by omega))
        omega
    rw [enF, Nat.pow_succ, Nat.mul_comm]
    exact Nat.le_trans (bl _ 0) (Nat.mul_le_mul_right _ (by have := h k (by omega) (by omega); omega))
theorem nNe2 {x : Nat} (h : x < 2147483648) : ¬ nI x = (-2 : Int32) := by
  intro e
  rw [nz, lm2] at e
  exact absurd ((zI_eq (by omega) (by omega) (by omega) (by omega)).mp e) (by omega)
def g3 (I J : Nat → Nat → Int32) : Prop := ∀ b, b ≠ 160 → b ≠ 164 → b ≠ 165 → J b = I b
theorem g3_trans {I J H : Nat → Nat → Int32} (a : g3 I J) (b : g3 J H) : g3 I H := fun c q1 q2 q3 => (b c q1 q2 q3).trans (a c q1 q2 q3)
theorem g3_aR {I J : Nat → Nat → Int32} (g : g3 I J) : aR I J := ⟨fun b i _ _ h3 _ => by rw [g b (by omega) (by omega) (by omega)], fun j _ => by rw [g 170 (by decide) (by decide) (by decide)]⟩
theorem g3_f5 {I J : Nat → Nat → Int32} (g : g3 I J) : f5 I J := fun r i h _ => by
  unfold fv at h
  rw [g r (by omega) (by omega) (by omega)]
section
variable {S : sT} {A : aT} {q t : Nat}
theorem g3_r {I J : Nat → Nat → Int32} (g : g3 I J) (R : rSn I S) (RA : rAn I S A) : rSn J S ∧ rAn J S A := by
  unfold rSn rAn
  rw [g 124 (by decide) (by decide) (by decide), g 125 (by decide) (by decide) (by decide), g 126 (by decide) (by decide) (by decide), g 127 (by decide) (by decide) (by decide), g 129 (by decide) (by decide) (by decide), g 130 (by decide) (by decide) (by decide), g 128 (by decide) (by decide) (by decide), g 131 (by decide) (by decide) (by decide), g 132 (by decide) (by decide) (by decide), g 133 (by decide) (by decide) (by decide)]
  exact ⟨R, RA⟩
/-- row 164 holds a row -/
def r164 (I : Nat → Nat → Int32) (r : Nat → Nat) : Prop := ∀ j, j < 6 → I 164 j = nI (r j)
theorem all_go {I : Nat → Nat → Int32} {r : Nat → Nat} (h : r164 I r) : mX12_allScraped I = some (nI (sum6 r)) := by
  have h0 := h 0 (by decide)
  have h1 := h 1 (by decide)
  have h2 := h 2 (by decide)
  have h3 := h 3 (by decide)
  have h4 := h 4 (by decide)
  have h5 := h 5 (by decide)
  unfold mX12_allScraped
  rw [xf_s, mX12_allScraped_4, mX12_allScraped_4, mX12_allScraped_4, mX12_allScraped_4, mX12_allScraped_4, mX12_allScraped_4, mX12_allScraped_4]
  simp (disch := omega) only [↓reduceIte, Option.bind_some, Option.some.injEq, Prod.mk.injEq, and_self, and_true, true_and, eq_self, reduceCtorEq, not_false_eq_true, not_true_eq_false, or_true, true_or, or_false, false_or, bft, nAdd, nMul, nSub, nDiv, nRem, nAm1, nIx, nIn, bI_z, bI_o, ite_b1, ite_b0, zI_add, zI_sub, li0, li1, li2, li3, li4, li5, li6, li7, li8, li9, li10, li11, li12, li13, li14, li15, li16, li17, li18, li19, li20, li21, li22, li23, li24, li25, li26, li27, li28, li29, li30, li31, li32, li33, li34, li35, li36, li37, li40, li42, li43, li45, li47, li48, li57, li59, li60, li61, li62, li64, li80, li91, li93, li97, li99, li100, li122, li182, li199, li255, li300, li380, li400, li999, li1000, li3640, li4100, li65536, li99999, ln1, ln2, ln3, ln100, ln100000, tLe, fLe, tLt, fLt, tEq, fEq, zLe_t, zLe_f, zLt_t, zLt_f, zEq_t, zEq_f, nzLe_t, nzLe_f, znLe_t, znLe_f, nzLt_t, nzLt_f, znLt_t, znLt_f, nzEq_t, nzEq_f, znEq_t, znEq_f, h0, h1, h2, h3, h4, h5, Nat.zero_add]
  rfl
theorem nx_go {e34 : (Nat → Nat → Int32) → Int32 → Option (Int32 × (Nat → Nat → Int32))} (he : e34 = fun I a2 => (if inb a2 6 = true then (if inb a2 6 = true then (some ((1 : Int32), (xu I 164 (ix a2) ((I 164 (ix a2)) + (1 : Int32))))) else none) else none)) (O : okS S) (hA : okA S A) (ht : t < sTh S) : ∀ (f k : Nat) (I : Nat → Nat → Int32) (r : Nat → Nat), k < f → k ≤ sFi S (t + 1) - sFi S t → rSn I S → rAn I S A → r164 I r → (∀ j, r j ≤ 5) → ∃ J, mX12_isNextRow_8 e34 f I (nI t) (zI ((k : Int) - 1)) = some (bI (nxF (hsF S A t) r k).1, J) ∧ r164 J (nxF (hsF S A t) r k).2 ∧ ∀ b, b ≠ 164 → J b = I b
  | 0, k, I, r, h1, _, _, _, _, _ => absurd h1 (by omega)
  | f + 1, 0, I, r, _, _, _, _, h6, _ => by
    rw [mX12_isNextRow_8, nxF]
    refine ⟨I, ?_, h6, fun _ _ => rfl⟩
    simp (disch := omega) only [↓reduceIte, Option.bind_some, Option.some.injEq, Prod.mk.injEq, and_self, and_true, true_and, eq_self, reduceCtorEq, not_false_eq_true, not_true_eq_false, or_true, true_or, or_false, false_or, bft, nAdd, nMul, nSub, nDiv, nRem, nAm1, nIx, nIn, bI_z, bI_o, ite_b1, ite_b0, zI_add, zI_sub, li0, li1, li2, li3, li4, li5, li6, li7, li8, li9, li10, li11, li12, li13, li14, li15, li16, li17, li18, li19, li20, li21, li22, li23, li24, li25, li26, li27, li28, li29, li30, li31, li32, li33, li34, li35, li36, li37, li40, li42, li43, li45, li47, li48, li57, li59, li60, li61, li62, li64, li80, li91, li93, li97, li99, li100, li122, li182, li199, li255, li300, li380, li400, li999, li1000, li3640, li4100, li65536, li99999, ln1, ln2, ln3, ln100, ln100000, tLe, fLe, tLt, fLt, tEq, fEq, zLe_t, zLe_f, zLt_t, zLt_f, zEq_t, zEq_f, nzLe_t, nzLe_f, znLe_t, znLe_f, nzLt_t, nzLt_f, znLt_t, znLt_f, nzEq_t, nzEq_f, znEq_t, znEq_f]
    rfl
  | f + 1, k + 1, I, r, h1, h2, R, RA, h6, h5 => by
    have o1 := O.1
    have ot := O.2.1.2.2 t ht
    have hk : sFi S t + k < sCe S := by omega
    have hm := rAn_m RA hk
    change _ = nI (hsF S A t k) at hm
    have hl5 : hsF S A t k ≤ 5 := (hA.1 _ hk).1.1
    have e := h6 k (by omega)
    have e5 := h5 k
    have ek : zI (((k + 1 : Nat) : Int) - 1) = nI k := by rw [nz]; congr 1; omega
    rw [ek, mX12_isNextRow_8, nxF]
    by_cases w : r k < hsF S A t k
    · rw [if_pos w]
      refine ⟨xu I 164 k (nI (r k + 1)), ?_, fun j hj => ?_, fun b hb => xu_r hb⟩
      · simp (disch := omega) only [↓reduceIte, Option.bind_some, Option.some.injEq, Prod.mk.injEq, and_self, and_true, true_and, eq_self, reduceCtorEq, not_false_eq_true, not_true_eq_false, or_true, true_or, or_false, false_or, bft, nAdd, nMul, nSub, nDiv, nRem, nAm1, nIx, nIn, bI_z, bI_o, ite_b1, ite_b0, zI_add, zI_sub, li0, li1, li2, li3, li4, li5, li6, li7, li8, li9, li10, li11, li12, li13, li14, li15, li16, li17, li18, li19, li20, li21, li22, li23, li24, li25, li26, li27, li28, li29, li30, li31, li32, li33, li34, li35, li36, li37, li40, li42, li43, li45, li47, li48, li57, li59, li60, li61, li62, li64, li80, li91, li93, li97, li99, li100, li122, li182, li199, li255, li300, li380, li400, li999, li1000, li3640, li4100, li65536, li99999, ln1, ln2, ln3, ln100, ln100000, tLe, fLe, tLt, fLt, tEq, fEq, zLe_t, zLe_f, zLt_t, zLt_f, zEq_t, zEq_f, nzLe_t, nzLe_f, znLe_t, znLe_f, nzLt_t, nzLt_f, znLt_t, znLt_f, nzEq_t, nzEq_f, znEq_t, znEq_f, rSn_fi R (show t ≤ sTh S by omega), hm, e, he]
        rfl
      · show _ = nI (updF r k (r k + 1) j)
        by_cases z : j = k
        · subst z; rw [xu_s, updF_s]
        · rw [xu_c z, updF_n z]; exact h6 j hj
    · rw [if_neg w]
      have z : ∀ b, b ≠ 164 → xu I 164 k (nI 0) b = I b := fun b hb => xu_r hb
      have g : g3 I (xu I 164 k (nI 0)) := fun b _ h _ => z b h
      obtain ⟨J, j1, j2, j3⟩ := nx_go he O hA ht f k (xu I 164 k (nI 0)) (updF r k 0) (by omega) (by omega) (g3_r g R RA).1 (g3_r g R RA).2 (fun j hj => by
        by_cases z : j = k
        · subst z; rw [xu_s, updF_s]
        · rw [xu_c z, updF_n z]; exact h6 j hj) (fun j => by
        by_cases z : j = k
        · subst z; rw [updF_s]; omega
        · rw [updF_n z]; exact h5 j)
      refine ⟨J, ?_, j2, fun b hb => (j3 b hb).trans (z b hb)⟩
      simp (disch := omega) only [↓reduceIte, Option.bind_some, Option.some.injEq, Prod.mk.injEq, and_self, and_true, true_and, eq_self, reduceCtorEq, not_false_eq_true, not_true_eq_false, or_true, true_or, or_false, false_or, bft, nAdd, nMul, nSub, nDiv, nRem, nAm1, nIx, nIn, bI_z, bI_o, ite_b1, ite_b0, zI_add, zI_sub, li0, li1, li2, li3, li4, li5, li6, li7, li8, li9, li10, li11, li12, li13, li14, li15, li16, li17, li18, li19, li20, li21, li22, li23, li24, li25, li26, li27, li28, li29, li30, li31, li32, li33, li34, li35, li36, li37, li40, li42, li43, li45, li47, li48, li57, li59, li60, li61, li62, li64, li80, li91, li93, li97, li99, li100, li122, li182, li199, li255, li300, li380, li400, li999, li1000, li3640, li4100, li65536, li99999, ln1, ln2, ln3, ln100, ln100000, tLe, fLe, tLt, fLt, tEq, fEq, zLe_t, zLe_f, zLt_t, zLt_f, zEq_t, zEq_f, nzLe_t, nzLe_f, znLe_t, znLe_f, nzLt_t, nzLt_f, znLt_t, znLt_f, nzEq_t, nzEq_f, znEq_t, znEq_f, rSn_fi R (show t ≤ sTh S by omega), hm, e]
      rw [show nI k + zI (-1) = zI ((k : Int) - 1) by rw [nz, zI_add]; rfl]
      exact j1
theorem nx_ok {I : Nat → Nat → Int32} {r : Nat → Nat} (O : okS S) (hA : okA S A) (ht : t < sTh S) (R : rSn I S) (RA : rAn I S A) (h6 : r164 I r) (h5 : ∀ j, r j ≤ 5) : ∃ J, mX12_isNextRow I (nI t) = some (bI (nxF (hsF S A t) r (sFi S (t + 1) - sFi S t)).1, J) ∧ r164 J (nxF (hsF S A t) r (sFi S (t + 1) - sFi S t)).2 ∧ ∀ b, b ≠ 164 → J b = I b := by
  have o1 := O.1
  have ot := O.2.1.2.2 t ht
  obtain ⟨J, j1, j2, j3⟩ := nx_go (e34 := fun I a2 => (if inb a2 6 = true then (if inb a2 6 = true then (some ((1 : Int32), (xu I 164 (ix a2) ((I 164 (ix a2)) + (1 : Int32))))) else none) else none)) rfl O hA ht xf (sFi S (t + 1) - sFi S t) I r (by unfold xf; omega) (Nat.le_refl _) R RA h6 h5
  refine ⟨J, ?_, j2, j3⟩
  unfold mX12_isNextRow
  rw [rCellsIn_ok R O ht, Option.bind_some, show nI (sFi S (t + 1) - sFi S t) - 1 = zI (((sFi S (t + 1) - sFi S t : Nat) : Int) - 1) by rw [nz, show (1 : Int32) = zI 1 from rfl, zI_sub]]
  rw [j1]
theorem th22_go {e95 : (Nat → Nat → Int32) → Int32 → Int32 → Option (Int32 × (Nat → Nat → Int32))} {a1 : Int32} {r : Nat → Nat} (O : okS S) (hA : okA S A) (hh : A.2.2.1 < 100000) (ht : t < sTh S) (hr : ∀ j, j < sFi S (t + 1) - sFi S t → r j ≤ hsF S A t j) : ∀ (f m k : Nat) (I : Nat → Nat → Int32) (g : Nat → Nat), m < f → m + k = sFi S (t + 1) - sFi S t → rSn I S → rAn I S A → r164 I r → (∀ p, p < 4 → I 160 p = nI (g p)) → ∃ J, mX12_isTheirsScraped_22 e95 f I a1 (nI t) (nI k) = e95 J a1 (nI t) ∧ (∀ b, b ≠ 160 → J b = I b) ∧ ∀ p, p < 4 → J 160 p = nI (g p + cntF (fun j => oAf S A t j (r j)) p m k)
  | 0, m, k, I, g, h1, _, _, _, _, _ => absurd h1 (by omega)
  | f + 1, m, k, I, g, h1, h2, R, RA, h6, hg => by
    have o1 := O.1
    have ot := O.2.1.2.2 t ht
    have ec := rCellsIn_ok R O ht
    rw [mX12_isTheirsScraped_22]
    cases m with
    | zero =>
      refine ⟨I, ?_, fun _ _ => rfl, fun p hp => by simpa [cntF] using hg p hp⟩
      simp (disch := omega) only [↓reduceIte, Option.bind_some, Option.some.injEq, Prod.mk.injEq, and_self, and_true, true_and, eq_self, reduceCtorEq, not_false_eq_true, not_true_eq_false, or_true, true_or, or_false, false_or, bft, nAdd, nMul, nSub, nDiv, nRem, nAm1, nIx, nIn, bI_z, bI_o, ite_b1, ite_b0, zI_add, zI_sub, li0, li1, li2, li3, li4, li5, li6, li7, li8, li9, li10, li11, li12, li13, li14, li15, li16, li17, li18, li19, li20, li21, li22, li23, li24, li25, li26, li27, li28, li29, li30, li31, li32, li33, li34, li35, li36, li37, li40, li42, li43, li45, li47, li48, li57, li59, li60, li61, li62, li64, li80, li91, li93, li97, li99, li100, li122, li182, li199, li255, li300, li380, li400, li999, li1000, li3640, li4100, li65536, li99999, ln1, ln2, ln3, ln100, ln100000, tLe, fLe, tLt, fLt, tEq, fEq, zLe_t, zLe_f, zLt_t, zLt_f, zEq_t, zEq_f, nzLe_t, nzLe_f, znLe_t, znLe_f, nzLt_t, nzLt_f, znLt_t, znLt_f, nzEq_t, nzEq_f, znEq_t, znEq_f, ec]
    | succ m =>
      have hk : sFi S t + k < sCe S := by omega
      have hm := rAn_m RA hk
      have hl := (hA.1 _ hk).1
      have hl5 : (A.1 (sFi S t + k)).length ≤ 5 := hl.1
      have hrk : r k ≤ (A.1 (sFi S t + k)).length := hr k (by omega)
      have e := h6 k (by omega)
      have eo := rOwnerBy_ok (j := (A.1 (sFi S t + k)).length - r k) R O (show sFi S t + k < 16 by omega) hh (okC_drop hl (r k)) (rowB_drop (r k) (RA.2.2.2 _ hk).2) (by rw [List.length_drop])
      change _ = some (zI (oAf S A t k (r k))) at eo
      have hv := oAf_rng (t := t) O hA hk (r k)
      rcases hv with ev | ⟨p, hp, ev⟩
      · obtain ⟨J, j1, j2, j3⟩ := th22_go (e95 := e95) (a1 := a1) O hA hh ht hr f m (k + 1) I g (by omega) (by omega) R RA h6 hg
        refine ⟨J, ?_, j2, fun p hp => ?_⟩
        · rw [ev] at eo
          simp (disch := omega) only [↓reduceIte, Option.bind_some, Option.some.injEq, Prod.mk.injEq, and_self, and_true, true_and, eq_self, reduceCtorEq, not_false_eq_true, not_true_eq_false, or_true, true_or, or_false, false_or, bft, nAdd, nMul, nSub, nDiv, nRem, nAm1, nIx, nIn, bI_z, bI_o, ite_b1, ite_b0, zI_add, zI_sub, li0, li1, li2, li3, li4, li5, li6, li7, li8, li9, li10, li11, li12, li13, li14, li15, li16, li17, li18, li19, li20, li21, li22, li23, li24, li25, li26, li27, li28, li29, li30, li31, li32, li33, li34, li35, li36, li37, li40, li42, li43, li45, li47, li48, li57, li59, li60, li61, li62, li64, li80, li91, li93, li97, li99, li100, li122, li182, li199, li255, li300, li380, li400, li999, li1000, li3640, li4100, li65536, li99999, ln1, ln2, ln3, ln100, ln100000, tLe, fLe, tLt, fLt, tEq, fEq, zLe_t, zLe_f, zLt_t, zLt_f, zEq_t, zEq_f, nzLe_t, nzLe_f, znLe_t, znLe_f, nzLt_t, nzLt_f, znLt_t, znLt_f, nzEq_t, nzEq_f, znEq_t, znEq_f, ec, rSn_fi R (show t ≤ sTh S by omega), hm, e, rAn_h RA, eo]
          exact j1
        · rw [j3 p hp, cntF, ev, if_neg (by omega), Nat.zero_add]
      · have z : ∀ b, b ≠ 160 → xu I 160 p (nI (g p + 1)) b = I b := fun b hb => xu_r hb
        obtain ⟨J, j1, j2, j3⟩ := th22_go (e95 := e95) (a1 := a1) O hA hh ht hr f m (k + 1) (xu I 160 p (nI (g p + 1))) (fun x => if x = p then g p + 1 else g x) (by omega) (by omega) (rSn_congr z R) (rAn_congr z RA) (fun j hj => by rw [z 164 (by decide)]; exact h6 j hj) (fun x hx => by
          by_cases w : x = p
          · subst w; rw [xu_s, if_pos rfl]
          · rw [xu_c w, if_neg w, hg x hx])
        refine ⟨J, ?_, fun b hb => (j2 b hb).trans (z b hb), fun x hx => ?_⟩
        · rw [ev, zI_nat] at eo
          simp (disch := omega) only [↓reduceIte, Option.bind_some, Option.some.injEq, Prod.mk.injEq, and_self, and_true, true_and, eq_self, reduceCtorEq, not_false_eq_true, not_true_eq_false, or_true, true_or, or_false, false_or, bft, nAdd, nMul, nSub, nDiv, nRem, nAm1, nIx, nIn, bI_z, bI_o, ite_b1, ite_b0, zI_add, zI_sub, li0, li1, li2, li3, li4, li5, li6, li7, li8, li9, li10, li11, li12, li13, li14, li15, li16, li17, li18, li19, li20, li21, li22, li23, li24, li25, li26, li27, li28, li29, li30, li31, li32, li33, li34, li35, li36, li37, li40, li42, li43, li45, li47, li48, li57, li59, li60, li61, li62, li64, li80, li91, li93, li97, li99, li100, li122, li182, li199, li255, li300, li380, li400, li999, li1000, li3640, li4100, li65536, li99999, ln1, ln2, ln3, ln100, ln100000, tLe, fLe, tLt, fLt, tEq, fEq, zLe_t, zLe_f, zLt_t, zLt_f, zEq_t, zEq_f, nzLe_t, nzLe_f, znLe_t, znLe_f, nzLt_t, nzLt_f, znLt_t, znLt_f, nzEq_t, nzEq_f, znEq_t, znEq_f, ec, rSn_fi R (show t ≤ sTh S by omega), hm, e, rAn_h RA, eo, hg p hp]
          exact j1
        · rw [j3 x hx, cntF, ev]
          show nI ((if x = p then g p + 1 else g x) + _) = _
          by_cases w : x = p
          · subst w; rw [if_pos rfl, if_pos rfl]; congr 1; omega
          · rw [if_neg w, if_neg (by omega)]; congr 1; omega
theorem oAf_rng2 (hA : okA S A) {j : Nat} (hj : sFi S t + j < sCe S) (x : Nat) : oAf S A t j x = -1 ∨ ∃ p : Nat, p < sPa S ∧ oAf S A t j x = p :=
  ownL_rng (sSuit S) (sDry S) (sPa S) ((A.1 (sFi S t + j)).drop x) A.2.2.1 (fun y hy => (hA.1 _ hj).2 y (List.mem_of_mem_drop hy))
theorem ths_ok {I : Nat → Nat → Int32} {r : Nat → Nat} (O : okS S) (hA : okA S A) (hh : A.2.2.1 < 100000) (hq : q < sPa S) (ht : t < sTh S) (hr : ∀ j, j < sFi S (t + 1) - sFi S t → r j ≤ hsF S A t j) (R : rSn I S) (RA : rAn I S A) (h6 : r164 I r) : ∃ J, mX12_isTheirsScraped I (nI q) (nI t) = some (bI (okF S A q t r), J) ∧ ∀ b, b ≠ 160 → J b = I b := by
  have o1 := O.1
  have ot := O.2.1.2.2 t ht
  have z : ∀ b, b ≠ 160 → xu (xu (xu (xu I 160 0 (nI 0)) 160 1 (nI 0)) 160 2 (nI 0)) 160 3 (nI 0) b = I b := fun b hb => by rw [xu_r hb, xu_r hb, xu_r hb, xu_r hb]
  obtain ⟨J, j1, j2, j3⟩ := th22_go (e95 := fun I_16 a1_16 a2_16 => (Option.bind (mX12_cellsIn I_16 a2_16) (fun q17 => (Option.bind (mX12_ownerByCells I_16 q17 (I_16 124 1)) (fun q19 => (if q19 = a1_16 then (some (nI 1, I_16)) else (some (nI 0, I_16)))))))) (a1 := nI q) O hA hh ht hr xf (sFi S (t + 1) - sFi S t) 0 _ (fun _ => 0) (by unfold xf; omega) (by omega) (rSn_congr z R) (rAn_congr z RA) (fun j hj => by rw [z 164 (by decide)]; exact h6 j hj) (fun q hq => by
    rcases (show q = 0 ∨ q = 1 ∨ q = 2 ∨ q = 3 by omega) with rfl | rfl | rfl | rfl <;> simp (disch := omega) only [↓reduceIte, Option.bind_some, Option.some.injEq, Prod.mk.injEq, and_self, and_true, true_and, eq_self, reduceCtorEq, not_false_eq_true, not_true_eq_false, or_true, true_or, or_false, false_or, bft, nAdd, nMul, nSub, nDiv, nRem, nAm1, nIx, nIn, bI_z, bI_o, ite_b1, ite_b0, zI_add, zI_sub, li0, li1, li2, li3, li4, li5, li6, li7, li8, li9, li10, li11, li12, li13, li14, li15, li16, li17, li18, li19, li20, li21, li22, li23, li24, li25, li26, li27, li28, li29, li30, li31, li32, li33, li34, li35, li36, li37, li40, li42, li43, li45, li47, li48, li57, li59, li60, li61, li62, li64, li80, li91, li93, li97, li99, li100, li122, li182, li199, li255, li300, li380, li400, li999, li1000, li3640, li4100, li65536, li99999, ln1, ln2, ln3, ln100, ln100000, tLe, fLe, tLt, fLt, tEq, fEq, zLe_t, zLe_f, zLt_t, zLt_f, zEq_t, zEq_f, nzLe_t, nzLe_f, znLe_t, znLe_f, nzLt_t, nzLt_f, znLt_t, znLt_f, nzEq_t, nzEq_f, znEq_t, znEq_f, xu_s, xu_r, xu_c, xrow_at, xrow_r])
  have RJ : rSn J S := rSn_congr j2 (rSn_congr z R)
  have ec := rCellsIn_ok RJ O ht
  have eo := rOwnerByCells_ok (cnt := fun p => cntF (fun j => oAf S A t j (r j)) p (sFi S (t + 1) - sFi S t) 0) (cells := sFi S (t + 1) - sFi S t) (part := sPart S) RJ O (fun p hp => by rw [j3 p hp, Nat.zero_add]) (fun p => Nat.le_trans (cntF_le _ _ _ _) (by omega)) (fun p h1 h2 => cntF_zero2 _ _ (fun j _ hj => by
    rcases oAf_rng2 hA (show sFi S t + j < sCe S by omega) (r j) with w | ⟨x, w1, w2⟩ <;> omega)) (by omega) (by omega)
  have hcr := ownC_rng (fun p => cntF (fun j => oAf S A t j (r j)) p (sFi S (t + 1) - sFi S t) 0) 4 (sFi S (t + 1) - sFi S t) (sPart S)
  have ek : okF S A q t r = decide (ownC (fun p => cntF (fun j => oAf S A t j (r j)) p (sFi S (t + 1) - sFi S t) 0) 4 (sFi S (t + 1) - sFi S t) (sPart S) = q) := rfl
  generalize ownC (fun p => cntF (fun j => oAf S A t j (r j)) p (sFi S (t + 1) - sFi S t) 0) 4 (sFi S (t + 1) - sFi S t) (sPart S) = w at eo hcr ek
  have hw : -1 ≤ w ∧ w < 4 := by rcases hcr with z | ⟨p, z1, z2⟩ <;> omega
  refine ⟨J, ?_, fun b hb => (j2 b hb).trans (z b hb)⟩
  unfold mX12_isTheirsScraped
  rw [xf_s, mX12_isTheirsScraped_2, mX12_isTheirsScraped_2, mX12_isTheirsScraped_2, mX12_isTheirsScraped_2, mX12_isTheirsScraped_2]
  rw [← xf_s]
  simp (disch := omega) only [↓reduceIte, Option.bind_some, Option.some.injEq, Prod.mk.injEq, and_self, and_true, true_and, eq_self, reduceCtorEq, not_false_eq_true, not_true_eq_false, or_true, true_or, or_false, false_or, bft, nAdd, nMul, nSub, nDiv, nRem, nAm1, nIx, nIn, bI_z, bI_o, ite_b1, ite_b0, zI_add, zI_sub, li0, li1, li2, li3, li4, li5, li6, li7, li8, li9, li10, li11, li12, li13, li14, li15, li16, li17, li18, li19, li20, li21, li22, li23, li24, li25, li26, li27, li28, li29, li30, li31, li32, li33, li34, li35, li36, li37, li40, li42, li43, li45, li47, li48, li57, li59, li60, li61, li62, li64, li80, li91, li93, li97, li99, li100, li122, li182, li199, li255, li300, li380, li400, li999, li1000, li3640, li4100, li65536, li99999, ln1, ln2, ln3, ln100, ln100000, tLe, fLe, tLt, fLt, tEq, fEq, zLe_t, zLe_f, zLt_t, zLt_f, zEq_t, zEq_f, nzLe_t, nzLe_f, znLe_t, znLe_f, nzLt_t, nzLt_f, znLt_t, znLt_f, nzEq_t, nzEq_f, znEq_t, znEq_f]
  refine Eq.trans j1 ?_
  rw [ek, ec, Option.bind_some, rSn_part RJ, eo, Option.bind_some]
  by_cases h : w = q
  · rw [decide_eq_true h]
    simp (disch := omega) only [↓reduceIte, Option.bind_some, Option.some.injEq, Prod.mk.injEq, and_self, and_true, true_and, eq_self, reduceCtorEq, not_false_eq_true, not_true_eq_false, or_true, true_or, or_false, false_or, bft, nAdd, nMul, nSub, nDiv, nRem, nAm1, nIx, nIn, bI_z, bI_o, ite_b1, ite_b0, zI_add, zI_sub, li0, li1, li2, li3, li4, li5, li6, li7, li8, li9, li10, li11, li12, li13, li14, li15, li16, li17, li18, li19, li20, li21, li22, li23, li24, li25, li26, li27, li28, li29, li30, li31, li32, li33, li34, li35, li36, li37, li40, li42, li43, li45, li47, li48, li57, li59, li60, li61, li62, li64, li80, li91, li93, li97, li99, li100, li122, li182, li199, li255, li300, li380, li400, li999, li1000, li3640, li4100, li65536, li99999, ln1, ln2, ln3, ln100, ln100000, tLe, fLe, tLt, fLt, tEq, fEq, zLe_t, zLe_f, zLt_t, zLt_f, zEq_t, zEq_f, nzLe_t, nzLe_f, znLe_t, znLe_f, nzLt_t, nzLt_f, znLt_t, znLt_f, nzEq_t, nzEq_f, znEq_t, znEq_f, h]
    rfl
  · rw [decide_eq_false h]
    simp (disch := omega) only [↓reduceIte, Option.bind_some, Option.some.injEq, Prod.mk.injEq, and_self, and_true, true_and, eq_self, reduceCtorEq, not_false_eq_true, not_true_eq_false, or_true, true_or, or_false, false_or, bft, nAdd, nMul, nSub, nDiv, nRem, nAm1, nIx, nIn, bI_z, bI_o, ite_b1, ite_b0, zI_add, zI_sub, li0, li1, li2, li3, li4, li5, li6, li7, li8, li9, li10, li11, li12, li13, li14, li15, li16, li17, li18, li19, li20, li21, li22, li23, li24, li25, li26, li27, li28, li29, li30, li31, li32, li33, li34, li35, li36, li37, li40, li42, li43, li45, li47, li48, li57, li59, li60, li61, li62, li64, li80, li91, li93, li97, li99, li100, li122, li182, li199, li255, li300, li380, li400, li999, li1000, li3640, li4100, li65536, li99999, ln1, ln2, ln3, ln100, ln100000, tLe, fLe, tLt, fLt, tEq, fEq, zLe_t, zLe_f, zLt_t, zLt_f, zEq_t, zEq_f, nzLe_t, nzLe_f, znLe_t, znLe_f, nzLt_t, nzLt_f, znLt_t, znLt_f, nzEq_t, nzEq_f, znEq_t, znEq_f]
    rfl
def bfF (b : fsT) : Int32 := if b.1 < 31 then nI b.1 else zI (-2)
def r165 (I : Nat → Nat → Int32) (b : fsT) : Prop := b.1 < 31 → ∀ j, j < 6 → I 165 j = nI (b.2 j)
theorem rFw_go {e132 : (Nat → Nat → Int32) → Int32 → Int32 → Int32 → Option (Int32 × (Nat → Nat → Int32))} {a3 : Int32} (O : okS S) (hA : okA S A) (hh : A.2.2.1 < 1000) (hq : q < sPa S) (ht : t < sTh S) : ∀ (l : List (Nat → Nat)) (f : Nat) (s e : Bool × (Nat → Nat)) (b : fsT) (I : Nat → Nat → Int32), l.length < f → cnF (hsF S A t) (sFi S (t + 1) - sFi S t) l s e → e.1 = false → (∀ r ∈ l, (∀ j, j < sFi S (t + 1) - sFi S t → r j ≤ hsF S A t j) ∧ ∀ j, sFi S (t + 1) - sFi S t ≤ j → r j = 0) → b.1 ≤ 31 → rSn I S → rAn I S A → r164 I s.2 → r165 I b → ∃ J, mX12_fewest_73 e132 f I (nI q) (nI t) a3 (bfF b) (bI s.1) = e132 J (nI t) a3 (bfF (foF (okF S A q t) l b)) ∧ r165 J (foF (okF S A q t) l b) ∧ g3 I J
  | [], f, s, e, b, I, hf, hc, he, _, _, _, _, _, h165 => by
    cases f with
    | zero => exact absurd hf (by omega)
    | succ f =>
      rw [cnF] at hc
      rw [hc, he, mX12_fewest_73]
      exact ⟨I, by rw [if_pos (by rfl)]; rfl, h165, fun _ _ _ _ => rfl⟩
  | r :: l, f, s, e, b, I, hf, hc, he, hl, hb, R, RA, h6, h165 => by
    cases f with
    | zero => exact absurd hf (by omega)
    | succ f =>
      have o1 := O.1
      have ot := O.2.1.2.2 t ht
      obtain ⟨hs, hc⟩ := hc
      subst hs
      obtain ⟨r1, r2⟩ := hl r List.mem_cons_self
      have r5 : ∀ j, r j ≤ 5 := fun j => by
        by_cases w : j < sFi S (t + 1) - sFi S t
        · have := r1 j w
          have : hsF S A t j ≤ 5 := (hA.1 _ (show sFi S t + j < sCe S by omega)).1.1
          omega
        · rw [r2 j (by omega)]; omega
      have hs30 : sum6 r ≤ 30 := by
        have q0 := r5 0
        have q1 := r5 1
        have q2 := r5 2
        have q3 := r5 3
        have q4 := r5 4
        have q5 := r5 5
        unfold sum6
        omega
      replace h6 : r164 I r := h6
      have ea := all_go h6
      simp only [List.length_cons] at hf
      -- on to the next row
      have next : ∀ (b' : fsT) (I' : Nat → Nat → Int32), g3 I I' → I' 164 = I 164 → b'.1 ≤ 31 → r165 I' b' → ∃ J, mX12_fewest_122 (fun I a1 a2 a3 a4 a5 => mX12_fewest_73 e132 f I a1 a2 a3 a4 a5) e132 I' (nI q) (nI t) a3 (bfF b') = e132 J (nI t) a3 (bfF (foF (okF S A q t) l b')) ∧ r165 J (foF (okF S A q t) l b') ∧ g3 I J := by
        intro b' I' hg h4 hb' h5'
        obtain ⟨R', RA'⟩ := g3_r hg R RA
        obtain ⟨J1, p1, p2, p3⟩ := nx_ok (r := r) O hA ht R' RA' (fun j hj => by rw [h4]; exact h6 j hj) r5
        have g1 : g3 I' J1 := fun b _ h _ => p3 b h
        obtain ⟨R1, RA1⟩ := g3_r g1 R' RA'
        obtain ⟨J, u1, u2, u3⟩ := rFw_go (e132 := e132) (a3 := a3) O hA hh hq ht l f _ e b' J1 (by omega) hc he (fun x hx => hl x (List.mem_cons_of_mem _ hx)) hb' R1 RA1 p2 (fun h j hj => by rw [p3 165 (by decide)]; exact h5' h j hj)
        refine ⟨J, ?_, u2, g3_trans hg (g3_trans g1 u3)⟩
        unfold mX12_fewest_122
        rw [p1]
        exact u1
      -- ask whether it is theirs
      have ask : sum6 r < b.1 → ∃ J, mX12_fewest_98 (fun I a1 a2 a3 a4 a5 => mX12_fewest_73 e132 f I a1 a2 a3 a4 a5) e132 I (nI q) (nI t) a3 (bfF b) (nI (sum6 r)) = e132 J (nI t) a3 (bfF (foF (okF S A q t) (r :: l) b)) ∧ r165 J (foF (okF S A q t) (r :: l) b) ∧ g3 I J := by
        intro hlt
        obtain ⟨J1, p1, p2⟩ := ths_ok (r := r) O hA (by omega) hq ht r1 R RA h6
        have g1 : g3 I J1 := fun b h _ _ => p2 b h
        rw [foF]
        unfold mX12_fewest_98
        rw [p1, Option.bind_some]
        cases hok : okF S A q t r with
        | false =>
          rw [stpF_n (fun z => absurd z.2 (by rw [hok]; decide))]
          rw [if_pos (show (bI false) = 0 by decide)]
          exact next b J1 g1 (p2 164 (by decide)) hb (fun h j hj => by rw [p2 165 (by decide)]; exact h165 h j hj)
        | true =>
          rw [stpF_y hlt hok, if_neg (show ¬ (bI true) = 0 by decide)]
          obtain ⟨J2, c1, c2, -, c4⟩ := copies_ok (a0 := 164) (a1 := 165) (z := 6) (by decide) (by decide) J1
          show ∃ J, Option.bind (mX12_copies J1 164 6 165 6) _ = _ ∧ _
          rw [c1, Option.bind_some]
          have n1 := next (sum6 r, r) J2 (g3_trans g1 (fun b _ _ h => c4 b h)) (by rw [c4 164 (by decide), p2 164 (by decide)]) (show sum6 r ≤ 31 by omega) (fun _ j hj => by rw [c2 j hj, p2 164 (by decide)]; exact h6 j hj)
          have eb : bfF (sum6 r, r) = nI (sum6 r) := if_pos (show sum6 r < 31 by omega)
          rw [eb] at n1
          exact n1
      rw [mX12_fewest_73, if_neg (show ¬ (bI true) = 0 by decide), ea, Option.bind_some]
      by_cases w : b.1 < 31
      · have eb : bfF b = nI b.1 := if_pos w
        by_cases v : sum6 r < b.1
        · have a := ask v
          rw [eb] at a ⊢
          rw [if_neg (nNe2 (by omega)), if_neg (fun y => absurd ((nLe (by omega) (by omega)).mp y) (by omega))]
          exact a
        · have n1 := next b I (fun _ _ _ _ => rfl) rfl hb h165
          rw [foF, stpF_n (fun z => v z.1)]
          rw [eb] at n1 ⊢
          rw [if_neg (nNe2 (by omega)), if_pos ((nLe (by omega) (by omega)).mpr (by omega))]
          exact n1
      · have eb : bfF b = zI (-2) := if_neg w
        have a := ask (by omega)
        rw [eb] at a ⊢
        rw [if_pos (by rfl)]
        exact a
end
theorem f33_ok {e54 : (Nat → Nat → Int32) → Int32 → Int32 → Int32 → Option (Int32 × (Nat → Nat → Int32))} {a1 a2 a3 : Int32} (I : Nat → Nat → Int32) : ∃ J, mX12_fewest_33 e54 xf I a1 a2 a3 (0 : Int32) = e54 J a1 a2 a3 ∧ r164 J (fun _ => 0) ∧ ∀ b, b ≠ 164 → J b = I b := by
  have z : ∀ b, b ≠ 164 → xu (xu (xu (xu (xu (xu I 164 0 (nI 0)) 164 (0 + 1) (nI 0)) 164 (0 + 1 + 1) (nI 0)) 164 (0 + 1 + 1 + 1) (nI 0)) 164 (0 + 1 + 1 + 1 + 1) (nI 0)) 164 (0 + 1 + 1 + 1 + 1 + 1) (nI 0) b = I b := fun b hb => by rw [xu_r hb, xu_r hb, xu_r hb, xu_r hb, xu_r hb, xu_r hb]
  refine ⟨_, ?_, fun j hj => ?_, z⟩
  · rw [li0, xf_s, mX12_fewest_33, mX12_fewest_33, mX12_fewest_33, mX12_fewest_33, mX12_fewest_33, mX12_fewest_33, mX12_fewest_33]
    simp (disch := omega) only [↓reduceIte, Option.bind_some, Option.some.injEq, Prod.mk.injEq, and_self, and_true, true_and, eq_self, reduceCtorEq, not_false_eq_true, not_true_eq_false, or_true, true_or, or_false, false_or, bft, nAdd, nMul, nSub, nDiv, nRem, nAm1, nIx, nIn, bI_z, bI_o, ite_b1, ite_b0, zI_add, zI_sub, li0, li1, li2, li3, li4, li5, li6, li7, li8, li9, li10, li11, li12, li13, li14, li15, li16, li17, li18, li19, li20, li21, li22, li23, li24, li25, li26, li27, li28, li29, li30, li31, li32, li33, li34, li35, li36, li37, li40, li42, li43, li45, li47, li48, li57, li59, li60, li61, li62, li64, li80, li91, li93, li97, li99, li100, li122, li182, li199, li255, li300, li380, li400, li999, li1000, li3640, li4100, li65536, li99999, ln1, ln2, ln3, ln100, ln100000, tLe, fLe, tLt, fLt, tEq, fEq, zLe_t, zLe_f, zLt_t, zLt_f, zEq_t, zEq_f, nzLe_t, nzLe_f, znLe_t, znLe_f, nzLt_t, nzLt_f, znLt_t, znLt_f, nzEq_t, nzEq_f, znEq_t, znEq_f]
  · rcases (show j = 0 ∨ j = 1 ∨ j = 2 ∨ j = 3 ∨ j = 4 ∨ j = 5 by omega) with rfl | rfl | rfl | rfl | rfl | rfl <;> simp (disch := omega) only [↓reduceIte, Option.bind_some, Option.some.injEq, Prod.mk.injEq, and_self, and_true, true_and, eq_self, reduceCtorEq, not_false_eq_true, not_true_eq_false, or_true, true_or, or_false, false_or, bft, nAdd, nMul, nSub, nDiv, nRem, nAm1, nIx, nIn, bI_z, bI_o, ite_b1, ite_b0, zI_add, zI_sub, li0, li1, li2, li3, li4, li5, li6, li7, li8, li9, li10, li11, li12, li13, li14, li15, li16, li17, li18, li19, li20, li21, li22, li23, li24, li25, li26, li27, li28, li29, li30, li31, li32, li33, li34, li35, li36, li37, li40, li42, li43, li45, li47, li48, li57, li59, li60, li61, li62, li64, li80, li91, li93, li97, li99, li100, li122, li182, li199, li255, li300, li380, li400, li999, li1000, li3640, li4100, li65536, li99999, ln1, ln2, ln3, ln100, ln100000, tLe, fLe, tLt, fLt, tEq, fEq, zLe_t, zLe_f, zLt_t, zLt_f, zEq_t, zEq_f, nzLe_t, nzLe_f, znLe_t, znLe_f, nzLt_t, nzLt_f, znLt_t, znLt_f, nzEq_t, nzEq_f, znEq_t, znEq_f, xu_s, xu_r, xu_c, xrow_at, xrow_r, Nat.zero_add, Nat.reduceAdd]
def b0F : fsT := (31, fun _ => 0)
def fwF (S : sT) (A : aT) (q t : Nat) : fsT := foF (okF S A q t) (enF (hsF S A t) (sFi S (t + 1) - sFi S t) 0 (fun _ => 0)) b0F
theorem fwF_le (S : sT) (A : aT) (q t : Nat) : (fwF S A q t).1 ≤ 31 := foF_le _ _
theorem find_ok {S : sT} {A : aT} {q t s : Nat} {I : Nat → Nat → Int32} {L : Nat → Nat → Int64} (O : okS S) (hA : okA S A) (hh : A.2.2.1 < 1000) (ps : s = 13 ∨ 171 < s) (ht : t < sTh S) (hq : q < sPa S) (hL : ∀ c, c < sCe S → L 25 c = lN (enc (A.1 c))) (C : cS I s S) (ha : I 24 2 = nI A.2.2.1) : ∃ J, mX5_find L I s 24 (nI q) (nI t) = some (if (fwF S A q t).1 < 31 then nI 1 else nI 0, J) ∧ J 109 4 = nI (fwF S A q t).1 ∧ ((fwF S A q t).1 < 31 → ∀ j, j < sFi S (t + 1) - sFi S t → J 119 j = nI ((fwF S A q t).2 j)) ∧ ∀ x, x < 109 ∨ 119 < x → J x = I x := by
  have o1 := O.1
  have ot := O.2.1.2.2 t ht
  have z : ∀ b, b ≠ 109 → xu (xu (xu I 109 7 (nI q)) 109 5 (nI (sFi S (t + 1) - sFi S t))) 109 6 (nI (sPart S)) b = I b := fun b hb => by rw [xu_r hb, xu_r hb, xu_r hb]
  obtain ⟨J1, p1, p2, p3⟩ := fd27_go (L := L) (e117 := fun I_17 => (Option.bind (zX5_search 10 (xu I_17 109 4 (31 : Int32)) (0 : Int32) (0 : Int32) (0 : Int32)) (fun q18 => (if (31 : Int32) ≤ (q18 109 4) then (some ((0 : Int32), q18)) else (some ((1 : Int32), q18)))))) O hA hh ps ht hL xf (sFi S (t + 1) - sFi S t) 0 (xu (xu (xu I 109 7 (nI q)) 109 5 (nI (sFi S (t + 1) - sFi S t))) 109 6 (nI (sPart S))) (by unfold xf; omega) (by omega) (cS_congr (fun b q1 q2 => z b (by omega)) C) (by rw [z 24 (by decide)]; exact ha) (by rw [xu_c (by decide), xu_s]) (fun j hj => absurd hj (by omega))
  have e109 : ∀ i, i ≠ 4 → xu J1 109 4 (nI 31) 109 i = xu (xu (xu I 109 7 (nI q)) 109 5 (nI (sFi S (t + 1) - sFi S t))) 109 6 (nI (sPart S)) 109 i := fun i hi => by rw [xu_c hi, p3 109 (by omega)]
  obtain ⟨J, j1, j2, j3, -⟩ := srch_go (q := q) O hA ht hq 10 (sFi S (t + 1) - sFi S t) 0 (fun _ => 0) b0F (xu J1 109 4 (nI 31)) (by omega) (by omega) (fun _ _ => rfl) (show 0 + 5 * _ ≤ 30 by omega) (Nat.le_refl 31) ⟨fun j hj => ⟨by rw [xu_r (by decide)]; exact (p2 j hj).1, fun x hx => by rw [xu_r (by omega)]; exact (p2 j hj).2 x hx⟩, xu_s, by rw [e109 5 (by decide), xu_c (by decide), xu_s], by rw [e109 6 (by decide), xu_s], by rw [e109 7 (by decide), xu_c (by decide), xu_c (by decide), xu_s], fun h => absurd h (by decide)⟩ (fun j hj => absurd hj (by omega))
  obtain ⟨r1, r2, r3, r4, r5, r6⟩ := j2
  refine ⟨J, ?_, r2, r6, fun x hx => ?_⟩
  · have hle := fwF_le S A q t
    change J 109 4 = nI (fwF S A q t).1 at r2
    unfold mX5_find
    rw [if_pos (nIn (by omega) (by omega)), nIx (by omega), xu_r (b := s + 2) (by omega), cS_cn C ht, xu_r (b := s) (by omega), xu_r (b := s) (by omega), cS_part C]
    refine Eq.trans p1 ?_
    show Option.bind (zX5_search 10 (xu J1 109 4 (nI 31)) (nI 0) (nI (sum6 (fun _ => 0))) (nI 0)) _ = _
    refine Eq.trans (congrArg (fun v => Option.bind v _) j1) ?_
    rw [Option.bind_some, r2]
    by_cases w : (fwF S A q t).1 < 31
    · rw [if_pos w]
      simp (disch := omega) only [↓reduceIte, Option.bind_some, Option.some.injEq, Prod.mk.injEq, and_self, and_true, true_and, eq_self, reduceCtorEq, not_false_eq_true, not_true_eq_false, or_true, true_or, or_false, false_or, bft, nAdd, nMul, nSub, nDiv, nRem, nAm1, nIx, nIn, bI_z, bI_o, ite_b1, ite_b0, zI_add, zI_sub, li0, li1, li2, li3, li4, li5, li6, li7, li8, li9, li10, li11, li12, li13, li14, li15, li16, li17, li18, li19, li20, li21, li22, li23, li24, li25, li26, li27, li28, li29, li30, li31, li32, li33, li34, li35, li36, li37, li40, li42, li43, li45, li47, li48, li57, li59, li60, li61, li62, li64, li80, li91, li93, li97, li99, li100, li122, li182, li199, li255, li300, li380, li400, li999, li1000, li3640, li4100, li65536, li99999, ln1, ln2, ln3, ln100, ln100000, tLe, fLe, tLt, fLt, tEq, fEq, zLe_t, zLe_f, zLt_t, zLt_f, zEq_t, zEq_f, nzLe_t, nzLe_f, znLe_t, znLe_f, nzLt_t, nzLt_f, znLt_t, znLt_f, nzEq_t, nzEq_f, znEq_t, znEq_f]
    · rw [if_neg w]
      simp (disch := omega) only [↓reduceIte, Option.bind_some, Option.some.injEq, Prod.mk.injEq, and_self, and_true, true_and, eq_self, reduceCtorEq, not_false_eq_true, not_true_eq_false, or_true, true_or, or_false, false_or, bft, nAdd, nMul, nSub, nDiv, nRem, nAm1, nIx, nIn, bI_z, bI_o, ite_b1, ite_b0, zI_add, zI_sub, li0, li1, li2, li3, li4, li5, li6, li7, li8, li9, li10, li11, li12, li13, li14, li15, li16, li17, li18, li19, li20, li21, li22, li23, li24, li25, li26, li27, li28, li29, li30, li31, li32, li33, li34, li35, li36, li37, li40, li42, li43, li45, li47, li48, li57, li59, li60, li61, li62, li64, li80, li91, li93, li97, li99, li100, li122, li182, li199, li255, li300, li380, li400, li999, li1000, li3640, li4100, li65536, li99999, ln1, ln2, ln3, ln100, ln100000, tLe, fLe, tLt, fLt, tEq, fEq, zLe_t, zLe_f, zLt_t, zLt_f, zEq_t, zEq_f, nzLe_t, nzLe_f, znLe_t, znLe_f, nzLt_t, nzLt_f, znLt_t, znLt_f, nzEq_t, nzEq_f, znEq_t, znEq_f]
  · rw [j3 x (by omega) (by omega) (by omega), xu_r (by omega), p3 x (by omega), z x (by omega)]
def vF (S : sT) (A : aT) (q t m : Nat) : Int32 := if (fwF S A q t).1 < 31 then (if m = 0 then nI (fwF S A q t).1 else if sFi S (t + 1) - sFi S t < m then zI (-2) else nI ((fwF S A q t).2 (m - 1))) else zI (-2)
theorem pow6 : ∀ c, c < 7 → 6 ^ c ≤ 46656 := by decide +kernel
theorem xf_46 : 46656 < xf := by unfold xf; decide
theorem rFew_ok {S : sT} {A : aT} {q t m : Nat} {J : Nat → Nat → Int32} (O : okS S) (hA : okA S A) (hh : A.2.2.1 < 1000) (ht : t < sTh S) (hq : q < sPa S) (hm : m ≤ 6) (R : rSn J S) (RA : rAn J S A) : ∃ H, mX12_fewest J (nI q) (nI t) (nI m) = some (if A.2.2.2.testBit t = true then zI (-2) else vF S A q t m, H) ∧ g3 J H := by
  have o1 := O.1
  have ot := O.2.1.2.2 t ht
  have a3 := rIsPainter_ok R O (nI q)
  rw [inbT hq (by omega)] at a3
  have b3 := rIsThing_ok R O (nI t)
  rw [inbT ht (by omega)] at b3
  have z2 := rInW (lo := 0) (hi := 6) (by decide) (by decide) (nI m)
  change mX12_in (nI m).toInt64 (0 : Int64) (6 : Int64) = _ at z2
  rw [wiB_t (by omega) hm (by omega)] at z2
  obtain ⟨J1, p1, p2, p3⟩ := f33_ok (e54 := fun I_12 a1_12 a2_12 a3_12 => (Option.bind (mX12_isBare I_12 a2_12) (fun q13 => (if q13 = 0 then (mX12_fewest_71 I_12 a1_12 a2_12 a3_12 (-2 : Int32) (1 : Int32)) else (mX12_fewest_71 I_12 a1_12 a2_12 a3_12 (-2 : Int32) (0 : Int32)))))) (a1 := nI q) (a2 := nI t) (a3 := nI m) J
  have g1 : g3 J J1 := fun b _ h _ => p3 b h
  obtain ⟨R1, RA1⟩ := g3_r g1 R RA
  have d3 := rIsBare_ok (t := t) (rAn_b RA1) (by have := hA.2.2.1; omega) (by omega)
  have eM : ∀ v, Option.bind (mX12_isBare J1 (nI t)) (fun q13 => (if q13 = 0 then (mX12_fewest_71 J1 (nI q) (nI t) (nI m) (-2 : Int32) (1 : Int32)) else (mX12_fewest_71 J1 (nI q) (nI t) (nI m) (-2 : Int32) (0 : Int32)))) = v → mX12_fewest J (nI q) (nI t) (nI m) = v := by
    intro v hv
    unfold mX12_fewest
    rw [a3, Option.bind_some, if_neg (show ¬ bI true = 0 by decide), b3, Option.bind_some, if_neg (show ¬ bI true = 0 by decide), z2, Option.bind_some, if_neg (show ¬ bI true = 0 by decide), p1]
    exact hv
  cases hb : A.2.2.2.testBit t with
  | true =>
    rw [hb] at d3
    refine ⟨J1, eM _ ?_, g1⟩
    rw [d3, Option.bind_some, if_neg (show ¬ bI true = 0 by decide), if_pos rfl]
    unfold mX12_fewest_71
    rw [xf_s, mX12_fewest_73, if_pos rfl, if_pos rfl, lm2]
  | false =>
    rw [hb] at d3
    have hc := enF_ch (hs := hsF S A t) (N := sFi S (t + 1) - sFi S t) (sFi S (t + 1) - sFi S t) 0 (fun _ => 0) (by omega) (fun _ _ => rfl)
    have hln := enF_len (hs := hsF S A t) (sFi S (t + 1) - sFi S t) 0 (fun _ => 0) (fun j _ hj => (hA.1 _ (show sFi S t + j < sCe S by omega)).1.1)
    have hpw := pow6 (sFi S (t + 1) - sFi S t) (by omega)
    replace hln := Nat.le_trans hln hpw
    clear hpw
    have hln2 : (enF (hsF S A t) (sFi S (t + 1) - sFi S t) 0 (fun _ => 0)).length < xf := Nat.lt_of_le_of_lt hln xf_46
    obtain ⟨H, u1, u2, u3⟩ := rFw_go (q := q) (e132 := fun I_28 a2_28 a3_28 a4_28 => (if a4_28 = (-2 : Int32) then (some (a4_28, I_28)) else (if a3_28 = 0 then (some (a4_28, I_28)) else (Option.bind (mX12_cellsIn I_28 a2_28) (fun q31 => (if q31 < a3_28 then (some ((-2 : Int32), I_28)) else (if inb (a3_28 - (1 : Int32)) 6 = true then (some ((I_28 165 (ix (a3_28 - (1 : Int32)))), I_28)) else none))))))) (a3 := nI m) O hA hh hq ht (enF (hsF S A t) (sFi S (t + 1) - sFi S t) 0 (fun _ => 0)) xf (true, fun _ => 0) _ b0F J1 hln2 hc rfl (enF_all _ _ _ (fun r' _ h2 h3 => ⟨fun j hj => h3 j (by omega) (by omega), fun j hj => h2 j (by omega)⟩)) (Nat.le_refl 31) R1 RA1 p2 (fun h => absurd h (by decide))
    refine ⟨H, eM _ ?_, g3_trans g1 u3⟩
    rw [d3, Option.bind_some, if_pos (show bI false = 0 by decide), if_neg (show ¬ false = true by decide)]
    unfold mX12_fewest_71
    rw [show bfF b0F = (-2 : Int32) from (if_neg (by decide)).trans lm2.symm, show bI (true, fun _ : Nat => (0 : Nat)).1 = (1 : Int32) by decide +kernel, show foF (okF S A q t) (enF (hsF S A t) (sFi S (t + 1) - sFi S t) 0 (fun _ => 0)) b0F = fwF S A q t from rfl] at u1
    rw [u1]
    have RH := (g3_r u3 R1 RA1).1
    have ec := rCellsIn_ok RH O ht
    change r165 H (fwF S A q t) at u2
    show (if bfF (fwF S A q t) = (-2 : Int32) then some (bfF (fwF S A q t), H) else _) = _
    unfold vF bfF
    by_cases w : (fwF S A q t).1 < 31
    · rw [if_pos w, if_pos w, if_neg (nNe2 (by omega))]
      by_cases w0 : m = 0
      · subst w0
        rw [if_pos rfl]
        simp (disch := omega) only [↓reduceIte, Option.bind_some, Option.some.injEq, Prod.mk.injEq, and_self, and_true, true_and, eq_self, reduceCtorEq, not_false_eq_true, not_true_eq_false, or_true, true_or, or_false, false_or, bft, nAdd, nMul, nSub, nDiv, nRem, nAm1, nIx, nIn, bI_z, bI_o, ite_b1, ite_b0, zI_add, zI_sub, li0, li1, li2, li3, li4, li5, li6, li7, li8, li9, li10, li11, li12, li13, li14, li15, li16, li17, li18, li19, li20, li21, li22, li23, li24, li25, li26, li27, li28, li29, li30, li31, li32, li33, li34, li35, li36, li37, li40, li42, li43, li45, li47, li48, li57, li59, li60, li61, li62, li64, li80, li91, li93, li97, li99, li100, li122, li182, li199, li255, li300, li380, li400, li999, li1000, li3640, li4100, li65536, li99999, ln1, ln2, ln3, ln100, ln100000, tLe, fLe, tLt, fLt, tEq, fEq, zLe_t, zLe_f, zLt_t, zLt_f, zEq_t, zEq_f, nzLe_t, nzLe_f, znLe_t, znLe_f, nzLt_t, nzLt_f, znLt_t, znLt_f, nzEq_t, nzEq_f, znEq_t, znEq_f]
      · rw [if_neg w0]
        show (if nI m = 0 then _ else Option.bind (mX12_cellsIn H (nI t)) _) = _
        by_cases w1 : sFi S (t + 1) - sFi S t < m
        · rw [if_pos w1]
          simp (disch := omega) only [↓reduceIte, Option.bind_some, Option.some.injEq, Prod.mk.injEq, and_self, and_true, true_and, eq_self, reduceCtorEq, not_false_eq_true, not_true_eq_false, or_true, true_or, or_false, false_or, bft, nAdd, nMul, nSub, nDiv, nRem, nAm1, nIx, nIn, bI_z, bI_o, ite_b1, ite_b0, zI_add, zI_sub, li0, li1, li2, li3, li4, li5, li6, li7, li8, li9, li10, li11, li12, li13, li14, li15, li16, li17, li18, li19, li20, li21, li22, li23, li24, li25, li26, li27, li28, li29, li30, li31, li32, li33, li34, li35, li36, li37, li40, li42, li43, li45, li47, li48, li57, li59, li60, li61, li62, li64, li80, li91, li93, li97, li99, li100, li122, li182, li199, li255, li300, li380, li400, li999, li1000, li3640, li4100, li65536, li99999, ln1, ln2, ln3, ln100, ln100000, tLe, fLe, tLt, fLt, tEq, fEq, zLe_t, zLe_f, zLt_t, zLt_f, zEq_t, zEq_f, nzLe_t, nzLe_f, znLe_t, znLe_f, nzLt_t, nzLt_f, znLt_t, znLt_f, nzEq_t, nzEq_f, znEq_t, znEq_f, ec]
        · rw [if_neg w1, ← u2 w (m - 1) (by omega)]
          simp (disch := omega) only [↓reduceIte, Option.bind_some, Option.some.injEq, Prod.mk.injEq, and_self, and_true, true_and, eq_self, reduceCtorEq, not_false_eq_true, not_true_eq_false, or_true, true_or, or_false, false_or, bft, nAdd, nMul, nSub, nDiv, nRem, nAm1, nIx, nIn, bI_z, bI_o, ite_b1, ite_b0, zI_add, zI_sub, li0, li1, li2, li3, li4, li5, li6, li7, li8, li9, li10, li11, li12, li13, li14, li15, li16, li17, li18, li19, li20, li21, li22, li23, li24, li25, li26, li27, li28, li29, li30, li31, li32, li33, li34, li35, li36, li37, li40, li42, li43, li45, li47, li48, li57, li59, li60, li61, li62, li64, li80, li91, li93, li97, li99, li100, li122, li182, li199, li255, li300, li380, li400, li999, li1000, li3640, li4100, li65536, li99999, ln1, ln2, ln3, ln100, ln100000, tLe, fLe, tLt, fLt, tEq, fEq, zLe_t, zLe_f, zLt_t, zLt_f, zEq_t, zEq_f, nzLe_t, nzLe_f, znLe_t, znLe_f, nzLt_t, nzLt_f, znLt_t, znLt_f, nzEq_t, nzEq_f, znEq_t, znEq_f, ec]
    · rw [if_neg w, if_neg w, if_pos (by rfl)]
theorem q_fewest {k : Nat} (hk : k < 512) : st_fewest (Inv k) (Inv (k + 1)) := by
  intro h x y z hI
  obtain ⟨n, K, P, I, L⟩ := h
  obtain ⟨⟨G, F⟩, Z, ok, C, R⟩ := id hI
  change RI I Z at R
  have O := okZ_S ok
  have o1 := O.1
  have hA := okZ_A ok
  have hh := okZ_h ok
  have cs := CI_S C
  have ca := CI_A C
  have rs := RI_S R
  have ra := RI_A R
  generalize hS : wS (zW Z) = S at O o1 hA cs ca rs ra
  generalize hAA : wA (zW Z) = A at hA hh ca ra
  have pl := CI_p C
  have hf := ok.1.2.2.2.2.2.2
  have hrl := ok.2.2.1
  have hX := CI_ruX C
  have hro : ∀ J, J 124 12 = I 124 12 → (∀ b, 150 ≤ b → b ≤ 156 → J b = I b) → rRo J (ruF (zR Z) (wF (zW Z))) := fun J h1 h2 => rRo_of hrl.1 hrl.2 (h1.trans R.1.2.2.2.2.2.2) (fun r ru hr => rR_congr (fun b h3 h4 => h2 b (by omega) h4) (R.2.2.1.2 r ru hr)) hf.1 hf.2
  have no : mX11_fewest P L I x y z = some (-1, I) → mX12_fewest I x y z = some (-1, I) → ∃ r h1 h2, oX_fewest (n, K, P, I, L) x y z = some (r, h1) ∧ GW h1.2.1 h1.2.2.1 ∧ oM_fewest h1 x y z = some (r, h2) ∧ Inv (k + 1) h2 := fun a b => ⟨-1, (n, K, P, I, L), (n, K, P, I, L), by unfold oX_fewest; simp only [a]; rfl, G, by unfold oM_fewest; simp only [b]; rfl, Inv_q hI (fun _ _ => rfl)⟩
  have a1 := isPainter_ok O cs x
  have a2 := rIsPainter_ok rs O x
  have b1 := isThing_ok O cs y
  have b2 := rIsThing_ok rs O y
  have z1 := isWn z 0 6
  have z2 := rInW (lo := 0) (hi := 6) (by decide) (by decide) z
  change mX12_in z.toInt64 (0 : Int64) (6 : Int64) = _ at z2
  rcases inbC x (sPa S) with hx | ⟨q, hq, rfl⟩
  · refine no ?_ ?_
    · unfold mX11_fewest; simp (disch := omega) only [↓reduceIte, Option.bind_some, Option.some.injEq, Prod.mk.injEq, and_self, and_true, true_and, eq_self, reduceCtorEq, not_false_eq_true, not_true_eq_false, or_true, true_or, or_false, false_or, bft, nAdd, nMul, nSub, nDiv, nRem, nAm1, nIx, nIn, bI_z, bI_o, ite_b1, ite_b0, zI_add, zI_sub, li0, li1, li2, li3, li4, li5, li6, li7, li8, li9, li10, li11, li12, li13, li14, li15, li16, li17, li18, li19, li20, li21, li22, li23, li24, li25, li26, li27, li28, li29, li30, li31, li32, li33, li34, li35, li36, li37, li40, li42, li43, li45, li47, li48, li57, li59, li60, li61, li62, li64, li80, li91, li93, li97, li99, li100, li122, li182, li199, li255, li300, li380, li400, li999, li1000, li3640, li4100, li65536, li99999, ln1, ln2, ln3, ln100, ln100000, tLe, fLe, tLt, fLt, tEq, fEq, zLe_t, zLe_f, zLt_t, zLt_f, zEq_t, zEq_f, nzLe_t, nzLe_f, znLe_t, znLe_f, nzLt_t, nzLt_f, znLt_t, znLt_f, nzEq_t, nzEq_f, znEq_t, znEq_f, a1, hx]
    · unfold mX12_fewest; simp (disch := omega) only [↓reduceIte, Option.bind_some, Option.some.injEq, Prod.mk.injEq, and_self, and_true, true_and, eq_self, reduceCtorEq, not_false_eq_true, not_true_eq_false, or_true, true_or, or_false, false_or, bft, nAdd, nMul, nSub, nDiv, nRem, nAm1, nIx, nIn, bI_z, bI_o, ite_b1, ite_b0, zI_add, zI_sub, li0, li1, li2, li3, li4, li5, li6, li7, li8, li9, li10, li11, li12, li13, li14, li15, li16, li17, li18, li19, li20, li21, li22, li23, li24, li25, li26, li27, li28, li29, li30, li31, li32, li33, li34, li35, li36, li37, li40, li42, li43, li45, li47, li48, li57, li59, li60, li61, li62, li64, li80, li91, li93, li97, li99, li100, li122, li182, li199, li255, li300, li380, li400, li999, li1000, li3640, li4100, li65536, li99999, ln1, ln2, ln3, ln100, ln100000, tLe, fLe, tLt, fLt, tEq, fEq, zLe_t, zLe_f, zLt_t, zLt_f, zEq_t, zEq_f, nzLe_t, nzLe_f, znLe_t, znLe_f, nzLt_t, nzLt_f, znLt_t, znLt_f, nzEq_t, nzEq_f, znEq_t, znEq_f, a2, hx]
  rw [inbT hq (by omega)] at a1 a2
  rcases inbC y (sTh S) with hy | ⟨t, ht, rfl⟩
  · refine no ?_ ?_
    · unfold mX11_fewest; simp (disch := omega) only [↓reduceIte, Option.bind_some, Option.some.injEq, Prod.mk.injEq, and_self, and_true, true_and, eq_self, reduceCtorEq, not_false_eq_true, not_true_eq_false, or_true, true_or, or_false, false_or, bft, nAdd, nMul, nSub, nDiv, nRem, nAm1, nIx, nIn, bI_z, bI_o, ite_b1, ite_b0, zI_add, zI_sub, li0, li1, li2, li3, li4, li5, li6, li7, li8, li9, li10, li11, li12, li13, li14, li15, li16, li17, li18, li19, li20, li21, li22, li23, li24, li25, li26, li27, li28, li29, li30, li31, li32, li33, li34, li35, li36, li37, li40, li42, li43, li45, li47, li48, li57, li59, li60, li61, li62, li64, li80, li91, li93, li97, li99, li100, li122, li182, li199, li255, li300, li380, li400, li999, li1000, li3640, li4100, li65536, li99999, ln1, ln2, ln3, ln100, ln100000, tLe, fLe, tLt, fLt, tEq, fEq, zLe_t, zLe_f, zLt_t, zLt_f, zEq_t, zEq_f, nzLe_t, nzLe_f, znLe_t, znLe_f, nzLt_t, nzLt_f, znLt_t, znLt_f, nzEq_t, nzEq_f, znEq_t, znEq_f, a1, b1, hy]
    · unfold mX12_fewest; simp (disch := omega) only [↓reduceIte, Option.bind_some, Option.some.injEq, Prod.mk.injEq, and_self, and_true, true_and, eq_self, reduceCtorEq, not_false_eq_true, not_true_eq_false, or_true, true_or, or_false, false_or, bft, nAdd, nMul, nSub, nDiv, nRem, nAm1, nIx, nIn, bI_z, bI_o, ite_b1, ite_b0, zI_add, zI_sub, li0, li1, li2, li3, li4, li5, li6, li7, li8, li9, li10, li11, li12, li13, li14, li15, li16, li17, li18, li19, li20, li21, li22, li23, li24, li25, li26, li27, li28, li29, li30, li31, li32, li33, li34, li35, li36, li37, li40, li42, li43, li45, li47, li48, li57, li59, li60, li61, li62, li64, li80, li91, li93, li97, li99, li100, li122, li182, li199, li255, li300, li380, li400, li999, li1000, li3640, li4100, li65536, li99999, ln1, ln2, ln3, ln100, ln100000, tLe, fLe, tLt, fLt, tEq, fEq, zLe_t, zLe_f, zLt_t, zLt_f, zEq_t, zEq_f, nzLe_t, nzLe_f, znLe_t, znLe_f, nzLt_t, nzLt_f, znLt_t, znLt_f, nzEq_t, nzEq_f, znEq_t, znEq_f, a2, b2, hy]
  rw [inbT ht (by omega)] at b1 b2
  rcases wiC (lo := 0) (hi := 6) (by decide) (by decide) z with hz | ⟨m, -, hm, rfl⟩
  · refine no ?_ ?_
    · unfold mX11_fewest; simp (disch := omega) only [↓reduceIte, Option.bind_some, Option.some.injEq, Prod.mk.injEq, and_self, and_true, true_and, eq_self, reduceCtorEq, not_false_eq_true, not_true_eq_false, or_true, true_or, or_false, false_or, bft, nAdd, nMul, nSub, nDiv, nRem, nAm1, nIx, nIn, bI_z, bI_o, ite_b1, ite_b0, zI_add, zI_sub, li0, li1, li2, li3, li4, li5, li6, li7, li8, li9, li10, li11, li12, li13, li14, li15, li16, li17, li18, li19, li20, li21, li22, li23, li24, li25, li26, li27, li28, li29, li30, li31, li32, li33, li34, li35, li36, li37, li40, li42, li43, li45, li47, li48, li57, li59, li60, li61, li62, li64, li80, li91, li93, li97, li99, li100, li122, li182, li199, li255, li300, li380, li400, li999, li1000, li3640, li4100, li65536, li99999, ln1, ln2, ln3, ln100, ln100000, tLe, fLe, tLt, fLt, tEq, fEq, zLe_t, zLe_f, zLt_t, zLt_f, zEq_t, zEq_f, nzLe_t, nzLe_f, znLe_t, znLe_f, nzLt_t, nzLt_f, znLt_t, znLt_f, nzEq_t, nzEq_f, znEq_t, znEq_f, a1, b1, z1, hz]
    · unfold mX12_fewest; simp (disch := omega) only [↓reduceIte, Option.bind_some, Option.some.injEq, Prod.mk.injEq, and_self, and_true, true_and, eq_self, reduceCtorEq, not_false_eq_true, not_true_eq_false, or_true, true_or, or_false, false_or, bft, nAdd, nMul, nSub, nDiv, nRem, nAm1, nIx, nIn, bI_z, bI_o, ite_b1, ite_b0, zI_add, zI_sub, li0, li1, li2, li3, li4, li5, li6, li7, li8, li9, li10, li11, li12, li13, li14, li15, li16, li17, li18, li19, li20, li21, li22, li23, li24, li25, li26, li27, li28, li29, li30, li31, li32, li33, li34, li35, li36, li37, li40, li42, li43, li45, li47, li48, li57, li59, li60, li61, li62, li64, li80, li91, li93, li97, li99, li100, li122, li182, li199, li255, li300, li380, li400, li999, li1000, li3640, li4100, li65536, li99999, ln1, ln2, ln3, ln100, ln100000, tLe, fLe, tLt, fLt, tEq, fEq, zLe_t, zLe_f, zLt_t, zLt_f, zEq_t, zEq_f, nzLe_t, nzLe_f, znLe_t, znLe_f, nzLt_t, nzLt_f, znLt_t, znLt_f, nzEq_t, nzEq_f, znEq_t, znEq_f, a2, b2, z2, hz]
  rw [wiB_t (by omega) hm (by omega)] at z1 z2
  have ot := O.2.1.2.2 t ht
  have d1 := isBare11_ok (t := t) (cA_b ca) (by have := hA.2.2.1; omega) (by omega)
  have hh9 : A.2.2.1 < 1000 := by omega
  have fin : ∀ (r : Int32) (J : Nat → Nat → Int32), mX11_fewest P L I (nI q) (nI t) (nI m) = some (r, J) → r = (if A.2.2.2.testBit t = true then zI (-2) else vF S A q t m) → (∀ b, b < 92 ∨ 122 < b → J b = I b) → ∃ r h1 h2, oX_fewest (n, K, P, I, L) (nI q) (nI t) (nI m) = some (r, h1) ∧ GW h1.2.1 h1.2.2.1 ∧ oM_fewest h1 (nI q) (nI t) (nI m) = some (r, h2) ∧ Inv (k + 1) h2 := by
    intro r J h1 hr hJ0
    have hJ : ∀ b, b < 92 ∨ 122 < b → J b = I b ∧ L b = L b := fun b hb => ⟨hJ0 b hb, rfl⟩
    have R0 : RI J Z := RI_cls ok (fun b h1 h2 => (hJ b (by omega)).1) R
    have rsJ : rSn J S := by rw [← hS]; exact R0.1.1
    have raJ : rAn J S A := by rw [← hS, ← hAA]; exact R0.1.2.1
    obtain ⟨H, u1, u2⟩ := rFew_ok O hA hh9 ht hq hm rsJ raJ
    rw [← hr] at u1
    exact ⟨r, (n, K, P, J, L), (n, K, P, H, L), by unfold oX_fewest; simp only [h1]; rfl, G, by unfold oM_fewest; simp only [u1]; rfl, Inv_asked G F ok C R hJ (g3_aR u2) (g3_f5 u2) (fun _ _ _ => rfl)⟩
  cases hb : A.2.2.2.testBit t with
  | true =>
    rw [hb] at d1 fin
    refine fin (zI (-2)) I ?_ (if_pos rfl).symm (fun _ _ => rfl)
    unfold mX11_fewest
    simp (disch := omega) only [↓reduceIte, Option.bind_some, Option.some.injEq, Prod.mk.injEq, and_self, and_true, true_and, eq_self, reduceCtorEq, not_false_eq_true, not_true_eq_false, or_true, true_or, or_false, false_or, bft, nAdd, nMul, nSub, nDiv, nRem, nAm1, nIx, nIn, bI_z, bI_o, ite_b1, ite_b0, zI_add, zI_sub, li0, li1, li2, li3, li4, li5, li6, li7, li8, li9, li10, li11, li12, li13, li14, li15, li16, li17, li18, li19, li20, li21, li22, li23, li24, li25, li26, li27, li28, li29, li30, li31, li32, li33, li34, li35, li36, li37, li40, li42, li43, li45, li47, li48, li57, li59, li60, li61, li62, li64, li80, li91, li93, li97, li99, li100, li122, li182, li199, li255, li300, li380, li400, li999, li1000, li3640, li4100, li65536, li99999, ln1, ln2, ln3, ln100, ln100000, tLe, fLe, tLt, fLt, tEq, fEq, zLe_t, zLe_f, zLt_t, zLt_f, zEq_t, zEq_f, nzLe_t, nzLe_f, znLe_t, znLe_f, nzLt_t, nzLt_f, znLt_t, znLt_f, nzEq_t, nzEq_f, znEq_t, znEq_f, a1, b1, z1, d1]
  | false =>
    rw [hb] at d1 fin
    rw [if_neg (show ¬ false = true by decide)] at fin
    by_cases w1 : sFi S (t + 1) - sFi S t < m
    · refine fin (zI (-2)) I ?_ ?_ (fun _ _ => rfl)
      · unfold mX11_fewest
        simp (disch := omega) only [↓reduceIte, Option.bind_some, Option.some.injEq, Prod.mk.injEq, and_self, and_true, true_and, eq_self, reduceCtorEq, not_false_eq_true, not_true_eq_false, or_true, true_or, or_false, false_or, bft, nAdd, nMul, nSub, nDiv, nRem, nAm1, nIx, nIn, bI_z, bI_o, ite_b1, ite_b0, zI_add, zI_sub, li0, li1, li2, li3, li4, li5, li6, li7, li8, li9, li10, li11, li12, li13, li14, li15, li16, li17, li18, li19, li20, li21, li22, li23, li24, li25, li26, li27, li28, li29, li30, li31, li32, li33, li34, li35, li36, li37, li40, li42, li43, li45, li47, li48, li57, li59, li60, li61, li62, li64, li80, li91, li93, li97, li99, li100, li122, li182, li199, li255, li300, li380, li400, li999, li1000, li3640, li4100, li65536, li99999, ln1, ln2, ln3, ln100, ln100000, tLe, fLe, tLt, fLt, tEq, fEq, zLe_t, zLe_f, zLt_t, zLt_f, zEq_t, zEq_f, nzLe_t, nzLe_f, znLe_t, znLe_f, nzLt_t, nzLt_f, znLt_t, znLt_f, nzEq_t, nzEq_f, znEq_t, znEq_f, a1, b1, z1, d1, cS_cn cs ht]
      · unfold vF
        rw [if_neg (show ¬ m = 0 by omega), if_pos w1]
        split <;> rfl
    · obtain ⟨J, f1, f2, f3, f4⟩ := find_ok (L := L) (q := q) O hA hh9 pl ht hq ca.1 cs (cA_h ca)
      have hle := fwF_le S A q t
      refine fin (vF S A q t m) J ?_ rfl (fun b hb => f4 b (by omega))
      unfold mX11_fewest vF
      by_cases w : (fwF S A q t).1 < 31
      · rw [if_pos w] at f1 ⊢
        by_cases w0 : m = 0
        · subst w0
          rw [if_pos rfl]
          simp (disch := omega) only [↓reduceIte, Option.bind_some, Option.some.injEq, Prod.mk.injEq, and_self, and_true, true_and, eq_self, reduceCtorEq, not_false_eq_true, not_true_eq_false, or_true, true_or, or_false, false_or, bft, nAdd, nMul, nSub, nDiv, nRem, nAm1, nIx, nIn, bI_z, bI_o, ite_b1, ite_b0, zI_add, zI_sub, li0, li1, li2, li3, li4, li5, li6, li7, li8, li9, li10, li11, li12, li13, li14, li15, li16, li17, li18, li19, li20, li21, li22, li23, li24, li25, li26, li27, li28, li29, li30, li31, li32, li33, li34, li35, li36, li37, li40, li42, li43, li45, li47, li48, li57, li59, li60, li61, li62, li64, li80, li91, li93, li97, li99, li100, li122, li182, li199, li255, li300, li380, li400, li999, li1000, li3640, li4100, li65536, li99999, ln1, ln2, ln3, ln100, ln100000, tLe, fLe, tLt, fLt, tEq, fEq, zLe_t, zLe_f, zLt_t, zLt_f, zEq_t, zEq_f, nzLe_t, nzLe_f, znLe_t, znLe_f, nzLt_t, nzLt_f, znLt_t, znLt_f, nzEq_t, nzEq_f, znEq_t, znEq_f, a1, b1, z1, d1, cS_cn cs ht, f1, f2]
        · rw [if_neg w0, if_neg w1, ← f3 w (m - 1) (by omega)]
          simp (disch := omega) only [↓reduceIte, Option.bind_some, Option.some.injEq, Prod.mk.injEq, and_self, and_true, true_and, eq_self, reduceCtorEq, not_false_eq_true, not_true_eq_false, or_true, true_or, or_false, false_or, bft, nAdd, nMul, nSub, nDiv, nRem, nAm1, nIx, nIn, bI_z, bI_o, ite_b1, ite_b0, zI_add, zI_sub, li0, li1, li2, li3, li4, li5, li6, li7, li8, li9, li10, li11, li12, li13, li14, li15, li16, li17, li18, li19, li20, li21, li22, li23, li24, li25, li26, li27, li28, li29, li30, li31, li32, li33, li34, li35, li36, li37, li40, li42, li43, li45, li47, li48, li57, li59, li60, li61, li62, li64, li80, li91, li93, li97, li99, li100, li122, li182, li199, li255, li300, li380, li400, li999, li1000, li3640, li4100, li65536, li99999, ln1, ln2, ln3, ln100, ln100000, tLe, fLe, tLt, fLt, tEq, fEq, zLe_t, zLe_f, zLt_t, zLt_f, zEq_t, zEq_f, nzLe_t, nzLe_f, znLe_t, znLe_f, nzLt_t, nzLt_f, znLt_t, znLt_f, nzEq_t, nzEq_f, znEq_t, znEq_f, a1, b1, z1, d1, cS_cn cs ht, f1]
      · rw [if_neg w] at f1 ⊢
        simp (disch := omega) only [↓reduceIte, Option.bind_some, Option.some.injEq, Prod.mk.injEq, and_self, and_true, true_and, eq_self, reduceCtorEq, not_false_eq_true, not_true_eq_false, or_true, true_or, or_false, false_or, bft, nAdd, nMul, nSub, nDiv, nRem, nAm1, nIx, nIn, bI_z, bI_o, ite_b1, ite_b0, zI_add, zI_sub, li0, li1, li2, li3, li4, li5, li6, li7, li8, li9, li10, li11, li12, li13, li14, li15, li16, li17, li18, li19, li20, li21, li22, li23, li24, li25, li26, li27, li28, li29, li30, li31, li32, li33, li34, li35, li36, li37, li40, li42, li43, li45, li47, li48, li57, li59, li60, li61, li62, li64, li80, li91, li93, li97, li99, li100, li122, li182, li199, li255, li300, li380, li400, li999, li1000, li3640, li4100, li65536, li99999, ln1, ln2, ln3, ln100, ln100000, tLe, fLe, tLt, fLt, tEq, fEq, zLe_t, zLe_f, zLt_t, zLt_f, zEq_t, zEq_f, nzLe_t, nzLe_f, znLe_t, znLe_f, nzLt_t, nzLt_f, znLt_t, znLt_f, nzEq_t, nzEq_f, znEq_t, znEq_f, a1, b1, z1, d1, cS_cn cs ht, f1]

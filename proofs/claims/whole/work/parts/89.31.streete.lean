/-! street: both sides brought together. -/
theorem hRd_IL {h : xH} {b : Nat} (hb : b ≤ h.1) : (hRd h).2.2.2.1 b = h.2.2.2.1 b ∧ (hRd h).2.2.2.2 b = h.2.2.2.2 b := by
  have n0 : b ≠ h.1 + 1 := by omega
  have n2 : b ≠ h.1 + 2 := by omega
  have n3 : b ≠ h.1 + 3 := by omega
  have n4 : b ≠ h.1 + 4 := by omega
  have n5 : b ≠ h.1 + 5 := by omega
  have n6 : b ≠ h.1 + 6 := by omega
  have n7 : b ≠ h.1 + 7 := by omega
  have n8 : b ≠ h.1 + 8 := by omega
  have n9 : b ≠ h.1 + 9 := by omega
  have n10 : b ≠ h.1 + 10 := by omega
  have n11 : b ≠ h.1 + 11 := by omega
  have n12 : b ≠ h.1 + 12 := by omega
  constructor <;> funext k <;> simp [hRd, iX8, iX7, iX6, pP, pI, xnew, xu, xz, n0, n2, n3, n4, n5, n6, n7, n8, n9, n10, n11, n12]
theorem hRd_0 (h : xH) (b k : Nat) (h1 : h.1 < b) (h2 : b ≤ h.1 + 12) : (hRd h).2.2.2.1 b k = 0 ∧ (hRd h).2.2.2.2 b k = 0 := by
  have hb : b = h.1 + 1 ∨ b = h.1 + 2 ∨ b = h.1 + 3 ∨ b = h.1 + 4 ∨ b = h.1 + 5 ∨ b = h.1 + 6 ∨ b = h.1 + 7 ∨ b = h.1 + 8 ∨ b = h.1 + 9 ∨ b = h.1 + 10 ∨ b = h.1 + 11 ∨ b = h.1 + 12 := by omega
  rcases hb with rfl | rfl | rfl | rfl | rfl | rfl | rfl | rfl | rfl | rfl | rfl | rfl <;> (constructor <;> simp [hRd, iX8, iX7, iX6, pP, pI, xnew, xu, xz])
section
variable {n n' : Nat} {K K' : Nat → Nat × Nat} {P P' : Nat → Nat → Nat} {I I' J : Nat → Nat → Int32} {L L' : Nat → Nat → Int64} {Z : zT} {k : Nat} {T : txT} {U : uT}
theorem CI_ext0 (ok : okZ k Z) (hn : 171 ≤ n) (hle : n ≤ n') (hK : ∀ b, b ≤ n → K' b = K b) (hP : ∀ b, b ≤ n → P' b = P b) (hI : ∀ b, b ≤ n → (10 < b ∧ b < 92) ∨ 171 < b → I' b = I b ∧ L' b = L b) (h15 : I' 1 5 = I 1 5) (h11 : I' 1 1 = nI 0) (C : CI (n, K, P, I, L) Z) : CI (n', K', P', I', L') (zW Z, zM Z, zR Z, []) := by
  obtain ⟨⟨c1, c2⟩, ⟨c3, c4⟩, ⟨c5, c6⟩, ⟨c7, c8⟩, c9, c10⟩ := C
  change cW P I L 12 (zW Z) at c1
  change plZ n P (P 12 0) at c2
  change ∀ j, j < 20 → ∃ i, i < 20 ∧ P 27 j = 31 + 3 * i at c3
  change ∀ i j, i < 20 → j < 20 → P 27 i = P 27 j → i = j at c4
  change ∀ i, i < 4 → cM n P I L i (zM Z i) at c5
  change ∀ i j, i < 4 → j < 4 → i ≠ j → P 91 i ≠ 0 → P 91 j ≠ 0 → P 91 i + 78 < P 91 j ∨ P 91 j + 78 < P 91 i at c6
  change ∀ r ru, (zR Z)[r]? = some ru → cR K I (P 11 r) ru ∧ apt n P (P 11 r) 3 at c8
  have p91 : P' 91 = P 91 := hP 91 (by omega)
  have hap : ∀ s len, apt n P s len → apt n' P' s len := fun s len h => by
    unfold apt
    rw [p91]
    exact ⟨h.1, Nat.le_trans h.2.1 hle, h.2.2⟩
  have hpl : ∀ s, plZ n P s → plZ n' P' s := fun s h => h.imp id (hap s 10)
  have plB : ∀ s, plZ n P s → s + 10 ≤ n ∧ (s = 13 ∨ 171 < s) := fun s hs => by
    rcases hs with e | e
    · omega
    · have a1 := e.1
      have a2 := e.2.1
      omega
  have b12 := plB _ c2
  refine ⟨⟨?_, ?_⟩, ⟨fun j hj => ?_, fun a b h1 h2 e => ?_⟩, ⟨fun j hj => ?_, fun a b h1 h2 hab h3 h4 => ?_⟩, ⟨h15.trans c7, fun r ru hr => ?_⟩, h11, fun j x hx => by cases hx⟩
  · refine cW_P (P := P) (by show P' 12 0 = _; rw [hP 12 (by omega)]) (hP 27 (by omega)) (cW_congr (fun b hb => hI b (by omega) (by omega)) (fun j B hB b h1 h2 => ?_) c1)
    have hj := (List.getElem?_eq_some_iff.mp hB).1
    obtain ⟨x, hx, e⟩ := c3 j (by have := ok.1.2.2.2.1.1; change j < (wK (zW Z)).length at hj; omega)
    change P 27 j ≤ b at h1
    change b ≤ P 27 j + 2 at h2
    exact hI b (by omega) (by omega)
  · show plZ n' P' (P' 12 0)
    rw [hP 12 (by omega)]
    exact hpl _ c2
  · show ∃ i, i < 20 ∧ P' 27 j = 31 + 3 * i
    rw [hP 27 (by omega)]
    exact c3 j hj
  · change P' 27 a = P' 27 b at e
    rw [hP 27 (by omega)] at e
    exact c4 a b h1 h2 e
  · show cM n' P' I' L' j (zM Z j)
    have hm := c5 j hj
    cases hz : zM Z j with
    | none =>
      rw [hz] at hm
      show P' 91 j = 0
      rw [p91]; exact hm
    | some V =>
      rw [hz] at hm
      obtain ⟨⟨m1, m2⟩, m3, m4, m5⟩ := hm
      have bv := plB _ m4
      unfold cM
      rw [p91]
      refine ⟨⟨m1, by omega⟩, cW_P (P := P) (by rw [hP _ (by omega)]) (hP _ (by omega)) (cW_congr (fun b hb => hI b (by omega) (by omega)) (fun i B hB b h1 h2 => ?_) m3), ?_, fun i hi => ?_⟩
      · have hi := (List.getElem?_eq_some_iff.mp hB).1
        rw [m5 i (by have := (ok.2.1 j V hz).2.2.2.1.1; omega)] at h1 h2
        have := (ok.2.1 j V hz).2.2.2.1.1
        exact hI b (by omega) (by omega)
      · rw [hP _ (by omega)]; exact hpl _ m4
      · rw [hP _ (by omega)]; exact m5 i hi
  · change P' 91 a ≠ 0 at h3
    change P' 91 b ≠ 0 at h4
    show P' 91 a + 78 < P' 91 b ∨ P' 91 b + 78 < P' 91 a
    rw [p91] at h3 h4 ⊢
    exact c6 a b h1 h2 hab h3 h4
  · obtain ⟨d1, d2⟩ := c8 r ru hr
    have a1 := d2.1
    have a2 := d2.2.1
    show cR K' I' (P' 11 r) ru ∧ apt n' P' (P' 11 r) 3
    rw [hP 11 (by omega)]
    exact ⟨cR_congr (fun b h1 h2 => (hI b (by omega) (by omega)).1) (cR_K (fun b h1 h2 => hK b (by omega)) d1), hap _ _ d2⟩
theorem okU_0 : okU u0 := by
  refine ⟨⟨⟨?_, ?_, ?_, ?_, ?_, ?_, ?_, ?_⟩, ⟨rfl, rfl, fun t ht => absurd ht (Nat.not_lt_zero _)⟩, fun q hq => absurd hq (Nat.not_lt_zero _), fun q hq => absurd hq (Nat.not_lt_zero _)⟩, fun c => ⟨okC_nil, fun x hx => by cases hx⟩, fun q hq => absurd hq (Nat.not_lt_zero _), by show 0 < 16; decide⟩ <;> exact Nat.zero_le _
/-- rows cleared -/
theorem clr6 {e25 : (Nat → Nat → Int32) → Option (Nat → Nat → Int32)} {p f0 : Nat} : ∀ (f d j : Nat) (I : Nat → Nat → Int32), d < f → j + d = 9 → ∃ J, mX12_readsAll_6 e25 f (rP I p f0) (nI j) = e25 (rP J p f0) ∧ (∀ i, j ≤ i → i < 9 → J 141 i = nI 0) ∧ (∀ i, i < j → J 141 i = I 141 i) ∧ ∀ b, b ≠ 141 → J b = I b
  | 0, d, j, I, h, _ => absurd h (by omega)
  | f + 1, d, j, I, h1, h2 => by
    rw [mX12_readsAll_6]
    cases d with
    | zero =>
      refine ⟨I, ?_, fun i i1 i2 => by omega, fun _ _ => rfl, fun _ _ => rfl⟩
      simp (disch := omega) only [↓reduceIte, Option.bind_some, Option.some.injEq, Prod.mk.injEq, and_self, and_true, true_and, eq_self, reduceCtorEq, not_false_eq_true, not_true_eq_false, or_true, true_or, or_false, false_or, bft, nAdd, nMul, nSub, nDiv, nRem, nAm1, nIx, nIn, bI_z, bI_o, ite_b1, ite_b0, zI_add, zI_sub, li0, li1, li2, li3, li4, li5, li6, li7, li8, li9, li10, li11, li12, li13, li14, li15, li16, li17, li18, li19, li20, li21, li22, li23, li24, li25, li26, li27, li28, li29, li30, li31, li32, li33, li34, li35, li36, li37, li40, li42, li43, li45, li47, li48, li57, li59, li60, li61, li62, li64, li80, li91, li93, li97, li99, li100, li122, li182, li199, li255, li300, li380, li400, li999, li1000, li3640, li4100, li65536, li99999, ln1, ln2, ln3, ln100, ln100000, tLe, fLe, tLt, fLt, tEq, fEq, zLe_t, zLe_f, zLt_t, zLt_f, zEq_t, zEq_f, nzLe_t, nzLe_f, znLe_t, znLe_f, nzLt_t, nzLt_f, znLt_t, znLt_f, nzEq_t, nzEq_f, znEq_t, znEq_f]
    | succ d =>
      obtain ⟨J, g1, g2, g3, g4⟩ := clr6 (e25 := e25) (p := p) (f0 := f0) f d (j + 1) (xu I 141 j (nI 0)) (by omega) (by omega)
      refine ⟨J, ?_, fun i i1 i2 => ?_, fun i hi => ?_, fun b hb => ?_⟩
      · simp (disch := omega) only [↓reduceIte, Option.bind_some, Option.some.injEq, Prod.mk.injEq, and_self, and_true, true_and, eq_self, reduceCtorEq, not_false_eq_true, not_true_eq_false, or_true, true_or, or_false, false_or, bft, nAdd, nMul, nSub, nDiv, nRem, nAm1, nIx, nIn, bI_z, bI_o, ite_b1, ite_b0, zI_add, zI_sub, li0, li1, li2, li3, li4, li5, li6, li7, li8, li9, li10, li11, li12, li13, li14, li15, li16, li17, li18, li19, li20, li21, li22, li23, li24, li25, li26, li27, li28, li29, li30, li31, li32, li33, li34, li35, li36, li37, li40, li42, li43, li45, li47, li48, li57, li59, li60, li61, li62, li64, li80, li91, li93, li97, li99, li100, li122, li182, li199, li255, li300, li380, li400, li999, li1000, li3640, li4100, li65536, li99999, ln1, ln2, ln3, ln100, ln100000, tLe, fLe, tLt, fLt, tEq, fEq, zLe_t, zLe_f, zLt_t, zLt_f, zEq_t, zEq_f, nzLe_t, nzLe_f, znLe_t, znLe_f, nzLt_t, nzLt_f, znLt_t, znLt_f, nzEq_t, nzEq_f, znEq_t, znEq_f, rP_xu, g1]
      · by_cases e : i = j
        · subst e; rw [g3 i (by omega), xu_s]
        · exact g2 i (by omega) i2
      · rw [g3 i (by omega), xu_c (by omega)]
      · rw [g4 b hb, xu_r hb]
theorem clr27 {e46 : (Nat → Nat → Int32) → Option (Nat → Nat → Int32)} {p f0 : Nat} : ∀ (f d j : Nat) (I : Nat → Nat → Int32), d < f → j + d = 16 → ∃ J, mX12_readsAll_27 e46 f (rP I p f0) (nI j) = e46 (rP J p f0) ∧ (∀ i, j ≤ i → i < 16 → J 148 i = nI 0) ∧ (∀ i, i < j → J 148 i = I 148 i) ∧ ∀ b, b ≠ 148 → J b = I b
  | 0, d, j, I, h, _ => absurd h (by omega)
  | f + 1, d, j, I, h1, h2 => by
    rw [mX12_readsAll_27]
    cases d with
    | zero =>
      refine ⟨I, ?_, fun i i1 i2 => by omega, fun _ _ => rfl, fun _ _ => rfl⟩
      simp (disch := omega) only [↓reduceIte, Option.bind_some, Option.some.injEq, Prod.mk.injEq, and_self, and_true, true_and, eq_self, reduceCtorEq, not_false_eq_true, not_true_eq_false, or_true, true_or, or_false, false_or, bft, nAdd, nMul, nSub, nDiv, nRem, nAm1, nIx, nIn, bI_z, bI_o, ite_b1, ite_b0, zI_add, zI_sub, li0, li1, li2, li3, li4, li5, li6, li7, li8, li9, li10, li11, li12, li13, li14, li15, li16, li17, li18, li19, li20, li21, li22, li23, li24, li25, li26, li27, li28, li29, li30, li31, li32, li33, li34, li35, li36, li37, li40, li42, li43, li45, li47, li48, li57, li59, li60, li61, li62, li64, li80, li91, li93, li97, li99, li100, li122, li182, li199, li255, li300, li380, li400, li999, li1000, li3640, li4100, li65536, li99999, ln1, ln2, ln3, ln100, ln100000, tLe, fLe, tLt, fLt, tEq, fEq, zLe_t, zLe_f, zLt_t, zLt_f, zEq_t, zEq_f, nzLe_t, nzLe_f, znLe_t, znLe_f, nzLt_t, nzLt_f, znLt_t, znLt_f, nzEq_t, nzEq_f, znEq_t, znEq_f]
    | succ d =>
      obtain ⟨J, g1, g2, g3, g4⟩ := clr27 (e46 := e46) (p := p) (f0 := f0) f d (j + 1) (xu I 148 j (nI 0)) (by omega) (by omega)
      refine ⟨J, ?_, fun i i1 i2 => ?_, fun i hi => ?_, fun b hb => ?_⟩
      · simp (disch := omega) only [↓reduceIte, Option.bind_some, Option.some.injEq, Prod.mk.injEq, and_self, and_true, true_and, eq_self, reduceCtorEq, not_false_eq_true, not_true_eq_false, or_true, true_or, or_false, false_or, bft, nAdd, nMul, nSub, nDiv, nRem, nAm1, nIx, nIn, bI_z, bI_o, ite_b1, ite_b0, zI_add, zI_sub, li0, li1, li2, li3, li4, li5, li6, li7, li8, li9, li10, li11, li12, li13, li14, li15, li16, li17, li18, li19, li20, li21, li22, li23, li24, li25, li26, li27, li28, li29, li30, li31, li32, li33, li34, li35, li36, li37, li40, li42, li43, li45, li47, li48, li57, li59, li60, li61, li62, li64, li80, li91, li93, li97, li99, li100, li122, li182, li199, li255, li300, li380, li400, li999, li1000, li3640, li4100, li65536, li99999, ln1, ln2, ln3, ln100, ln100000, tLe, fLe, tLt, fLt, tEq, fEq, zLe_t, zLe_f, zLt_t, zLt_f, zEq_t, zEq_f, nzLe_t, nzLe_f, znLe_t, znLe_f, nzLt_t, nzLt_f, znLt_t, znLt_f, nzEq_t, nzEq_f, znEq_t, znEq_f, rP_xu, g1]
      · by_cases e : i = j
        · subst e; rw [g3 i (by omega), xu_s]
        · exact g2 i (by omega) i2
      · rw [g3 i (by omega), xu_c (by omega)]
      · rw [g4 b hb, xu_r hb]
def rSt (T : txT) (I : Nat → Nat → Int32) (r : Except Nat uT) (x : Option (Nat → Nat → Int32)) : Prop := match r with
  | .error e => (0 < e ∧ e < 10000) ∧ ∃ J, x = some J ∧ J 123 29 = nI e ∧ J 123 27 = nI 0 ∧ J 142 0 = nI 0 ∧ ∀ b k, b < 141 ∨ 149 < b → b ≠ 123 ∨ k < 27 ∨ 34 < k ∨ k = 30 ∨ k = 31 → J b k = I b k
  | .ok U => ∃ J, x = some J ∧ J 123 29 = nI 0 ∧ rU J U ∧ J 123 27 = nI 0 ∧ J 142 0 = nI 0 ∧ ∀ b k, b < 141 ∨ 149 < b → b ≠ 123 ∨ k < 27 ∨ 34 < k ∨ k = 30 ∨ k = 31 → J b k = I b k
theorem rReadsAll (ok : okT T) (hx : txR I T) (h142 : I 142 0 = nI 0) : rSt T I (rdS T 41 0 (sk T 0) u0) (mX12_readsAll I) := by
  obtain ⟨J1, g1, g2, g3, g4⟩ := clr6 (e25 := fun (I_5 : (Nat → Nat → Int32)) => (mX12_readsAll_27 (fun (I_8 : (Nat → Nat → Int32)) => (mX12_readsAll_50 xf I_8 (0 : Int32) (1 : Int32))) xf I_5 (0 : Int32))) (p := 0) (f0 := 0) xf 9 0 (xu (xu (xu I 123 32 (nI 0)) 123 33 (nI 0)) 123 34 (nI 0)) (by unfold xf; omega) (by omega)
  obtain ⟨J2, k1, k2, k3, k4⟩ := clr27 (e46 := fun (I_8 : (Nat → Nat → Int32)) => (mX12_readsAll_50 xf I_8 (0 : Int32) (1 : Int32))) (p := 0) (f0 := 0) xf 16 0 J1 (by unfold xf; omega) (by omega)
  have st : mX12_starts I = some (rP (xu (xu (xu I 123 32 (nI 0)) 123 33 (nI 0)) 123 34 (nI 0)) 0 0) := by
    unfold mX12_starts
    rw [← rP_xu (by omega), ← rP_xu (by omega), ← rP_xu (by omega)]
    rfl
  have e : mX12_readsAll I = mX12_readsAll_50 xf (rP J2 0 0) (nI 0) (nI 1) := by
    unfold mX12_readsAll
    rw [st, Option.bind_some]
    exact g1.trans k1
  have fr : ∀ b k, b ≠ 141 → b ≠ 148 → b ≠ 123 ∨ k < 32 ∨ 34 < k → J2 b k = I b k := fun b k h1 h2 h3 => by rw [k4 b h2, g4 b h1, xu_off (by omega), xu_off (by omega), xu_off (by omega)]
  have hx2 : txR J2 T := ⟨by rw [fr 123 27 (by decide) (by decide) (by decide)]; exact hx.1, fun i hi => by rw [fr 150 i (by decide) (by decide) (by omega)]; exact hx.2 i hi⟩
  have R0 : rU J2 u0 := by
    refine ⟨fun i hi => ?_, ?_, fun t ht => ?_, fun t ht => absurd ht (Nat.not_lt_zero _), fun t ht => absurd ht (Nat.not_lt_zero _), fun t ht => absurd ht (Nat.not_lt_zero _), fun c hc => ⟨k2 c (by omega) hc, fun i x hi => by cases hi⟩⟩
    · rw [k4 141 (by decide)]; exact g2 i (by omega) (by omega)
    · rw [k4 141 (by decide)]; exact g2 8 (by omega) (by omega)
    · have : t = 0 := Nat.le_zero.mp ht
      subst this
      rw [fr 142 0 (by decide) (by decide) (by omega)]; exact h142
  have go := rSt_go ok 40 0 xf (sk T 0) 0 u0 J2 (by omega) (by unfold xf; omega) okU_0 hx2 R0 (by omega) rfl
  rw [← e] at go
  have f142 : J2 142 0 = nI 0 := by rw [fr 142 0 (by decide) (by decide) (by omega)]; exact h142
  cases hr : rdS T 41 0 (sk T 0) u0 with
  | error y =>
    rw [hr] at go
    obtain ⟨i1, H, p, i2, i3, i4, i5⟩ := go
    refine ⟨i1, rP H p y, i2, rP_29, by rw [rP_o (by omega)]; exact i3, by rw [rP_o (by omega)]; exact i4.trans f142, fun b k hb hk => ?_⟩
    rw [rP_o (by omega), i5 b k hb (by omega), fr b k (by omega) (by omega) (by omega)]
  | ok y =>
    rw [hr] at go
    obtain ⟨H, p, i2, i3, i4, i5, i6⟩ := go
    refine ⟨rP H p 0, i2, rP_29, ?_, by rw [rP_o (by omega)]; exact i3, by rw [rP_o (by omega)]; exact i5.trans f142, fun b k hb hk => ?_⟩
    · unfold rU
      rw [rP_row (b := 141) (by decide), rP_row (b := 142) (by decide), rP_row (b := 143) (by decide), rP_row (b := 144) (by decide), rP_row (b := 145) (by decide), rP_row (b := 146) (by decide), rP_row (b := 147) (by decide), rP_row (b := 148) (by decide), rP_row (b := 149) (by decide)]
      exact i4
    · rw [rP_o (by omega), i6 b k hb (by omega), fr b k (by omega) (by omega) (by omega)]
theorem st21 {e55 : (Nat → Nat → Int32) → Option (Int32 × (Nat → Nat → Int32))} : ∀ (f d j : Nat) (I : Nat → Nat → Int32), d < f → j + d = 11 → ∃ J, mX12_street_21 e55 f I (nI j) = e55 J ∧ (∀ i, j ≤ i → i < 9 → J 124 i = I 141 i) ∧ (∀ i, j ≤ i → 9 ≤ i → i < 11 → J 124 i = nI 0) ∧ (∀ i, i < j ∨ 11 ≤ i → J 124 i = I 124 i) ∧ ∀ b, b ≠ 124 → J b = I b
  | 0, d, j, I, h, _ => absurd h (by omega)
  | f + 1, d, j, I, h1, h2 => by
    rw [mX12_street_21]
    cases d with
    | zero =>
      refine ⟨I, ?_, fun i i1 i2 => by omega, fun i i1 i2 i3 => by omega, fun _ _ => rfl, fun _ _ => rfl⟩
      simp (disch := omega) only [↓reduceIte, Option.bind_some, Option.some.injEq, Prod.mk.injEq, and_self, and_true, true_and, eq_self, reduceCtorEq, not_false_eq_true, not_true_eq_false, or_true, true_or, or_false, false_or, bft, nAdd, nMul, nSub, nDiv, nRem, nAm1, nIx, nIn, bI_z, bI_o, ite_b1, ite_b0, zI_add, zI_sub, li0, li1, li2, li3, li4, li5, li6, li7, li8, li9, li10, li11, li12, li13, li14, li15, li16, li17, li18, li19, li20, li21, li22, li23, li24, li25, li26, li27, li28, li29, li30, li31, li32, li33, li34, li35, li36, li37, li40, li42, li43, li45, li47, li48, li57, li59, li60, li61, li62, li64, li80, li91, li93, li97, li99, li100, li122, li182, li199, li255, li300, li380, li400, li999, li1000, li3640, li4100, li65536, li99999, ln1, ln2, ln3, ln100, ln100000, tLe, fLe, tLt, fLt, tEq, fEq, zLe_t, zLe_f, zLt_t, zLt_f, zEq_t, zEq_f, nzLe_t, nzLe_f, znLe_t, znLe_f, nzLt_t, nzLt_f, znLt_t, znLt_f, nzEq_t, nzEq_f, znEq_t, znEq_f]
    | succ d =>
      by_cases c : j < 9
      · obtain ⟨J, g1, g2, g3, g4, g5⟩ := st21 (e55 := e55) f d (j + 1) (xu I 124 j (I 141 j)) (by omega) (by omega)
        refine ⟨J, ?_, fun i i1 i2 => ?_, fun i i1 i2 i3 => g3 i (by omega) i2 i3, fun i hi => ?_, fun b hb => ?_⟩
        · simp (disch := omega) only [↓reduceIte, Option.bind_some, Option.some.injEq, Prod.mk.injEq, and_self, and_true, true_and, eq_self, reduceCtorEq, not_false_eq_true, not_true_eq_false, or_true, true_or, or_false, false_or, bft, nAdd, nMul, nSub, nDiv, nRem, nAm1, nIx, nIn, bI_z, bI_o, ite_b1, ite_b0, zI_add, zI_sub, li0, li1, li2, li3, li4, li5, li6, li7, li8, li9, li10, li11, li12, li13, li14, li15, li16, li17, li18, li19, li20, li21, li22, li23, li24, li25, li26, li27, li28, li29, li30, li31, li32, li33, li34, li35, li36, li37, li40, li42, li43, li45, li47, li48, li57, li59, li60, li61, li62, li64, li80, li91, li93, li97, li99, li100, li122, li182, li199, li255, li300, li380, li400, li999, li1000, li3640, li4100, li65536, li99999, ln1, ln2, ln3, ln100, ln100000, tLe, fLe, tLt, fLt, tEq, fEq, zLe_t, zLe_f, zLt_t, zLt_f, zEq_t, zEq_f, nzLe_t, nzLe_f, znLe_t, znLe_f, nzLt_t, nzLt_f, znLt_t, znLt_f, nzEq_t, nzEq_f, znEq_t, znEq_f, g1]
        · by_cases e : i = j
          · subst e; rw [g4 i (by omega), xu_s]
          · rw [g2 i (by omega) i2, xu_r (by decide)]
        · rw [g4 i (by omega), xu_c (by omega)]
        · rw [g5 b hb, xu_r hb]
      · obtain ⟨J, g1, g2, g3, g4, g5⟩ := st21 (e55 := e55) f d (j + 1) (xu I 124 j (nI 0)) (by omega) (by omega)
        refine ⟨J, ?_, fun i i1 i2 => by omega, fun i i1 i2 i3 => ?_, fun i hi => ?_, fun b hb => ?_⟩
        · simp (disch := omega) only [↓reduceIte, Option.bind_some, Option.some.injEq, Prod.mk.injEq, and_self, and_true, true_and, eq_self, reduceCtorEq, not_false_eq_true, not_true_eq_false, or_true, true_or, or_false, false_or, bft, nAdd, nMul, nSub, nDiv, nRem, nAm1, nIx, nIn, bI_z, bI_o, ite_b1, ite_b0, zI_add, zI_sub, li0, li1, li2, li3, li4, li5, li6, li7, li8, li9, li10, li11, li12, li13, li14, li15, li16, li17, li18, li19, li20, li21, li22, li23, li24, li25, li26, li27, li28, li29, li30, li31, li32, li33, li34, li35, li36, li37, li40, li42, li43, li45, li47, li48, li57, li59, li60, li61, li62, li64, li80, li91, li93, li97, li99, li100, li122, li182, li199, li255, li300, li380, li400, li999, li1000, li3640, li4100, li65536, li99999, ln1, ln2, ln3, ln100, ln100000, tLe, fLe, tLt, fLt, tEq, fEq, zLe_t, zLe_f, zLt_t, zLt_f, zEq_t, zEq_f, nzLe_t, nzLe_f, znLe_t, znLe_f, nzLt_t, nzLt_f, znLt_t, znLt_f, nzEq_t, nzEq_f, znEq_t, znEq_f, g1]
        · by_cases e : i = j
          · subst e; rw [g4 i (by omega), xu_s]
          · exact g3 i (by omega) i2 i3
        · rw [g4 i (by omega), xu_c (by omega)]
        · rw [g5 b hb, xu_r hb]
theorem rStreet_e {e : Nat} (ok : okT T) (hx : txR I T) (h142 : I 142 0 = nI 0) (hr : rdS T 41 0 (sk T 0) u0 = .error e) : ∃ J, mX12_street I = some ((-2 : Int32) - nI e, J) ∧ J 123 27 = nI 0 ∧ J 142 0 = nI 0 ∧ ∀ b k, b < 141 ∨ 149 < b → b ≠ 123 ∨ k < 27 ∨ 34 < k ∨ k = 30 ∨ k = 31 → J b k = I b k := by
  have g := rReadsAll ok hx h142
  rw [hr] at g
  obtain ⟨g0, J, g1, g2, g3, g4, g5⟩ := g
  refine ⟨J, ?_, g3, g4, g5⟩
  unfold mX12_street
  rw [g1, Option.bind_some, g2, if_neg (show ¬ nI e ≤ (0 : Int32) from fun c => absurd ((nLe (b := 0) (by omega) (by omega)).mp c) (by omega))]
theorem rStreet_o {U : uT} (ok : okT T) (hx : txR I T) (h142 : I 142 0 = nI 0) (hr : rdS T 41 0 (sk T 0) u0 = .ok U) (hU : okU U) : ∃ J, mX12_street I = some (nI (sCe U.1), J) ∧ rSn J U.1 ∧ rAn J U.1 (finU U) ∧ rT0 J U.1 (finU U) ∧ (J 124 10 = nI 0 ∧ J 124 11 = I 124 11 ∧ J 124 12 = I 124 12) ∧ (J 123 51 = nI 0 ∧ J 123 27 = nI 0 ∧ J 142 0 = nI 0 ∧ J 123 31 = I 123 31 ∧ J 123 36 = I 123 36) ∧ ∀ b, b < 123 ∨ 149 < b → J b = I b := by
  have o1 := hU.1.1
  have g := rReadsAll ok hx h142
  rw [hr] at g
  obtain ⟨H, g1, g2, g3, g4, g5, g6⟩ := g
  obtain ⟨r1, r2, r3, r4, r5, r6, r7⟩ := g3
  obtain ⟨J0, s1, s2, s3, s4, s5⟩ := st21 (e55 := (fun (I_9 : (Nat → Nat → Int32)) => (Option.bind (mX12_copies I_9 142 5 125 5) (fun q10 => (Option.bind (mX12_copies q10 143 4 126 4) (fun q12 => (Option.bind (mX12_copies q12 144 4 127 4) (fun q14 => (Option.bind (mX12_copies q14 146 5 129 5) (fun q16 => (Option.bind (mX12_copies q16 147 5 130 5) (fun q18 => (Option.bind (mX12_copies q18 148 16 137 16) (fun q20 => (Option.bind (mX12_copies q20 149 80 138 80) (fun q22 => (Option.bind (mX12_copies q22 145 4 139 4) (fun q24 => (Option.bind (mX12_begins (xu q24 140 0 (q24 141 8))) (fun q26 => (some (((xu q26 123 51 (0 : Int32)) 124 4), (xu q26 123 51 (0 : Int32)))))))))))))))))))))))) xf 11 0 H (by unfold xf; omega) (by omega)
  obtain ⟨J1, a1, a2, -, a4⟩ := copies_ok (a0 := 142) (a1 := 125) (z := 5) (by decide) (by decide) J0
  obtain ⟨J2, b1, b2, -, b4⟩ := copies_ok (a0 := 143) (a1 := 126) (z := 4) (by decide) (by decide) J1
  obtain ⟨J3, c1, c2, -, c4⟩ := copies_ok (a0 := 144) (a1 := 127) (z := 4) (by decide) (by decide) J2
  obtain ⟨J4, d1, d2, -, d4⟩ := copies_ok (a0 := 146) (a1 := 129) (z := 5) (by decide) (by decide) J3
  obtain ⟨J5, e1, e2, -, e4⟩ := copies_ok (a0 := 147) (a1 := 130) (z := 5) (by decide) (by decide) J4
  obtain ⟨J6, f1, f2, -, f4⟩ := copies_ok (a0 := 148) (a1 := 137) (z := 16) (by decide) (by decide) J5
  obtain ⟨J7, h1, h2, -, h4⟩ := copies_ok (a0 := 149) (a1 := 138) (z := 80) (by decide) (by decide) J6
  obtain ⟨J8, i1, i2, -, i4⟩ := copies_ok (a0 := 145) (a1 := 139) (z := 4) (by decide) (by decide) J7
  have x1 : ∀ b, 141 ≤ b → J1 b = H b := fun b hb => by rw [a4 b (by omega), s5 b (by omega)]
  have x2 : ∀ b, 141 ≤ b → J2 b = H b := fun b hb => by rw [b4 b (by omega), x1 b hb]
  have x3 : ∀ b, 141 ≤ b → J3 b = H b := fun b hb => by rw [c4 b (by omega), x2 b hb]
  have x4 : ∀ b, 141 ≤ b → J4 b = H b := fun b hb => by rw [d4 b (by omega), x3 b hb]
  have x5 : ∀ b, 141 ≤ b → J5 b = H b := fun b hb => by rw [e4 b (by omega), x4 b hb]
  have x6 : ∀ b, 141 ≤ b → J6 b = H b := fun b hb => by rw [f4 b (by omega), x5 b hb]
  have x7 : ∀ b, 141 ≤ b → J7 b = H b := fun b hb => by rw [h4 b (by omega), x6 b hb]
  have x8 : ∀ b, 141 ≤ b → J8 b = H b := fun b hb => by rw [i4 b (by omega), x7 b hb]
  have lo : ∀ b, b < 124 → J8 b = H b := fun b hb => by rw [i4 b (by omega), h4 b (by omega), f4 b (by omega), e4 b (by omega), d4 b (by omega), c4 b (by omega), b4 b (by omega), a4 b (by omega), s5 b (by omega)]
  have y124 : J8 124 = J0 124 := by rw [i4 124 (by decide), h4 124 (by decide), f4 124 (by decide), e4 124 (by decide), d4 124 (by decide), c4 124 (by decide), b4 124 (by decide), a4 124 (by decide)]
  have y125 : ∀ i, i < 5 → J8 125 i = H 142 i := fun i hi => by rw [i4 125 (by decide), h4 125 (by decide), f4 125 (by decide), e4 125 (by decide), d4 125 (by decide), c4 125 (by decide), b4 125 (by decide), a2 i hi, s5 142 (by decide)]
  have y126 : ∀ i, i < 4 → J8 126 i = H 143 i := fun i hi => by rw [i4 126 (by decide), h4 126 (by decide), f4 126 (by decide), e4 126 (by decide), d4 126 (by decide), c4 126 (by decide), b2 i hi, x1 143 (by decide)]
  have y127 : ∀ i, i < 4 → J8 127 i = H 144 i := fun i hi => by rw [i4 127 (by decide), h4 127 (by decide), f4 127 (by decide), e4 127 (by decide), d4 127 (by decide), c2 i hi, x2 144 (by decide)]
  have y129 : ∀ i, i < 5 → J8 129 i = H 146 i := fun i hi => by rw [i4 129 (by decide), h4 129 (by decide), f4 129 (by decide), e4 129 (by decide), d2 i hi, x3 146 (by decide)]
  have y130 : ∀ i, i < 5 → J8 130 i = H 147 i := fun i hi => by rw [i4 130 (by decide), h4 130 (by decide), f4 130 (by decide), e2 i hi, x4 147 (by decide)]
  have y137 : ∀ i, i < 16 → J8 137 i = H 148 i := fun i hi => by rw [i4 137 (by decide), h4 137 (by decide), f2 i hi, x5 148 (by decide)]
  have y138 : ∀ i, i < 80 → J8 138 i = H 149 i := fun i hi => by rw [i4 138 (by decide), h2 i hi, x6 149 (by decide)]
  have y139 : ∀ i, i < 4 → J8 139 i = H 145 i := fun i hi => by rw [i2 i hi, x7 145 (by decide)]
  have z124 : ∀ i, i < 9 → J8 124 i = H 141 i := fun i hi => by rw [y124]; exact s2 i (by omega) hi
  have RG : rSn (xu J8 140 0 (J8 141 8)) U.1 := by
    unfold rSn
    rw [xu_r (b := 124) (by decide), xu_r (b := 125) (by decide), xu_r (b := 126) (by decide), xu_r (b := 127) (by decide), xu_r (b := 129) (by decide), xu_r (b := 130) (by decide)]
    refine ⟨fun i hi => ?_, fun t ht => ?_, fun t ht => ?_, fun q hq => ?_, fun k hk => ⟨?_, ?_⟩⟩
    · rw [z124 i (by omega)]; exact r1 i hi
    · rw [y125 t (by omega)]; exact r3 t ht
    · rw [y126 t (by omega)]; exact r4 t ht
    · rw [y127 q (by omega)]; exact (r5 q hq).1
    · rw [y129 k (by omega)]; exact (r6 k hk).1
    · rw [y130 k (by omega)]; exact (r6 k hk).2
  have RT : rT0 (xu J8 140 0 (J8 141 8)) U.1 (finU U) := by
    unfold rT0
    rw [xu_r (b := 137) (by decide), xu_r (b := 138) (by decide), xu_r (b := 139) (by decide)]
    refine ⟨fun c hc hb => ?_, fun q hq => ?_, ?_⟩
    · have e : (finU U).1 c = U.2.1 c := by
        show fnC U (sTh U.1) c = _
        unfold fnC
        change U.2.2.2.testBit (thOf U.1 c) = false at hb
        rw [if_neg (fun x => by rw [hb] at x; cases x.2)]
      have rc := r7 c (by omega)
      rw [e, y137 c (by omega)]
      refine ⟨rc.1, fun i x hi => ?_⟩
      have hi2 := (List.getElem?_eq_some_iff.mp hi).1
      rw [List.length_reverse] at hi2
      have := (hU.2.1 c).1.1
      rw [y138 _ (by omega)]
      exact rc.2 i x hi
    · rw [y139 q (by omega)]; exact (r5 q hq).2
    · rw [xu_s, x8 141 (by decide)]; exact r2
  have fo := finU_okA hU
  obtain ⟨J, j1, j2, j3, j4⟩ := begins_ok hU.1 fo.1 fo.2.1 fo.2.2 RG RT
  have jn : ∀ b, ¬ fv b → b ≠ 140 → J b = J8 b := fun b hb h => by rw [j4 b hb, xu_r h]
  have j124 : ∀ i, i ≠ 8 → i ≠ 9 → J 124 i = J8 124 i := fun i q1 q2 => by rw [j3 i q1 q2, xu_r (by decide)]
  have v4 : J 124 4 = nI (sCe U.1) := by rw [j124 4 (by decide) (by decide), z124 4 (by decide)]; exact r1 4 (by decide)
  refine ⟨xu J 123 51 (nI 0), ?_, ?_, ?_, ?_, ⟨?_, ?_, ?_⟩, ⟨xu_s, ?_, ?_, ?_, ?_⟩, fun b hb => ?_⟩
  · unfold mX12_street
    rw [g1, Option.bind_some, g2, if_pos (show nI 0 ≤ (0 : Int32) by decide)]
    refine Eq.trans s1 ?_
    rw [a1, Option.bind_some, b1, Option.bind_some, c1, Option.bind_some, d1, Option.bind_some, e1, Option.bind_some, f1, Option.bind_some, h1, Option.bind_some, i1, Option.bind_some, j1, Option.bind_some, xu_r (show 124 ≠ 123 by decide), v4]
    rfl
  · unfold rSn at RG ⊢
    rw [xu_r (b := 124) (by decide), xu_r (b := 125) (by decide), xu_r (b := 126) (by decide), xu_r (b := 127) (by decide), xu_r (b := 129) (by decide), xu_r (b := 130) (by decide), j4 125 (by unfold fv; decide), j4 126 (by unfold fv; decide), j4 127 (by unfold fv; decide), j4 129 (by unfold fv; decide), j4 130 (by unfold fv; decide)]
    exact ⟨fun i hi => by rw [j3 i (by omega) (by omega)]; exact RG.1 i hi, RG.2⟩
  · unfold rAn at j2 ⊢
    rw [xu_r (b := 124) (by decide), xu_r (b := 128) (by decide), xu_r (b := 131) (by decide), xu_r (b := 132) (by decide), xu_r (b := 133) (by decide)]
    exact j2
  · unfold rT0 at RT ⊢
    rw [xu_r (b := 137) (by decide), xu_r (b := 138) (by decide), xu_r (b := 139) (by decide), xu_r (b := 140) (by decide), j4 137 (by unfold fv; decide), j4 138 (by unfold fv; decide), j4 139 (by unfold fv; decide), j4 140 (by unfold fv; decide)]
    exact RT
  · rw [xu_r (by decide), j124 10 (by decide) (by decide), y124]; exact s3 10 (by omega) (by omega) (by omega)
  · rw [xu_r (by decide), j124 11 (by decide) (by decide), y124, s4 11 (by omega), g6 124 11 (by omega) (by omega)]
  · rw [xu_r (by decide), j124 12 (by decide) (by decide), y124, s4 12 (by omega), g6 124 12 (by omega) (by omega)]
  · rw [xu_c (by decide), jn 123 (by unfold fv; decide) (by decide), lo 123 (by decide)]; exact g4
  · rw [xu_r (by decide), jn 142 (by unfold fv; decide) (by decide), x8 142 (by decide)]; exact g5
  · rw [xu_c (by decide), jn 123 (by unfold fv; decide) (by decide), lo 123 (by decide), g6 123 31 (by omega) (by omega)]
  · rw [xu_c (by decide), jn 123 (by unfold fv; decide) (by decide), lo 123 (by decide), g6 123 36 (by omega) (by omega)]
  · rw [xu_r (by omega), jn b (by unfold fv; omega) (by omega)]
    rcases hb with hb | hb
    · rw [lo b (by omega)]
      exact funext fun k => g6 b k (by omega) (by omega)
    · rw [x8 b (by omega)]
      exact funext fun k => g6 b k (by omega) (by omega)
theorem RI_txt {W : wT} (ok : okZ k Z) (R : RI I Z) (hW : rW J (J 123 51) W) (h31 : J 123 31 = I 123 31) (h27 : J 123 27 = nI 0) (h36 : J 123 36 = I 123 36) (h142 : J 142 0 = nI 0) (hb : ∀ b, 151 ≤ b → b ≤ 171 → J b = I b) : RI J (W, zM Z, zR Z, []) := by
  obtain ⟨r1, r2, ⟨r3, r4⟩, -, r7⟩ := R
  refine ⟨hW, fun i hi => ?_, ⟨h31.trans r3, fun r ru hr => rR_congr (fun b q1 q2 => hb b (by omega) (by omega)) (r4 r ru hr)⟩, ⟨h27, fun i x hx => by cases hx⟩, h36.trans r7.1, h142⟩
  have hm := r2 i hi
  show rM J i (zM Z i)
  have e0 : J 170 = I 170 := hb 170 (by decide) (by decide)
  have e1 : J 171 = I 171 := hb 171 (by decide) (by decide)
  cases hz : zM Z i with
  | none => rw [hz] at hm; show J 171 i = _; rw [e1]; exact hm
  | some W =>
    rw [hz] at hm
    unfold rM imG
    rw [e0, e1]
    exact hm
end

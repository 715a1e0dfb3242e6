/-! least. -/
def idA (S : sT) : Nat → aT × (Nat → Nat) → aT × (Nat → Nat)
  | 0, B => B
  | n + 1, B => idA S n (endsA S B.1 B.2)
theorem endsA_co (S : sT) (A : aT) (g : Nat → Nat) (c : Nat) : (endsA S A g).1.1 c = washR S (A.1 c) A.2.2.1 := by
  have e : (dryA S A).1 c = washR S (A.1 c) A.2.2.1 := by
    unfold dryA washR
    cases rainS S A.2.2.1 <;> rfl
  unfold endsA
  split
  · exact e
  · exact e
theorem idA_ok {S : sT} : ∀ (n : Nat) (B : aT × (Nat → Nat)), okA S B.1 → okA S (idA S n B).1 ∧ (idA S n B).1.2.2.1 = B.1.2.2.1 + n ∧ ∀ c, (idA S n B).1.1 c = afterL S n B.1.2.2.1 (B.1.1 c)
  | 0, B, h => ⟨h, rfl, fun _ => rfl⟩
  | n + 1, B, h => by
    obtain ⟨h1, h2, h3⟩ := idA_ok n (endsA S B.1 B.2) (okA_ends h B.2)
    refine ⟨h1, by rw [idA, h2, endsA_hr]; omega, fun c => ?_⟩
    rw [idA, h3 c, endsA_co, endsA_hr]
    rfl
theorem idles_go {S : sT} (O : okS S) {N : Nat} (hN : N < 1000) : ∀ (f n k : Nat) (B : aT × (Nat → Nat)) (I : Nat → Nat → Int32), n < f → n + k = N → okA S B.1 → B.1.2.2.1 + n < 1000 → rSn I S → rAn I S B.1 → gotR 161 I B.2 → ∃ J, mX12_idles_2 f I (nI N) (nI k) = some J ∧ rAn J S (idA S n B).1 ∧ fR I J
  | 0, n, k, B, I, h1, _, _, _, _, _, _ => absurd h1 (by omega)
  | f + 1, n, k, B, I, h1, h2, hA, hh, R, RA, hg => by
    rw [mX12_idles_2]
    cases n with
    | zero =>
      refine ⟨I, ?_, RA, fR_refl I⟩
      simp (disch := omega) only [↓reduceIte, Option.bind_some, Option.some.injEq, Prod.mk.injEq, and_self, and_true, true_and, eq_self, reduceCtorEq, not_false_eq_true, not_true_eq_false, or_true, true_or, or_false, false_or, bft, nAdd, nMul, nSub, nDiv, nRem, nAm1, nIx, nIn, bI_z, bI_o, ite_b1, ite_b0, zI_add, zI_sub, li0, li1, li2, li3, li4, li5, li6, li7, li8, li9, li10, li11, li12, li13, li14, li15, li16, li17, li18, li19, li20, li21, li22, li23, li24, li25, li26, li27, li28, li29, li30, li31, li32, li33, li34, li35, li36, li37, li40, li42, li43, li45, li47, li48, li57, li59, li60, li61, li62, li64, li80, li91, li93, li97, li99, li100, li122, li182, li199, li255, li300, li380, li400, li999, li1000, li3640, li4100, li65536, li99999, ln1, ln2, ln3, ln100, ln100000, tLe, fLe, tLt, fLt, tEq, fEq, zLe_t, zLe_f, zLt_t, zLt_f, zEq_t, zEq_f, nzLe_t, nzLe_f, znLe_t, znLe_f, nzLt_t, nzLt_f, znLt_t, znLt_f, nzEq_t, nzEq_f, znEq_t, znEq_f]
    | succ n =>
      obtain ⟨J1, j1, j2, j3, j4⟩ := rEnds_ok O hA (by omega) R RA hg
      obtain ⟨J, k1, k2, k3⟩ := idles_go O hN f n (k + 1) (endsA S B.1 B.2) J1 (by omega) (by omega) (okA_ends hA _) (by rw [endsA_hr]; omega) (rSn_f j4 R) j2 j3
      refine ⟨J, ?_, k2, fR_trans j4 k3⟩
      simp (disch := omega) only [↓reduceIte, Option.bind_some, Option.some.injEq, Prod.mk.injEq, and_self, and_true, true_and, eq_self, reduceCtorEq, not_false_eq_true, not_true_eq_false, or_true, true_or, or_false, false_or, bft, nAdd, nMul, nSub, nDiv, nRem, nAm1, nIx, nIn, bI_z, bI_o, ite_b1, ite_b0, zI_add, zI_sub, li0, li1, li2, li3, li4, li5, li6, li7, li8, li9, li10, li11, li12, li13, li14, li15, li16, li17, li18, li19, li20, li21, li22, li23, li24, li25, li26, li27, li28, li29, li30, li31, li32, li33, li34, li35, li36, li37, li40, li42, li43, li45, li47, li48, li57, li59, li60, li61, li62, li64, li80, li91, li93, li97, li99, li100, li122, li182, li199, li255, li300, li380, li400, li999, li1000, li3640, li4100, li65536, li99999, ln1, ln2, ln3, ln100, ln100000, tLe, fLe, tLt, fLt, tEq, fEq, zLe_t, zLe_f, zLt_t, zLt_f, zEq_t, zEq_f, nzLe_t, nzLe_f, znLe_t, znLe_f, nzLt_t, nzLt_f, znLt_t, znLt_f, nzEq_t, nzEq_f, znEq_t, znEq_f, j1]
      exact k1
theorem idles_ok {S : sT} {A : aT} {N : Nat} {I : Nat → Nat → Int32} (O : okS S) (hA : okA S A) (hh : A.2.2.1 + N < 1000) (R : rSn I S) (RA : rAn I S A) : ∃ J g, mX12_idles I (nI N) = some J ∧ rAn J S (idA S N (A, g)).1 ∧ fR I J := by
  obtain ⟨g, hg⟩ := gotR_ex 161 I
  obtain ⟨J, j1, j2, j3⟩ := idles_go O (show N < 1000 by omega) xf N 0 (A, g) I (by unfold xf; omega) (by omega) hA hh R RA hg
  exact ⟨J, g, j1, j2, j3⟩
def pc (s : Nat) : Nat := (s.testBit 0).toNat + (s.testBit 1).toNat + (s.testBit 2).toNat + (s.testBit 3).toNat + (s.testBit 4).toNat + (s.testBit 5).toNat
theorem bitC : ∀ s, s < 64 → mJ6_bitCount_0f7a4 (nI s) = some (nI (pc s)) := by decide +kernel
theorem pc_le (s : Nat) : pc s ≤ 6 := by
  unfold pc
  have : ∀ b : Bool, b.toNat ≤ 1 := fun b => by cases b <;> decide
  have h0 := this (s.testBit 0)
  have h1 := this (s.testBit 1)
  have h2 := this (s.testBit 2)
  have h3 := this (s.testBit 3)
  have h4 := this (s.testBit 4)
  have h5 := this (s.testBit 5)
  omega
theorem bit1 : ∀ s, s < 64 → ∀ k, k < 16 → (xshr (nI s) (nI k) &&& nI 1) = nI (s.testBit k).toNat := by decide +kernel
def pcF (s : Nat) : Nat → Nat → Nat → Nat
  | 0, _, a => a
  | n + 1, k, a => pcF s n (k + 1) (a + (s.testBit k).toNat)
theorem bits_go2 {s : Nat} (hs : s < 64) : ∀ (f n k a : Nat), n < f → n + k = 16 → mX12_bits_4 f (nI s) (nI a) (nI k) = some (nI (pcF s n k a))
  | 0, n, k, a, h1, _ => absurd h1 (by omega)
  | f + 1, n, k, a, h1, h2 => by
    rw [mX12_bits_4]
    cases n with
    | zero => simp (disch := omega) only [↓reduceIte, Option.bind_some, Option.some.injEq, Prod.mk.injEq, and_self, and_true, true_and, eq_self, reduceCtorEq, not_false_eq_true, not_true_eq_false, or_true, true_or, or_false, false_or, bft, nAdd, nMul, nSub, nDiv, nRem, nAm1, nIx, nIn, bI_z, bI_o, ite_b1, ite_b0, zI_add, zI_sub, li0, li1, li2, li3, li4, li5, li6, li7, li8, li9, li10, li11, li12, li13, li14, li15, li16, li17, li18, li19, li20, li21, li22, li23, li24, li25, li26, li27, li28, li29, li30, li31, li32, li33, li34, li35, li36, li37, li40, li42, li43, li45, li47, li48, li57, li59, li60, li61, li62, li64, li80, li91, li93, li97, li99, li100, li122, li182, li199, li255, li300, li380, li400, li999, li1000, li3640, li4100, li65536, li99999, ln1, ln2, ln3, ln100, ln100000, tLe, fLe, tLt, fLt, tEq, fEq, zLe_t, zLe_f, zLt_t, zLt_f, zEq_t, zEq_f, nzLe_t, nzLe_f, znLe_t, znLe_f, nzLt_t, nzLt_f, znLt_t, znLt_f, nzEq_t, nzEq_f, znEq_t, znEq_f]; rfl
    | succ n =>
      have e := bit1 s hs k (by omega)
      simp (disch := omega) only [↓reduceIte, Option.bind_some, Option.some.injEq, Prod.mk.injEq, and_self, and_true, true_and, eq_self, reduceCtorEq, not_false_eq_true, not_true_eq_false, or_true, true_or, or_false, false_or, bft, nAdd, nMul, nSub, nDiv, nRem, nAm1, nIx, nIn, bI_z, bI_o, ite_b1, ite_b0, zI_add, zI_sub, li0, li1, li2, li3, li4, li5, li6, li7, li8, li9, li10, li11, li12, li13, li14, li15, li16, li17, li18, li19, li20, li21, li22, li23, li24, li25, li26, li27, li28, li29, li30, li31, li32, li33, li34, li35, li36, li37, li40, li42, li43, li45, li47, li48, li57, li59, li60, li61, li62, li64, li80, li91, li93, li97, li99, li100, li122, li182, li199, li255, li300, li380, li400, li999, li1000, li3640, li4100, li65536, li99999, ln1, ln2, ln3, ln100, ln100000, tLe, fLe, tLt, fLt, tEq, fEq, zLe_t, zLe_f, zLt_t, zLt_f, zEq_t, zEq_f, nzLe_t, nzLe_f, znLe_t, znLe_f, nzLt_t, nzLt_f, znLt_t, znLt_f, nzEq_t, nzEq_f, znEq_t, znEq_f, e]
      rw [pcF]
      exact bits_go2 hs f n (k + 1) _ (by omega) (by omega)
theorem pcF_eq : ∀ s, s < 64 → pcF s 16 0 0 = pc s := by decide +kernel
theorem bits_ok {s : Nat} (hs : s < 64) : mX12_bits (nI s) = some (nI (pc s)) := by
  unfold mX12_bits
  rw [li0, bits_go2 hs xf 16 0 0 (by unfold xf; omega) (by omega), pcF_eq s hs]
theorem shl1 : ∀ c, c < 7 → xshl (nI 1) (nI c) = nI (2 ^ c) := by decide +kernel
theorem pow64 : ∀ c, c < 7 → 2 ^ c ≤ 64 ∧ 0 < 2 ^ c := by decide +kernel
/-- owners of a thing's cells n hours on, left as they are or painted -/
def ownLf (S : sT) (A : aT) (n c : Nat) : Int := ownL (sSuit S) (sDry S) (afterL S n A.2.2.1 (A.1 c)) (A.2.2.1 + n)
def ownPn (S : sT) (A : aT) (q n c : Nat) : Int := ownL (sSuit S) (sDry S) (afterL S n A.2.2.1 (putC (A.1 c) q A.2.2.1)) (A.2.2.1 + n)
def ownS (S : sT) (A : aT) (q n t s k : Nat) : Int := if s.testBit k = true then ownPn S A q n (sFi S t + k) else ownLf S A n (sFi S t + k)
def okSet (S : sT) (A : aT) (q n t s : Nat) : Bool := decide (ownC (fun p => cntF (ownS S A q n t s) p (sFi S (t + 1) - sFi S t) 0) 4 (sFi S (t + 1) - sFi S t) (sPart S) = q)
def lsB (okf : Nat → Bool) : Nat → Nat → Int → Int
  | 0, _, b => b
  | n + 1, s, b => if okf s = true ∧ (b < 0 ∨ pc s < pc b.toNat) then lsB okf n (s + 1) s else lsB okf n (s + 1) b
theorem lsB_y {okf : Nat → Bool} {n s : Nat} {b : Int} (h : okf s = true ∧ (b < 0 ∨ pc s < pc b.toNat)) : lsB okf (n + 1) s b = lsB okf n (s + 1) s := by rw [lsB, if_pos h]
theorem lsB_n {okf : Nat → Bool} {n s : Nat} {b : Int} (h : ¬ (okf s = true ∧ (b < 0 ∨ pc s < pc b.toNat))) : lsB okf (n + 1) s b = lsB okf n (s + 1) b := by rw [lsB, if_neg h]
theorem lsB_rng {okf : Nat → Bool} : ∀ (n s : Nat) (b : Int) (N : Nat), n + s ≤ N → (b = -1 ∨ ∃ x : Nat, x < N ∧ b = x) → lsB okf n s b = -1 ∨ ∃ x : Nat, x < N ∧ lsB okf n s b = x
  | 0, _, _, _, _, h => h
  | n + 1, s, b, N, hN, h => by
    rw [lsB]
    split
    · exact lsB_rng n (s + 1) s N (by omega) (Or.inr ⟨s, by omega, rfl⟩)
    · exact lsB_rng n (s + 1) b N (by omega) h
theorem afterL_mem {S : sT} : ∀ (n h : Nat) {l : List Nat} {x : Nat}, x ∈ afterL S n h l → x ∈ l
  | 0, _, _, _, hx => hx
  | n + 1, h, l, x, hx => by
    have := afterL_mem n (h + 1) hx
    unfold washR at this
    split at this
    · exact washL_mem this
    · exact this
section
variable {S : sT} {A : aT} {q n t : Nat}
theorem ownLf_rng (O : okS S) (hA : okA S A) {c : Nat} (hc : c < sCe S) : ownLf S A n c = -1 ∨ ∃ p : Nat, p < 4 ∧ ownLf S A n c = p := by
  have o1 := O.1
  rcases ownL_rng (sSuit S) (sDry S) (sPa S) (afterL S n A.2.2.1 (A.1 c)) (A.2.2.1 + n) (fun x hx => (hA.1 c hc).2 x (afterL_mem _ _ hx)) with h | ⟨p, h1, h2⟩
  · exact Or.inl h
  · exact Or.inr ⟨p, by omega, h2⟩
theorem ownPn_rng (O : okS S) (hA : okA S A) (hq : q < sPa S) {c : Nat} (hc : c < sCe S) : ownPn S A q n c = -1 ∨ ∃ p : Nat, p < 4 ∧ ownPn S A q n c = p := by
  have o1 := O.1
  rcases ownL_rng (sSuit S) (sDry S) (sPa S) (afterL S n A.2.2.1 (putC (A.1 c) q A.2.2.1)) (A.2.2.1 + n) (fun x hx => putC_mem (by omega) hq (hA.1 c hc).2 (afterL_mem _ _ hx)) with h | ⟨p, h1, h2⟩
  · exact Or.inl h
  · exact Or.inr ⟨p, by omega, h2⟩
theorem ownS_rng (O : okS S) (hA : okA S A) (hq : q < sPa S) {s k : Nat} (hc : sFi S t + k < sCe S) : ownS S A q n t s k = -1 ∨ ∃ p : Nat, p < 4 ∧ ownS S A q n t s k = p := by
  unfold ownS
  split
  · exact ownPn_rng O hA hq hc
  · exact ownLf_rng O hA hc
def fsR (I : Nat → Nat → Int32) (S : sT) (A : aT) (q n t N : Nat) : Prop := ∀ k, k < N → I 120 k = zI (ownLf S A n (sFi S t + k)) ∧ I 121 k = zI (ownPn S A q n (sFi S t + k))
theorem fore_go {P : Nat → Nat → Nat} {L : Nat → Nat → Int64} {s : Nat} (O : okS S) (hA : okA S A) (hh : A.2.2.1 < 900) (hn : n ≤ 60) (ps : s = 13 ∨ 171 < s) (hq : q < sPa S) (ht : t < sTh S) (hL : ∀ c, c < sCe S → L 25 c = lN (enc (A.1 c))) : ∀ (f m k : Nat) (I : Nat → Nat → Int32), m < f → m + k = sFi S (t + 1) - sFi S t → cS I s S → fsR I S A q n t k → ∃ J, mX11_foreseeOwners_24 P L f I (nI q) (nI t) (nI n) s (nI A.2.2.1) (nI k) = some J ∧ fsR J S A q n t (sFi S (t + 1) - sFi S t) ∧ ∀ b, b ≠ 120 → b ≠ 121 → J b = I b
  | 0, m, k, I, h1, _, _, _ => absurd h1 (by omega)
  | f + 1, m, k, I, h1, h2, C, hf => by
    have o1 := O.1
    have ot := O.2.1.2.2 t ht
    rw [mX11_foreseeOwners_24]
    cases m with
    | zero =>
      refine ⟨I, ?_, by rw [← h2, Nat.zero_add]; exact hf, fun _ _ _ => rfl⟩
      simp (disch := omega) only [↓reduceIte, Option.bind_some, Option.some.injEq, Prod.mk.injEq, and_self, and_true, true_and, eq_self, reduceCtorEq, not_false_eq_true, not_true_eq_false, or_true, true_or, or_false, false_or, bft, nAdd, nMul, nSub, nDiv, nRem, nAm1, nIx, nIn, bI_z, bI_o, ite_b1, ite_b0, zI_add, zI_sub, li0, li1, li2, li3, li4, li5, li6, li7, li8, li9, li10, li11, li12, li13, li14, li15, li16, li17, li18, li19, li20, li21, li22, li23, li24, li25, li26, li27, li28, li29, li30, li31, li32, li33, li34, li35, li36, li37, li40, li42, li43, li45, li47, li48, li57, li59, li60, li61, li62, li64, li80, li91, li93, li97, li99, li100, li122, li182, li199, li255, li300, li380, li400, li999, li1000, li3640, li4100, li65536, li99999, ln1, ln2, ln3, ln100, ln100000, tLe, fLe, tLt, fLt, tEq, fEq, zLe_t, zLe_f, zLt_t, zLt_f, zEq_t, zEq_f, nzLe_t, nzLe_f, znLe_t, znLe_f, nzLt_t, nzLt_f, znLt_t, znLt_f, nzEq_t, nzEq_f, znEq_t, znEq_f, cS_cn C ht]
    | succ m =>
      have hc : sFi S t + k < sCe S := by omega
      have hl := (hA.1 _ hc).1
      have e1 := with_ok (q := q) hl (by omega) (show A.2.2.1 < 1000 by omega)
      have e2 := afterRain_ok (n := n) C O (show A.2.2.1 + n < 100000 by omega) hl
      have e3 := ownerOf_ok (I := I) (s := s) (cS_dry C) (by omega) (cS_suit C) (by omega) (afterL_ok S n A.2.2.1 hl) (show A.2.2.1 + n < 100000 by omega)
      change _ = some (zI (ownLf S A n (sFi S t + k))) at e3
      have C1 : cS (xu I 120 k (zI (ownLf S A n (sFi S t + k)))) s S := cS_congr (fun b q1 q2 => xu_r (by omega)) C
      have hl2 := putC_ok (q := q) hl (by omega) (show A.2.2.1 < 1000 by omega)
      have e4 := afterRain_ok (n := n) C1 O (show A.2.2.1 + n < 100000 by omega) hl2
      have e5 := ownerOf_ok (I := xu I 120 k (zI (ownLf S A n (sFi S t + k)))) (s := s) (cS_dry C1) (by omega) (cS_suit C1) (by omega) (afterL_ok S n A.2.2.1 hl2) (show A.2.2.1 + n < 100000 by omega)
      change _ = some (zI (ownPn S A q n (sFi S t + k))) at e5
      obtain ⟨J, j1, j2, j3⟩ := fore_go (P := P) O hA hh hn ps hq ht hL f m (k + 1) (xu (xu I 120 k (zI (ownLf S A n (sFi S t + k)))) 121 k (zI (ownPn S A q n (sFi S t + k)))) (by omega) (by omega) (cS_congr (fun b q1 q2 => xu_r (by omega)) C1) (fun j hj => by
        by_cases w : j = k
        · subst w
          exact ⟨by rw [xu_r (by decide), xu_s], xu_s⟩
        · rw [xu_r (b := 120) (by decide), xu_c w, xu_c w, xu_r (b := 121) (by decide)]
          exact hf j (by omega))
      refine ⟨J, ?_, j2, fun b q1 q2 => by rw [j3 b q1 q2, xu_r q2, xu_r q1]⟩
      simp (disch := omega) only [↓reduceIte, Option.bind_some, Option.some.injEq, Prod.mk.injEq, and_self, and_true, true_and, eq_self, reduceCtorEq, not_false_eq_true, not_true_eq_false, or_true, true_or, or_false, false_or, bft, nAdd, nMul, nSub, nDiv, nRem, nAm1, nIx, nIn, bI_z, bI_o, ite_b1, ite_b0, zI_add, zI_sub, li0, li1, li2, li3, li4, li5, li6, li7, li8, li9, li10, li11, li12, li13, li14, li15, li16, li17, li18, li19, li20, li21, li22, li23, li24, li25, li26, li27, li28, li29, li30, li31, li32, li33, li34, li35, li36, li37, li40, li42, li43, li45, li47, li48, li57, li59, li60, li61, li62, li64, li80, li91, li93, li97, li99, li100, li122, li182, li199, li255, li300, li380, li400, li999, li1000, li3640, li4100, li65536, li99999, ln1, ln2, ln3, ln100, ln100000, tLe, fLe, tLt, fLt, tEq, fEq, zLe_t, zLe_f, zLt_t, zLt_f, zEq_t, zEq_f, nzLe_t, nzLe_f, znLe_t, znLe_f, nzLt_t, nzLt_f, znLt_t, znLt_f, nzEq_t, nzEq_f, znEq_t, znEq_f, cS_cn C ht, cS_fi C ht, hL _ hc, e1, e2, e3, e4, e5]
      exact j1
theorem tl_go {P : Nat → Nat → Nat} {I : Nat → Nat → Int32} {e81 : Int32 → Int32 → Int32 → Int32 → Int32 → Option Int32} {a1 a4 : Int32} {s : Nat} (O : okS S) (hA : okA S A) (hq : q < sPa S) (ht : t < sTh S) (hs : s < 64) (hf : fsR I S A q n t (sFi S (t + 1) - sFi S t)) : ∀ (f m k T : Nat), m < f → m + k = sFi S (t + 1) - sFi S t → T ≤ 4096 * k → mX11_leastSet_33 P I e81 f a1 (nI (sFi S (t + 1) - sFi S t)) a4 (nI s) (nI T) (nI k) = e81 a1 (nI (sFi S (t + 1) - sFi S t)) a4 (nI s) (nI (T + talF (ownS S A q n t s) m k))
  | 0, m, k, T, h1, _, _ => absurd h1 (by omega)
  | f + 1, m, k, T, h1, h2, h3 => by
    have o1 := O.1
    have ot := O.2.1.2.2 t ht
    rw [mX11_leastSet_33]
    cases m with
    | zero => simp (disch := omega) only [↓reduceIte, Option.bind_some, Option.some.injEq, Prod.mk.injEq, and_self, and_true, true_and, eq_self, reduceCtorEq, not_false_eq_true, not_true_eq_false, or_true, true_or, or_false, false_or, bft, nAdd, nMul, nSub, nDiv, nRem, nAm1, nIx, nIn, bI_z, bI_o, ite_b1, ite_b0, zI_add, zI_sub, li0, li1, li2, li3, li4, li5, li6, li7, li8, li9, li10, li11, li12, li13, li14, li15, li16, li17, li18, li19, li20, li21, li22, li23, li24, li25, li26, li27, li28, li29, li30, li31, li32, li33, li34, li35, li36, li37, li40, li42, li43, li45, li47, li48, li57, li59, li60, li61, li62, li64, li80, li91, li93, li97, li99, li100, li122, li182, li199, li255, li300, li380, li400, li999, li1000, li3640, li4100, li65536, li99999, ln1, ln2, ln3, ln100, ln100000, tLe, fLe, tLt, fLt, tEq, fEq, zLe_t, zLe_f, zLt_t, zLt_f, zEq_t, zEq_f, nzLe_t, nzLe_f, znLe_t, znLe_f, nzLt_t, nzLt_f, znLt_t, znLt_f, nzEq_t, nzEq_f, znEq_t, znEq_f]; rfl
    | succ m =>
      have hr := ownS_rng (n := n) (t := t) (s := s) O hA hq (show sFi S t + k < sCe S by omega)
      have h16 := one16_le hr
      have e1 := oneFor_ok hr
      have e2 := hf k (by omega)
      have eb := hasB s hs k (by omega)
      rw [li1] at eb
      have ih := tl_go (P := P) (e81 := e81) (a1 := a1) (a4 := a4) O hA hq ht hs hf f m (k + 1) (T + one16 (ownS S A q n t s k)) (by omega) (by omega) (by omega)
      rw [talF]
      cases hb : s.testBit k with
      | true =>
        have es : ownS S A q n t s k = ownPn S A q n (sFi S t + k) := by unfold ownS; rw [if_pos hb]
        rw [es] at e1 ih
        rw [es, ← Nat.add_assoc, ← ih, if_neg (fun z => absurd ((nLe (by omega) (by omega)).mp z) (by omega)), li1, if_pos (eb.mpr hb)]
        simp (disch := omega) only [↓reduceIte, Option.bind_some, Option.some.injEq, Prod.mk.injEq, and_self, and_true, true_and, eq_self, reduceCtorEq, not_false_eq_true, not_true_eq_false, or_true, true_or, or_false, false_or, bft, nAdd, nMul, nSub, nDiv, nRem, nAm1, nIx, nIn, bI_z, bI_o, ite_b1, ite_b0, zI_add, zI_sub, li0, li1, li2, li3, li4, li5, li6, li7, li8, li9, li10, li11, li12, li13, li14, li15, li16, li17, li18, li19, li20, li21, li22, li23, li24, li25, li26, li27, li28, li29, li30, li31, li32, li33, li34, li35, li36, li37, li40, li42, li43, li45, li47, li48, li57, li59, li60, li61, li62, li64, li80, li91, li93, li97, li99, li100, li122, li182, li199, li255, li300, li380, li400, li999, li1000, li3640, li4100, li65536, li99999, ln1, ln2, ln3, ln100, ln100000, tLe, fLe, tLt, fLt, tEq, fEq, zLe_t, zLe_f, zLt_t, zLt_f, zEq_t, zEq_f, nzLe_t, nzLe_f, znLe_t, znLe_f, nzLt_t, nzLt_f, znLt_t, znLt_f, nzEq_t, nzEq_f, znEq_t, znEq_f, mX11_leastSet_69, e2.2, e1]
      | false =>
        have es : ownS S A q n t s k = ownLf S A n (sFi S t + k) := by unfold ownS; rw [if_neg (by rw [hb]; decide)]
        rw [es] at e1 ih
        rw [es, ← Nat.add_assoc, ← ih, if_neg (fun z => absurd ((nLe (by omega) (by omega)).mp z) (by omega)), li1, if_neg (fun z => absurd (eb.mp z) (by rw [hb]; decide))]
        simp (disch := omega) only [↓reduceIte, Option.bind_some, Option.some.injEq, Prod.mk.injEq, and_self, and_true, true_and, eq_self, reduceCtorEq, not_false_eq_true, not_true_eq_false, or_true, true_or, or_false, false_or, bft, nAdd, nMul, nSub, nDiv, nRem, nAm1, nIx, nIn, bI_z, bI_o, ite_b1, ite_b0, zI_add, zI_sub, li0, li1, li2, li3, li4, li5, li6, li7, li8, li9, li10, li11, li12, li13, li14, li15, li16, li17, li18, li19, li20, li21, li22, li23, li24, li25, li26, li27, li28, li29, li30, li31, li32, li33, li34, li35, li36, li37, li40, li42, li43, li45, li47, li48, li57, li59, li60, li61, li62, li64, li80, li91, li93, li97, li99, li100, li122, li182, li199, li255, li300, li380, li400, li999, li1000, li3640, li4100, li65536, li99999, ln1, ln2, ln3, ln100, ln100000, tLe, fLe, tLt, fLt, tEq, fEq, zLe_t, zLe_f, zLt_t, zLt_f, zEq_t, zEq_f, nzLe_t, nzLe_f, znLe_t, znLe_f, nzLt_t, nzLt_f, znLt_t, znLt_f, nzEq_t, nzEq_f, znEq_t, znEq_f, mX11_leastSet_69, e2.1, e1]
theorem cLs_go {P : Nat → Nat → Nat} {I : Nat → Nat → Int32} (O : okS S) (hA : okA S A) (C : cS I (P 12 0) S) (hq : q < sPa S) (ht : t < sTh S) (hf : fsR I S A q n t (sFi S (t + 1) - sFi S t)) : ∀ (f m s : Nat) (b : Int), m < f → m + s = 2 ^ (sFi S (t + 1) - sFi S t) → (b = -1 ∨ ∃ x : Nat, x < 2 ^ (sFi S (t + 1) - sFi S t) ∧ b = x) → mX11_leastSet_19 P I f (nI q) (nI (sFi S (t + 1) - sFi S t)) (zI b) (nI s) = some (zI (lsB (okSet S A q n t) m s b))
  | 0, m, s, b, h1, _, _ => absurd h1 (by omega)
  | f + 1, m, s, b, h1, h2, h3 => by
    have o1 := O.1
    have ot := O.2.1.2.2 t ht
    have hp := pow64 (sFi S (t + 1) - sFi S t) (by omega)
    have hsh := shl1 (sFi S (t + 1) - sFi S t) (by omega)
    generalize hpw : 2 ^ (sFi S (t + 1) - sFi S t) = pw at h2 h3 hp hsh
    rw [mX11_leastSet_19]
    cases m with
    | zero => simp (disch := omega) only [↓reduceIte, Option.bind_some, Option.some.injEq, Prod.mk.injEq, and_self, and_true, true_and, eq_self, reduceCtorEq, not_false_eq_true, not_true_eq_false, or_true, true_or, or_false, false_or, bft, nAdd, nMul, nSub, nDiv, nRem, nAm1, nIx, nIn, bI_z, bI_o, ite_b1, ite_b0, zI_add, zI_sub, li0, li1, li2, li3, li4, li5, li6, li7, li8, li9, li10, li11, li12, li13, li14, li15, li16, li17, li18, li19, li20, li21, li22, li23, li24, li25, li26, li27, li28, li29, li30, li31, li32, li33, li34, li35, li36, li37, li40, li42, li43, li45, li47, li48, li57, li59, li60, li61, li62, li64, li80, li91, li93, li97, li99, li100, li122, li182, li199, li255, li300, li380, li400, li999, li1000, li3640, li4100, li65536, li99999, ln1, ln2, ln3, ln100, ln100000, tLe, fLe, tLt, fLt, tEq, fEq, zLe_t, zLe_f, zLt_t, zLt_f, zEq_t, zEq_f, nzLe_t, nzLe_f, znLe_t, znLe_f, nzLt_t, nzLt_f, znLt_t, znLt_f, nzEq_t, nzEq_f, znEq_t, znEq_f, hsh]; rfl
    | succ m =>
      have hs : s < 64 := by omega
      have ih : ∀ b' : Int, (b' = -1 ∨ ∃ x : Nat, x < pw ∧ b' = x) → mX11_leastSet_19 P I f (nI q) (nI (sFi S (t + 1) - sFi S t)) (zI b') (nI (s + 1)) = some (zI (lsB (okSet S A q n t) m (s + 1) b')) := fun b' hb' => cLs_go O hA C hq ht hf f m (s + 1) b' (by omega) (by rw [hpw]; omega) (by rw [hpw]; exact hb')
      have hsh' : xshl (1 : Int32) (nI (sFi S (t + 1) - sFi S t)) = nI pw := hsh
      have e := tl_go (P := P) (e81 := fun a1_9 a3_9 a4_9 a5_9 a6_9 => (Option.bind (mX7_ownerBy a6_9 a3_9 (I (P 12 0) 2)) (fun q10 => (if q10 = a1_9 then (if a4_9 = (-1 : Int32) then (mX11_leastSet_19 P I f a1_9 a3_9 a5_9 (a5_9 + 1)) else (Option.bind (mJ6_bitCount_0f7a4 a5_9) (fun q14 => (Option.bind (mJ6_bitCount_0f7a4 a4_9) (fun q16 => (if q16 ≤ q14 then (mX11_leastSet_19 P I f a1_9 a3_9 a4_9 (a5_9 + 1)) else (mX11_leastSet_19 P I f a1_9 a3_9 a5_9 (a5_9 + 1)))))))) else (mX11_leastSet_19 P I f a1_9 a3_9 a4_9 (a5_9 + 1)))))) (a1 := nI q) (a4 := zI b) O hA hq ht hs hf xf (sFi S (t + 1) - sFi S t) 0 0 (by unfold xf; omega) (by omega) (by omega)
      have hrg : ∀ j, 0 ≤ j → j < 0 + (sFi S (t + 1) - sFi S t) → ownS S A q n t s j = -1 ∨ ∃ p : Nat, p < 4 ∧ ownS S A q n t s j = p := fun j _ h => ownS_rng O hA hq (by omega)
      have hT := talF_lt (by omega) hrg
      have eo := ownerBy_ok (T := talF (ownS S A q n t s) (sFi S (t + 1) - sFi S t) 0) (cells := sFi S (t + 1) - sFi S t) (part := sPart S) (by omega) (by omega) (by omega)
      have ec : ownC (fun p => talF (ownS S A q n t s) (sFi S (t + 1) - sFi S t) 0 / 16 ^ p % 16) 4 (sFi S (t + 1) - sFi S t) (sPart S) = ownC (fun p => cntF (ownS S A q n t s) p (sFi S (t + 1) - sFi S t) 0) 4 (sFi S (t + 1) - sFi S t) (sPart S) := ownC_congr (fun p hp => talF_at (by omega) hrg hp) _ _
      rw [ec] at eo
      have hcr := ownC_rng (fun p => cntF (ownS S A q n t s) p (sFi S (t + 1) - sFi S t) 0) 4 (sFi S (t + 1) - sFi S t) (sPart S)
      have hb0 : okSet S A q n t s = decide (ownC (fun p => cntF (ownS S A q n t s) p (sFi S (t + 1) - sFi S t) 0) 4 (sFi S (t + 1) - sFi S t) (sPart S) = q) := rfl
      generalize ownC (fun p => cntF (ownS S A q n t s) p (sFi S (t + 1) - sFi S t) 0) 4 (sFi S (t + 1) - sFi S t) (sPart S) = w at eo hcr hb0
      have hw : -1 ≤ w ∧ w < 4 := by rcases hcr with z | ⟨p, z1, z2⟩ <;> omega
      rw [hsh', if_neg (fun z => absurd ((nLe (by omega) (by omega)).mp z) (by omega))]
      change mX11_leastSet_33 P I _ xf (nI q) _ (zI b) (nI s) (nI 0) (nI 0) = _
      rw [e, Nat.zero_add, cS_part C, eo, Option.bind_some]
      by_cases q1 : w = q
      · rw [decide_eq_true q1] at hb0
        rcases h3 with hb | ⟨x, hx, hb⟩
        · rw [lsB_y ⟨hb0, Or.inl (by omega)⟩, ← ih s (Or.inr ⟨s, by omega, rfl⟩)]
          simp (disch := omega) only [↓reduceIte, Option.bind_some, Option.some.injEq, Prod.mk.injEq, and_self, and_true, true_and, eq_self, reduceCtorEq, not_false_eq_true, not_true_eq_false, or_true, true_or, or_false, false_or, bft, nAdd, nMul, nSub, nDiv, nRem, nAm1, nIx, nIn, bI_z, bI_o, ite_b1, ite_b0, zI_add, zI_sub, li0, li1, li2, li3, li4, li5, li6, li7, li8, li9, li10, li11, li12, li13, li14, li15, li16, li17, li18, li19, li20, li21, li22, li23, li24, li25, li26, li27, li28, li29, li30, li31, li32, li33, li34, li35, li36, li37, li40, li42, li43, li45, li47, li48, li57, li59, li60, li61, li62, li64, li80, li91, li93, li97, li99, li100, li122, li182, li199, li255, li300, li380, li400, li999, li1000, li3640, li4100, li65536, li99999, ln1, ln2, ln3, ln100, ln100000, tLe, fLe, tLt, fLt, tEq, fEq, zLe_t, zLe_f, zLt_t, zLt_f, zEq_t, zEq_f, nzLe_t, nzLe_f, znLe_t, znLe_f, nzLt_t, nzLt_f, znLt_t, znLt_f, nzEq_t, nzEq_f, znEq_t, znEq_f, q1, hb, zI_nat]
        · have bs := bitC s hs
          have bx := bitC x (by omega)
          have ps1 := pc_le s
          have px := pc_le x
          by_cases q2 : pc s < pc x
          · rw [lsB_y ⟨hb0, Or.inr (by rw [hb, Int.toNat_natCast]; exact q2)⟩, ← ih s (Or.inr ⟨s, by omega, rfl⟩)]
            simp (disch := omega) only [↓reduceIte, Option.bind_some, Option.some.injEq, Prod.mk.injEq, and_self, and_true, true_and, eq_self, reduceCtorEq, not_false_eq_true, not_true_eq_false, or_true, true_or, or_false, false_or, bft, nAdd, nMul, nSub, nDiv, nRem, nAm1, nIx, nIn, bI_z, bI_o, ite_b1, ite_b0, zI_add, zI_sub, li0, li1, li2, li3, li4, li5, li6, li7, li8, li9, li10, li11, li12, li13, li14, li15, li16, li17, li18, li19, li20, li21, li22, li23, li24, li25, li26, li27, li28, li29, li30, li31, li32, li33, li34, li35, li36, li37, li40, li42, li43, li45, li47, li48, li57, li59, li60, li61, li62, li64, li80, li91, li93, li97, li99, li100, li122, li182, li199, li255, li300, li380, li400, li999, li1000, li3640, li4100, li65536, li99999, ln1, ln2, ln3, ln100, ln100000, tLe, fLe, tLt, fLt, tEq, fEq, zLe_t, zLe_f, zLt_t, zLt_f, zEq_t, zEq_f, nzLe_t, nzLe_f, znLe_t, znLe_f, nzLt_t, nzLt_f, znLt_t, znLt_f, nzEq_t, nzEq_f, znEq_t, znEq_f, q1, hb, zI_nat, bs, bx]
          · rw [lsB_n (fun z => z.2.elim (by omega) (fun y => q2 (by rw [hb, Int.toNat_natCast] at y; exact y))), ← ih b (Or.inr ⟨x, hx, hb⟩)]
            simp (disch := omega) only [↓reduceIte, Option.bind_some, Option.some.injEq, Prod.mk.injEq, and_self, and_true, true_and, eq_self, reduceCtorEq, not_false_eq_true, not_true_eq_false, or_true, true_or, or_false, false_or, bft, nAdd, nMul, nSub, nDiv, nRem, nAm1, nIx, nIn, bI_z, bI_o, ite_b1, ite_b0, zI_add, zI_sub, li0, li1, li2, li3, li4, li5, li6, li7, li8, li9, li10, li11, li12, li13, li14, li15, li16, li17, li18, li19, li20, li21, li22, li23, li24, li25, li26, li27, li28, li29, li30, li31, li32, li33, li34, li35, li36, li37, li40, li42, li43, li45, li47, li48, li57, li59, li60, li61, li62, li64, li80, li91, li93, li97, li99, li100, li122, li182, li199, li255, li300, li380, li400, li999, li1000, li3640, li4100, li65536, li99999, ln1, ln2, ln3, ln100, ln100000, tLe, fLe, tLt, fLt, tEq, fEq, zLe_t, zLe_f, zLt_t, zLt_f, zEq_t, zEq_f, nzLe_t, nzLe_f, znLe_t, znLe_f, nzLt_t, nzLt_f, znLt_t, znLt_f, nzEq_t, nzEq_f, znEq_t, znEq_f, q1, hb, zI_nat, bs, bx]
      · rw [decide_eq_false q1] at hb0
        rw [lsB_n (fun z => absurd z.1 (by rw [hb0]; decide)), ← ih b h3]
        simp (disch := omega) only [↓reduceIte, Option.bind_some, Option.some.injEq, Prod.mk.injEq, and_self, and_true, true_and, eq_self, reduceCtorEq, not_false_eq_true, not_true_eq_false, or_true, true_or, or_false, false_or, bft, nAdd, nMul, nSub, nDiv, nRem, nAm1, nIx, nIn, bI_z, bI_o, ite_b1, ite_b0, zI_add, zI_sub, li0, li1, li2, li3, li4, li5, li6, li7, li8, li9, li10, li11, li12, li13, li14, li15, li16, li17, li18, li19, li20, li21, li22, li23, li24, li25, li26, li27, li28, li29, li30, li31, li32, li33, li34, li35, li36, li37, li40, li42, li43, li45, li47, li48, li57, li59, li60, li61, li62, li64, li80, li91, li93, li97, li99, li100, li122, li182, li199, li255, li300, li380, li400, li999, li1000, li3640, li4100, li65536, li99999, ln1, ln2, ln3, ln100, ln100000, tLe, fLe, tLt, fLt, tEq, fEq, zLe_t, zLe_f, zLt_t, zLt_f, zEq_t, zEq_f, nzLe_t, nzLe_f, znLe_t, znLe_f, nzLt_t, nzLt_f, znLt_t, znLt_f, nzEq_t, nzEq_f, znEq_t, znEq_f]
end

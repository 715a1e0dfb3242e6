/-! Hours of the class: the hour's end, and a whole hour. -/
def gotR (r : Nat) (I : Nat → Nat → Int32) (g : Nat → Nat) : Prop := ∀ q, q < 4 → I r q = nI (g q)
theorem nI_all (x : Int32) : ∃ n, x = nI n := ⟨x.toBitVec.toNat, by
  show x = Int32.ofNat _
  apply Int32.toBitVec_inj.mp
  apply BitVec.eq_of_toNat_eq
  show _ = (BitVec.ofNat 32 x.toBitVec.toNat).toNat
  rw [BitVec.toNat_ofNat, Nat.mod_eq_of_lt x.toBitVec.isLt]⟩
theorem gotR_ex (r : Nat) (I : Nat → Nat → Int32) : ∃ g, gotR r I g := ⟨fun q => Classical.choose (nI_all (I r q)), fun q _ => Classical.choose_spec (nI_all (I r q))⟩
theorem min999_ok {a b : Nat} (ha : a < 100000) (hb : b < 100000) : mJ9_min_7cf53 (nI a) (nI b) = some (nI (min a b)) := by
  unfold mJ9_min_7cf53
  by_cases h : b < a
  · simp (disch := omega) only [↓reduceIte, Option.bind_some, Option.some.injEq, Prod.mk.injEq, and_self, and_true, true_and, eq_self, reduceCtorEq, not_false_eq_true, not_true_eq_false, or_true, true_or, or_false, false_or, bft, nAdd, nMul, nSub, nDiv, nRem, nAm1, nIx, nIn, bI_z, bI_o, ite_b1, ite_b0, zI_add, zI_sub, li0, li1, li2, li3, li4, li5, li6, li7, li8, li9, li10, li11, li12, li13, li14, li15, li16, li17, li18, li19, li20, li21, li22, li23, li24, li25, li26, li27, li28, li29, li30, li31, li32, li33, li34, li35, li36, li37, li40, li42, li43, li45, li47, li48, li57, li59, li60, li61, li62, li64, li80, li91, li93, li97, li99, li100, li122, li182, li199, li255, li300, li380, li400, li999, li1000, li3640, li4100, li65536, li99999, ln1, ln2, ln3, ln100, ln100000, tLe, fLe, tLt, fLt, tEq, fEq, zLe_t, zLe_f, zLt_t, zLt_f, zEq_t, zEq_f, nzLe_t, nzLe_f, znLe_t, znLe_f, nzLt_t, nzLt_f, znLt_t, znLt_f, nzEq_t, nzEq_f, znEq_t, znEq_f]
  · simp (disch := omega) only [↓reduceIte, Option.bind_some, Option.some.injEq, Prod.mk.injEq, and_self, and_true, true_and, eq_self, reduceCtorEq, not_false_eq_true, not_true_eq_false, or_true, true_or, or_false, false_or, bft, nAdd, nMul, nSub, nDiv, nRem, nAm1, nIx, nIn, bI_z, bI_o, ite_b1, ite_b0, zI_add, zI_sub, li0, li1, li2, li3, li4, li5, li6, li7, li8, li9, li10, li11, li12, li13, li14, li15, li16, li17, li18, li19, li20, li21, li22, li23, li24, li25, li26, li27, li28, li29, li30, li31, li32, li33, li34, li35, li36, li37, li40, li42, li43, li45, li47, li48, li57, li59, li60, li61, li62, li64, li80, li91, li93, li97, li99, li100, li122, li182, li199, li255, li300, li380, li400, li999, li1000, li3640, li4100, li65536, li99999, ln1, ln2, ln3, ln100, ln100000, tLe, fLe, tLt, fLt, tEq, fEq, zLe_t, zLe_f, zLt_t, zLt_f, zEq_t, zEq_f, nzLe_t, nzLe_f, znLe_t, znLe_f, nzLt_t, nzLt_f, znLt_t, znLt_f, nzEq_t, nzEq_f, znEq_t, znEq_f]
theorem max_ok {a b : Nat} (ha : a < 100000) (hb : b < 100000) : mJ9_max_7cf53 (nI a) (nI b) = some (nI (max a b)) := by
  unfold mJ9_max_7cf53
  by_cases h : a < b
  · simp (disch := omega) only [↓reduceIte, Option.bind_some, Option.some.injEq, Prod.mk.injEq, and_self, and_true, true_and, eq_self, reduceCtorEq, not_false_eq_true, not_true_eq_false, or_true, true_or, or_false, false_or, bft, nAdd, nMul, nSub, nDiv, nRem, nAm1, nIx, nIn, bI_z, bI_o, ite_b1, ite_b0, zI_add, zI_sub, li0, li1, li2, li3, li4, li5, li6, li7, li8, li9, li10, li11, li12, li13, li14, li15, li16, li17, li18, li19, li20, li21, li22, li23, li24, li25, li26, li27, li28, li29, li30, li31, li32, li33, li34, li35, li36, li37, li40, li42, li43, li45, li47, li48, li57, li59, li60, li61, li62, li64, li80, li91, li93, li97, li99, li100, li122, li182, li199, li255, li300, li380, li400, li999, li1000, li3640, li4100, li65536, li99999, ln1, ln2, ln3, ln100, ln100000, tLe, fLe, tLt, fLt, tEq, fEq, zLe_t, zLe_f, zLt_t, zLt_f, zEq_t, zEq_f, nzLe_t, nzLe_f, znLe_t, znLe_f, nzLt_t, nzLt_f, znLt_t, znLt_f, nzEq_t, nzEq_f, znEq_t, znEq_f]
  · simp (disch := omega) only [↓reduceIte, Option.bind_some, Option.some.injEq, Prod.mk.injEq, and_self, and_true, true_and, eq_self, reduceCtorEq, not_false_eq_true, not_true_eq_false, or_true, true_or, or_false, false_or, bft, nAdd, nMul, nSub, nDiv, nRem, nAm1, nIx, nIn, bI_z, bI_o, ite_b1, ite_b0, zI_add, zI_sub, li0, li1, li2, li3, li4, li5, li6, li7, li8, li9, li10, li11, li12, li13, li14, li15, li16, li17, li18, li19, li20, li21, li22, li23, li24, li25, li26, li27, li28, li29, li30, li31, li32, li33, li34, li35, li36, li37, li40, li42, li43, li45, li47, li48, li57, li59, li60, li61, li62, li64, li80, li91, li93, li97, li99, li100, li122, li182, li199, li255, li300, li380, li400, li999, li1000, li3640, li4100, li65536, li99999, ln1, ln2, ln3, ln100, ln100000, tLe, fLe, tLt, fLt, tEq, fEq, zLe_t, zLe_f, zLt_t, zLt_f, zEq_t, zEq_f, nzLe_t, nzLe_f, znLe_t, znLe_f, nzLt_t, nzLt_f, znLt_t, znLt_f, nzEq_t, nzEq_f, znEq_t, znEq_f]
section
variable {s a : Nat} {S : sT} {A : aT}
theorem wash_go {I : Nat → Nat → Int32} {e47 : (Nat → Nat → Int32) → (Nat → Nat → Int64) → Nat → Nat → Option ((Nat → Nat → Int32) × (Nat → Nat → Int64))} (O : okS S) (hA : okA S A) (hh : A.2.2.1 < 100000) (C : cS I s S) (hb : I a 2 = nI A.2.2.1) : ∀ (f n c : Nat) (L : Nat → Nat → Int64), n < f → n + c = sCe S → (∀ d, d < c → L (a + 1) d = lN (enc (washL (sDry S) (A.1 d) A.2.2.1))) → (∀ d, c ≤ d → d < sCe S → L (a + 1) d = lN (enc (A.1 d))) → ∃ M, mX2_close_13 e47 f I L s a (nI c) = e47 I M s a ∧ (∀ d, d < sCe S → M (a + 1) d = lN (enc (washL (sDry S) (A.1 d) A.2.2.1))) ∧ ∀ b, b ≠ a + 1 → M b = L b
  | 0, n, c, L, h1, _, _, _ => absurd h1 (by omega)
  | f + 1, n, c, L, h1, h2, hl, hr => by
    have o1 := O.1
    rw [mX2_close_13]
    cases n with
    | zero =>
      refine ⟨L, ?_, fun d hd => hl d (by omega), fun _ _ => rfl⟩
      simp (disch := omega) only [↓reduceIte, Option.bind_some, Option.some.injEq, Prod.mk.injEq, and_self, and_true, true_and, eq_self, reduceCtorEq, not_false_eq_true, not_true_eq_false, or_true, true_or, or_false, false_or, bft, nAdd, nMul, nSub, nDiv, nRem, nAm1, nIx, nIn, bI_z, bI_o, ite_b1, ite_b0, zI_add, zI_sub, li0, li1, li2, li3, li4, li5, li6, li7, li8, li9, li10, li11, li12, li13, li14, li15, li16, li17, li18, li19, li20, li21, li22, li23, li24, li25, li26, li27, li28, li29, li30, li31, li32, li33, li34, li35, li36, li37, li40, li42, li43, li45, li47, li48, li57, li59, li60, li61, li62, li64, li80, li91, li93, li97, li99, li100, li122, li182, li199, li255, li300, li380, li400, li999, li1000, li3640, li4100, li65536, li99999, ln1, ln2, ln3, ln100, ln100000, tLe, fLe, tLt, fLt, tEq, fEq, zLe_t, zLe_f, zLt_t, zLt_f, zEq_t, zEq_f, nzLe_t, nzLe_f, znLe_t, znLe_f, nzLt_t, nzLt_f, znLt_t, znLt_f, nzEq_t, nzEq_f, znEq_t, znEq_f, cS_nce C]
    | succ n =>
      have hc : c < sCe S := by omega
      have e := washed_ok (I := I) (s := s) (cS_dry C) (by omega) (hA.1 c hc).1 hh
      obtain ⟨M, m1, m2, m3⟩ := wash_go (e47 := e47) O hA hh C hb f n (c + 1) (xu L (a + 1) c (lN (enc (washL (sDry S) (A.1 c) A.2.2.1)))) (by omega) (by omega) (fun d hd => by
        by_cases w : d = c
        · subst w; exact xu_s
        · rw [xu_c w]; exact hl d (by omega)) (fun d h3 h4 => by rw [xu_c (by omega)]; exact hr d (by omega) h4)
      refine ⟨M, ?_, m2, fun b hb => (m3 b hb).trans (xu_r hb)⟩
      simp (disch := omega) only [↓reduceIte, Option.bind_some, Option.some.injEq, Prod.mk.injEq, and_self, and_true, true_and, eq_self, reduceCtorEq, not_false_eq_true, not_true_eq_false, or_true, true_or, or_false, false_or, bft, nAdd, nMul, nSub, nDiv, nRem, nAm1, nIx, nIn, bI_z, bI_o, ite_b1, ite_b0, zI_add, zI_sub, li0, li1, li2, li3, li4, li5, li6, li7, li8, li9, li10, li11, li12, li13, li14, li15, li16, li17, li18, li19, li20, li21, li22, li23, li24, li25, li26, li27, li28, li29, li30, li31, li32, li33, li34, li35, li36, li37, li40, li42, li43, li45, li47, li48, li57, li59, li60, li61, li62, li64, li80, li91, li93, li97, li99, li100, li122, li182, li199, li255, li300, li380, li400, li999, li1000, li3640, li4100, li65536, li99999, ln1, ln2, ln3, ln100, ln100000, tLe, fLe, tLt, fLt, tEq, fEq, zLe_t, zLe_f, zLt_t, zLt_f, zEq_t, zEq_f, nzLe_t, nzLe_f, znLe_t, znLe_f, nzLt_t, nzLt_f, znLt_t, znLt_f, nzEq_t, nzEq_f, znEq_t, znEq_f, cS_nce C, hr c (by omega) hc, hb, e]
      exact m1
theorem payRent_ok {I : Nat → Nat → Int32} {L : Nat → Nat → Int64} (O : okS S) (hA : okA S A) (pa : a = 24 ∨ a = 92) (hC : cA I L a S A) {g : Nat → Nat} (hg : gotR 101 I g) {q r : Nat} (hq : q < sPa S) (hr : r ≤ 20) : ∃ J, mX2_payRent I a (nI q) (nI r) = some J ∧ cA J L a S (A.1, updF A.2.1 q (min 999 (A.2.1 q + r)), A.2.2) ∧ gotR 101 J (updF g q (g q + r)) ∧ ∀ b, b ≠ a + 2 → b ≠ 101 → J b = I b := by
  have o1 := O.1
  have hp := hA.2.1 q hq
  refine ⟨xu (xu I (a + 2) q (nI (min 999 (A.2.1 q + r)))) 101 q (nI (g q + r)), ?_, ⟨hC.1, fun p h1 => ?_, ?_, ?_⟩, fun p h1 => ?_, fun b h1 h2 => ?_⟩
  · unfold mX2_payRent
    simp (disch := omega) only [↓reduceIte, Option.bind_some, Option.some.injEq, Prod.mk.injEq, and_self, and_true, true_and, eq_self, reduceCtorEq, not_false_eq_true, not_true_eq_false, or_true, true_or, or_false, false_or, bft, nAdd, nMul, nSub, nDiv, nRem, nAm1, nIx, nIn, bI_z, bI_o, ite_b1, ite_b0, zI_add, zI_sub, li0, li1, li2, li3, li4, li5, li6, li7, li8, li9, li10, li11, li12, li13, li14, li15, li16, li17, li18, li19, li20, li21, li22, li23, li24, li25, li26, li27, li28, li29, li30, li31, li32, li33, li34, li35, li36, li37, li40, li42, li43, li45, li47, li48, li57, li59, li60, li61, li62, li64, li80, li91, li93, li97, li99, li100, li122, li182, li199, li255, li300, li380, li400, li999, li1000, li3640, li4100, li65536, li99999, ln1, ln2, ln3, ln100, ln100000, tLe, fLe, tLt, fLt, tEq, fEq, zLe_t, zLe_f, zLt_t, zLt_f, zEq_t, zEq_f, nzLe_t, nzLe_f, znLe_t, znLe_f, nzLt_t, nzLt_f, znLt_t, znLt_f, nzEq_t, nzEq_f, znEq_t, znEq_f, xu_s, xu_r, xu_c, xrow_at, xrow_r, cA_p hC hq, min999_ok, hg q (by omega)]
  · show _ = nI (updF A.2.1 q _ p)
    rw [xu_r (by omega)]
    by_cases w : p = q
    · subst w; rw [xu_s, updF_s]
    · rw [xu_c w, updF_n w]; exact hC.2.1 p h1
  · rw [xu_r (by omega), xu_r (by omega)]; exact hC.2.2.1
  · rw [xu_r (by omega), xu_r (by omega)]; exact hC.2.2.2
  · by_cases w : p = q
    · subst w; rw [xu_s, updF_s]
    · rw [xu_c w, updF_n w, xu_r (by omega)]; exact hg p h1
  · rw [xu_r h2, xu_r h1]
theorem payF_no {own : Nat → Int} {n t : Nat} {p g : Nat → Nat} (e : own t = -1) : payF S own (n + 1) t p g = payF S own n (t + 1) p g := by rw [payF, e, if_pos (by decide)]
theorem payF_yes {own : Nat → Int} {n t q : Nat} {p g : Nat → Nat} (e : own t = q) : payF S own (n + 1) t p g = payF S own n (t + 1) (updF p q (min 999 (p q + sRe S t))) (updF g q (g q + sRe S t)) := by rw [payF, e, if_neg (by omega), Int.toNat_natCast]
theorem okA_purse {p : Nat → Nat} (hA : okA S A) (h : ∀ q, q < sPa S → p q ≤ 999) : okA S (A.1, p, A.2.2) := ⟨hA.1, h, hA.2.2.1, hA.2.2.2⟩
theorem pay_go {L : Nat → Nat → Int64} (O : okS S) (hA : okA S A) (hh : A.2.2.1 < 100000) (ps : s = 13 ∨ 171 < s) (pa : a = 24 ∨ a = 92) : ∀ (f n t : Nat) (I : Nat → Nat → Int32) (p g : Nat → Nat), n < f → n + t = sTh S → (∀ q, q < sPa S → p q ≤ 999) → cS I s S → cA I L a S (A.1, p, A.2.2) → gotR 101 I g → ∃ J, mX2_close_77 f I L s a (nI t) = some (J, L) ∧ cA J L a S (A.1, (payF S (fun t => ownT S A t (sPart S)) n t p g).1, A.2.2) ∧ gotR 101 J (payF S (fun t => ownT S A t (sPart S)) n t p g).2 ∧ ∀ b, b ≠ a + 2 → b ≠ 101 → J b = I b
  | 0, n, t, I, p, g, h1, _, _, _, _, _ => absurd h1 (by omega)
  | f + 1, n, t, I, p, g, h1, h2, hp, C, hC, hg => by
    have o1 := O.1
    rw [mX2_close_77]
    cases n with
    | zero =>
      refine ⟨I, ?_, hC, hg, fun _ _ _ => rfl⟩
      simp (disch := omega) only [↓reduceIte, Option.bind_some, Option.some.injEq, Prod.mk.injEq, and_self, and_true, true_and, eq_self, reduceCtorEq, not_false_eq_true, not_true_eq_false, or_true, true_or, or_false, false_or, bft, nAdd, nMul, nSub, nDiv, nRem, nAm1, nIx, nIn, bI_z, bI_o, ite_b1, ite_b0, zI_add, zI_sub, li0, li1, li2, li3, li4, li5, li6, li7, li8, li9, li10, li11, li12, li13, li14, li15, li16, li17, li18, li19, li20, li21, li22, li23, li24, li25, li26, li27, li28, li29, li30, li31, li32, li33, li34, li35, li36, li37, li40, li42, li43, li45, li47, li48, li57, li59, li60, li61, li62, li64, li80, li91, li93, li97, li99, li100, li122, li182, li199, li255, li300, li380, li400, li999, li1000, li3640, li4100, li65536, li99999, ln1, ln2, ln3, ln100, ln100000, tLe, fLe, tLt, fLt, tEq, fEq, zLe_t, zLe_f, zLt_t, zLt_f, zEq_t, zEq_f, nzLe_t, nzLe_f, znLe_t, znLe_f, nzLt_t, nzLt_f, znLt_t, znLt_f, nzEq_t, nzEq_f, znEq_t, znEq_f, cS_nth C]
    | succ n =>
      have ht : t < sTh S := by omega
      have ot := O.2.1.2.2 t ht
      have hA2 := okA_purse hA hp
      have e1 := tallyOf_ok C O hC hA2 hh ht
      have e2 := ownerByT_ok O hA2 ht (show sPart S < 1000 by omega)
      have hrg := ownT_rng O hA2 ht (sPart S)
      change mX7_ownerBy _ _ _ = some (zI (ownT S A t (sPart S))) at e2
      change ownT S A t (sPart S) = -1 ∨ ∃ q : Nat, q < sPa S ∧ ownT S A t (sPart S) = q at hrg
      rcases hrg with e | ⟨q, hq, e⟩
      · rw [payF_no (own := fun t => ownT S A t (sPart S)) e]
        rw [e] at e2
        simp (disch := omega) only [↓reduceIte, Option.bind_some, Option.some.injEq, Prod.mk.injEq, and_self, and_true, true_and, eq_self, reduceCtorEq, not_false_eq_true, not_true_eq_false, or_true, true_or, or_false, false_or, bft, nAdd, nMul, nSub, nDiv, nRem, nAm1, nIx, nIn, bI_z, bI_o, ite_b1, ite_b0, zI_add, zI_sub, li0, li1, li2, li3, li4, li5, li6, li7, li8, li9, li10, li11, li12, li13, li14, li15, li16, li17, li18, li19, li20, li21, li22, li23, li24, li25, li26, li27, li28, li29, li30, li31, li32, li33, li34, li35, li36, li37, li40, li42, li43, li45, li47, li48, li57, li59, li60, li61, li62, li64, li80, li91, li93, li97, li99, li100, li122, li182, li199, li255, li300, li380, li400, li999, li1000, li3640, li4100, li65536, li99999, ln1, ln2, ln3, ln100, ln100000, tLe, fLe, tLt, fLt, tEq, fEq, zLe_t, zLe_f, zLt_t, zLt_f, zEq_t, zEq_f, nzLe_t, nzLe_f, znLe_t, znLe_f, nzLt_t, nzLt_f, znLt_t, znLt_f, nzEq_t, nzEq_f, znEq_t, znEq_f, cS_nth C, e1, cS_cn C ht, cS_part C, e2, cS_re C ht, mX2_payRent]
        exact pay_go O hA hh ps pa f n (t + 1) I p g (by omega) (by omega) hp C hC hg
      · rw [payF_yes (own := fun t => ownT S A t (sPart S)) e]
        rw [e, zI_nat] at e2
        obtain ⟨J1, j1, j2, j3, j4⟩ := payRent_ok (r := sRe S t) O hA2 pa hC hg hq (by omega)
        obtain ⟨J, k1, k2, k3, k4⟩ := pay_go O hA hh ps pa f n (t + 1) J1 (updF p q (min 999 (p q + sRe S t))) (updF g q (g q + sRe S t)) (by omega) (by omega) (fun u hu => by
          by_cases w : u = q
          · subst w; rw [updF_s]; omega
          · rw [updF_n w]; exact hp u hu) (cS_congr (fun b h3 h4 => j4 b (by omega) (by omega)) C) j2 j3
        refine ⟨J, ?_, k2, k3, fun b h3 h4 => (k4 b h3 h4).trans (j4 b h3 h4)⟩
        simp (disch := omega) only [↓reduceIte, Option.bind_some, Option.some.injEq, Prod.mk.injEq, and_self, and_true, true_and, eq_self, reduceCtorEq, not_false_eq_true, not_true_eq_false, or_true, true_or, or_false, false_or, bft, nAdd, nMul, nSub, nDiv, nRem, nAm1, nIx, nIn, bI_z, bI_o, ite_b1, ite_b0, zI_add, zI_sub, li0, li1, li2, li3, li4, li5, li6, li7, li8, li9, li10, li11, li12, li13, li14, li15, li16, li17, li18, li19, li20, li21, li22, li23, li24, li25, li26, li27, li28, li29, li30, li31, li32, li33, li34, li35, li36, li37, li40, li42, li43, li45, li47, li48, li57, li59, li60, li61, li62, li64, li80, li91, li93, li97, li99, li100, li122, li182, li199, li255, li300, li380, li400, li999, li1000, li3640, li4100, li65536, li99999, ln1, ln2, ln3, ln100, ln100000, tLe, fLe, tLt, fLt, tEq, fEq, zLe_t, zLe_f, zLt_t, zLt_f, zEq_t, zEq_f, nzLe_t, nzLe_f, znLe_t, znLe_f, nzLt_t, nzLt_f, znLt_t, znLt_f, nzEq_t, nzEq_f, znEq_t, znEq_f, cS_nth C, e1, cS_cn C ht, cS_part C, e2, cS_re C ht, j1]
        exact k1
theorem close47_ok {I : Nat → Nat → Int32} {L : Nat → Nat → Int64} {h : Nat} (O : okS S) (hA : okA S (hrA A (h + 1))) (hh : h < 990) (ps : s = 13 ∨ 171 < s) (pa : a = 24 ∨ a = 92) (C : cS I s S) (hC : cA I L a S (hrA A h)) {g : Nat → Nat} (hg : gotR 101 I g) : ∃ J, mX2_close_47 I L s a = some (J, L) ∧ (if (h + 1) % 24 = 12 then cA J L a S (A.1, (payF S (fun t => ownT S (hrA A (h + 1)) t (sPart S)) (sTh S) 0 A.2.1 g).1, h + 1, A.2.2.2) ∧ gotR 101 J (payF S (fun t => ownT S (hrA A (h + 1)) t (sPart S)) (sTh S) 0 A.2.1 g).2 else cA J L a S (hrA A (h + 1)) ∧ gotR 101 J g) ∧ ∀ b, b ≠ a → b ≠ a + 2 → b ≠ 101 → J b = I b := by
  have o1 := O.1
  have e0 : I a 2 = nI h := hC.2.2.1
  have em : min 999 (h + 1) = h + 1 := by omega
  have C1 : cS (xu I a 2 (nI (h + 1))) s S := cS_congr (fun b h3 h4 => xu_r (by omega)) C
  have hC1 : cA (xu I a 2 (nI (h + 1))) L a S (hrA A (h + 1)) := ⟨hC.1, fun q hq => by rw [xu_r (by omega)]; exact hC.2.1 q hq, xu_s, by rw [xu_c (by decide)]; exact hC.2.2.2⟩
  have hg1 : gotR 101 (xu I a 2 (nI (h + 1))) g := fun q hq => by rw [xu_r (by omega)]; exact hg q hq
  unfold mX2_close_47
  by_cases w : (h + 1) % 24 = 12
  · obtain ⟨J, j1, j2, j3, j4⟩ := pay_go (A := hrA A (h + 1)) O hA (show h + 1 < 100000 by omega) ps pa xf (sTh S) 0 (xu I a 2 (nI (h + 1))) A.2.1 g (by unfold xf; omega) (by omega) hA.2.1 C1 hC1 hg1
    simp only [if_pos w]
    refine ⟨J, ?_, ⟨j2, j3⟩, fun b h3 h4 h5 => (j4 b h4 h5).trans (xu_r h3)⟩
    simp (disch := omega) only [↓reduceIte, Option.bind_some, Option.some.injEq, Prod.mk.injEq, and_self, and_true, true_and, eq_self, reduceCtorEq, not_false_eq_true, not_true_eq_false, or_true, true_or, or_false, false_or, bft, nAdd, nMul, nSub, nDiv, nRem, nAm1, nIx, nIn, bI_z, bI_o, ite_b1, ite_b0, zI_add, zI_sub, li0, li1, li2, li3, li4, li5, li6, li7, li8, li9, li10, li11, li12, li13, li14, li15, li16, li17, li18, li19, li20, li21, li22, li23, li24, li25, li26, li27, li28, li29, li30, li31, li32, li33, li34, li35, li36, li37, li40, li42, li43, li45, li47, li48, li57, li59, li60, li61, li62, li64, li80, li91, li93, li97, li99, li100, li122, li182, li199, li255, li300, li380, li400, li999, li1000, li3640, li4100, li65536, li99999, ln1, ln2, ln3, ln100, ln100000, tLe, fLe, tLt, fLt, tEq, fEq, zLe_t, zLe_f, zLt_t, zLt_f, zEq_t, zEq_f, nzLe_t, nzLe_f, znLe_t, znLe_f, nzLt_t, nzLt_f, znLt_t, znLt_f, nzEq_t, nzEq_f, znEq_t, znEq_f, xu_s, xu_r, xu_c, xrow_at, xrow_r, e0, min999_ok, em, w]
    exact j1
  · simp only [if_neg w]
    refine ⟨_, ?_, ⟨hC1, hg1⟩, fun b h3 h4 h5 => xu_r h3⟩
    simp (disch := omega) only [↓reduceIte, Option.bind_some, Option.some.injEq, Prod.mk.injEq, and_self, and_true, true_and, eq_self, reduceCtorEq, not_false_eq_true, not_true_eq_false, or_true, true_or, or_false, false_or, bft, nAdd, nMul, nSub, nDiv, nRem, nAm1, nIx, nIn, bI_z, bI_o, ite_b1, ite_b0, zI_add, zI_sub, li0, li1, li2, li3, li4, li5, li6, li7, li8, li9, li10, li11, li12, li13, li14, li15, li16, li17, li18, li19, li20, li21, li22, li23, li24, li25, li26, li27, li28, li29, li30, li31, li32, li33, li34, li35, li36, li37, li40, li42, li43, li45, li47, li48, li57, li59, li60, li61, li62, li64, li80, li91, li93, li97, li99, li100, li122, li182, li199, li255, li300, li380, li400, li999, li1000, li3640, li4100, li65536, li99999, ln1, ln2, ln3, ln100, ln100000, tLe, fLe, tLt, fLt, tEq, fEq, zLe_t, zLe_f, zLt_t, zLt_f, zEq_t, zEq_f, nzLe_t, nzLe_f, znLe_t, znLe_f, nzLt_t, nzLt_f, znLt_t, znLt_f, nzEq_t, nzEq_f, znEq_t, znEq_f, xu_s, xu_r, xu_c, xrow_at, xrow_r, e0, min999_ok, em]
theorem close_ok {I : Nat → Nat → Int32} {L : Nat → Nat → Int64} (O : okS S) (hA : okA S A) (hh : A.2.2.1 < 990) (ps : s = 13 ∨ 171 < s) (pa : a = 24 ∨ a = 92) (C : cS I s S) (hC : cA I L a S A) {g : Nat → Nat} (hg : gotR 101 I g) : ∃ J M, mX2_close I L s a = some (J, M) ∧ cA J M a S (endsA S A g).1 ∧ gotR 101 J (endsA S A g).2 ∧ (∀ b, b ≠ a → b ≠ a + 2 → b ≠ 101 → J b = I b) ∧ ∀ b, b ≠ a + 1 → M b = L b := by
  have o1 := O.1
  have er := rainsIn_ok C O (show A.2.2.1 < 100000 by omega)
  have e0 : I a 2 = nI A.2.2.1 := hC.2.2.1
  have fin : ∀ (B : aT) (M : Nat → Nat → Int64), dryA S A = hrA B (A.2.2.1 + 1) → okA S B → cA I M a S (hrA B A.2.2.1) → (∀ b, b ≠ a + 1 → M b = L b) → ∃ J, mX2_close_47 I M s a = some (J, M) ∧ cA J M a S (endsA S A g).1 ∧ gotR 101 J (endsA S A g).2 ∧ (∀ b, b ≠ a → b ≠ a + 2 → b ≠ 101 → J b = I b) ∧ ∀ b, b ≠ a + 1 → M b = L b := fun B M eB hB hM hf => by
    obtain ⟨J, j1, j2, j3⟩ := close47_ok (A := B) (h := A.2.2.1) O hB hh ps pa C hM hg
    refine ⟨J, j1, ?_⟩
    unfold endsA
    rw [eB]
    by_cases w : (A.2.2.1 + 1) % 24 = 12
    · rw [if_pos w] at j2 ⊢
      exact ⟨j2.1, j2.2, j3, hf⟩
    · rw [if_neg w] at j2 ⊢
      exact ⟨j2.1, j2.2, j3, hf⟩
  unfold mX2_close
  cases hr : rainS S A.2.2.1 with
  | false =>
    rw [hr] at er
    obtain ⟨J, j1, j2⟩ := fin A L (by unfold dryA; rw [hr, if_neg (by decide)]) hA hC (fun _ _ => rfl)
    refine ⟨J, L, ?_, j2⟩
    rw [← j1]
    simp (disch := omega) only [↓reduceIte, Option.bind_some, Option.some.injEq, Prod.mk.injEq, and_self, and_true, true_and, eq_self, reduceCtorEq, not_false_eq_true, not_true_eq_false, or_true, true_or, or_false, false_or, bft, nAdd, nMul, nSub, nDiv, nRem, nAm1, nIx, nIn, bI_z, bI_o, ite_b1, ite_b0, zI_add, zI_sub, li0, li1, li2, li3, li4, li5, li6, li7, li8, li9, li10, li11, li12, li13, li14, li15, li16, li17, li18, li19, li20, li21, li22, li23, li24, li25, li26, li27, li28, li29, li30, li31, li32, li33, li34, li35, li36, li37, li40, li42, li43, li45, li47, li48, li57, li59, li60, li61, li62, li64, li80, li91, li93, li97, li99, li100, li122, li182, li199, li255, li300, li380, li400, li999, li1000, li3640, li4100, li65536, li99999, ln1, ln2, ln3, ln100, ln100000, tLe, fLe, tLt, fLt, tEq, fEq, zLe_t, zLe_f, zLt_t, zLt_f, zEq_t, zEq_f, nzLe_t, nzLe_f, znLe_t, znLe_f, nzLt_t, nzLt_f, znLt_t, znLt_f, nzEq_t, nzEq_f, znEq_t, znEq_f, e0, er]
  | true =>
    rw [hr] at er
    obtain ⟨M, m1, m2, m3⟩ := wash_go (a := a) (e47 := fun I_21 L_21 a1_21 a2_21 => mX2_close_47 I_21 L_21 a1_21 a2_21) O hA (by omega) C e0 xf (sCe S) 0 L (by unfold xf; omega) (by omega) (fun d hd => absurd hd (by omega)) (fun d _ hd => hC.1 d hd)
    obtain ⟨J, j1, j2⟩ := fin (washA S A) M (by unfold dryA; rw [hr, if_pos rfl]) (okA_wash hA) ⟨m2, hC.2.1, hC.2.2.1, hC.2.2.2⟩ m3
    refine ⟨J, M, ?_, j2⟩
    rw [← j1]
    simp (disch := omega) only [↓reduceIte, Option.bind_some, Option.some.injEq, Prod.mk.injEq, and_self, and_true, true_and, eq_self, reduceCtorEq, not_false_eq_true, not_true_eq_false, or_true, true_or, or_false, false_or, bft, nAdd, nMul, nSub, nDiv, nRem, nAm1, nIx, nIn, bI_z, bI_o, ite_b1, ite_b0, zI_add, zI_sub, li0, li1, li2, li3, li4, li5, li6, li7, li8, li9, li10, li11, li12, li13, li14, li15, li16, li17, li18, li19, li20, li21, li22, li23, li24, li25, li26, li27, li28, li29, li30, li31, li32, li33, li34, li35, li36, li37, li40, li42, li43, li45, li47, li48, li57, li59, li60, li61, li62, li64, li80, li91, li93, li97, li99, li100, li122, li182, li199, li255, li300, li380, li400, li999, li1000, li3640, li4100, li65536, li99999, ln1, ln2, ln3, ln100, ln100000, tLe, fLe, tLt, fLt, tEq, fEq, zLe_t, zLe_f, zLt_t, zLt_f, zEq_t, zEq_f, nzLe_t, nzLe_f, znLe_t, znLe_f, nzLt_t, nzLt_f, znLt_t, znLt_f, nzEq_t, nzEq_f, znEq_t, znEq_f, e0, er]
    exact m1
end
/-- an hour: the state, what was got in all; how many coats -/
def passA (S : sT) (ru : Option ruT) (A : aT) (g : Nat → Nat) : (aT × (Nat → Nat)) × Nat := match ru with
  | none => (endsA S A g, 0)
  | some r => (endsA S (paF S r (sPa S) 0 A 0).1 g, (paF S r (sPa S) 0 A 0).2)
def cRo (K : Nat → Nat × Nat) (I : Nat → Nat → Int32) (a : Nat) (ru : Option ruT) : Prop := match ru with
  | none => a = 0
  | some r => 171 < a ∧ okRu r ∧ cR K I a r
theorem cRo_congr {K : Nat → Nat × Nat} {I J : Nat → Nat → Int32} {a : Nat} {ru : Option ruT} (h : ∀ b, 171 < b → J b = I b) (C : cRo K I a ru) : cRo K J a ru := by
  cases ru with
  | none => exact C
  | some r => exact ⟨C.1, C.2.1, cR_congr (fun b h1 h2 => h b (by have := C.1; omega)) C.2.2⟩
theorem okA_pass {S : sT} (O : okS S) (ru : Option ruT) {A : aT} (hA : okA S A) (hh : A.2.2.1 < 1000) (g : Nat → Nat) : okA S (passA S ru A g).1.1 ∧ (passA S ru A g).1.1.2.2.1 = A.2.2.1 + 1 ∧ (passA S ru A g).1.1.2.2.2 = A.2.2.2 := by
  cases ru with
  | none => exact ⟨okA_ends hA g, endsA_hr S A g, endsA_b S A g⟩
  | some r =>
    obtain ⟨h1, h2⟩ := paF_ok (ru := r) O (sPa S) 0 A 0 (by omega) hA hh
    refine ⟨okA_ends h1 g, ?_, ?_⟩
    · show (endsA S _ g).1.2.2.1 = _
      rw [endsA_hr, h2]
    · show (endsA S _ g).1.2.2.2 = _
      rw [endsA_b, h2]
theorem pass_ok {K : Nat → Nat × Nat} {I : Nat → Nat → Int32} {L : Nat → Nat → Int64} {s a rp : Nat} {S : sT} {A : aT} {ru : Option ruT} (O : okS S) (hA : okA S A) (hh : A.2.2.1 < 990) (ps : s = 13 ∨ 171 < s) (pa : a = 24 ∨ a = 92) (C : cS I s S) (hC : cA I L a S A) (R : cRo K I rp ru) {g : Nat → Nat} (hg : gotR 101 I g) : ∃ J M, mX2_pass K I L s a rp = some (nI (passA S ru A g).2, J, M) ∧ cA J M a S (passA S ru A g).1.1 ∧ gotR 101 J (passA S ru A g).1.2 ∧ (∀ b, b ≠ a → b ≠ a + 2 → b < 98 ∨ 101 < b → J b = I b) ∧ ∀ b, b ≠ a + 1 → b ≠ 96 → b ≠ 97 → M b = L b := by
  unfold mX2_pass
  cases ru with
  | none =>
    have e : rp = 0 := R
    obtain ⟨J, M, j1, j2, j3, j4, j5⟩ := close_ok O hA hh ps pa C hC hg
    refine ⟨J, M, ?_, j2, j3, fun b h1 h2 h3 => j4 b h1 h2 (by omega), fun b h1 _ _ => j5 b h1⟩
    rw [if_neg (by omega), mX2_pass_15, j1]
    rfl
  | some r =>
    obtain ⟨r1, r2, r3⟩ := R
    obtain ⟨J1, M1, j1, j2, j3, j4⟩ := paintBy_ok O hA (by omega) ps pa r1 r2 C hC r3
    obtain ⟨h1, h2⟩ := paF_ok (ru := r) O (sPa S) 0 A 0 (by omega) hA (by omega)
    obtain ⟨J, M, k1, k2, k3, k4, k5⟩ := close_ok (g := g) O h1 (by rw [h2]; exact hh) ps pa (cS_congr (fun b h3 h4 => j3 b (by omega) (by omega) (by omega) (by omega)) C) j2 (fun q hq => by rw [j3 101 (by omega) (by omega) (by omega) (by omega)]; exact hg q hq)
    refine ⟨J, M, ?_, k2, k3, fun b h3 h4 h5 => (k4 b h3 h4 (by omega)).trans (j3 b h4 (by omega) (by omega) (by omega)), fun b h3 h4 h5 => (k5 b h3).trans (j4 b h3 h4 h5)⟩
    rw [if_pos (by omega), j1, Option.bind_some, mX2_pass_15, k1]
    rfl

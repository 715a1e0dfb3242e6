/-! Hours of the reference: the hour's end, hours on. -/
section
variable {S : sT} {A : aT}
theorem okA_tail {c x : Nat} {r : List Nat} (h : okA S (coA A c (x :: r))) (hc : c < sCe S) : okA S (coA A c r) := by
  have hx := h.1 c hc
  change okC (updF A.1 c (x :: r) c) ∧ ∀ y ∈ updF A.1 c (x :: r) c, _ at hx
  rw [updF_s] at hx
  refine ⟨fun d hd => ?_, h.2.1, h.2.2.1, fun t ht hB d h1 h2 => ?_⟩
  · show okC (updF A.1 c r d) ∧ ∀ y ∈ updF A.1 c r d, _
    by_cases w : d = c
    · subst w
      rw [updF_s]
      exact ⟨⟨by have := hx.1.1; simp at this ⊢; omega, fun y hy => hx.1.2 y (List.mem_cons_of_mem _ hy)⟩, fun y hy => hx.2 y (List.mem_cons_of_mem _ hy)⟩
    · have := h.1 d hd
      change okC (updF A.1 c (x :: r) d) ∧ ∀ y ∈ updF A.1 c (x :: r) d, _ at this
      rw [updF_n w] at this ⊢
      exact this
  · have := h.2.2.2 t ht hB d h1 h2
    change updF A.1 c (x :: r) d = [] at this
    show updF A.1 c r d = []
    by_cases w : d = c
    · subst w
      rw [updF_s] at this
      exact absurd this (by simp)
    · rw [updF_n w] at this ⊢
      exact this
theorem rA_pop {I : Nat → Nat → Int32} {c x : Nat} {r : List Nat} (RA : rAn I S (coA A c (x :: r))) (hc : c < sCe S) : rAn (xu I 131 c (nI r.length)) S (coA A c r) := by
  refine ⟨?_, ?_, fun q hq => ?_, fun d hd => ?_⟩
  · rw [xu_r (by decide)]; exact RA.1
  · rw [xu_r (by decide)]; exact RA.2.1
  · rw [xu_r (by decide)]; exact RA.2.2.1 q hq
  · rw [xu_r (b := 132) (by decide), xu_r (b := 133) (by decide)]
    have h := RA.2.2.2 d hd
    change I 131 d = nI (updF A.1 c (x :: r) d).length ∧ rowB (updF A.1 c (x :: r) d) _ _ at h
    show _ = nI (updF A.1 c r d).length ∧ rowB (updF A.1 c r d) _ _
    by_cases w : d = c
    · subst w
      rw [updF_s] at h ⊢
      rw [xu_s]
      exact ⟨rfl, (rowB_cons.mp h.2).2⟩
    · rw [updF_n w] at h ⊢
      rw [xu_c w]
      exact h
theorem wash1_go {e33 : (Nat → Nat → Int32) → Int32 → Option (Nat → Nat → Int32)} (O : okS S) {c : Nat} (hc : c < sCe S) (hh : A.2.2.1 < 100000) : ∀ (f : Nat) (l : List Nat) (I : Nat → Nat → Int32), l.length < f → okA S (coA A c l) → rSn I S → rAn I S (coA A c l) → ∃ J, mX12_washes_12 e33 f I (nI c) = e33 J (nI c) ∧ rAn J S (coA A c (washL (sDry S) l A.2.2.1)) ∧ ∀ b, b ≠ 131 → J b = I b
  | 0, l, I, h1, _, _, _ => absurd h1 (by omega)
  | f + 1, l, I, h1, hA, R, RA => by
    have o1 := O.1
    have e := rIsTopWet_ok R O RA hA hh hc
    change mX12_isTopWet I (nI c) = some (bI (wetL (sDry S) (updF A.1 c l c) A.2.2.1)) at e
    rw [updF_s] at e
    rw [mX12_washes_12]
    cases l with
    | nil =>
      refine ⟨I, ?_, RA, fun _ _ => rfl⟩
      simp (disch := omega) only [↓reduceIte, Option.bind_some, Option.some.injEq, Prod.mk.injEq, and_self, and_true, true_and, eq_self, reduceCtorEq, not_false_eq_true, not_true_eq_false, or_true, true_or, or_false, false_or, bft, nAdd, nMul, nSub, nDiv, nRem, nAm1, nIx, nIn, bI_z, bI_o, ite_b1, ite_b0, zI_add, zI_sub, li0, li1, li2, li3, li4, li5, li6, li7, li8, li9, li10, li11, li12, li13, li14, li15, li16, li17, li18, li19, li20, li21, li22, li23, li24, li25, li26, li27, li28, li29, li30, li31, li32, li33, li34, li35, li36, li37, li40, li42, li43, li45, li47, li48, li57, li59, li60, li61, li62, li64, li80, li91, li93, li97, li99, li100, li122, li182, li199, li255, li300, li380, li400, li999, li1000, li3640, li4100, li65536, li99999, ln1, ln2, ln3, ln100, ln100000, tLe, fLe, tLt, fLt, tEq, fEq, zLe_t, zLe_f, zLt_t, zLt_f, zEq_t, zEq_f, nzLe_t, nzLe_f, znLe_t, znLe_f, nzLt_t, nzLt_f, znLt_t, znLt_f, nzEq_t, nzEq_f, znEq_t, znEq_f, e, wetL]
    | cons x r =>
      rw [washL]
      cases hw : wetL (sDry S) (x :: r) A.2.2.1 with
      | false =>
        rw [hw] at e
        refine ⟨I, ?_, RA, fun _ _ => rfl⟩
        simp (disch := omega) only [↓reduceIte, Option.bind_some, Option.some.injEq, Prod.mk.injEq, and_self, and_true, true_and, eq_self, reduceCtorEq, not_false_eq_true, not_true_eq_false, or_true, true_or, or_false, false_or, bft, nAdd, nMul, nSub, nDiv, nRem, nAm1, nIx, nIn, bI_z, bI_o, ite_b1, ite_b0, zI_add, zI_sub, li0, li1, li2, li3, li4, li5, li6, li7, li8, li9, li10, li11, li12, li13, li14, li15, li16, li17, li18, li19, li20, li21, li22, li23, li24, li25, li26, li27, li28, li29, li30, li31, li32, li33, li34, li35, li36, li37, li40, li42, li43, li45, li47, li48, li57, li59, li60, li61, li62, li64, li80, li91, li93, li97, li99, li100, li122, li182, li199, li255, li300, li380, li400, li999, li1000, li3640, li4100, li65536, li99999, ln1, ln2, ln3, ln100, ln100000, tLe, fLe, tLt, fLt, tEq, fEq, zLe_t, zLe_f, zLt_t, zLt_f, zEq_t, zEq_f, nzLe_t, nzLe_f, znLe_t, znLe_f, nzLt_t, nzLt_f, znLt_t, znLt_f, nzEq_t, nzEq_f, znEq_t, znEq_f, e]
      | true =>
        rw [hw] at e
        have hm := (RA.2.2.2 c hc).1
        change I 131 c = nI (updF A.1 c (x :: r) c).length at hm
        rw [updF_s] at hm
        have z : ∀ b, b ≠ 131 → xu I 131 c (nI r.length) b = I b := fun b hb => xu_r hb
        simp only [List.length_cons] at h1
        obtain ⟨J, j1, j2, j3⟩ := wash1_go (e33 := e33) O hc hh f r (xu I 131 c (nI r.length)) (by omega) (okA_tail hA hc) (rSn_f (fR_of (fun b _ h2 _ _ _ _ => z b h2)) R) (rA_pop RA hc)
        refine ⟨J, ?_, j2, fun b hb => (j3 b hb).trans (z b hb)⟩
        simp (disch := omega) only [↓reduceIte, Option.bind_some, Option.some.injEq, Prod.mk.injEq, and_self, and_true, true_and, eq_self, reduceCtorEq, not_false_eq_true, not_true_eq_false, or_true, true_or, or_false, false_or, bft, nAdd, nMul, nSub, nDiv, nRem, nAm1, nIx, nIn, bI_z, bI_o, ite_b1, ite_b0, zI_add, zI_sub, li0, li1, li2, li3, li4, li5, li6, li7, li8, li9, li10, li11, li12, li13, li14, li15, li16, li17, li18, li19, li20, li21, li22, li23, li24, li25, li26, li27, li28, li29, li30, li31, li32, li33, li34, li35, li36, li37, li40, li42, li43, li45, li47, li48, li57, li59, li60, li61, li62, li64, li80, li91, li93, li97, li99, li100, li122, li182, li199, li255, li300, li380, li400, li999, li1000, li3640, li4100, li65536, li99999, ln1, ln2, ln3, ln100, ln100000, tLe, fLe, tLt, fLt, tEq, fEq, zLe_t, zLe_f, zLt_t, zLt_f, zEq_t, zEq_f, nzLe_t, nzLe_f, znLe_t, znLe_f, nzLt_t, nzLt_f, znLt_t, znLt_f, nzEq_t, nzEq_f, znEq_t, znEq_f, e, hm, List.length_cons, Nat.add_sub_cancel]
        exact j1
def wAt (S : sT) (A : aT) (c : Nat) : aT := (fun d => if d < c then washL (sDry S) (A.1 d) A.2.2.1 else A.1 d, A.2)
theorem okA_wAt (hA : okA S A) (c : Nat) : okA S (wAt S A c) := by
  refine ⟨fun d hd => ?_, hA.2.1, hA.2.2.1, fun t ht hB d h1 h2 => ?_⟩
  · show okC (if d < c then washL (sDry S) (A.1 d) A.2.2.1 else A.1 d) ∧ ∀ x ∈ (if d < c then washL (sDry S) (A.1 d) A.2.2.1 else A.1 d), _
    by_cases w : d < c
    · rw [if_pos w]; exact (okA_wash hA).1 d hd
    · rw [if_neg w]; exact hA.1 d hd
  · show (if d < c then washL (sDry S) (A.1 d) A.2.2.1 else A.1 d) = []
    by_cases w : d < c
    · rw [if_pos w]; exact (okA_wash hA).2.2.2 t ht hB d h1 h2
    · rw [if_neg w]; exact hA.2.2.2 t ht hB d h1 h2
theorem wAt_at (c : Nat) : (wAt S A c).1 c = A.1 c := if_neg (Nat.lt_irrefl c)
theorem wAt_co (c d : Nat) : (coA (wAt S A c) c (A.1 c)).1 d = (wAt S A c).1 d := by
  show updF (wAt S A c).1 c (A.1 c) d = _
  by_cases w : d = c
  · subst w; rw [updF_s, wAt_at]
  · rw [updF_n w]
theorem wAt_s (c d : Nat) : (wAt S A (c + 1)).1 d = (coA (wAt S A c) c (washL (sDry S) (A.1 c) A.2.2.1)).1 d := by
  show (if d < c + 1 then washL (sDry S) (A.1 d) A.2.2.1 else A.1 d) = updF (wAt S A c).1 c _ d
  by_cases w : d = c
  · subst w; rw [updF_s, if_pos (by omega)]
  · rw [updF_n w]
    show _ = if d < c then washL (sDry S) (A.1 d) A.2.2.1 else A.1 d
    by_cases z : d < c
    · rw [if_pos z, if_pos (by omega)]
    · rw [if_neg z, if_neg (by omega)]
theorem okA_ext {B : aT} (h1 : ∀ c, B.1 c = A.1 c) (h2 : B.2 = A.2) (hA : okA S A) : okA S B := by
  have e : B = A := Prod.ext (funext h1) h2
  rw [e]; exact hA
theorem washes_go (O : okS S) (hA : okA S A) (hh : A.2.2.1 < 100000) : ∀ (f n c : Nat) (I : Nat → Nat → Int32), n < f → n + c = sCe S → rSn I S → rAn I S (wAt S A c) → ∃ J, mX12_washes_2 f I (nI c) = some J ∧ rAn J S (washA S A) ∧ ∀ b, b ≠ 131 → J b = I b
  | 0, n, c, I, h1, _, _, _ => absurd h1 (by omega)
  | f + 1, n, c, I, h1, h2, R, RA => by
    have o1 := O.1
    rw [mX12_washes_2]
    cases n with
    | zero =>
      refine ⟨I, ?_, rA_ext (A := wAt S A c) (B := washA S A) (fun d hd => ?_) (fun _ _ => rfl) rfl RA, fun _ _ => rfl⟩
      · simp (disch := omega) only [↓reduceIte, Option.bind_some, Option.some.injEq, Prod.mk.injEq, and_self, and_true, true_and, eq_self, reduceCtorEq, not_false_eq_true, not_true_eq_false, or_true, true_or, or_false, false_or, bft, nAdd, nMul, nSub, nDiv, nRem, nAm1, nIx, nIn, bI_z, bI_o, ite_b1, ite_b0, zI_add, zI_sub, li0, li1, li2, li3, li4, li5, li6, li7, li8, li9, li10, li11, li12, li13, li14, li15, li16, li17, li18, li19, li20, li21, li22, li23, li24, li25, li26, li27, li28, li29, li30, li31, li32, li33, li34, li35, li36, li37, li40, li42, li43, li45, li47, li48, li57, li59, li60, li61, li62, li64, li80, li91, li93, li97, li99, li100, li122, li182, li199, li255, li300, li380, li400, li999, li1000, li3640, li4100, li65536, li99999, ln1, ln2, ln3, ln100, ln100000, tLe, fLe, tLt, fLt, tEq, fEq, zLe_t, zLe_f, zLt_t, zLt_f, zEq_t, zEq_f, nzLe_t, nzLe_f, znLe_t, znLe_f, nzLt_t, nzLt_f, znLt_t, znLt_f, nzEq_t, nzEq_f, znEq_t, znEq_f, rSn_ce R]
      · show washL (sDry S) (A.1 d) A.2.2.1 = if d < c then washL (sDry S) (A.1 d) A.2.2.1 else A.1 d
        rw [if_pos (by omega)]
    | succ n =>
      have hc : c < sCe S := by omega
      have hl := (hA.1 c hc).1.1
      obtain ⟨J1, j1, j2, j3⟩ := wash1_go (A := wAt S A c) (e33 := fun I_7 a1_7 => mX12_washes_2 f I_7 (a1_7 + 1)) O hc hh xf (A.1 c) I (by unfold xf; omega) (okA_ext (wAt_co c) rfl (okA_wAt hA c)) R (rA_ext (fun d _ => wAt_co c d) (fun _ _ => rfl) rfl RA)
      have j5 : rAn J1 S (wAt S A (c + 1)) := rA_ext (fun d _ => wAt_s c d) (fun _ _ => rfl) rfl j2
      obtain ⟨J, k1, k2, k3⟩ := washes_go O hA hh f n (c + 1) J1 (by omega) (by omega) (rSn_f (fR_of (fun b _ h3 _ _ _ _ => j3 b h3)) R) j5
      refine ⟨J, ?_, k2, fun b hb => (k3 b hb).trans (j3 b hb)⟩
      rw [← k1]
      rw [rSn_ce R, if_neg (fun z => absurd ((nLe (by omega) (by omega)).mp z) (by omega)), j1, nI_1]
theorem washes_ok (O : okS S) (hA : okA S A) (hh : A.2.2.1 < 100000) {I : Nat → Nat → Int32} (R : rSn I S) (RA : rAn I S A) : ∃ J, mX12_washes I = some J ∧ rAn J S (washA S A) ∧ ∀ b, b ≠ 131 → J b = I b :=
  washes_go O hA hh xf (sCe S) 0 I (by have := O.1; unfold xf; omega) (by omega) R (rA_ext (A := A) (B := wAt S A 0) (fun d _ => show (if d < 0 then washL (sDry S) (A.1 d) A.2.2.1 else A.1 d) = A.1 d from if_neg (Nat.not_lt_zero d)) (fun _ _ => rfl) rfl RA)
theorem rPay_go (O : okS S) (hA : okA S A) (hh : A.2.2.1 < 100000) (h12 : A.2.2.1 % 24 = 12) : ∀ (f n t : Nat) (I : Nat → Nat → Int32) (p g : Nat → Nat), n < f → n + t = sTh S → (∀ q, q < sPa S → p q ≤ 999) → rSn I S → rAn I S (A.1, p, A.2.2) → gotR 161 I g → ∃ J, mX12_ends_31 f I (nI t) = some J ∧ rAn J S (A.1, (payF S (fun t => ownT S A t (sPart S)) n t p g).1, A.2.2) ∧ gotR 161 J (payF S (fun t => ownT S A t (sPart S)) n t p g).2 ∧ ∀ b, b ≠ 128 → b ≠ 160 → b ≠ 161 → J b = I b
  | 0, n, t, I, p, g, h1, _, _, _, _, _ => absurd h1 (by omega)
  | f + 1, n, t, I, p, g, h1, h2, hp, R, RA, hg => by
    have o1 := O.1
    rw [mX12_ends_31]
    cases n with
    | zero =>
      refine ⟨I, ?_, RA, hg, fun _ _ _ _ => rfl⟩
      simp (disch := omega) only [↓reduceIte, Option.bind_some, Option.some.injEq, Prod.mk.injEq, and_self, and_true, true_and, eq_self, reduceCtorEq, not_false_eq_true, not_true_eq_false, or_true, true_or, or_false, false_or, bft, nAdd, nMul, nSub, nDiv, nRem, nAm1, nIx, nIn, bI_z, bI_o, ite_b1, ite_b0, zI_add, zI_sub, li0, li1, li2, li3, li4, li5, li6, li7, li8, li9, li10, li11, li12, li13, li14, li15, li16, li17, li18, li19, li20, li21, li22, li23, li24, li25, li26, li27, li28, li29, li30, li31, li32, li33, li34, li35, li36, li37, li40, li42, li43, li45, li47, li48, li57, li59, li60, li61, li62, li64, li80, li91, li93, li97, li99, li100, li122, li182, li199, li255, li300, li380, li400, li999, li1000, li3640, li4100, li65536, li99999, ln1, ln2, ln3, ln100, ln100000, tLe, fLe, tLt, fLt, tEq, fEq, zLe_t, zLe_f, zLt_t, zLt_f, zEq_t, zEq_f, nzLe_t, nzLe_f, znLe_t, znLe_f, nzLt_t, nzLt_f, znLt_t, znLt_f, nzEq_t, nzEq_f, znEq_t, znEq_f, rSn_th R]
    | succ n =>
      have ht : t < sTh S := by omega
      have ot := O.2.1.2.2 t ht
      have hA2 := okA_purse hA hp
      have eh : I 124 9 = nI A.2.2.1 := RA.2.1
      obtain ⟨J1, j1, j2⟩ := rThingOwner_ok O hA2 hh ht R RA
      have hrg := ownT_rng O hA2 ht (sPart S)
      change mX12_thingOwner I (nI t) = some (zI (ownT S A t (sPart S)), J1) at j1
      change ownT S A t (sPart S) = -1 ∨ ∃ q : Nat, q < sPa S ∧ ownT S A t (sPart S) = q at hrg
      have R1 := rSn_congr j2 R
      have RA1 := rAn_congr j2 RA
      have hg1 : gotR 161 J1 g := fun q hq => by rw [j2 161 (by decide)]; exact hg q hq
      rcases hrg with e | ⟨q, hq, e⟩
      · rw [payF_no (own := fun t => ownT S A t (sPart S)) e]
        rw [e] at j1
        obtain ⟨J, k1, k2, k3, k4⟩ := rPay_go O hA hh h12 f n (t + 1) J1 p g (by omega) (by omega) hp R1 RA1 hg1
        refine ⟨J, ?_, k2, k3, fun b h3 h4 h5 => (k4 b h3 h4 h5).trans (j2 b h4)⟩
        simp (disch := omega) only [↓reduceIte, Option.bind_some, Option.some.injEq, Prod.mk.injEq, and_self, and_true, true_and, eq_self, reduceCtorEq, not_false_eq_true, not_true_eq_false, or_true, true_or, or_false, false_or, bft, nAdd, nMul, nSub, nDiv, nRem, nAm1, nIx, nIn, bI_z, bI_o, ite_b1, ite_b0, zI_add, zI_sub, li0, li1, li2, li3, li4, li5, li6, li7, li8, li9, li10, li11, li12, li13, li14, li15, li16, li17, li18, li19, li20, li21, li22, li23, li24, li25, li26, li27, li28, li29, li30, li31, li32, li33, li34, li35, li36, li37, li40, li42, li43, li45, li47, li48, li57, li59, li60, li61, li62, li64, li80, li91, li93, li97, li99, li100, li122, li182, li199, li255, li300, li380, li400, li999, li1000, li3640, li4100, li65536, li99999, ln1, ln2, ln3, ln100, ln100000, tLe, fLe, tLt, fLt, tEq, fEq, zLe_t, zLe_f, zLt_t, zLt_f, zEq_t, zEq_f, nzLe_t, nzLe_f, znLe_t, znLe_f, nzLt_t, nzLt_f, znLt_t, znLt_f, nzEq_t, nzEq_f, znEq_t, znEq_f, rSn_th R, eh, j1]
        exact k1
      · rw [payF_yes (own := fun t => ownT S A t (sPart S)) e]
        rw [e, zI_nat] at j1
        have hpq := hp q hq
        have er : J1 126 t = nI (sRe S t) := R1.2.2.1 t ht
        have eg : J1 161 q = nI (g q) := hg1 q (by omega)
        have ep : J1 128 q = nI (p q) := RA1.2.2.1 q hq
        have hf : ∀ b, b ≠ 128 → b ≠ 161 → xu (xu J1 161 q (nI (g q + sRe S t))) 128 q (nI (min 999 (p q + sRe S t))) b = J1 b := fun b h3 h4 => by rw [xu_r h3, xu_r h4]
        have R2 : rSn (xu (xu J1 161 q (nI (g q + sRe S t))) 128 q (nI (min 999 (p q + sRe S t)))) S := rSn_f (fR_of (fun b h3 _ _ _ _ h4 => hf b h3 h4)) R1
        have RA2 : rAn (xu (xu J1 161 q (nI (g q + sRe S t))) 128 q (nI (min 999 (p q + sRe S t)))) S (A.1, updF p q (min 999 (p q + sRe S t)), A.2.2) := by
          refine ⟨?_, ?_, fun u hu => ?_, fun d hd => ?_⟩
          · rw [hf 124 (by decide) (by decide)]; exact RA1.1
          · rw [hf 124 (by decide) (by decide)]; exact RA1.2.1
          · show _ = nI (updF p q _ u)
            by_cases w : u = q
            · subst w; rw [xu_s, updF_s]
            · rw [xu_c w, updF_n w, xu_r (by decide)]; exact RA1.2.2.1 u hu
          · rw [hf 131 (by decide) (by decide), hf 132 (by decide) (by decide), hf 133 (by decide) (by decide)]; exact RA1.2.2.2 d hd
        have hg2 : gotR 161 (xu (xu J1 161 q (nI (g q + sRe S t))) 128 q (nI (min 999 (p q + sRe S t)))) (updF g q (g q + sRe S t)) := fun u hu => by
          rw [xu_r (by decide)]
          by_cases w : u = q
          · subst w; rw [xu_s, updF_s]
          · rw [xu_c w, updF_n w]; exact hg1 u hu
        obtain ⟨J, k1, k2, k3, k4⟩ := rPay_go O hA hh h12 f n (t + 1) _ _ _ (by omega) (by omega) (fun u hu => by
          by_cases w : u = q
          · subst w; rw [updF_s]; omega
          · rw [updF_n w]; exact hp u hu) R2 RA2 hg2
        refine ⟨J, ?_, k2, k3, fun b h3 h4 h5 => (k4 b h3 h4 h5).trans ((hf b h3 h5).trans (j2 b h4))⟩
        rw [← k1]
        by_cases w : p q + sRe S t ≤ 999
        · rw [Nat.min_eq_right w]
          simp (disch := omega) only [↓reduceIte, Option.bind_some, Option.some.injEq, Prod.mk.injEq, and_self, and_true, true_and, eq_self, reduceCtorEq, not_false_eq_true, not_true_eq_false, or_true, true_or, or_false, false_or, bft, nAdd, nMul, nSub, nDiv, nRem, nAm1, nIx, nIn, bI_z, bI_o, ite_b1, ite_b0, zI_add, zI_sub, li0, li1, li2, li3, li4, li5, li6, li7, li8, li9, li10, li11, li12, li13, li14, li15, li16, li17, li18, li19, li20, li21, li22, li23, li24, li25, li26, li27, li28, li29, li30, li31, li32, li33, li34, li35, li36, li37, li40, li42, li43, li45, li47, li48, li57, li59, li60, li61, li62, li64, li80, li91, li93, li97, li99, li100, li122, li182, li199, li255, li300, li380, li400, li999, li1000, li3640, li4100, li65536, li99999, ln1, ln2, ln3, ln100, ln100000, tLe, fLe, tLt, fLt, tEq, fEq, zLe_t, zLe_f, zLt_t, zLt_f, zEq_t, zEq_f, nzLe_t, nzLe_f, znLe_t, znLe_f, nzLt_t, nzLt_f, znLt_t, znLt_f, nzEq_t, nzEq_f, znEq_t, znEq_f, xu_s, xu_r, xu_c, xrow_at, xrow_r, rSn_th R, eh, j1, er, eg, ep]
        · rw [Nat.min_eq_left (by omega)]
          simp (disch := omega) only [↓reduceIte, Option.bind_some, Option.some.injEq, Prod.mk.injEq, and_self, and_true, true_and, eq_self, reduceCtorEq, not_false_eq_true, not_true_eq_false, or_true, true_or, or_false, false_or, bft, nAdd, nMul, nSub, nDiv, nRem, nAm1, nIx, nIn, bI_z, bI_o, ite_b1, ite_b0, zI_add, zI_sub, li0, li1, li2, li3, li4, li5, li6, li7, li8, li9, li10, li11, li12, li13, li14, li15, li16, li17, li18, li19, li20, li21, li22, li23, li24, li25, li26, li27, li28, li29, li30, li31, li32, li33, li34, li35, li36, li37, li40, li42, li43, li45, li47, li48, li57, li59, li60, li61, li62, li64, li80, li91, li93, li97, li99, li100, li122, li182, li199, li255, li300, li380, li400, li999, li1000, li3640, li4100, li65536, li99999, ln1, ln2, ln3, ln100, ln100000, tLe, fLe, tLt, fLt, tEq, fEq, zLe_t, zLe_f, zLt_t, zLt_f, zEq_t, zEq_f, nzLe_t, nzLe_f, znLe_t, znLe_f, nzLt_t, nzLt_f, znLt_t, znLt_f, nzEq_t, nzEq_f, znEq_t, znEq_f, xu_s, xu_r, xu_c, xrow_at, xrow_r, rSn_th R, eh, j1, er, eg, ep]
theorem ends18_ok {I : Nat → Nat → Int32} {h : Nat} (O : okS S) (hA : okA S (hrA A (h + 1))) (hh : h < 1000) (R : rSn I S) (RA : rAn I S (hrA A h)) {g : Nat → Nat} (hg : gotR 161 I g) : ∃ J, mX12_ends_18 I = some J ∧ (if (h + 1) % 24 = 12 then rAn J S (A.1, (payF S (fun t => ownT S (hrA A (h + 1)) t (sPart S)) (sTh S) 0 A.2.1 g).1, h + 1, A.2.2.2) ∧ gotR 161 J (payF S (fun t => ownT S (hrA A (h + 1)) t (sPart S)) (sTh S) 0 A.2.1 g).2 else rAn J S (hrA A (h + 1)) ∧ gotR 161 J g) ∧ fR I J := by
  have o1 := O.1
  have e0 : I 124 9 = nI h := RA.2.1
  have F1 : fR I (xu I 124 9 (nI (h + 1))) := ⟨fun i hi => xu_c hi, fun b h1 _ _ _ _ _ _ => xu_r h1⟩
  have R1 := rSn_f F1 R
  have RA1 : rAn (xu I 124 9 (nI (h + 1))) S (hrA A (h + 1)) := by
    refine ⟨?_, xu_s, fun q hq => ?_, fun d hd => ?_⟩
    · rw [xu_c (by decide)]; exact RA.1
    · rw [xu_r (by decide)]; exact RA.2.2.1 q hq
    · rw [xu_r (by decide), xu_r (by decide), xu_r (by decide)]; exact RA.2.2.2 d hd
  have hg1 : gotR 161 (xu I 124 9 (nI (h + 1))) g := fun q hq => by rw [xu_r (by decide)]; exact hg q hq
  unfold mX12_ends_18
  rw [e0, li1, nAdd, li0]
  by_cases w : (h + 1) % 24 = 12
  · simp only [if_pos w]
    obtain ⟨J, j1, j2, j3, j4⟩ := rPay_go (A := hrA A (h + 1)) O hA (show h + 1 < 100000 by omega) w xf (sTh S) 0 _ A.2.1 g (by unfold xf; omega) (by omega) hA.2.1 R1 RA1 hg1
    exact ⟨J, j1, ⟨j2, j3⟩, fR_trans F1 (fR_of (fun b h1 _ _ _ h2 h3 => j4 b h1 h2 h3))⟩
  · simp only [if_neg w]
    refine ⟨_, ?_, ⟨RA1, hg1⟩, F1⟩
    rw [xf_s, mX12_ends_31]
    by_cases z : sTh S = 0
    · simp (disch := omega) only [↓reduceIte, Option.bind_some, Option.some.injEq, Prod.mk.injEq, and_self, and_true, true_and, eq_self, reduceCtorEq, not_false_eq_true, not_true_eq_false, or_true, true_or, or_false, false_or, bft, nAdd, nMul, nSub, nDiv, nRem, nAm1, nIx, nIn, bI_z, bI_o, ite_b1, ite_b0, zI_add, zI_sub, li0, li1, li2, li3, li4, li5, li6, li7, li8, li9, li10, li11, li12, li13, li14, li15, li16, li17, li18, li19, li20, li21, li22, li23, li24, li25, li26, li27, li28, li29, li30, li31, li32, li33, li34, li35, li36, li37, li40, li42, li43, li45, li47, li48, li57, li59, li60, li61, li62, li64, li80, li91, li93, li97, li99, li100, li122, li182, li199, li255, li300, li380, li400, li999, li1000, li3640, li4100, li65536, li99999, ln1, ln2, ln3, ln100, ln100000, tLe, fLe, tLt, fLt, tEq, fEq, zLe_t, zLe_f, zLt_t, zLt_f, zEq_t, zEq_f, nzLe_t, nzLe_f, znLe_t, znLe_f, nzLt_t, nzLt_f, znLt_t, znLt_f, nzEq_t, nzEq_f, znEq_t, znEq_f, rSn_th R1]
    · simp (disch := omega) only [↓reduceIte, Option.bind_some, Option.some.injEq, Prod.mk.injEq, and_self, and_true, true_and, eq_self, reduceCtorEq, not_false_eq_true, not_true_eq_false, or_true, true_or, or_false, false_or, bft, nAdd, nMul, nSub, nDiv, nRem, nAm1, nIx, nIn, bI_z, bI_o, ite_b1, ite_b0, zI_add, zI_sub, li0, li1, li2, li3, li4, li5, li6, li7, li8, li9, li10, li11, li12, li13, li14, li15, li16, li17, li18, li19, li20, li21, li22, li23, li24, li25, li26, li27, li28, li29, li30, li31, li32, li33, li34, li35, li36, li37, li40, li42, li43, li45, li47, li48, li57, li59, li60, li61, li62, li64, li80, li91, li93, li97, li99, li100, li122, li182, li199, li255, li300, li380, li400, li999, li1000, li3640, li4100, li65536, li99999, ln1, ln2, ln3, ln100, ln100000, tLe, fLe, tLt, fLt, tEq, fEq, zLe_t, zLe_f, zLt_t, zLt_f, zEq_t, zEq_f, nzLe_t, nzLe_f, znLe_t, znLe_f, nzLt_t, nzLt_f, znLt_t, znLt_f, nzEq_t, nzEq_f, znEq_t, znEq_f, xu_s, xu_r, xu_c, xrow_at, xrow_r, rSn_th R]
theorem rEnds_ok {I : Nat → Nat → Int32} (O : okS S) (hA : okA S A) (hh : A.2.2.1 < 1000) (R : rSn I S) (RA : rAn I S A) {g : Nat → Nat} (hg : gotR 161 I g) : ∃ J, mX12_ends I = some J ∧ rAn J S (endsA S A g).1 ∧ gotR 161 J (endsA S A g).2 ∧ fR I J := by
  have o1 := O.1
  have er := rRains_ok R O (show A.2.2.1 < 100000 by omega)
  have e0 : I 124 9 = nI A.2.2.1 := RA.2.1
  have fin : ∀ (B : aT) (H : Nat → Nat → Int32), dryA S A = hrA B (A.2.2.1 + 1) → okA S B → rAn H S (hrA B A.2.2.1) → (∀ b, b ≠ 131 → H b = I b) → ∃ J, mX12_ends_18 H = some J ∧ rAn J S (endsA S A g).1 ∧ gotR 161 J (endsA S A g).2 ∧ fR I J := fun B H eB hB hM hf => by
    have F1 : fR I H := fR_of (fun b _ h1 _ _ _ _ => hf b h1)
    obtain ⟨J, j1, j2, j3⟩ := ends18_ok (A := B) (h := A.2.2.1) (g := g) O hB hh (rSn_f F1 R) hM (fun q hq => by rw [hf 161 (by decide)]; exact hg q hq)
    refine ⟨J, j1, ?_⟩
    unfold endsA
    rw [eB]
    by_cases w : (A.2.2.1 + 1) % 24 = 12
    · rw [if_pos w] at j2 ⊢
      exact ⟨j2.1, j2.2, fR_trans F1 j3⟩
    · rw [if_neg w] at j2 ⊢
      exact ⟨j2.1, j2.2, fR_trans F1 j3⟩
  unfold mX12_ends
  cases hr : rainS S A.2.2.1 with
  | false =>
    rw [hr] at er
    obtain ⟨J, j1, j2⟩ := fin A I (by unfold dryA; rw [hr, if_neg (by decide)]) hA RA (fun _ _ => rfl)
    refine ⟨J, ?_, j2⟩
    rw [← j1]
    simp (disch := omega) only [↓reduceIte, Option.bind_some, Option.some.injEq, Prod.mk.injEq, and_self, and_true, true_and, eq_self, reduceCtorEq, not_false_eq_true, not_true_eq_false, or_true, true_or, or_false, false_or, bft, nAdd, nMul, nSub, nDiv, nRem, nAm1, nIx, nIn, bI_z, bI_o, ite_b1, ite_b0, zI_add, zI_sub, li0, li1, li2, li3, li4, li5, li6, li7, li8, li9, li10, li11, li12, li13, li14, li15, li16, li17, li18, li19, li20, li21, li22, li23, li24, li25, li26, li27, li28, li29, li30, li31, li32, li33, li34, li35, li36, li37, li40, li42, li43, li45, li47, li48, li57, li59, li60, li61, li62, li64, li80, li91, li93, li97, li99, li100, li122, li182, li199, li255, li300, li380, li400, li999, li1000, li3640, li4100, li65536, li99999, ln1, ln2, ln3, ln100, ln100000, tLe, fLe, tLt, fLt, tEq, fEq, zLe_t, zLe_f, zLt_t, zLt_f, zEq_t, zEq_f, nzLe_t, nzLe_f, znLe_t, znLe_f, nzLt_t, nzLt_f, znLt_t, znLt_f, nzEq_t, nzEq_f, znEq_t, znEq_f, e0, er]
  | true =>
    rw [hr] at er
    obtain ⟨H, m1, m2, m3⟩ := washes_ok O hA (by omega) R RA
    obtain ⟨J, j1, j2⟩ := fin (washA S A) H (by unfold dryA; rw [hr, if_pos rfl]) (okA_wash hA) m2 m3
    refine ⟨J, ?_, j2⟩
    rw [← j1]
    simp (disch := omega) only [↓reduceIte, Option.bind_some, Option.some.injEq, Prod.mk.injEq, and_self, and_true, true_and, eq_self, reduceCtorEq, not_false_eq_true, not_true_eq_false, or_true, true_or, or_false, false_or, bft, nAdd, nMul, nSub, nDiv, nRem, nAm1, nIx, nIn, bI_z, bI_o, ite_b1, ite_b0, zI_add, zI_sub, li0, li1, li2, li3, li4, li5, li6, li7, li8, li9, li10, li11, li12, li13, li14, li15, li16, li17, li18, li19, li20, li21, li22, li23, li24, li25, li26, li27, li28, li29, li30, li31, li32, li33, li34, li35, li36, li37, li40, li42, li43, li45, li47, li48, li57, li59, li60, li61, li62, li64, li80, li91, li93, li97, li99, li100, li122, li182, li199, li255, li300, li380, li400, li999, li1000, li3640, li4100, li65536, li99999, ln1, ln2, ln3, ln100, ln100000, tLe, fLe, tLt, fLt, tEq, fEq, zLe_t, zLe_f, zLt_t, zLt_f, zEq_t, zEq_f, nzLe_t, nzLe_f, znLe_t, znLe_f, nzLt_t, nzLt_f, znLt_t, znLt_f, nzEq_t, nzEq_f, znEq_t, znEq_f, e0, er, m1]
/-- n hours -/
def goA (S : sT) (ru : Option ruT) : Nat → aT × (Nat → Nat) → aT × (Nat → Nat)
  | 0, B => B
  | n + 1, B => goA S ru n (passA S ru B.1 B.2).1
theorem okA_go (O : okS S) (ru : Option ruT) : ∀ (n : Nat) (B : aT × (Nat → Nat)), okA S B.1 → B.1.2.2.1 + n < 1000 → okA S (goA S ru n B).1 ∧ (goA S ru n B).1.2.2.1 = B.1.2.2.1 + n ∧ (goA S ru n B).1.2.2.2 = B.1.2.2.2
  | 0, B, hA, _ => ⟨hA, rfl, rfl⟩
  | n + 1, B, hA, hh => by
    obtain ⟨h1, h2, h3⟩ := okA_pass O ru hA (by omega) B.2
    obtain ⟨h4, h5, h6⟩ := okA_go O ru n (passA S ru B.1 B.2).1 h1 (by omega)
    exact ⟨h4, by rw [goA, h5, h2]; omega, by rw [goA, h6, h3]⟩
theorem rPass_ok {ru : Option ruT} {I : Nat → Nat → Int32} {L : Nat → Nat → Int64} (O : okS S) (hA : okA S A) (hh : A.2.2.1 < 1000) (R : rSn I S) (RA : rAn I S A) (U : rRo I ru) {g : Nat → Nat} (hg : gotR 161 I g) : ∃ J1 M J, mX12_paintsAll I L = some (nI (passA S ru A g).2, J1, M) ∧ mX12_ends J1 = some J ∧ rAn J S (passA S ru A g).1.1 ∧ gotR 161 J (passA S ru A g).1.2 ∧ fR I J ∧ ∀ b, b ≠ 158 → b ≠ 159 → M b = L b := by
  obtain ⟨J1, M, j1, j2, j3, j4, j5⟩ := paintsAll_ok (L := L) O hA hh R RA U
  have hg1 : gotR 161 J1 g := fun q hq => by rw [j4]; exact hg q hq
  cases ru with
  | none =>
    obtain ⟨J, k1, k2, k3, k4⟩ := rEnds_ok O hA hh (rSn_f j3 R) j2 hg1
    exact ⟨J1, M, J, j1, k1, k2, k3, fR_trans j3 k4, j5⟩
  | some r =>
    obtain ⟨h1, h2⟩ := paF_ok (ru := r) O (sPa S) 0 A 0 (by omega) hA hh
    obtain ⟨J, k1, k2, k3, k4⟩ := rEnds_ok O h1 (by rw [h2]; exact hh) (rSn_f j3 R) j2 hg1
    exact ⟨J1, M, J, j1, k1, k2, k3, fR_trans j3 k4, j5⟩
theorem goes_go {ru : Option ruT} (O : okS S) {N : Nat} (hN : N < 1000) : ∀ (f n k : Nat) (B : aT × (Nat → Nat)) (I : Nat → Nat → Int32) (L : Nat → Nat → Int64), n < f → n + k = N → okA S B.1 → B.1.2.2.1 + n < 1000 → rSn I S → rAn I S B.1 → rRo I ru → gotR 161 I B.2 → ∃ J M, mX12_goes_2 f I L (nI N) (nI k) = some (J, M) ∧ rAn J S (goA S ru n B).1 ∧ gotR 161 J (goA S ru n B).2 ∧ fR I J ∧ ∀ b, b ≠ 158 → b ≠ 159 → M b = L b
  | 0, n, k, B, I, L, h1, _, _, _, _, _, _, _ => absurd h1 (by omega)
  | f + 1, n, k, B, I, L, h1, h2, hA, hh, R, RA, U, hg => by
    rw [mX12_goes_2]
    cases n with
    | zero =>
      refine ⟨I, L, ?_, RA, hg, fR_refl I, fun _ _ _ => rfl⟩
      simp (disch := omega) only [↓reduceIte, Option.bind_some, Option.some.injEq, Prod.mk.injEq, and_self, and_true, true_and, eq_self, reduceCtorEq, not_false_eq_true, not_true_eq_false, or_true, true_or, or_false, false_or, bft, nAdd, nMul, nSub, nDiv, nRem, nAm1, nIx, nIn, bI_z, bI_o, ite_b1, ite_b0, zI_add, zI_sub, li0, li1, li2, li3, li4, li5, li6, li7, li8, li9, li10, li11, li12, li13, li14, li15, li16, li17, li18, li19, li20, li21, li22, li23, li24, li25, li26, li27, li28, li29, li30, li31, li32, li33, li34, li35, li36, li37, li40, li42, li43, li45, li47, li48, li57, li59, li60, li61, li62, li64, li80, li91, li93, li97, li99, li100, li122, li182, li199, li255, li300, li380, li400, li999, li1000, li3640, li4100, li65536, li99999, ln1, ln2, ln3, ln100, ln100000, tLe, fLe, tLt, fLt, tEq, fEq, zLe_t, zLe_f, zLt_t, zLt_f, zEq_t, zEq_f, nzLe_t, nzLe_f, znLe_t, znLe_f, nzLt_t, nzLt_f, znLt_t, znLt_f, nzEq_t, nzEq_f, znEq_t, znEq_f]
    | succ n =>
      obtain ⟨J1, M1, J2, j1, j2, j3, j4, j5, j6⟩ := rPass_ok (L := L) O hA (by omega) R RA U hg
      obtain ⟨p1, p2, p3⟩ := okA_pass O ru hA (by omega) B.2
      obtain ⟨J, M, k1, k2, k3, k4, k5⟩ := goes_go (ru := ru) O hN f n (k + 1) (passA S ru B.1 B.2).1 J2 M1 (by omega) (by omega) p1 (by omega) (rSn_f j5 R) j3 (rRo_f j5 U) j4
      refine ⟨J, M, ?_, k2, k3, fR_trans j5 k4, fun b h3 h4 => (k5 b h3 h4).trans (j6 b h3 h4)⟩
      simp (disch := omega) only [↓reduceIte, Option.bind_some, Option.some.injEq, Prod.mk.injEq, and_self, and_true, true_and, eq_self, reduceCtorEq, not_false_eq_true, not_true_eq_false, or_true, true_or, or_false, false_or, bft, nAdd, nMul, nSub, nDiv, nRem, nAm1, nIx, nIn, bI_z, bI_o, ite_b1, ite_b0, zI_add, zI_sub, li0, li1, li2, li3, li4, li5, li6, li7, li8, li9, li10, li11, li12, li13, li14, li15, li16, li17, li18, li19, li20, li21, li22, li23, li24, li25, li26, li27, li28, li29, li30, li31, li32, li33, li34, li35, li36, li37, li40, li42, li43, li45, li47, li48, li57, li59, li60, li61, li62, li64, li80, li91, li93, li97, li99, li100, li122, li182, li199, li255, li300, li380, li400, li999, li1000, li3640, li4100, li65536, li99999, ln1, ln2, ln3, ln100, ln100000, tLe, fLe, tLt, fLt, tEq, fEq, zLe_t, zLe_f, zLt_t, zLt_f, zEq_t, zEq_f, nzLe_t, nzLe_f, znLe_t, znLe_f, nzLt_t, nzLt_f, znLt_t, znLt_f, nzEq_t, nzEq_f, znEq_t, znEq_f, j1, j2]
      exact k1
theorem goes_ok {ru : Option ruT} (O : okS S) {n : Nat} {I : Nat → Nat → Int32} {L : Nat → Nat → Int64} {g : Nat → Nat} (hA : okA S A) (hh : A.2.2.1 + n < 1000) (R : rSn I S) (RA : rAn I S A) (U : rRo I ru) (hg : gotR 161 I g) : ∃ J M, mX12_goes I L (nI n) = some (J, M) ∧ rAn J S (goA S ru n (A, g)).1 ∧ gotR 161 J (goA S ru n (A, g)).2 ∧ fR I J ∧ ∀ b, b ≠ 158 → b ≠ 159 → M b = L b :=
  goes_go O (by omega) xf n 0 (A, g) I L (by unfold xf; omega) (by omega) hA hh R RA U hg
end

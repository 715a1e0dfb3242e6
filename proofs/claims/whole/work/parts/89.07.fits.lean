/-! Logs and rules: the class. -/
def lgB (S : sT) (A : aT) (h : Nat) (e : Nat × Nat × Int) : Bool := !(decide (e.1 = h)) || decide (ownT S A e.2.1 (sPart S) = e.2.2)
def lgH (S : sT) (A : aT) (l : lgT) (h : Nat) : Bool := l.all (lgB S A h)
/-- all logs of n hours on are so -/
def hF (S : sT) (ru : Option ruT) (l : lgT) : Nat → Nat → aT × (Nat → Nat) → Bool
  | 0, _, _ => true
  | n + 1, h, B => lgH S B.1 l h && hF S ru l n (h + 1) (passA S ru B.1 B.2).1
theorem lgH_none {S : sT} {A : aT} {l : lgT} {h : Nat} (hl : ∀ e ∈ l, e.1 < h) : lgH S A l h = true := by
  unfold lgH
  rw [List.all_eq_true]
  intro e he
  unfold lgB
  have := hl e he
  rw [decide_eq_false (by omega)]
  rfl
theorem hF_none {S : sT} {ru : Option ruT} {l : lgT} : ∀ (n h : Nat) (B : aT × (Nat → Nat)), (∀ e ∈ l, e.1 < h) → hF S ru l n h B = true
  | 0, _, _, _ => rfl
  | n + 1, h, B, hl => by rw [hF, lgH_none hl, Bool.true_and]; exact hF_none n (h + 1) _ (fun e he => by have := hl e he; omega)
theorem hF_more {S : sT} {ru : Option ruT} {l : lgT} : ∀ (n m h : Nat) (B : aT × (Nat → Nat)), (∀ e ∈ l, e.1 < h + n) → hF S ru l (n + m) h B = hF S ru l n h B
  | 0, m, h, B, hl => by rw [Nat.zero_add]; exact hF_none m h B (fun e he => by have := hl e he; omega)
  | n + 1, m, h, B, hl => by rw [show n + 1 + m = (n + m) + 1 by omega, hF, hF, hF_more n m (h + 1) _ (fun e he => by have := hl e he; omega)]
theorem hF_g {S : sT} {ru : Option ruT} {l : lgT} : ∀ (n h : Nat) (A : aT) (g g2 : Nat → Nat), hF S ru l n h (A, g) = hF S ru l n h (A, g2)
  | 0, _, _, _, _ => rfl
  | n + 1, h, A, g, g2 => by
    have e := hF_g (S := S) (ru := ru) (l := l) n (h + 1) (passA S ru A g).1.1 (passA S ru A g).1.2 (passA S ru A g2).1.2
    rw [hF, hF]
    show (lgH S A l h && hF S ru l n (h + 1) (passA S ru A g).1) = (lgH S A l h && hF S ru l n (h + 1) (passA S ru A g2).1)
    rw [show ((passA S ru A g).1.1, (passA S ru A g).1.2) = (passA S ru A g).1 from rfl] at e
    rw [e, passA_g S ru A g g2]
theorem goA_g {S : sT} {ru : Option ruT} : ∀ (n : Nat) (A : aT) (g g2 : Nat → Nat), (goA S ru n (A, g)).1 = (goA S ru n (A, g2)).1
  | 0, _, _, _ => rfl
  | n + 1, A, g, g2 => by
    have e := goA_g (S := S) (ru := ru) n (passA S ru A g).1.1 (passA S ru A g).1.2 (passA S ru A g2).1.2
    rw [goA, goA]
    show (goA S ru n (passA S ru A g).1).1 = (goA S ru n (passA S ru A g2).1).1
    rw [show ((passA S ru A g).1.1, (passA S ru A g).1.2) = (passA S ru A g).1 from rfl] at e
    rw [e, passA_g S ru A g g2]
def lsF : lgT → Nat → Nat
  | [], a => a
  | e :: l, a => lsF l (max a e.1)
theorem lsF_ge : ∀ (l : lgT) (a : Nat), a ≤ lsF l a ∧ ∀ e ∈ l, e.1 ≤ lsF l a
  | [], a => ⟨Nat.le_refl _, fun e he => by simp at he⟩
  | x :: l, a => by
    obtain ⟨h1, h2⟩ := lsF_ge l (max a x.1)
    refine ⟨by rw [lsF]; omega, fun e he => ?_⟩
    rw [lsF]
    rcases List.mem_cons.mp he with rfl | he
    · omega
    · exact h2 e he
theorem lsF_le : ∀ (l : lgT) (a N : Nat), a ≤ N → (∀ e ∈ l, e.1 ≤ N) → lsF l a ≤ N
  | [], a, N, h, _ => h
  | x :: l, a, N, h, hl => by
    rw [lsF]
    exact lsF_le l _ N (by have := hl x List.mem_cons_self; omega) (fun e he => hl e (List.mem_cons_of_mem _ he))
/-- the class's logs -/
def cLg (I : Nat → Nat → Int32) (l : lgT) : Prop := I 12 7 = nI l.length ∧ ∀ j n t o, l[j]? = some (n, t, o) → I 28 j = nI n ∧ I 29 j = nI t ∧ I 30 j = zI o
def okLg (S : sT) (l : lgT) : Prop := l.length ≤ 10 ∧ ∀ e ∈ l, e.1 ≤ 99 ∧ e.2.1 < sTh S ∧ -1 ≤ e.2.2 ∧ e.2.2 < sPa S
theorem cLg_congr {I J : Nat → Nat → Int32} {l : lgT} (h : ∀ b, b < 92 ∨ 122 < b → J b = I b) (C : cLg I l) : cLg J l := by
  unfold cLg
  rw [h 12 (by omega), h 28 (by omega), h 29 (by omega), h 30 (by omega)]
  exact C
theorem lg_cons {l : lgT} {k : Nat} (h : k < l.length) : ∃ a t o, l[k]? = some (a, t, o) ∧ l.drop k = (a, t, o) :: l.drop (k + 1) := ⟨(l[k]'h).1, (l[k]'h).2.1, (l[k]'h).2.2, List.getElem?_eq_getElem h, List.drop_eq_getElem_cons h⟩
theorem lastLog_go {I : Nat → Nat → Int32} {l : lgT} (C : cLg I l) (hl : l.length ≤ 10) (hb : ∀ e ∈ l, e.1 ≤ 99) : ∀ (f n k a : Nat), n < f → n + k = l.length → a ≤ 99 → mX10_lastLogHour_4 I f (nI a) (nI k) = some (nI (lsF (l.drop k) a))
  | 0, n, k, a, h1, _, _ => absurd h1 (by omega)
  | f + 1, n, k, a, h1, h2, h3 => by
    have c1 := C.1
    rw [mX10_lastLogHour_4]
    cases n with
    | zero =>
      rw [List.drop_eq_nil_of_le (by omega)]
      simp (disch := omega) only [↓reduceIte, Option.bind_some, Option.some.injEq, Prod.mk.injEq, and_self, and_true, true_and, eq_self, reduceCtorEq, not_false_eq_true, not_true_eq_false, or_true, true_or, or_false, false_or, bft, nAdd, nMul, nSub, nDiv, nRem, nAm1, nIx, nIn, bI_z, bI_o, ite_b1, ite_b0, zI_add, zI_sub, li0, li1, li2, li3, li4, li5, li6, li7, li8, li9, li10, li11, li12, li13, li14, li15, li16, li17, li18, li19, li20, li21, li22, li23, li24, li25, li26, li27, li28, li29, li30, li31, li32, li33, li34, li35, li36, li37, li40, li42, li43, li45, li47, li48, li57, li59, li60, li61, li62, li64, li80, li91, li93, li97, li99, li100, li122, li182, li199, li255, li300, li380, li400, li999, li1000, li3640, li4100, li65536, li99999, ln1, ln2, ln3, ln100, ln100000, tLe, fLe, tLt, fLt, tEq, fEq, zLe_t, zLe_f, zLt_t, zLt_f, zEq_t, zEq_f, nzLe_t, nzLe_f, znLe_t, znLe_f, nzLt_t, nzLt_f, znLt_t, znLt_f, nzEq_t, nzEq_f, znEq_t, znEq_f, c1]
      rfl
    | succ n =>
      obtain ⟨x, t, o, e1, e2⟩ := lg_cons (show k < l.length by omega)
      have hx := (C.2 k x t o e1).1
      have hx9 := hb (x, t, o) (List.mem_of_getElem? e1)
      change x ≤ 99 at hx9
      rw [e2, lsF]
      simp (disch := omega) only [↓reduceIte, Option.bind_some, Option.some.injEq, Prod.mk.injEq, and_self, and_true, true_and, eq_self, reduceCtorEq, not_false_eq_true, not_true_eq_false, or_true, true_or, or_false, false_or, bft, nAdd, nMul, nSub, nDiv, nRem, nAm1, nIx, nIn, bI_z, bI_o, ite_b1, ite_b0, zI_add, zI_sub, li0, li1, li2, li3, li4, li5, li6, li7, li8, li9, li10, li11, li12, li13, li14, li15, li16, li17, li18, li19, li20, li21, li22, li23, li24, li25, li26, li27, li28, li29, li30, li31, li32, li33, li34, li35, li36, li37, li40, li42, li43, li45, li47, li48, li57, li59, li60, li61, li62, li64, li80, li91, li93, li97, li99, li100, li122, li182, li199, li255, li300, li380, li400, li999, li1000, li3640, li4100, li65536, li99999, ln1, ln2, ln3, ln100, ln100000, tLe, fLe, tLt, fLt, tEq, fEq, zLe_t, zLe_f, zLt_t, zLt_f, zEq_t, zEq_f, nzLe_t, nzLe_f, znLe_t, znLe_f, nzLt_t, nzLt_f, znLt_t, znLt_f, nzEq_t, nzEq_f, znEq_t, znEq_f, c1, hx, max_ok]
      exact lastLog_go C hl hb f n (k + 1) (max a x) (by omega) (by omega) (by omega)
theorem lgs_go {P : Nat → Nat → Nat} {I : Nat → Nat → Int32} {L : Nat → Nat → Int64} {S : sT} {A : aT} {l : lgT} {h : Nat} (O : okS S) (hA : okA S A) (hh : A.2.2.1 < 1000) (C : cS I (P 12 0) S) (hC : cA I L 92 S A) (Cl : cLg I l) (ol : okLg S l) (hh2 : h < 1000) : ∀ (f n k : Nat), n < f → n + k = l.length → mX11_logsHold_2 P I L f (nI h) (nI k) = some (bI (lgH S A (l.drop k) h))
  | 0, n, k, h1, _ => absurd h1 (by omega)
  | f + 1, n, k, h1, h2 => by
    have o1 := O.1
    have ol1 := ol.1
    have c1 := Cl.1
    rw [mX11_logsHold_2]
    cases n with
    | zero =>
      rw [List.drop_eq_nil_of_le (by omega)]
      simp (disch := omega) only [↓reduceIte, Option.bind_some, Option.some.injEq, Prod.mk.injEq, and_self, and_true, true_and, eq_self, reduceCtorEq, not_false_eq_true, not_true_eq_false, or_true, true_or, or_false, false_or, bft, nAdd, nMul, nSub, nDiv, nRem, nAm1, nIx, nIn, bI_z, bI_o, ite_b1, ite_b0, zI_add, zI_sub, li0, li1, li2, li3, li4, li5, li6, li7, li8, li9, li10, li11, li12, li13, li14, li15, li16, li17, li18, li19, li20, li21, li22, li23, li24, li25, li26, li27, li28, li29, li30, li31, li32, li33, li34, li35, li36, li37, li40, li42, li43, li45, li47, li48, li57, li59, li60, li61, li62, li64, li80, li91, li93, li97, li99, li100, li122, li182, li199, li255, li300, li380, li400, li999, li1000, li3640, li4100, li65536, li99999, ln1, ln2, ln3, ln100, ln100000, tLe, fLe, tLt, fLt, tEq, fEq, zLe_t, zLe_f, zLt_t, zLt_f, zEq_t, zEq_f, nzLe_t, nzLe_f, znLe_t, znLe_f, nzLt_t, nzLt_f, znLt_t, znLt_f, nzEq_t, nzEq_f, znEq_t, znEq_f, c1]
      rfl
    | succ n =>
      obtain ⟨x, t, o, e1, e2⟩ := lg_cons (show k < l.length by omega)
      obtain ⟨i1, i2, i3⟩ := Cl.2 k x t o e1
      have ob := ol.2 (x, t, o) (List.mem_of_getElem? e1)
      have ob1 : x ≤ 99 := ob.1
      have ob2 : t < sTh S := ob.2.1
      have ob3 : -1 ≤ o := ob.2.2.1
      have ob4 : o < sPa S := ob.2.2.2
      have ih := lgs_go O hA hh C hC Cl ol hh2 f n (k + 1) (by omega) (by omega)
      have eo := ownerOfThing_ok C O hC hA (by omega) ob2
      have br := ownT_b O hA ob2 (sPart S)
      have ea : lgH S A ((x, t, o) :: l.drop (k + 1)) h = (lgB S A h (x, t, o) && lgH S A (l.drop (k + 1)) h) := rfl
      rw [e2, ea]
      unfold lgB
      by_cases q1 : x = h
      · by_cases q2 : ownT S A t (sPart S) = o
        · simp (disch := omega) only [↓reduceIte, Option.bind_some, Option.some.injEq, Prod.mk.injEq, and_self, and_true, true_and, eq_self, reduceCtorEq, not_false_eq_true, not_true_eq_false, or_true, true_or, or_false, false_or, bft, nAdd, nMul, nSub, nDiv, nRem, nAm1, nIx, nIn, bI_z, bI_o, ite_b1, ite_b0, zI_add, zI_sub, li0, li1, li2, li3, li4, li5, li6, li7, li8, li9, li10, li11, li12, li13, li14, li15, li16, li17, li18, li19, li20, li21, li22, li23, li24, li25, li26, li27, li28, li29, li30, li31, li32, li33, li34, li35, li36, li37, li40, li42, li43, li45, li47, li48, li57, li59, li60, li61, li62, li64, li80, li91, li93, li97, li99, li100, li122, li182, li199, li255, li300, li380, li400, li999, li1000, li3640, li4100, li65536, li99999, ln1, ln2, ln3, ln100, ln100000, tLe, fLe, tLt, fLt, tEq, fEq, zLe_t, zLe_f, zLt_t, zLt_f, zEq_t, zEq_f, nzLe_t, nzLe_f, znLe_t, znLe_f, nzLt_t, nzLt_f, znLt_t, znLt_f, nzEq_t, nzEq_f, znEq_t, znEq_f, c1, i1, i2, i3, eo, q1, q2, ih, decide_true, Bool.or_true, Bool.true_and]
        · simp (disch := omega) only [↓reduceIte, Option.bind_some, Option.some.injEq, Prod.mk.injEq, and_self, and_true, true_and, eq_self, reduceCtorEq, not_false_eq_true, not_true_eq_false, or_true, true_or, or_false, false_or, bft, nAdd, nMul, nSub, nDiv, nRem, nAm1, nIx, nIn, bI_z, bI_o, ite_b1, ite_b0, zI_add, zI_sub, li0, li1, li2, li3, li4, li5, li6, li7, li8, li9, li10, li11, li12, li13, li14, li15, li16, li17, li18, li19, li20, li21, li22, li23, li24, li25, li26, li27, li28, li29, li30, li31, li32, li33, li34, li35, li36, li37, li40, li42, li43, li45, li47, li48, li57, li59, li60, li61, li62, li64, li80, li91, li93, li97, li99, li100, li122, li182, li199, li255, li300, li380, li400, li999, li1000, li3640, li4100, li65536, li99999, ln1, ln2, ln3, ln100, ln100000, tLe, fLe, tLt, fLt, tEq, fEq, zLe_t, zLe_f, zLt_t, zLt_f, zEq_t, zEq_f, nzLe_t, nzLe_f, znLe_t, znLe_f, nzLt_t, nzLt_f, znLt_t, znLt_f, nzEq_t, nzEq_f, znEq_t, znEq_f, c1, i1, i2, i3, eo, q1, ih, decide_true, decide_eq_false q2, Bool.not_true, Bool.or_false, Bool.false_and]
          rfl
      · simp (disch := omega) only [↓reduceIte, Option.bind_some, Option.some.injEq, Prod.mk.injEq, and_self, and_true, true_and, eq_self, reduceCtorEq, not_false_eq_true, not_true_eq_false, or_true, true_or, or_false, false_or, bft, nAdd, nMul, nSub, nDiv, nRem, nAm1, nIx, nIn, bI_z, bI_o, ite_b1, ite_b0, zI_add, zI_sub, li0, li1, li2, li3, li4, li5, li6, li7, li8, li9, li10, li11, li12, li13, li14, li15, li16, li17, li18, li19, li20, li21, li22, li23, li24, li25, li26, li27, li28, li29, li30, li31, li32, li33, li34, li35, li36, li37, li40, li42, li43, li45, li47, li48, li57, li59, li60, li61, li62, li64, li80, li91, li93, li97, li99, li100, li122, li182, li199, li255, li300, li380, li400, li999, li1000, li3640, li4100, li65536, li99999, ln1, ln2, ln3, ln100, ln100000, tLe, fLe, tLt, fLt, tEq, fEq, zLe_t, zLe_f, zLt_t, zLt_f, zEq_t, zEq_f, nzLe_t, nzLe_f, znLe_t, znLe_f, nzLt_t, nzLt_f, znLt_t, znLt_f, nzEq_t, nzEq_f, znEq_t, znEq_f, c1, i1, i2, i3, ih, decide_eq_false q1, Bool.not_false, Bool.true_or, Bool.true_and]
theorem note_go {P : Nat → Nat → Nat} {L : Nat → Nat → Int64} {S : sT} {A : aT} {row : Nat} (O : okS S) (hA : okA S A) (hh : A.2.2.1 < 1000) (ps : P 12 0 = 13 ∨ 171 < P 12 0) (hr : row ≤ 6) : ∀ (f n t : Nat) (I : Nat → Nat → Int32), n < f → n + t = sTh S → cS I (P 12 0) S → cA I L 92 S A → ∃ J, mX11_noteSeen_13 P L f I (nI row) (nI t) = some J ∧ (∀ b, b ≠ 122 → J b = I b) ∧ (∀ u, t ≤ u → u < sTh S → J 122 (row * 4 + u) = zI (ownT S A u (sPart S))) ∧ ∀ j, j < row * 4 + t ∨ row * 4 + 4 ≤ j → J 122 j = I 122 j
  | 0, n, t, I, h1, _, _, _ => absurd h1 (by omega)
  | f + 1, n, t, I, h1, h2, C, hC => by
    have o1 := O.1
    rw [mX11_noteSeen_13]
    cases n with
    | zero =>
      refine ⟨I, ?_, fun _ _ => rfl, fun u q1 q2 => absurd q2 (by omega), fun _ _ => rfl⟩
      simp (disch := omega) only [↓reduceIte, Option.bind_some, Option.some.injEq, Prod.mk.injEq, and_self, and_true, true_and, eq_self, reduceCtorEq, not_false_eq_true, not_true_eq_false, or_true, true_or, or_false, false_or, bft, nAdd, nMul, nSub, nDiv, nRem, nAm1, nIx, nIn, bI_z, bI_o, ite_b1, ite_b0, zI_add, zI_sub, li0, li1, li2, li3, li4, li5, li6, li7, li8, li9, li10, li11, li12, li13, li14, li15, li16, li17, li18, li19, li20, li21, li22, li23, li24, li25, li26, li27, li28, li29, li30, li31, li32, li33, li34, li35, li36, li37, li40, li42, li43, li45, li47, li48, li57, li59, li60, li61, li62, li64, li80, li91, li93, li97, li99, li100, li122, li182, li199, li255, li300, li380, li400, li999, li1000, li3640, li4100, li65536, li99999, ln1, ln2, ln3, ln100, ln100000, tLe, fLe, tLt, fLt, tEq, fEq, zLe_t, zLe_f, zLt_t, zLt_f, zEq_t, zEq_f, nzLe_t, nzLe_f, znLe_t, znLe_f, nzLt_t, nzLt_f, znLt_t, znLt_f, nzEq_t, nzEq_f, znEq_t, znEq_f, cS_nth C]
    | succ n =>
      have ht : t < sTh S := by omega
      have eo := ownerOfThing_ok C O hC hA (by omega) ht
      have z : ∀ b, b ≠ 122 → xu I 122 (row * 4 + t) (zI (ownT S A t (sPart S))) b = I b := fun b hb => xu_r hb
      obtain ⟨J, j1, j2, j3, j4⟩ := note_go O hA hh ps hr f n (t + 1) (xu I 122 (row * 4 + t) (zI (ownT S A t (sPart S)))) (by omega) (by omega) (cS_congr (fun b q1 q2 => z b (by omega)) C) (cA_congr (z 92 (by decide)) (z 94 (by decide)) rfl hC)
      refine ⟨J, ?_, fun b hb => (j2 b hb).trans (z b hb), fun u q1 q2 => ?_, fun j hj => (j4 j (by omega)).trans (xu_c (by omega))⟩
      · simp (disch := omega) only [↓reduceIte, Option.bind_some, Option.some.injEq, Prod.mk.injEq, and_self, and_true, true_and, eq_self, reduceCtorEq, not_false_eq_true, not_true_eq_false, or_true, true_or, or_false, false_or, bft, nAdd, nMul, nSub, nDiv, nRem, nAm1, nIx, nIn, bI_z, bI_o, ite_b1, ite_b0, zI_add, zI_sub, li0, li1, li2, li3, li4, li5, li6, li7, li8, li9, li10, li11, li12, li13, li14, li15, li16, li17, li18, li19, li20, li21, li22, li23, li24, li25, li26, li27, li28, li29, li30, li31, li32, li33, li34, li35, li36, li37, li40, li42, li43, li45, li47, li48, li57, li59, li60, li61, li62, li64, li80, li91, li93, li97, li99, li100, li122, li182, li199, li255, li300, li380, li400, li999, li1000, li3640, li4100, li65536, li99999, ln1, ln2, ln3, ln100, ln100000, tLe, fLe, tLt, fLt, tEq, fEq, zLe_t, zLe_f, zLt_t, zLt_f, zEq_t, zEq_f, nzLe_t, nzLe_f, znLe_t, znLe_f, nzLt_t, nzLt_f, znLt_t, znLt_f, nzEq_t, nzEq_f, znEq_t, znEq_f, cS_nth C, eo]
        exact j1
      · by_cases w : u = t
        · subst w; rw [j4 _ (by omega), xu_s]
        · exact j3 u (by omega) q2
section
variable {nn : Nat} {K : Nat → Nat × Nat} {P : Nat → Nat → Nat} {rs : List ruT} {S : sT} {l : lgT} {r la : Int} {row : Nat}
def ruY (n : Nat) (K : Nat → Nat × Nat) (P : Nat → Nat → Nat) (I : Nat → Nat → Int32) (rs : List ruT) : Prop := I 1 5 = nI rs.length ∧ ∀ r ru, rs[r]? = some ru → cR K I (P 11 r) ru ∧ apt n P (P 11 r) 3
theorem ruY_congr {n : Nat} {I J : Nat → Nat → Int32} (h : ∀ b, b < 92 ∨ 122 < b → J b = I b) (R : ruY n K P I rs) : ruY n K P J rs := ⟨by rw [h 1 (by omega)]; exact R.1, fun r ru hr => ⟨cR_congr (fun b h1 h2 => h b (by have := (R.2 r ru hr).2.1; omega)) (R.2 r ru hr).1, (R.2 r ru hr).2⟩⟩
theorem fit_go (O : okS S) (hlen : rs.length ≤ 6) (hok : ∀ ru ∈ rs, okRu ru) (hr1 : -1 ≤ r) (hr2 : r < rs.length) (ps : P 12 0 = 13 ∨ 171 < P 12 0) (ol : okLg S l) (hrow : row ≤ 6) (hla1 : -1 ≤ la) (hla2 : la ≤ 99) {last : Nat} (hlast : last ≤ 99) : ∀ (f n h : Nat) (B : aT × (Nat → Nat)) (I : Nat → Nat → Int32) (L : Nat → Nat → Int64), n < f → n + h = last + 1 → okA S B.1 → B.1.2.2.1 = h → cS I (P 12 0) S → cA I L 92 S B.1 → gotR 101 I B.2 → ruY nn K P I rs → cLg I l → ∃ J M, mX11_fits_33 K P f I L (zI r) (zI la) (nI row) (nI last) (nI h) = some (bI (hF S (ruF rs r) l n h B), J, M) ∧ (∀ b, b < 92 ∨ 122 < b → J b = I b ∧ M b = L b) ∧ (∀ j, j < row * 4 ∨ row * 4 + 4 ≤ j → J 122 j = I 122 j) ∧ (la < h → ∀ j, J 122 j = I 122 j) ∧ (hF S (ruF rs r) l n h B = true → ∀ m : Nat, la = h + m → m < n → ∀ t, t < sTh S → J 122 (row * 4 + t) = zI (ownT S (goA S (ruF rs r) m B).1 t (sPart S)))
  | 0, n, h, B, I, L, h1, _, _, _, _, _, _, _, _ => absurd h1 (by omega)
  | f + 1, n, h, B, I, L, h1, h2, hA, hB, C, hC, hg, R, Cl => by
    have o1 := O.1
    rw [mX11_fits_33]
    cases n with
    | zero =>
      refine ⟨I, L, ?_, fun _ _ => ⟨rfl, rfl⟩, fun _ _ => rfl, fun _ _ => rfl, fun _ m _ hm => absurd hm (by omega)⟩
      simp (disch := omega) only [↓reduceIte, Option.bind_some, Option.some.injEq, Prod.mk.injEq, and_self, and_true, true_and, eq_self, reduceCtorEq, not_false_eq_true, not_true_eq_false, or_true, true_or, or_false, false_or, bft, nAdd, nMul, nSub, nDiv, nRem, nAm1, nIx, nIn, bI_z, bI_o, ite_b1, ite_b0, zI_add, zI_sub, li0, li1, li2, li3, li4, li5, li6, li7, li8, li9, li10, li11, li12, li13, li14, li15, li16, li17, li18, li19, li20, li21, li22, li23, li24, li25, li26, li27, li28, li29, li30, li31, li32, li33, li34, li35, li36, li37, li40, li42, li43, li45, li47, li48, li57, li59, li60, li61, li62, li64, li80, li91, li93, li97, li99, li100, li122, li182, li199, li255, li300, li380, li400, li999, li1000, li3640, li4100, li65536, li99999, ln1, ln2, ln3, ln100, ln100000, tLe, fLe, tLt, fLt, tEq, fEq, zLe_t, zLe_f, zLt_t, zLt_f, zEq_t, zEq_f, nzLe_t, nzLe_f, znLe_t, znLe_f, nzLt_t, nzLt_f, znLt_t, znLt_f, nzEq_t, nzEq_f, znEq_t, znEq_f]
      rfl
    | succ n =>
      have el := lgs_go O hA (by omega) C hC Cl ol (show h < 1000 by omega) xf l.length 0 (by have := ol.1; unfold xf; omega) (by omega)
      rw [List.drop_zero] at el
      change mX11_logsHold P I L (nI h) = _ at el
      rw [hF]
      cases hlg : lgH S B.1 l h with
      | false =>
        rw [hlg] at el
        rw [Bool.false_and]
        refine ⟨I, L, ?_, fun _ _ => ⟨rfl, rfl⟩, fun _ _ => rfl, fun _ _ => rfl, fun c => absurd c (by decide)⟩
        simp (disch := omega) only [↓reduceIte, Option.bind_some, Option.some.injEq, Prod.mk.injEq, and_self, and_true, true_and, eq_self, reduceCtorEq, not_false_eq_true, not_true_eq_false, or_true, true_or, or_false, false_or, bft, nAdd, nMul, nSub, nDiv, nRem, nAm1, nIx, nIn, bI_z, bI_o, ite_b1, ite_b0, zI_add, zI_sub, li0, li1, li2, li3, li4, li5, li6, li7, li8, li9, li10, li11, li12, li13, li14, li15, li16, li17, li18, li19, li20, li21, li22, li23, li24, li25, li26, li27, li28, li29, li30, li31, li32, li33, li34, li35, li36, li37, li40, li42, li43, li45, li47, li48, li57, li59, li60, li61, li62, li64, li80, li91, li93, li97, li99, li100, li122, li182, li199, li255, li300, li380, li400, li999, li1000, li3640, li4100, li65536, li99999, ln1, ln2, ln3, ln100, ln100000, tLe, fLe, tLt, fLt, tEq, fEq, zLe_t, zLe_f, zLt_t, zLt_f, zEq_t, zEq_f, nzLe_t, nzLe_f, znLe_t, znLe_f, nzLt_t, nzLt_f, znLt_t, znLt_f, nzEq_t, nzEq_f, znEq_t, znEq_f, el]
        rfl
      | true =>
        rw [hlg] at el
        rw [Bool.true_and]
        -- noted or not
        have noted : ∃ J1, (if nI h = zI la then Option.bind (mX11_noteSeen P L I (nI row)) (fun q17 => mX11_fits_62 K P (fun I L a1 a2 a3 a4 a5 => mX11_fits_33 K P f I L a1 a2 a3 a4 a5) q17 L (zI r) (zI la) (nI row) (nI last) (nI h)) else mX11_fits_62 K P (fun I L a1 a2 a3 a4 a5 => mX11_fits_33 K P f I L a1 a2 a3 a4 a5) I L (zI r) (zI la) (nI row) (nI last) (nI h)) = mX11_fits_62 K P (fun I L a1 a2 a3 a4 a5 => mX11_fits_33 K P f I L a1 a2 a3 a4 a5) J1 L (zI r) (zI la) (nI row) (nI last) (nI h) ∧ (∀ b, b ≠ 122 → J1 b = I b) ∧ (∀ j, j < row * 4 ∨ row * 4 + 4 ≤ j → J1 122 j = I 122 j) ∧ (la < h → ∀ j, J1 122 j = I 122 j) ∧ (la = h → ∀ t, t < sTh S → J1 122 (row * 4 + t) = zI (ownT S B.1 t (sPart S))) := by
          by_cases q : la = h
          · obtain ⟨J1, j1, j2, j3, j4⟩ := note_go (row := row) O hA (by omega) ps hrow xf (sTh S) 0 I (by unfold xf; omega) (by omega) C hC
            refine ⟨J1, ?_, j2, fun j hj => j4 j (by omega), fun c => absurd c (by omega), fun _ t ht => j3 t (by omega) ht⟩
            unfold mX11_noteSeen
            simp (disch := omega) only [↓reduceIte, Option.bind_some, Option.some.injEq, Prod.mk.injEq, and_self, and_true, true_and, eq_self, reduceCtorEq, not_false_eq_true, not_true_eq_false, or_true, true_or, or_false, false_or, bft, nAdd, nMul, nSub, nDiv, nRem, nAm1, nIx, nIn, bI_z, bI_o, ite_b1, ite_b0, zI_add, zI_sub, li0, li1, li2, li3, li4, li5, li6, li7, li8, li9, li10, li11, li12, li13, li14, li15, li16, li17, li18, li19, li20, li21, li22, li23, li24, li25, li26, li27, li28, li29, li30, li31, li32, li33, li34, li35, li36, li37, li40, li42, li43, li45, li47, li48, li57, li59, li60, li61, li62, li64, li80, li91, li93, li97, li99, li100, li122, li182, li199, li255, li300, li380, li400, li999, li1000, li3640, li4100, li65536, li99999, ln1, ln2, ln3, ln100, ln100000, tLe, fLe, tLt, fLt, tEq, fEq, zLe_t, zLe_f, zLt_t, zLt_f, zEq_t, zEq_f, nzLe_t, nzLe_f, znLe_t, znLe_f, nzLt_t, nzLt_f, znLt_t, znLt_f, nzEq_t, nzEq_f, znEq_t, znEq_f, q, j1]
          · refine ⟨I, ?_, fun _ _ => rfl, fun _ _ => rfl, fun _ _ => rfl, fun c => absurd c q⟩
            simp (disch := omega) only [↓reduceIte, Option.bind_some, Option.some.injEq, Prod.mk.injEq, and_self, and_true, true_and, eq_self, reduceCtorEq, not_false_eq_true, not_true_eq_false, or_true, true_or, or_false, false_or, bft, nAdd, nMul, nSub, nDiv, nRem, nAm1, nIx, nIn, bI_z, bI_o, ite_b1, ite_b0, zI_add, zI_sub, li0, li1, li2, li3, li4, li5, li6, li7, li8, li9, li10, li11, li12, li13, li14, li15, li16, li17, li18, li19, li20, li21, li22, li23, li24, li25, li26, li27, li28, li29, li30, li31, li32, li33, li34, li35, li36, li37, li40, li42, li43, li45, li47, li48, li57, li59, li60, li61, li62, li64, li80, li91, li93, li97, li99, li100, li122, li182, li199, li255, li300, li380, li400, li999, li1000, li3640, li4100, li65536, li99999, ln1, ln2, ln3, ln100, ln100000, tLe, fLe, tLt, fLt, tEq, fEq, zLe_t, zLe_f, zLt_t, zLt_f, zEq_t, zEq_f, nzLe_t, nzLe_f, znLe_t, znLe_f, nzLt_t, nzLt_f, znLt_t, znLt_f, nzEq_t, nzEq_f, znEq_t, znEq_f]
        obtain ⟨J1, n1, n2, n3, n4, n5⟩ := noted
        have C1 : cS J1 (P 12 0) S := cS_congr (fun b q1 q2 => n2 b (by omega)) C
        have hC1 : cA J1 L 92 S B.1 := cA_congr (n2 92 (by decide)) (n2 94 (by decide)) rfl hC
        have hg1 : gotR 101 J1 B.2 := fun u hu => by rw [n2 101 (by decide)]; exact hg u hu
        have R1 : ruY nn K P J1 rs := ruY_congr (fun b hb => n2 b (by omega)) R
        have Cl1 : cLg J1 l := cLg_congr (fun b hb => n2 b (by omega)) Cl
        have first : mX11_fits_33 K P (f + 1) I L (zI r) (zI la) (nI row) (nI last) (nI h) = mX11_fits_62 K P (fun I L a1 a2 a3 a4 a5 => mX11_fits_33 K P f I L a1 a2 a3 a4 a5) J1 L (zI r) (zI la) (nI row) (nI last) (nI h) := by
          rw [← n1, mX11_fits_33, if_neg (fun z => absurd ((nLt (by omega) (by omega)).mp z) (by omega)), el, Option.bind_some, if_neg (by decide)]
        rw [mX11_fits_33] at first
        rw [first, mX11_fits_62]
        cases n with
        | zero =>
          have hlh : h = last := by omega
          subst hlh
          refine ⟨J1, L, ?_, fun b hb => ⟨n2 b (by omega), rfl⟩, n3, n4, fun _ m hm1 hm2 t ht => ?_⟩
          · obtain ⟨f', rfl⟩ : ∃ f', f = f' + 1 := ⟨f - 1, by omega⟩
            simp (disch := omega) only [↓reduceIte, Option.bind_some, Option.some.injEq, Prod.mk.injEq, and_self, and_true, true_and, eq_self, reduceCtorEq, not_false_eq_true, not_true_eq_false, or_true, true_or, or_false, false_or, bft, nAdd, nMul, nSub, nDiv, nRem, nAm1, nIx, nIn, bI_z, bI_o, ite_b1, ite_b0, zI_add, zI_sub, li0, li1, li2, li3, li4, li5, li6, li7, li8, li9, li10, li11, li12, li13, li14, li15, li16, li17, li18, li19, li20, li21, li22, li23, li24, li25, li26, li27, li28, li29, li30, li31, li32, li33, li34, li35, li36, li37, li40, li42, li43, li45, li47, li48, li57, li59, li60, li61, li62, li64, li80, li91, li93, li97, li99, li100, li122, li182, li199, li255, li300, li380, li400, li999, li1000, li3640, li4100, li65536, li99999, ln1, ln2, ln3, ln100, ln100000, tLe, fLe, tLt, fLt, tEq, fEq, zLe_t, zLe_f, zLt_t, zLt_f, zEq_t, zEq_f, nzLe_t, nzLe_f, znLe_t, znLe_f, nzLt_t, nzLt_f, znLt_t, znLt_f, nzEq_t, nzEq_f, znEq_t, znEq_f, mX11_fits_33]
            rfl
          · have : m = 0 := by omega
            subst this
            exact n5 (by omega) t ht
        | succ n =>
          obtain ⟨rp, r1, r2⟩ := ruleOf_ok (n := nn) (K := K) hlen hok R1.1 R1.2 hr1 hr2
          obtain ⟨J2, M2, p1, p2, p3, p4, p5⟩ := pass_ok (a := 92) O hA (by omega) ps (Or.inr rfl) C1 hC1 r2 hg1
          obtain ⟨b1, b2, b3⟩ := okA_pass O (ruF rs r) hA (by omega) B.2
          have fr : ∀ b, b < 92 ∨ 101 < b → J2 b = J1 b ∧ M2 b = L b := fun b hb => ⟨p4 b (by omega) (by omega) (by omega), p5 b (by omega) (by omega) (by omega)⟩
          obtain ⟨J, M, u1, u2, u3, u4, u5⟩ := fit_go O hlen hok hr1 hr2 ps ol hrow hla1 hla2 hlast f (n + 1) (h + 1) (passA S (ruF rs r) B.1 B.2).1 J2 M2 (by omega) (by omega) b1 (by omega) (cS_congr (fun b q1 q2 => (fr b (by omega)).1) C1) p2 p3 (ruY_congr (fun b hb => (fr b (by omega)).1) R1) (cLg_congr (fun b hb => (fr b (by omega)).1) Cl1)
          refine ⟨J, M, ?_, fun b hb => ⟨by rw [(u2 b hb).1, (fr b (by omega)).1, n2 b (by omega)], by rw [(u2 b hb).2, (fr b (by omega)).2]⟩, fun j hj => by rw [u3 j hj, (fr 122 (by omega)).1, n3 j hj], fun hlt j => by rw [u4 (by omega) j, (fr 122 (by omega)).1, n4 hlt j], fun ht m hm1 hm2 t htt => ?_⟩
          · simp (disch := omega) only [↓reduceIte, Option.bind_some, Option.some.injEq, Prod.mk.injEq, and_self, and_true, true_and, eq_self, reduceCtorEq, not_false_eq_true, not_true_eq_false, or_true, true_or, or_false, false_or, bft, nAdd, nMul, nSub, nDiv, nRem, nAm1, nIx, nIn, bI_z, bI_o, ite_b1, ite_b0, zI_add, zI_sub, li0, li1, li2, li3, li4, li5, li6, li7, li8, li9, li10, li11, li12, li13, li14, li15, li16, li17, li18, li19, li20, li21, li22, li23, li24, li25, li26, li27, li28, li29, li30, li31, li32, li33, li34, li35, li36, li37, li40, li42, li43, li45, li47, li48, li57, li59, li60, li61, li62, li64, li80, li91, li93, li97, li99, li100, li122, li182, li199, li255, li300, li380, li400, li999, li1000, li3640, li4100, li65536, li99999, ln1, ln2, ln3, ln100, ln100000, tLe, fLe, tLt, fLt, tEq, fEq, zLe_t, zLe_f, zLt_t, zLt_f, zEq_t, zEq_f, nzLe_t, nzLe_f, znLe_t, znLe_f, nzLt_t, nzLt_f, znLt_t, znLt_f, nzEq_t, nzEq_f, znEq_t, znEq_f, r1, p1]
            exact u1
          · cases m with
            | zero =>
              rw [u4 (by omega), (fr 122 (by omega)).1]
              exact n5 (by omega) t htt
            | succ m => exact u5 ht m (by omega) (by omega) t htt
theorem fits_ok {I : Nat → Nat → Int32} {L : Nat → Nat → Int64} {T : aT} (O : okS S) (hlen : rs.length ≤ 6) (hok : ∀ ru ∈ rs, okRu ru) (hr1 : -1 ≤ r) (hr2 : r < rs.length) (ps : P 12 0 = 13 ∨ 171 < P 12 0) (ol : okLg S l) (hrow : row ≤ 6) (hla1 : -1 ≤ la) (hla2 : la ≤ 99) (hT : okA S T) (hT0 : T.2.2.1 = 0) (C : cS I (P 12 0) S) (hC : cA I L (P 12 0 + 8) S T) (R : ruY nn K P I rs) (Cl : cLg I l) : ∃ J M, mX11_fits K P I L (zI r) (zI la) (nI row) = some (bI (hF S (ruF rs r) l 100 0 (T, fun _ => 0)), J, M) ∧ (∀ b, b < 92 ∨ 122 < b → J b = I b ∧ M b = L b) ∧ (∀ j, j < row * 4 ∨ row * 4 + 4 ≤ j → J 122 j = I 122 j) ∧ (hF S (ruF rs r) l 100 0 (T, fun _ => 0) = true → ∀ m : Nat, la = m → ∀ t, t < sTh S → J 122 (row * 4 + t) = zI (ownT S (goA S (ruF rs r) m (T, fun _ => 0)).1 t (sPart S))) := by
  have el := lastLog_go Cl ol.1 (fun e he => (ol.2 e he).1) xf l.length 0 0 (by have := ol.1; unfold xf; omega) (by omega) (by omega)
  rw [List.drop_zero] at el
  have l1 := lsF_ge l 0
  have l2 := lsF_le l 0 99 (by omega) (fun e he => (ol.2 e he).1)
  obtain ⟨I1, L1, i1, i2, i3, i4⟩ := copyState_ok (I := I) (L := L) (a0 := 92) (a1 := P 12 0 + 8) O (by omega) hC
  obtain ⟨g, hg⟩ := gotR_ex 101 I1
  obtain ⟨last, hm1, hm2, hm3, hm4⟩ : ∃ last : Nat, mJ9_max_7cf53 (zI la) (nI (lsF l 0)) = some (nI last) ∧ last ≤ 99 ∧ lsF l 0 ≤ last ∧ la ≤ last := by
    by_cases q : la < lsF l 0
    · refine ⟨lsF l 0, ?_, l2, Nat.le_refl _, by omega⟩
      unfold mJ9_max_7cf53
      simp (disch := omega) only [↓reduceIte, Option.bind_some, Option.some.injEq, Prod.mk.injEq, and_self, and_true, true_and, eq_self, reduceCtorEq, not_false_eq_true, not_true_eq_false, or_true, true_or, or_false, false_or, bft, nAdd, nMul, nSub, nDiv, nRem, nAm1, nIx, nIn, bI_z, bI_o, ite_b1, ite_b0, zI_add, zI_sub, li0, li1, li2, li3, li4, li5, li6, li7, li8, li9, li10, li11, li12, li13, li14, li15, li16, li17, li18, li19, li20, li21, li22, li23, li24, li25, li26, li27, li28, li29, li30, li31, li32, li33, li34, li35, li36, li37, li40, li42, li43, li45, li47, li48, li57, li59, li60, li61, li62, li64, li80, li91, li93, li97, li99, li100, li122, li182, li199, li255, li300, li380, li400, li999, li1000, li3640, li4100, li65536, li99999, ln1, ln2, ln3, ln100, ln100000, tLe, fLe, tLt, fLt, tEq, fEq, zLe_t, zLe_f, zLt_t, zLt_f, zEq_t, zEq_f, nzLe_t, nzLe_f, znLe_t, znLe_f, nzLt_t, nzLt_f, znLt_t, znLt_f, nzEq_t, nzEq_f, znEq_t, znEq_f]
    · obtain ⟨m, rfl⟩ : ∃ m : Nat, la = m := ⟨la.toNat, by omega⟩
      refine ⟨m, ?_, by omega, by omega, by omega⟩
      rw [zI_nat]
      unfold mJ9_max_7cf53
      simp (disch := omega) only [↓reduceIte, Option.bind_some, Option.some.injEq, Prod.mk.injEq, and_self, and_true, true_and, eq_self, reduceCtorEq, not_false_eq_true, not_true_eq_false, or_true, true_or, or_false, false_or, bft, nAdd, nMul, nSub, nDiv, nRem, nAm1, nIx, nIn, bI_z, bI_o, ite_b1, ite_b0, zI_add, zI_sub, li0, li1, li2, li3, li4, li5, li6, li7, li8, li9, li10, li11, li12, li13, li14, li15, li16, li17, li18, li19, li20, li21, li22, li23, li24, li25, li26, li27, li28, li29, li30, li31, li32, li33, li34, li35, li36, li37, li40, li42, li43, li45, li47, li48, li57, li59, li60, li61, li62, li64, li80, li91, li93, li97, li99, li100, li122, li182, li199, li255, li300, li380, li400, li999, li1000, li3640, li4100, li65536, li99999, ln1, ln2, ln3, ln100, ln100000, tLe, fLe, tLt, fLt, tEq, fEq, zLe_t, zLe_f, zLt_t, zLt_f, zEq_t, zEq_f, nzLe_t, nzLe_f, znLe_t, znLe_f, nzLt_t, nzLt_f, znLt_t, znLt_f, nzEq_t, nzEq_f, znEq_t, znEq_f]
  obtain ⟨J, M, u1, u2, u3, u4, u5⟩ := fit_go (nn := nn) (K := K) (row := row) O hlen hok hr1 hr2 ps ol hrow hla1 hla2 hm2 xf (last + 1) 0 (T, g) I1 L1 (by unfold xf; omega) (by omega) hT hT0 (cS_congr (fun b q1 q2 => i3 b (by omega) (by omega)) C) i2 hg (ruY_congr (fun b hb => i3 b (by omega) (by omega)) R) (cLg_congr (fun b hb => i3 b (by omega) (by omega)) Cl)
  have ee : hF S (ruF rs r) l 100 0 (T, fun _ => 0) = hF S (ruF rs r) l (last + 1) 0 (T, g) := by
    rw [show 100 = (last + 1) + (99 - last) by omega, hF_more _ _ _ _ (fun e he => by have := l1.2 e he; omega)]
    exact hF_g _ _ _ _ _
  rw [ee]
  refine ⟨J, M, ?_, fun b hb => ⟨((u2 b hb).1).trans (i3 b (by omega) (by omega)), ((u2 b hb).2).trans (i4 b (by omega))⟩, fun j hj => by rw [u3 j hj, i3 122 (by decide) (by decide)], fun ht m hm t htt => ?_⟩
  · unfold mX11_fits mX10_lastLogHour
    simp (disch := omega) only [↓reduceIte, Option.bind_some, Option.some.injEq, Prod.mk.injEq, and_self, and_true, true_and, eq_self, reduceCtorEq, not_false_eq_true, not_true_eq_false, or_true, true_or, or_false, false_or, bft, nAdd, nMul, nSub, nDiv, nRem, nAm1, nIx, nIn, bI_z, bI_o, ite_b1, ite_b0, zI_add, zI_sub, li0, li1, li2, li3, li4, li5, li6, li7, li8, li9, li10, li11, li12, li13, li14, li15, li16, li17, li18, li19, li20, li21, li22, li23, li24, li25, li26, li27, li28, li29, li30, li31, li32, li33, li34, li35, li36, li37, li40, li42, li43, li45, li47, li48, li57, li59, li60, li61, li62, li64, li80, li91, li93, li97, li99, li100, li122, li182, li199, li255, li300, li380, li400, li999, li1000, li3640, li4100, li65536, li99999, ln1, ln2, ln3, ln100, ln100000, tLe, fLe, tLt, fLt, tEq, fEq, zLe_t, zLe_f, zLt_t, zLt_f, zEq_t, zEq_f, nzLe_t, nzLe_f, znLe_t, znLe_f, nzLt_t, nzLt_f, znLt_t, znLt_f, nzEq_t, nzEq_f, znEq_t, znEq_f, el, hm1, i1]
    exact u1
  · rw [u5 ht m (by omega) (by omega) t htt, goA_g m T g (fun _ => 0)]
end

/-! look. -/
def mxL : List Nat → Nat → Nat
  | [], a => a
  | x :: l, a => mxL l (max a x)
theorem mxL_ge : ∀ (l : List Nat) (a : Nat), a ≤ mxL l a ∧ ∀ x ∈ l, x ≤ mxL l a
  | [], a => ⟨Nat.le_refl _, fun x hx => by simp at hx⟩
  | y :: l, a => by
    obtain ⟨h1, h2⟩ := mxL_ge l (max a y)
    refine ⟨by rw [mxL]; omega, fun x hx => ?_⟩
    rw [mxL]
    rcases List.mem_cons.mp hx with rfl | hx
    · omega
    · exact h2 x hx
theorem mxL_le : ∀ (l : List Nat) (a N : Nat), a ≤ N → (∀ x ∈ l, x ≤ N) → mxL l a ≤ N
  | [], a, N, h, _ => h
  | y :: l, a, N, h, hl => by
    rw [mxL]
    exact mxL_le l _ N (by have := hl y List.mem_cons_self; omega) (fun x hx => hl x (List.mem_cons_of_mem _ hx))
def cnA (ac : List (Nat → Int)) (t : Nat) (v : Int) : Nat := ac.countP (fun o => decide (o t = v))
theorem cnA_le (ac : List (Nat → Int)) (t : Nat) (v : Int) : cnA ac t v ≤ ac.length := List.countP_le_length
theorem cnA_app (ac : List (Nat → Int)) (o : Nat → Int) (t : Nat) (v : Int) : cnA (ac ++ [o]) t v = cnA ac t v + if o t = v then 1 else 0 := by
  unfold cnA
  rw [List.countP_append, List.countP_singleton]
  simp only [decide_eq_true_eq]
def moA (ac : List (Nat → Int)) (t : Nat) : Nat := mxL [cnA ac t (-1), cnA ac t 0, cnA ac t 1, cnA ac t 2, cnA ac t 3] 0
theorem moA_eq {ac : List (Nat → Int)} {t : Nat} (h : ∀ o ∈ ac, -1 ≤ o t ∧ o t < 4) : mxL (ac.map (fun o => cnA ac t (o t))) 0 = moA ac t := by
  unfold moA
  apply Nat.le_antisymm
  · refine mxL_le _ _ _ (by omega) (fun x hx => ?_)
    obtain ⟨o, ho, rfl⟩ := List.mem_map.mp hx
    have hb := h o ho
    refine (mxL_ge _ 0).2 _ ?_
    rcases (show o t = -1 ∨ o t = 0 ∨ o t = 1 ∨ o t = 2 ∨ o t = 3 by omega) with e | e | e | e | e <;> rw [e] <;> simp
  · refine mxL_le _ _ _ (by omega) (fun x hx => ?_)
    have key : ∀ v, cnA ac t v ≤ mxL (ac.map (fun o => cnA ac t (o t))) 0 := fun v => by
      rcases Nat.eq_zero_or_pos (cnA ac t v) with e | e
      · omega
      · obtain ⟨o, ho, hv⟩ := List.countP_pos_iff.mp e
        have hv2 : o t = v := of_decide_eq_true hv
        refine (mxL_ge _ 0).2 _ (List.mem_map.mpr ⟨o, ho, ?_⟩)
        rw [hv2]
    simp only [List.mem_cons, List.not_mem_nil, or_false] at hx
    rcases hx with rfl | rfl | rfl | rfl | rfl <;> exact key _
theorem moA_le (ac : List (Nat → Int)) (t : Nat) : moA ac t ≤ ac.length := by
  unfold moA
  refine mxL_le _ _ _ (by omega) (fun x hx => ?_)
  simp only [List.mem_cons, List.not_mem_nil, or_false] at hx
  rcases hx with rfl | rfl | rfl | rfl | rfl <;> exact cnA_le _ _ _
/-- the class's rows of what was seen -/
def seeA (I : Nat → Nat → Int32) (S : sT) (ac : List (Nat → Int)) : Prop := ∀ i o, ac[i]? = some o → ∀ t, t < sTh S → I 122 (i * 4 + t) = zI (o t)
def okO (S : sT) (ac : List (Nat → Int)) : Prop := ∀ o ∈ ac, ∀ t, t < sTh S → -1 ≤ o t ∧ o t < 4
section
variable {I : Nat → Nat → Int32} {S : sT} {ac : List (Nat → Int)}
theorem al17_go {e57 : Int32 → Int32 → Int32 → Int32 → Int32 → Option Int32} {t i : Nat} {o : Nat → Int} {a3 : Int32} (O : okS S) (hs : seeA I S ac) (ho : okO S ac) (ht : t < sTh S) (hi : ac[i]? = some o) (hl : ac.length ≤ 7) : ∀ (f n j c : Nat), n < f → n + j = ac.length → mX11_mostAlike_17 I e57 f (nI t) (nI ac.length) a3 (nI i) (nI c) (nI j) = e57 (nI t) (nI ac.length) a3 (nI i) (nI (c + cnA (ac.drop j) t (o t)))
  | 0, n, j, c, h1, _ => absurd h1 (by omega)
  | f + 1, n, j, c, h1, h2 => by
    have o1 := O.1
    have hil := (List.getElem?_eq_some_iff.mp hi).1
    rw [mX11_mostAlike_17]
    cases n with
    | zero =>
      rw [List.drop_eq_nil_of_le (by omega)]
      simp (disch := omega) only [↓reduceIte, Option.bind_some, Option.some.injEq, Prod.mk.injEq, and_self, and_true, true_and, eq_self, reduceCtorEq, not_false_eq_true, not_true_eq_false, or_true, true_or, or_false, false_or, bft, nAdd, nMul, nSub, nDiv, nRem, nAm1, nIx, nIn, bI_z, bI_o, ite_b1, ite_b0, zI_add, zI_sub, li0, li1, li2, li3, li4, li5, li6, li7, li8, li9, li10, li11, li12, li13, li14, li15, li16, li17, li18, li19, li20, li21, li22, li23, li24, li25, li26, li27, li28, li29, li30, li31, li32, li33, li34, li35, li36, li37, li40, li42, li43, li45, li47, li48, li57, li59, li60, li61, li62, li64, li80, li91, li93, li97, li99, li100, li122, li182, li199, li255, li300, li380, li400, li999, li1000, li3640, li4100, li65536, li99999, ln1, ln2, ln3, ln100, ln100000, tLe, fLe, tLt, fLt, tEq, fEq, zLe_t, zLe_f, zLt_t, zLt_f, zEq_t, zEq_f, nzLe_t, nzLe_f, znLe_t, znLe_f, nzLt_t, nzLt_f, znLt_t, znLt_f, nzEq_t, nzEq_f, znEq_t, znEq_f]
      rfl
    | succ n =>
      have hj : j < ac.length := by omega
      have hoj : ac[j]? = some (ac[j]'hj) := List.getElem?_eq_getElem hj
      have hd := List.drop_eq_getElem_cons hj
      have e1 := hs j _ hoj t ht
      have e2 := hs i o hi t ht
      have b1 := ho _ (List.mem_of_getElem? hoj) t ht
      have b2 := ho _ (List.mem_of_getElem? hi) t ht
      have ec : cnA (ac.drop j) t (o t) = (if (ac[j]'hj) t = o t then 1 else 0) + cnA (ac.drop (j + 1)) t (o t) := by
        unfold cnA
        rw [hd, List.countP_cons]
        simp only [decide_eq_true_eq]
        omega
      generalize hv : (ac[j]'hj) t = v at e1 b1 ec
      by_cases q : v = o t
      · simp (disch := omega) only [↓reduceIte, Option.bind_some, Option.some.injEq, Prod.mk.injEq, and_self, and_true, true_and, eq_self, reduceCtorEq, not_false_eq_true, not_true_eq_false, or_true, true_or, or_false, false_or, bft, nAdd, nMul, nSub, nDiv, nRem, nAm1, nIx, nIn, bI_z, bI_o, ite_b1, ite_b0, zI_add, zI_sub, li0, li1, li2, li3, li4, li5, li6, li7, li8, li9, li10, li11, li12, li13, li14, li15, li16, li17, li18, li19, li20, li21, li22, li23, li24, li25, li26, li27, li28, li29, li30, li31, li32, li33, li34, li35, li36, li37, li40, li42, li43, li45, li47, li48, li57, li59, li60, li61, li62, li64, li80, li91, li93, li97, li99, li100, li122, li182, li199, li255, li300, li380, li400, li999, li1000, li3640, li4100, li65536, li99999, ln1, ln2, ln3, ln100, ln100000, tLe, fLe, tLt, fLt, tEq, fEq, zLe_t, zLe_f, zLt_t, zLt_f, zEq_t, zEq_f, nzLe_t, nzLe_f, znLe_t, znLe_f, nzLt_t, nzLt_f, znLt_t, znLt_f, nzEq_t, nzEq_f, znEq_t, znEq_f, e1, e2, q]
        rw [al17_go O hs ho ht hi hl f n (j + 1) (c + 1) (by omega) (by omega), ec, if_pos q, Nat.add_assoc]
      · simp (disch := omega) only [↓reduceIte, Option.bind_some, Option.some.injEq, Prod.mk.injEq, and_self, and_true, true_and, eq_self, reduceCtorEq, not_false_eq_true, not_true_eq_false, or_true, true_or, or_false, false_or, bft, nAdd, nMul, nSub, nDiv, nRem, nAm1, nIx, nIn, bI_z, bI_o, ite_b1, ite_b0, zI_add, zI_sub, li0, li1, li2, li3, li4, li5, li6, li7, li8, li9, li10, li11, li12, li13, li14, li15, li16, li17, li18, li19, li20, li21, li22, li23, li24, li25, li26, li27, li28, li29, li30, li31, li32, li33, li34, li35, li36, li37, li40, li42, li43, li45, li47, li48, li57, li59, li60, li61, li62, li64, li80, li91, li93, li97, li99, li100, li122, li182, li199, li255, li300, li380, li400, li999, li1000, li3640, li4100, li65536, li99999, ln1, ln2, ln3, ln100, ln100000, tLe, fLe, tLt, fLt, tEq, fEq, zLe_t, zLe_f, zLt_t, zLt_f, zEq_t, zEq_f, nzLe_t, nzLe_f, znLe_t, znLe_f, nzLt_t, nzLt_f, znLt_t, znLt_f, nzEq_t, nzEq_f, znEq_t, znEq_f, e1, e2]
        rw [al17_go O hs ho ht hi hl f n (j + 1) c (by omega) (by omega), ec, if_neg q, Nat.zero_add]
theorem al5_go {t : Nat} (O : okS S) (hs : seeA I S ac) (ho : okO S ac) (ht : t < sTh S) (hl : ac.length ≤ 7) : ∀ (f n i m : Nat), n < f → n + i = ac.length → m ≤ 7 → mX11_mostAlike_5 I f (nI t) (nI ac.length) (nI m) (nI i) = some (nI (mxL ((ac.drop i).map (fun o => cnA ac t (o t))) m))
  | 0, n, i, m, h1, _, _ => absurd h1 (by omega)
  | f + 1, n, i, m, h1, h2, h3 => by
    rw [mX11_mostAlike_5]
    cases n with
    | zero =>
      rw [List.drop_eq_nil_of_le (by omega)]
      simp (disch := omega) only [↓reduceIte, Option.bind_some, Option.some.injEq, Prod.mk.injEq, and_self, and_true, true_and, eq_self, reduceCtorEq, not_false_eq_true, not_true_eq_false, or_true, true_or, or_false, false_or, bft, nAdd, nMul, nSub, nDiv, nRem, nAm1, nIx, nIn, bI_z, bI_o, ite_b1, ite_b0, zI_add, zI_sub, li0, li1, li2, li3, li4, li5, li6, li7, li8, li9, li10, li11, li12, li13, li14, li15, li16, li17, li18, li19, li20, li21, li22, li23, li24, li25, li26, li27, li28, li29, li30, li31, li32, li33, li34, li35, li36, li37, li40, li42, li43, li45, li47, li48, li57, li59, li60, li61, li62, li64, li80, li91, li93, li97, li99, li100, li122, li182, li199, li255, li300, li380, li400, li999, li1000, li3640, li4100, li65536, li99999, ln1, ln2, ln3, ln100, ln100000, tLe, fLe, tLt, fLt, tEq, fEq, zLe_t, zLe_f, zLt_t, zLt_f, zEq_t, zEq_f, nzLe_t, nzLe_f, znLe_t, znLe_f, nzLt_t, nzLt_f, znLt_t, znLt_f, nzEq_t, nzEq_f, znEq_t, znEq_f]
      rfl
    | succ n =>
      have hi : i < ac.length := by omega
      have hoi : ac[i]? = some (ac[i]'hi) := List.getElem?_eq_getElem hi
      have hc := cnA_le ac t ((ac[i]'hi) t)
      have e := al17_go (e57 := fun a1_6 a2_6 a3_6 a4_6 a5_6 => (Option.bind (mJ9_max_7cf53 a3_6 a5_6) (fun q7 => (mX11_mostAlike_5 I f a1_6 a2_6 q7 (a4_6 + 1))))) (a3 := nI m) O hs ho ht hoi hl xf ac.length 0 0 (by unfold xf; omega) (by omega)
      rw [List.drop_zero, Nat.zero_add] at e
      rw [List.drop_eq_getElem_cons hi, List.map_cons, mxL, if_neg (fun z => absurd ((nLe (by omega) (by omega)).mp z) (by omega))]
      change mX11_mostAlike_17 I _ xf (nI t) (nI ac.length) (nI m) (nI i) (nI 0) (nI 0) = _
      rw [e, max_ok (by omega) (by omega), Option.bind_some, nI_1]
      exact al5_go O hs ho ht hl f n (i + 1) _ (by omega) (by omega) (by omega)
theorem mostAlike_ok {t : Nat} (O : okS S) (hs : seeA I S ac) (ho : okO S ac) (ht : t < sTh S) (hl : ac.length ≤ 7) : mX11_mostAlike I (nI t) (nI ac.length) = some (nI (moA ac t)) := by
  have e := al5_go O hs ho ht hl xf ac.length 0 0 (by unfold xf; omega) (by omega) (by omega)
  rw [List.drop_zero, moA_eq (fun o h => ho o h t ht)] at e
  exact e
end
/-- the thing that parts best, and how many are alike by it -/
def bsF (ac : List (Nat → Int)) : Nat → Nat → Int → Nat → Int × Nat
  | 0, _, b, m => (b, m)
  | n + 1, t, b, m => if m ≤ moA ac t then bsF ac n (t + 1) b m else bsF ac n (t + 1) t (moA ac t)
theorem bsF_k {ac : List (Nat → Int)} {n t m : Nat} {b : Int} (h : m ≤ moA ac t) : bsF ac (n + 1) t b m = bsF ac n (t + 1) b m := by rw [bsF, if_pos h]
theorem bsF_u {ac : List (Nat → Int)} {n t m : Nat} {b : Int} (h : ¬ m ≤ moA ac t) : bsF ac (n + 1) t b m = bsF ac n (t + 1) t (moA ac t) := by rw [bsF, if_neg h]
def lkR (ac : List (Nat → Int)) (S : sT) (p : Nat) : Int32 := if (bsF ac (sTh S) 0 (-2) 8).1 = -2 then zI (-2) else if p = 0 then zI (bsF ac (sTh S) 0 (-2) 8).1 else nI (bsF ac (sTh S) 0 (-2) 8).2
theorem cBs_go {K : Nat → Nat × Nat} {P : Nat → Nat → Nat} {I : Nat → Nat → Int32} {L : Nat → Nat → Int64} {S : sT} {ac : List (Nat → Int)} {p : Nat} (O : okS S) (C : cS I (P 12 0) S) (hs : seeA I S ac) (ho : okO S ac) (hl : ac.length ≤ 7) (hp : p ≤ 1) : ∀ (f n t : Nat) (b : Int) (m : Nat), n < f → n + t = sTh S → -2 ≤ b → b < 4 → m ≤ 8 → mX11_look_86 K P f I L (nI p) (nI ac.length) (zI b) (nI m) (nI t) = some (if (bsF ac n t b m).1 = -2 then zI (-2) else if p = 0 then zI (bsF ac n t b m).1 else nI (bsF ac n t b m).2, I, L)
  | 0, n, t, b, m, h1, _, _, _, _ => absurd h1 (by omega)
  | f + 1, n, t, b, m, h1, h2, h3, h4, h5 => by
    have o1 := O.1
    rw [mX11_look_86]
    cases n with
    | zero =>
      rw [bsF]
      by_cases q : b = -2
      · simp (disch := omega) only [↓reduceIte, Option.bind_some, Option.some.injEq, Prod.mk.injEq, and_self, and_true, true_and, eq_self, reduceCtorEq, not_false_eq_true, not_true_eq_false, or_true, true_or, or_false, false_or, bft, nAdd, nMul, nSub, nDiv, nRem, nAm1, nIx, nIn, bI_z, bI_o, ite_b1, ite_b0, zI_add, zI_sub, li0, li1, li2, li3, li4, li5, li6, li7, li8, li9, li10, li11, li12, li13, li14, li15, li16, li17, li18, li19, li20, li21, li22, li23, li24, li25, li26, li27, li28, li29, li30, li31, li32, li33, li34, li35, li36, li37, li40, li42, li43, li45, li47, li48, li57, li59, li60, li61, li62, li64, li80, li91, li93, li97, li99, li100, li122, li182, li199, li255, li300, li380, li400, li999, li1000, li3640, li4100, li65536, li99999, ln1, ln2, ln3, ln100, ln100000, tLe, fLe, tLt, fLt, tEq, fEq, zLe_t, zLe_f, zLt_t, zLt_f, zEq_t, zEq_f, nzLe_t, nzLe_f, znLe_t, znLe_f, nzLt_t, nzLt_f, znLt_t, znLt_f, nzEq_t, nzEq_f, znEq_t, znEq_f, cS_nth C, q]
      · rcases (show p = 0 ∨ p = 1 by omega) with rfl | rfl
        · simp (disch := omega) only [↓reduceIte, Option.bind_some, Option.some.injEq, Prod.mk.injEq, and_self, and_true, true_and, eq_self, reduceCtorEq, not_false_eq_true, not_true_eq_false, or_true, true_or, or_false, false_or, bft, nAdd, nMul, nSub, nDiv, nRem, nAm1, nIx, nIn, bI_z, bI_o, ite_b1, ite_b0, zI_add, zI_sub, li0, li1, li2, li3, li4, li5, li6, li7, li8, li9, li10, li11, li12, li13, li14, li15, li16, li17, li18, li19, li20, li21, li22, li23, li24, li25, li26, li27, li28, li29, li30, li31, li32, li33, li34, li35, li36, li37, li40, li42, li43, li45, li47, li48, li57, li59, li60, li61, li62, li64, li80, li91, li93, li97, li99, li100, li122, li182, li199, li255, li300, li380, li400, li999, li1000, li3640, li4100, li65536, li99999, ln1, ln2, ln3, ln100, ln100000, tLe, fLe, tLt, fLt, tEq, fEq, zLe_t, zLe_f, zLt_t, zLt_f, zEq_t, zEq_f, nzLe_t, nzLe_f, znLe_t, znLe_f, nzLt_t, nzLt_f, znLt_t, znLt_f, nzEq_t, nzEq_f, znEq_t, znEq_f, cS_nth C, q]
        · simp (disch := omega) only [↓reduceIte, Option.bind_some, Option.some.injEq, Prod.mk.injEq, and_self, and_true, true_and, eq_self, reduceCtorEq, not_false_eq_true, not_true_eq_false, or_true, true_or, or_false, false_or, bft, nAdd, nMul, nSub, nDiv, nRem, nAm1, nIx, nIn, bI_z, bI_o, ite_b1, ite_b0, zI_add, zI_sub, li0, li1, li2, li3, li4, li5, li6, li7, li8, li9, li10, li11, li12, li13, li14, li15, li16, li17, li18, li19, li20, li21, li22, li23, li24, li25, li26, li27, li28, li29, li30, li31, li32, li33, li34, li35, li36, li37, li40, li42, li43, li45, li47, li48, li57, li59, li60, li61, li62, li64, li80, li91, li93, li97, li99, li100, li122, li182, li199, li255, li300, li380, li400, li999, li1000, li3640, li4100, li65536, li99999, ln1, ln2, ln3, ln100, ln100000, tLe, fLe, tLt, fLt, tEq, fEq, zLe_t, zLe_f, zLt_t, zLt_f, zEq_t, zEq_f, nzLe_t, nzLe_f, znLe_t, znLe_f, nzLt_t, nzLt_f, znLt_t, znLt_f, nzEq_t, nzEq_f, znEq_t, znEq_f, cS_nth C, q]
          try rfl
    | succ n =>
      have ht : t < sTh S := by omega
      have e := mostAlike_ok O hs ho ht hl
      have hm := moA_le ac t
      rw [bsF]
      by_cases q : m ≤ moA ac t
      · rw [if_pos q]
        simp (disch := omega) only [↓reduceIte, Option.bind_some, Option.some.injEq, Prod.mk.injEq, and_self, and_true, true_and, eq_self, reduceCtorEq, not_false_eq_true, not_true_eq_false, or_true, true_or, or_false, false_or, bft, nAdd, nMul, nSub, nDiv, nRem, nAm1, nIx, nIn, bI_z, bI_o, ite_b1, ite_b0, zI_add, zI_sub, li0, li1, li2, li3, li4, li5, li6, li7, li8, li9, li10, li11, li12, li13, li14, li15, li16, li17, li18, li19, li20, li21, li22, li23, li24, li25, li26, li27, li28, li29, li30, li31, li32, li33, li34, li35, li36, li37, li40, li42, li43, li45, li47, li48, li57, li59, li60, li61, li62, li64, li80, li91, li93, li97, li99, li100, li122, li182, li199, li255, li300, li380, li400, li999, li1000, li3640, li4100, li65536, li99999, ln1, ln2, ln3, ln100, ln100000, tLe, fLe, tLt, fLt, tEq, fEq, zLe_t, zLe_f, zLt_t, zLt_f, zEq_t, zEq_f, nzLe_t, nzLe_f, znLe_t, znLe_f, nzLt_t, nzLt_f, znLt_t, znLt_f, nzEq_t, nzEq_f, znEq_t, znEq_f, cS_nth C, e]
        exact cBs_go O C hs ho hl hp f n (t + 1) b m (by omega) (by omega) h3 h4 h5
      · rw [if_neg q]
        simp (disch := omega) only [↓reduceIte, Option.bind_some, Option.some.injEq, Prod.mk.injEq, and_self, and_true, true_and, eq_self, reduceCtorEq, not_false_eq_true, not_true_eq_false, or_true, true_or, or_false, false_or, bft, nAdd, nMul, nSub, nDiv, nRem, nAm1, nIx, nIn, bI_z, bI_o, ite_b1, ite_b0, zI_add, zI_sub, li0, li1, li2, li3, li4, li5, li6, li7, li8, li9, li10, li11, li12, li13, li14, li15, li16, li17, li18, li19, li20, li21, li22, li23, li24, li25, li26, li27, li28, li29, li30, li31, li32, li33, li34, li35, li36, li37, li40, li42, li43, li45, li47, li48, li57, li59, li60, li61, li62, li64, li80, li91, li93, li97, li99, li100, li122, li182, li199, li255, li300, li380, li400, li999, li1000, li3640, li4100, li65536, li99999, ln1, ln2, ln3, ln100, ln100000, tLe, fLe, tLt, fLt, tEq, fEq, zLe_t, zLe_f, zLt_t, zLt_f, zEq_t, zEq_f, nzLe_t, nzLe_f, znLe_t, znLe_f, nzLt_t, nzLt_f, znLt_t, znLt_f, nzEq_t, nzEq_f, znEq_t, znEq_f, cS_nth C, e]
        rw [nz t]
        exact cBs_go O C hs ho hl hp f n (t + 1) t (moA ac t) (by omega) (by omega) (by omega) (by omega) (by omega)
def owR (S : sT) (T : aT) (rs : List ruT) (m : Nat) (r : Int) : Nat → Int := fun t => ownT S (goA S (ruF rs r) m (T, fun _ => 0)).1 t (sPart S)
def lkF (S : sT) (T : aT) (l : lgT) (rs : List ruT) (m : Nat) : Nat → Int → List (Nat → Int) → List (Nat → Int)
  | 0, _, ac => ac
  | n + 1, r, ac => if hF S (ruF rs r) l 100 0 (T, fun _ => 0) = true then lkF S T l rs m n (r + 1) (ac ++ [owR S T rs m r]) else lkF S T l rs m n (r + 1) ac
theorem lkF_t {S : sT} {T : aT} {l : lgT} {rs : List ruT} {n m : Nat} {r : Int} {ac : List (Nat → Int)} (h : hF S (ruF rs r) l 100 0 (T, fun _ => 0) = true) : lkF S T l rs m (n + 1) r ac = lkF S T l rs m n (r + 1) (ac ++ [owR S T rs m r]) := by rw [lkF, if_pos h]
theorem lkF_f {S : sT} {T : aT} {l : lgT} {rs : List ruT} {n m : Nat} {r : Int} {ac : List (Nat → Int)} (h : hF S (ruF rs r) l 100 0 (T, fun _ => 0) = false) : lkF S T l rs m (n + 1) r ac = lkF S T l rs m n (r + 1) ac := by rw [lkF, if_neg (by rw [h]; decide)]
theorem owR_b {S : sT} {T : aT} {rs : List ruT} {m : Nat} (O : okS S) (hT : okA S T) (hT0 : T.2.2.1 = 0) (hm : m ≤ 99) (r : Int) {t : Nat} (ht : t < sTh S) : -1 ≤ owR S T rs m r t ∧ owR S T rs m r t < 4 := ownT_b O (okA_go O (ruF rs r) m (T, fun _ => 0) hT (show T.2.2.1 + m < 1000 by omega)).1 ht _
theorem okO_app {S : sT} {ac : List (Nat → Int)} {o : Nat → Int} (h : okO S ac) (ho : ∀ t, t < sTh S → -1 ≤ o t ∧ o t < 4) : okO S (ac ++ [o]) := fun q hq t ht => by
  rcases List.mem_append.mp hq with z | z
  · exact h q z t ht
  · simp at z; subst z; exact ho t ht
section
variable {nn : Nat} {K : Nat → Nat × Nat} {P : Nat → Nat → Nat} {rs : List ruT} {S : sT} {T : aT} {l : lgT} {m : Nat}
theorem cLk_go {e68 : (Nat → Nat → Int32) → (Nat → Nat → Int64) → Int32 → Int32 → Option (Int32 × (Nat → Nat → Int32) × (Nat → Nat → Int64))} {a2 : Int32} (O : okS S) (hlen : rs.length ≤ 6) (hok : ∀ ru ∈ rs, okRu ru) (ps : P 12 0 = 13 ∨ 171 < P 12 0) (ol : okLg S l) (hT : okA S T) (hT0 : T.2.2.1 = 0) (hm : m ≤ 99) : ∀ (f n : Nat) (r : Int) (ac : List (Nat → Int)) (I : Nat → Nat → Int32) (L : Nat → Nat → Int64), n < f → n + r = rs.length → -1 ≤ r → ac.length ≤ r + 1 → cS I (P 12 0) S → cA I L (P 12 0 + 8) S T → ruY nn K P I rs → cLg I l → seeA I S ac → okO S ac → ∃ J M, mX11_look_39 K P e68 f I L (nI m) a2 (nI ac.length) (zI r) = e68 J M a2 (nI (lkF S T l rs m n r ac).length) ∧ (∀ b, b < 92 ∨ 122 < b → J b = I b ∧ M b = L b) ∧ seeA J S (lkF S T l rs m n r ac) ∧ okO S (lkF S T l rs m n r ac) ∧ (lkF S T l rs m n r ac).length ≤ 7
  | 0, n, r, ac, I, L, h1, _, _, _, _, _, _, _, _, _ => absurd h1 (by omega)
  | f + 1, n, r, ac, I, L, h1, h2, h3, h4, C, hC, R, Cl, hs, ho => by
    have r1 := R.1
    rw [mX11_look_39]
    cases n with
    | zero =>
      refine ⟨I, L, ?_, fun _ _ => ⟨rfl, rfl⟩, hs, ho, by show ac.length ≤ 7; omega⟩
      simp (disch := omega) only [↓reduceIte, Option.bind_some, Option.some.injEq, Prod.mk.injEq, and_self, and_true, true_and, eq_self, reduceCtorEq, not_false_eq_true, not_true_eq_false, or_true, true_or, or_false, false_or, bft, nAdd, nMul, nSub, nDiv, nRem, nAm1, nIx, nIn, bI_z, bI_o, ite_b1, ite_b0, zI_add, zI_sub, li0, li1, li2, li3, li4, li5, li6, li7, li8, li9, li10, li11, li12, li13, li14, li15, li16, li17, li18, li19, li20, li21, li22, li23, li24, li25, li26, li27, li28, li29, li30, li31, li32, li33, li34, li35, li36, li37, li40, li42, li43, li45, li47, li48, li57, li59, li60, li61, li62, li64, li80, li91, li93, li97, li99, li100, li122, li182, li199, li255, li300, li380, li400, li999, li1000, li3640, li4100, li65536, li99999, ln1, ln2, ln3, ln100, ln100000, tLe, fLe, tLt, fLt, tEq, fEq, zLe_t, zLe_f, zLt_t, zLt_f, zEq_t, zEq_f, nzLe_t, nzLe_f, znLe_t, znLe_f, nzLt_t, nzLt_f, znLt_t, znLt_f, nzEq_t, nzEq_f, znEq_t, znEq_f, r1]
      rfl
    | succ n =>
      obtain ⟨J1, M1, f1, f2, f3, f4⟩ := fits_ok (nn := nn) (K := K) (P := P) (I := I) (L := L) (T := T) (r := r) (la := m) (row := ac.length) O hlen hok h3 (by omega) ps ol (by omega) (by omega) (by omega) hT hT0 C hC R Cl
      rw [zI_nat] at f1
      have C1 : cS J1 (P 12 0) S := cS_congr (fun b q1 q2 => (f2 b (by omega)).1) C
      have hC1 : cA J1 M1 (P 12 0 + 8) S T := cA_congr (f2 _ (by omega)).1 (f2 _ (by omega)).1 (f2 _ (by omega)).2 hC
      have R1 := ruY_congr (fun b hb => (f2 b hb).1) R
      have Cl1 := cLg_congr (fun b hb => (f2 b hb).1) Cl
      have o1 := O.1
      have hs1 : seeA J1 S ac := fun i o hi t ht => by
        have hil := (List.getElem?_eq_some_iff.mp hi).1
        rw [f3 _ (by omega)]
        exact hs i o hi t ht
      cases hh : hF S (ruF rs r) l 100 0 (T, fun _ => 0) with
      | false =>
        rw [hh] at f1
        rw [lkF_f hh]
        obtain ⟨J, M, u1, u2, u3, u4, u5⟩ := cLk_go (e68 := e68) (a2 := a2) O hlen hok ps ol hT hT0 hm f n (r + 1) ac J1 M1 (by omega) (by omega) (by omega) (by omega) C1 hC1 R1 Cl1 hs1 ho
        refine ⟨J, M, ?_, fun b hb => ⟨((u2 b hb).1).trans (f2 b hb).1, ((u2 b hb).2).trans (f2 b hb).2⟩, u3, u4, u5⟩
        simp (disch := omega) only [↓reduceIte, Option.bind_some, Option.some.injEq, Prod.mk.injEq, and_self, and_true, true_and, eq_self, reduceCtorEq, not_false_eq_true, not_true_eq_false, or_true, true_or, or_false, false_or, bft, nAdd, nMul, nSub, nDiv, nRem, nAm1, nIx, nIn, bI_z, bI_o, ite_b1, ite_b0, zI_add, zI_sub, li0, li1, li2, li3, li4, li5, li6, li7, li8, li9, li10, li11, li12, li13, li14, li15, li16, li17, li18, li19, li20, li21, li22, li23, li24, li25, li26, li27, li28, li29, li30, li31, li32, li33, li34, li35, li36, li37, li40, li42, li43, li45, li47, li48, li57, li59, li60, li61, li62, li64, li80, li91, li93, li97, li99, li100, li122, li182, li199, li255, li300, li380, li400, li999, li1000, li3640, li4100, li65536, li99999, ln1, ln2, ln3, ln100, ln100000, tLe, fLe, tLt, fLt, tEq, fEq, zLe_t, zLe_f, zLt_t, zLt_f, zEq_t, zEq_f, nzLe_t, nzLe_f, znLe_t, znLe_f, nzLt_t, nzLt_f, znLt_t, znLt_f, nzEq_t, nzEq_f, znEq_t, znEq_f, r1, f1, zI_1]
        exact u1
      | true =>
        rw [hh] at f1
        rw [lkF_t hh]
        have hs2 : seeA J1 S (ac ++ [owR S T rs m r]) := fun i o hi t ht => by
          rcases getE_app hi with ⟨q1, q2⟩ | ⟨rfl, rfl⟩
          · exact hs1 i o q2 t ht
          · exact f4 hh m rfl t ht
        have ho2 : okO S (ac ++ [owR S T rs m r]) := okO_app ho (fun t ht => owR_b O hT hT0 hm r ht)
        obtain ⟨J, M, u1, u2, u3, u4, u5⟩ := cLk_go (e68 := e68) (a2 := a2) O hlen hok ps ol hT hT0 hm f n (r + 1) (ac ++ [owR S T rs m r]) J1 M1 (by omega) (by omega) (by omega) (by simp; omega) C1 hC1 R1 Cl1 hs2 ho2
        refine ⟨J, M, ?_, fun b hb => ⟨((u2 b hb).1).trans (f2 b hb).1, ((u2 b hb).2).trans (f2 b hb).2⟩, u3, u4, u5⟩
        rw [List.length_append] at u1
        simp (disch := omega) only [↓reduceIte, Option.bind_some, Option.some.injEq, Prod.mk.injEq, and_self, and_true, true_and, eq_self, reduceCtorEq, not_false_eq_true, not_true_eq_false, or_true, true_or, or_false, false_or, bft, nAdd, nMul, nSub, nDiv, nRem, nAm1, nIx, nIn, bI_z, bI_o, ite_b1, ite_b0, zI_add, zI_sub, li0, li1, li2, li3, li4, li5, li6, li7, li8, li9, li10, li11, li12, li13, li14, li15, li16, li17, li18, li19, li20, li21, li22, li23, li24, li25, li26, li27, li28, li29, li30, li31, li32, li33, li34, li35, li36, li37, li40, li42, li43, li45, li47, li48, li57, li59, li60, li61, li62, li64, li80, li91, li93, li97, li99, li100, li122, li182, li199, li255, li300, li380, li400, li999, li1000, li3640, li4100, li65536, li99999, ln1, ln2, ln3, ln100, ln100000, tLe, fLe, tLt, fLt, tEq, fEq, zLe_t, zLe_f, zLt_t, zLt_f, zEq_t, zEq_f, nzLe_t, nzLe_f, znLe_t, znLe_f, nzLt_t, nzLt_f, znLt_t, znLt_f, nzEq_t, nzEq_f, znEq_t, znEq_f, r1, f1, zI_1]
        exact u1
end
/-- the reference's counts of what was shown -/
def alR (I : Nat → Nat → Int32) (S : sT) (ac : List (Nat → Int)) : Prop := ∀ t, t < sTh S → ∀ v, v < 5 → I 169 (5 * t + v) = nI (cnA ac t ((v : Int) - 1))
theorem inc_go {S : sT} {ac : List (Nat → Int)} {o : Nat → Int} {e129 : (Nat → Nat → Int32) → (Nat → Nat → Int64) → Int32 → Int32 → Int32 → Int32 → Option (Int32 × (Nat → Nat → Int32) × (Nat → Nat → Int64))} {L : Nat → Nat → Int64} {a1 a2 a3 a4 : Int32} (O : okS S) (hob : ∀ t, t < sTh S → -1 ≤ o t ∧ o t < 4) : ∀ (f n t : Nat) (I : Nat → Nat → Int32), n < f → n + t = sTh S → I 124 3 = nI (sTh S) → (∀ u, u < sTh S → I 168 u = zI (o u)) → (∀ u, u < t → ∀ v, v < 5 → I 169 (5 * u + v) = nI (cnA (ac ++ [o]) u ((v : Int) - 1))) → (∀ u, t ≤ u → u < sTh S → ∀ v, v < 5 → I 169 (5 * u + v) = nI (cnA ac u ((v : Int) - 1))) → ∃ J, mX12_look_89 e129 f I L a1 a2 a3 a4 (nI t) = e129 J L a1 a2 a3 a4 ∧ alR J S (ac ++ [o]) ∧ ∀ b, b ≠ 169 → J b = I b
  | 0, n, t, I, h1, _, _, _, _, _ => absurd h1 (by omega)
  | f + 1, n, t, I, h1, h2, h3, h4, h5, h6 => by
    have o1 := O.1
    rw [mX12_look_89]
    cases n with
    | zero =>
      refine ⟨I, ?_, fun u hu v hv => h5 u (by omega) v hv, fun _ _ => rfl⟩
      simp (disch := omega) only [↓reduceIte, Option.bind_some, Option.some.injEq, Prod.mk.injEq, and_self, and_true, true_and, eq_self, reduceCtorEq, not_false_eq_true, not_true_eq_false, or_true, true_or, or_false, false_or, bft, nAdd, nMul, nSub, nDiv, nRem, nAm1, nIx, nIn, bI_z, bI_o, ite_b1, ite_b0, zI_add, zI_sub, li0, li1, li2, li3, li4, li5, li6, li7, li8, li9, li10, li11, li12, li13, li14, li15, li16, li17, li18, li19, li20, li21, li22, li23, li24, li25, li26, li27, li28, li29, li30, li31, li32, li33, li34, li35, li36, li37, li40, li42, li43, li45, li47, li48, li57, li59, li60, li61, li62, li64, li80, li91, li93, li97, li99, li100, li122, li182, li199, li255, li300, li380, li400, li999, li1000, li3640, li4100, li65536, li99999, ln1, ln2, ln3, ln100, ln100000, tLe, fLe, tLt, fLt, tEq, fEq, zLe_t, zLe_f, zLt_t, zLt_f, zEq_t, zEq_f, nzLe_t, nzLe_f, znLe_t, znLe_f, nzLt_t, nzLt_f, znLt_t, znLt_f, nzEq_t, nzEq_f, znEq_t, znEq_f, h3]
    | succ n =>
      have ht : t < sTh S := by omega
      have hb := hob t ht
      obtain ⟨w, hw, ew⟩ : ∃ w : Nat, w < 5 ∧ (w : Int) = o t + 1 := ⟨(o t + 1).toNat, by omega, by omega⟩
      have e168 : nI (5 * t) + zI (o t) + nI 1 = nI (5 * t + w) := by
        rw [nz, nz, zI_add, zI_add, nz]
        congr 1
        omega
      have e169 := h6 t (by omega) ht w hw
      have ecn : cnA ac t ((w : Int) - 1) + 1 = cnA (ac ++ [o]) t ((w : Int) - 1) := by rw [cnA_app, if_pos (by omega)]
      obtain ⟨J, j1, j2, j3⟩ := inc_go (ac := ac) (e129 := e129) (L := L) (a1 := a1) (a2 := a2) (a3 := a3) (a4 := a4) O hob f n (t + 1) (xu I 169 (5 * t + w) (nI (cnA ac t ((w : Int) - 1) + 1))) (by omega) (by omega) (by rw [xu_r (by decide)]; exact h3) (fun u hu => by rw [xu_r (by decide)]; exact h4 u hu) (fun u hu v hv => by
        by_cases q : u = t
        · subst q
          by_cases q2 : v = w
          · subst q2; rw [xu_s, ecn]
          · rw [xu_c (by omega), h6 u (by omega) ht v hv, cnA_app, if_neg (by omega), Nat.add_zero]
        · rw [xu_c (by omega)]; exact h5 u (by omega) v hv) (fun u q1 q2 v hv => by rw [xu_c (by omega)]; exact h6 u (by omega) q2 v hv)
      refine ⟨J, ?_, j2, fun b hb => (j3 b hb).trans (xu_r hb)⟩
      simp (disch := omega) only [↓reduceIte, Option.bind_some, Option.some.injEq, Prod.mk.injEq, and_self, and_true, true_and, eq_self, reduceCtorEq, not_false_eq_true, not_true_eq_false, or_true, true_or, or_false, false_or, bft, nAdd, nMul, nSub, nDiv, nRem, nAm1, nIx, nIn, bI_z, bI_o, ite_b1, ite_b0, zI_add, zI_sub, li0, li1, li2, li3, li4, li5, li6, li7, li8, li9, li10, li11, li12, li13, li14, li15, li16, li17, li18, li19, li20, li21, li22, li23, li24, li25, li26, li27, li28, li29, li30, li31, li32, li33, li34, li35, li36, li37, li40, li42, li43, li45, li47, li48, li57, li59, li60, li61, li62, li64, li80, li91, li93, li97, li99, li100, li122, li182, li199, li255, li300, li380, li400, li999, li1000, li3640, li4100, li65536, li99999, ln1, ln2, ln3, ln100, ln100000, tLe, fLe, tLt, fLt, tEq, fEq, zLe_t, zLe_f, zLt_t, zLt_f, zEq_t, zEq_f, nzLe_t, nzLe_f, znLe_t, znLe_f, nzLt_t, nzLt_f, znLt_t, znLt_f, nzEq_t, nzEq_f, znEq_t, znEq_f, h3, h4 t ht, e168, e169]
      exact j1
section
variable {rs : List ruT} {S : sT} {T : aT} {l : lgT} {m : Nat} {I0 : Nat → Nat → Int32}
theorem rLk_go {e135 : (Nat → Nat → Int32) → (Nat → Nat → Int64) → Int32 → Int32 → Option (Int32 × (Nat → Nat → Int32) × (Nat → Nat → Int64))} {a2 : Int32} (O : okS S) (hlen : rs.length ≤ 6) (hok : ∀ ru ∈ rs, okRu ru) (ol : okLg S l) (hT : okA S T) (hTc : ∀ c, c < sCe S → ∀ x ∈ T.1 c, x / 4 = 1) (hT0 : T.2.2.1 = 0) (hm : m ≤ 99) (R0 : rB I0 S T l rs) : ∀ (f n : Nat) (r : Int) (ac : List (Nat → Int)) (I : Nat → Nat → Int32) (L : Nat → Nat → Int64), n < f → n + r = rs.length → -1 ≤ r → ac.length ≤ r + 1 → f5 I0 I → aR I0 I → sv I0 I → alR I S ac → ∃ J M, mX12_look_64 e135 f I L (nI m) a2 (nI ac.length) (zI r) = e135 J M a2 (nI (lkF S T l rs m n r ac).length) ∧ f5 I0 J ∧ aR I0 J ∧ (∀ b, b ≠ 158 → b ≠ 159 → M b = L b) ∧ alR J S (lkF S T l rs m n r ac)
  | 0, n, r, ac, I, L, h1, _, _, _, _, _, _, _ => absurd h1 (by omega)
  | f + 1, n, r, ac, I, L, h1, h2, h3, h4, hf, ha, hs, hal => by
    have r1 := (rB_of O hT hf ha R0).2.2.2.1
    rw [mX12_look_64]
    cases n with
    | zero =>
      refine ⟨I, L, ?_, hf, ha, fun _ _ _ => rfl, hal⟩
      simp (disch := omega) only [↓reduceIte, Option.bind_some, Option.some.injEq, Prod.mk.injEq, and_self, and_true, true_and, eq_self, reduceCtorEq, not_false_eq_true, not_true_eq_false, or_true, true_or, or_false, false_or, bft, nAdd, nMul, nSub, nDiv, nRem, nAm1, nIx, nIn, bI_z, bI_o, ite_b1, ite_b0, zI_add, zI_sub, li0, li1, li2, li3, li4, li5, li6, li7, li8, li9, li10, li11, li12, li13, li14, li15, li16, li17, li18, li19, li20, li21, li22, li23, li24, li25, li26, li27, li28, li29, li30, li31, li32, li33, li34, li35, li36, li37, li40, li42, li43, li45, li47, li48, li57, li59, li60, li61, li62, li64, li80, li91, li93, li97, li99, li100, li122, li182, li199, li255, li300, li380, li400, li999, li1000, li3640, li4100, li65536, li99999, ln1, ln2, ln3, ln100, ln100000, tLe, fLe, tLt, fLt, tEq, fEq, zLe_t, zLe_f, zLt_t, zLt_f, zEq_t, zEq_f, nzLe_t, nzLe_f, znLe_t, znLe_f, nzLt_t, nzLt_f, znLt_t, znLt_f, nzEq_t, nzEq_f, znEq_t, znEq_f, r1]
      rfl
    | succ n =>
      obtain ⟨H, M1, c1, c2, c3, c4, c5, c6, c7⟩ := could_ok (L := L) (r := r) (la := m) O hT hTc hT0 ol (by omega) (by omega) hlen hok h3 (by omega) R0 hf ha hs
      rw [zI_nat] at c1
      have hal1 : alR H S ac := fun t ht v hv => by rw [c6]; exact hal t ht v hv
      cases hh : hF S (ruF rs r) l 100 0 (T, fun _ => 0) with
      | false =>
        rw [hh] at c1
        rw [lkF_f hh]
        obtain ⟨J, M, u1, u2, u3, u4, u5⟩ := rLk_go (e135 := e135) (a2 := a2) O hlen hok ol hT hTc hT0 hm R0 f n (r + 1) ac H M1 (by omega) (by omega) (by omega) (by omega) c2 c3 c4 hal1
        refine ⟨J, M, ?_, u2, u3, fun b q1 q2 => (u4 b q1 q2).trans (c5 b q1 q2), u5⟩
        simp (disch := omega) only [↓reduceIte, Option.bind_some, Option.some.injEq, Prod.mk.injEq, and_self, and_true, true_and, eq_self, reduceCtorEq, not_false_eq_true, not_true_eq_false, or_true, true_or, or_false, false_or, bft, nAdd, nMul, nSub, nDiv, nRem, nAm1, nIx, nIn, bI_z, bI_o, ite_b1, ite_b0, zI_add, zI_sub, li0, li1, li2, li3, li4, li5, li6, li7, li8, li9, li10, li11, li12, li13, li14, li15, li16, li17, li18, li19, li20, li21, li22, li23, li24, li25, li26, li27, li28, li29, li30, li31, li32, li33, li34, li35, li36, li37, li40, li42, li43, li45, li47, li48, li57, li59, li60, li61, li62, li64, li80, li91, li93, li97, li99, li100, li122, li182, li199, li255, li300, li380, li400, li999, li1000, li3640, li4100, li65536, li99999, ln1, ln2, ln3, ln100, ln100000, tLe, fLe, tLt, fLt, tEq, fEq, zLe_t, zLe_f, zLt_t, zLt_f, zEq_t, zEq_f, nzLe_t, nzLe_f, znLe_t, znLe_f, nzLt_t, nzLt_f, znLt_t, znLt_f, nzEq_t, nzEq_f, znEq_t, znEq_f, r1, c1, zI_1]
        exact u1
      | true =>
        rw [hh] at c1
        rw [lkF_t hh]
        have o1 := O.1
        obtain ⟨J1, p1, p2, p3⟩ := inc_go (ac := ac) (o := owR S T rs m r) (e129 := fun I_23 L_23 a1_23 a2_23 a3_23 a4_23 => (mX12_look_64 e135 f I_23 L_23 a1_23 a2_23 a3_23 (a4_23 + 1))) (L := M1) (a1 := nI m) (a2 := a2) (a3 := nI (ac.length + 1)) (a4 := zI r) O (fun t ht => owR_b O hT hT0 hm r ht) xf (sTh S) 0 H (by unfold xf; omega) (by omega) (rSn_th (rB_of O hT c2 c3 R0).1) (fun u hu => c7 m rfl u hu) (fun u hu => absurd hu (by omega)) (fun u _ hu v hv => hal1 u hu v hv)
        have f2 : f5 I0 J1 := fun q i q1 q2 => by rw [p3 q (by unfold fv at q1; omega)]; exact c2 q i q1 q2
        have a2' : aR I0 J1 := aR_trans c3 ⟨fun b i q1 q2 q3 _ => by rw [p3 b (by omega)], fun j _ => by rw [p3 170 (by decide)]⟩
        have s2 : sv I0 J1 := fun q i q1 q2 => by rw [p3 170 (by decide)]; exact c4 q i q1 q2
        obtain ⟨J, M, u1, u2, u3, u4, u5⟩ := rLk_go (e135 := e135) (a2 := a2) O hlen hok ol hT hTc hT0 hm R0 f n (r + 1) (ac ++ [owR S T rs m r]) J1 M1 (by omega) (by omega) (by omega) (by simp; omega) f2 a2' s2 p2
        refine ⟨J, M, ?_, u2, u3, fun b q1 q2 => (u4 b q1 q2).trans (c5 b q1 q2), u5⟩
        rw [List.length_append] at u1
        rw [← u1, r1, if_neg (fun z => absurd (nz rs.length ▸ z) (by rw [zI_le (by omega) (by omega) (by omega) (by omega)]; omega)), c1, Option.bind_some, if_neg (show ¬ bI true = 0 by decide)]
        change mX12_look_89 _ xf H M1 (nI m) a2 (nI ac.length + nI 1) (zI r) (nI 0) = _
        rw [nAdd, p1]
        show mX12_look_64 e135 f J1 M1 (nI m) a2 (nI (ac.length + 1)) (zI r + nI 1) = _
        rw [zI_1]
        rfl
theorem mo_go {ac : List (Nat → Int)} {e213 : (Nat → Nat → Int32) → (Nat → Nat → Int64) → Int32 → Int32 → Int32 → Int32 → Int32 → Int32 → Option (Int32 × (Nat → Nat → Int32) × (Nat → Nat → Int64))} {I : Nat → Nat → Int32} {L : Nat → Nat → Int64} {a2 a3 a4 a5 : Int32} {t : Nat} (O : okS S) (ht : t < sTh S) (hl : ac.length ≤ 7) (hal : alR I S ac) : mX12_look_170 e213 xf I L a2 a3 a4 a5 (nI t) (nI 0) (nI (5 * t)) = e213 I L a2 a3 a4 a5 (nI t) (nI (moA ac t)) := by
  have o1 := O.1
  have c0 := cnA_le ac t (-1)
  have c1 := cnA_le ac t 0
  have c2 := cnA_le ac t 1
  have c3 := cnA_le ac t 2
  have c4 := cnA_le ac t 3
  have step : ∀ (f : Nat) (v : Nat) (c x : Nat), v < 5 → I 169 (5 * t + v) = nI c → c ≤ 7 → x ≤ 7 → mX12_look_170 e213 (f + 1) I L a2 a3 a4 a5 (nI t) (nI x) (nI (5 * t + v)) = mX12_look_170 e213 f I L a2 a3 a4 a5 (nI t) (nI (max x c)) (nI (5 * t + (v + 1))) := fun f v c x hv he hc hx => by
    rw [mX12_look_170]
    by_cases q : c ≤ x
    · rw [Nat.max_eq_left q]
      simp (disch := omega) only [↓reduceIte, Option.bind_some, Option.some.injEq, Prod.mk.injEq, and_self, and_true, true_and, eq_self, reduceCtorEq, not_false_eq_true, not_true_eq_false, or_true, true_or, or_false, false_or, bft, nAdd, nMul, nSub, nDiv, nRem, nAm1, nIx, nIn, bI_z, bI_o, ite_b1, ite_b0, zI_add, zI_sub, li0, li1, li2, li3, li4, li5, li6, li7, li8, li9, li10, li11, li12, li13, li14, li15, li16, li17, li18, li19, li20, li21, li22, li23, li24, li25, li26, li27, li28, li29, li30, li31, li32, li33, li34, li35, li36, li37, li40, li42, li43, li45, li47, li48, li57, li59, li60, li61, li62, li64, li80, li91, li93, li97, li99, li100, li122, li182, li199, li255, li300, li380, li400, li999, li1000, li3640, li4100, li65536, li99999, ln1, ln2, ln3, ln100, ln100000, tLe, fLe, tLt, fLt, tEq, fEq, zLe_t, zLe_f, zLt_t, zLt_f, zEq_t, zEq_f, nzLe_t, nzLe_f, znLe_t, znLe_f, nzLt_t, nzLt_f, znLt_t, znLt_f, nzEq_t, nzEq_f, znEq_t, znEq_f, he]
      rfl
    · rw [Nat.max_eq_right (by omega)]
      simp (disch := omega) only [↓reduceIte, Option.bind_some, Option.some.injEq, Prod.mk.injEq, and_self, and_true, true_and, eq_self, reduceCtorEq, not_false_eq_true, not_true_eq_false, or_true, true_or, or_false, false_or, bft, nAdd, nMul, nSub, nDiv, nRem, nAm1, nIx, nIn, bI_z, bI_o, ite_b1, ite_b0, zI_add, zI_sub, li0, li1, li2, li3, li4, li5, li6, li7, li8, li9, li10, li11, li12, li13, li14, li15, li16, li17, li18, li19, li20, li21, li22, li23, li24, li25, li26, li27, li28, li29, li30, li31, li32, li33, li34, li35, li36, li37, li40, li42, li43, li45, li47, li48, li57, li59, li60, li61, li62, li64, li80, li91, li93, li97, li99, li100, li122, li182, li199, li255, li300, li380, li400, li999, li1000, li3640, li4100, li65536, li99999, ln1, ln2, ln3, ln100, ln100000, tLe, fLe, tLt, fLt, tEq, fEq, zLe_t, zLe_f, zLt_t, zLt_f, zEq_t, zEq_f, nzLe_t, nzLe_f, znLe_t, znLe_f, nzLt_t, nzLt_f, znLt_t, znLt_f, nzEq_t, nzEq_f, znEq_t, znEq_f, he]
      rfl
  have e0 : I 169 (5 * t + 0) = nI (cnA ac t (-1)) := hal t ht 0 (by decide)
  have e1 : I 169 (5 * t + 1) = nI (cnA ac t 0) := hal t ht 1 (by decide)
  have e2 : I 169 (5 * t + 2) = nI (cnA ac t 1) := hal t ht 2 (by decide)
  have e3 : I 169 (5 * t + 3) = nI (cnA ac t 2) := hal t ht 3 (by decide)
  have e4 : I 169 (5 * t + 4) = nI (cnA ac t 3) := hal t ht 4 (by decide)
  have main : ∀ g, mX12_look_170 e213 (g + 6) I L a2 a3 a4 a5 (nI t) (nI 0) (nI (5 * t)) = e213 I L a2 a3 a4 a5 (nI t) (nI (moA ac t)) := fun g => by
    refine (step (g + 5) 0 _ 0 (by decide) e0 (by omega) (by omega)).trans ((step (g + 4) 1 _ _ (by decide) e1 (by omega) (by omega)).trans ((step (g + 3) 2 _ _ (by decide) e2 (by omega) (by omega)).trans ((step (g + 2) 3 _ _ (by decide) e3 (by omega) (by omega)).trans ((step (g + 1) 4 _ _ (by decide) e4 (by omega) (by omega)).trans ?_))))
    rw [mX12_look_170]
    simp (disch := omega) only [↓reduceIte, Option.bind_some, Option.some.injEq, Prod.mk.injEq, and_self, and_true, true_and, eq_self, reduceCtorEq, not_false_eq_true, not_true_eq_false, or_true, true_or, or_false, false_or, bft, nAdd, nMul, nSub, nDiv, nRem, nAm1, nIx, nIn, bI_z, bI_o, ite_b1, ite_b0, zI_add, zI_sub, li0, li1, li2, li3, li4, li5, li6, li7, li8, li9, li10, li11, li12, li13, li14, li15, li16, li17, li18, li19, li20, li21, li22, li23, li24, li25, li26, li27, li28, li29, li30, li31, li32, li33, li34, li35, li36, li37, li40, li42, li43, li45, li47, li48, li57, li59, li60, li61, li62, li64, li80, li91, li93, li97, li99, li100, li122, li182, li199, li255, li300, li380, li400, li999, li1000, li3640, li4100, li65536, li99999, ln1, ln2, ln3, ln100, ln100000, tLe, fLe, tLt, fLt, tEq, fEq, zLe_t, zLe_f, zLt_t, zLt_f, zEq_t, zEq_f, nzLe_t, nzLe_f, znLe_t, znLe_f, nzLt_t, nzLt_f, znLt_t, znLt_f, nzEq_t, nzEq_f, znEq_t, znEq_f]
    rfl
  exact main 999994
theorem rBs_go {ac : List (Nat → Int)} {I : Nat → Nat → Int32} {L : Nat → Nat → Int64} {p : Nat} (O : okS S) (R : rSn I S) (hl : ac.length ≤ 7) (hl0 : 0 < ac.length) (hp : p ≤ 1) (hal : alR I S ac) : ∀ (f n t : Nat) (b : Int) (mm : Nat), n < f → n + t = sTh S → -2 ≤ b → b < 4 → mm ≤ 8 → (b = -2 → mm = 8) → mX12_look_146 f I L (nI p) (nI ac.length) (zI b) (if b = -2 then zI (-2) else nI mm) (nI t) = some (if (bsF ac n t b mm).1 = -2 then zI (-2) else if p = 0 then zI (bsF ac n t b mm).1 else nI (bsF ac n t b mm).2, I, L)
  | 0, n, t, b, mm, h1, _, _, _, _, _ => absurd h1 (by omega)
  | f + 1, n, t, b, mm, h1, h2, h3, h4, h5, h6 => by
    have o1 := O.1
    rw [mX12_look_146]
    cases n with
    | zero =>
      rw [bsF]
      by_cases q : b = -2
      · rcases (show p = 0 ∨ p = 1 by omega) with rfl | rfl
        · simp (disch := omega) only [↓reduceIte, Option.bind_some, Option.some.injEq, Prod.mk.injEq, and_self, and_true, true_and, eq_self, reduceCtorEq, not_false_eq_true, not_true_eq_false, or_true, true_or, or_false, false_or, bft, nAdd, nMul, nSub, nDiv, nRem, nAm1, nIx, nIn, bI_z, bI_o, ite_b1, ite_b0, zI_add, zI_sub, li0, li1, li2, li3, li4, li5, li6, li7, li8, li9, li10, li11, li12, li13, li14, li15, li16, li17, li18, li19, li20, li21, li22, li23, li24, li25, li26, li27, li28, li29, li30, li31, li32, li33, li34, li35, li36, li37, li40, li42, li43, li45, li47, li48, li57, li59, li60, li61, li62, li64, li80, li91, li93, li97, li99, li100, li122, li182, li199, li255, li300, li380, li400, li999, li1000, li3640, li4100, li65536, li99999, ln1, ln2, ln3, ln100, ln100000, tLe, fLe, tLt, fLt, tEq, fEq, zLe_t, zLe_f, zLt_t, zLt_f, zEq_t, zEq_f, nzLe_t, nzLe_f, znLe_t, znLe_f, nzLt_t, nzLt_f, znLt_t, znLt_f, nzEq_t, nzEq_f, znEq_t, znEq_f, rSn_th R, q]
        · simp (disch := omega) only [↓reduceIte, Option.bind_some, Option.some.injEq, Prod.mk.injEq, and_self, and_true, true_and, eq_self, reduceCtorEq, not_false_eq_true, not_true_eq_false, or_true, true_or, or_false, false_or, bft, nAdd, nMul, nSub, nDiv, nRem, nAm1, nIx, nIn, bI_z, bI_o, ite_b1, ite_b0, zI_add, zI_sub, li0, li1, li2, li3, li4, li5, li6, li7, li8, li9, li10, li11, li12, li13, li14, li15, li16, li17, li18, li19, li20, li21, li22, li23, li24, li25, li26, li27, li28, li29, li30, li31, li32, li33, li34, li35, li36, li37, li40, li42, li43, li45, li47, li48, li57, li59, li60, li61, li62, li64, li80, li91, li93, li97, li99, li100, li122, li182, li199, li255, li300, li380, li400, li999, li1000, li3640, li4100, li65536, li99999, ln1, ln2, ln3, ln100, ln100000, tLe, fLe, tLt, fLt, tEq, fEq, zLe_t, zLe_f, zLt_t, zLt_f, zEq_t, zEq_f, nzLe_t, nzLe_f, znLe_t, znLe_f, nzLt_t, nzLt_f, znLt_t, znLt_f, nzEq_t, nzEq_f, znEq_t, znEq_f, rSn_th R, q]
      · rcases (show p = 0 ∨ p = 1 by omega) with rfl | rfl
        · simp (disch := omega) only [↓reduceIte, Option.bind_some, Option.some.injEq, Prod.mk.injEq, and_self, and_true, true_and, eq_self, reduceCtorEq, not_false_eq_true, not_true_eq_false, or_true, true_or, or_false, false_or, bft, nAdd, nMul, nSub, nDiv, nRem, nAm1, nIx, nIn, bI_z, bI_o, ite_b1, ite_b0, zI_add, zI_sub, li0, li1, li2, li3, li4, li5, li6, li7, li8, li9, li10, li11, li12, li13, li14, li15, li16, li17, li18, li19, li20, li21, li22, li23, li24, li25, li26, li27, li28, li29, li30, li31, li32, li33, li34, li35, li36, li37, li40, li42, li43, li45, li47, li48, li57, li59, li60, li61, li62, li64, li80, li91, li93, li97, li99, li100, li122, li182, li199, li255, li300, li380, li400, li999, li1000, li3640, li4100, li65536, li99999, ln1, ln2, ln3, ln100, ln100000, tLe, fLe, tLt, fLt, tEq, fEq, zLe_t, zLe_f, zLt_t, zLt_f, zEq_t, zEq_f, nzLe_t, nzLe_f, znLe_t, znLe_f, nzLt_t, nzLt_f, znLt_t, znLt_f, nzEq_t, nzEq_f, znEq_t, znEq_f, rSn_th R, q]
        · simp (disch := omega) only [↓reduceIte, Option.bind_some, Option.some.injEq, Prod.mk.injEq, and_self, and_true, true_and, eq_self, reduceCtorEq, not_false_eq_true, not_true_eq_false, or_true, true_or, or_false, false_or, bft, nAdd, nMul, nSub, nDiv, nRem, nAm1, nIx, nIn, bI_z, bI_o, ite_b1, ite_b0, zI_add, zI_sub, li0, li1, li2, li3, li4, li5, li6, li7, li8, li9, li10, li11, li12, li13, li14, li15, li16, li17, li18, li19, li20, li21, li22, li23, li24, li25, li26, li27, li28, li29, li30, li31, li32, li33, li34, li35, li36, li37, li40, li42, li43, li45, li47, li48, li57, li59, li60, li61, li62, li64, li80, li91, li93, li97, li99, li100, li122, li182, li199, li255, li300, li380, li400, li999, li1000, li3640, li4100, li65536, li99999, ln1, ln2, ln3, ln100, ln100000, tLe, fLe, tLt, fLt, tEq, fEq, zLe_t, zLe_f, zLt_t, zLt_f, zEq_t, zEq_f, nzLe_t, nzLe_f, znLe_t, znLe_f, nzLt_t, nzLt_f, znLt_t, znLt_f, nzEq_t, nzEq_f, znEq_t, znEq_f, rSn_th R, q]
          try rfl
    | succ n =>
      have ht : t < sTh S := by omega
      have hm := moA_le ac t
      have e := mo_go (ac := ac) (e213 := fun I_33 L_33 a2_33 a3_33 a4_33 a5_33 a6_33 a7_33 => (if a4_33 = (-2 : Int32) then (mX12_look_146 f I_33 L_33 a2_33 a3_33 a6_33 a7_33 (a6_33 + 1)) else (if a5_33 ≤ a7_33 then (mX12_look_146 f I_33 L_33 a2_33 a3_33 a4_33 a5_33 (a6_33 + 1)) else (mX12_look_146 f I_33 L_33 a2_33 a3_33 a6_33 a7_33 (a6_33 + 1))))) (L := L) (a2 := nI p) (a3 := nI ac.length) (a4 := zI b) (a5 := if b = -2 then zI (-2) else nI mm) O ht hl hal
      rw [rSn_th R, if_neg (fun z => absurd ((nLe (by omega) (by omega)).mp z) (by omega)), if_neg (show ¬ nI ac.length ≤ 0 from fun z => absurd ((nLe (a := ac.length) (b := 0) (by omega) (by decide)).mp z) (by omega))]
      change mX12_look_170 _ xf I L _ _ _ _ (nI t) (nI 0) (nI 5 * nI t) = _
      rw [nMul, e, nI_1]
      have up := rBs_go (L := L) O R hl hl0 hp hal f n (t + 1) t (moA ac t) (by omega) (by omega) (by omega) (by omega) (by omega) (fun c => absurd c (by omega))
      rw [if_neg (show ¬ ((t : Nat) : Int) = -2 by omega), zI_nat] at up
      by_cases q : b = -2
      · have hm8 := h6 q
        rw [if_pos (show zI b = -2 by rw [q]; decide +kernel), bsF_u (by omega)]
        exact up
      · have nb : ¬ zI b = -2 := by rw [show (-2 : Int32) = zI (-2) by decide +kernel, zI_eq (by omega) (by omega) (by omega) (by omega)]; exact q
        rw [if_neg nb, if_neg q]
        by_cases z : mm ≤ moA ac t
        · rw [if_pos ((nLe (by omega) (by omega)).mpr z), bsF_k z]
          have keep := rBs_go (L := L) O R hl hl0 hp hal f n (t + 1) b mm (by omega) (by omega) h3 h4 h5 h6
          rw [if_neg q] at keep
          exact keep
        · rw [if_neg (fun c => z ((nLe (by omega) (by omega)).mp c)), bsF_u z]
          exact up
end
theorem zero_go' {e55 : (Nat → Nat → Int32) → (Nat → Nat → Int64) → Int32 → Int32 → Option (Int32 × (Nat → Nat → Int32) × (Nat → Nat → Int64))} {L : Nat → Nat → Int64} {a1 a2 : Int32} : ∀ (f m k : Nat) (I : Nat → Nat → Int32), m < f → m + k = 20 → ∃ J, mX12_look_33 e55 f I L a1 a2 (nI k) = e55 J L a1 a2 ∧ (∀ i, k ≤ i → i < 20 → J 169 i = nI 0) ∧ (∀ i, i < k → J 169 i = I 169 i) ∧ ∀ b, b ≠ 169 → J b = I b
  | 0, m, k, I, h1, _ => absurd h1 (by omega)
  | f + 1, m, k, I, h1, h2 => by
    rw [mX12_look_33]
    cases m with
    | zero =>
      refine ⟨I, ?_, fun i q1 q2 => absurd q2 (by omega), fun _ _ => rfl, fun _ _ => rfl⟩
      simp (disch := omega) only [↓reduceIte, Option.bind_some, Option.some.injEq, Prod.mk.injEq, and_self, and_true, true_and, eq_self, reduceCtorEq, not_false_eq_true, not_true_eq_false, or_true, true_or, or_false, false_or, bft, nAdd, nMul, nSub, nDiv, nRem, nAm1, nIx, nIn, bI_z, bI_o, ite_b1, ite_b0, zI_add, zI_sub, li0, li1, li2, li3, li4, li5, li6, li7, li8, li9, li10, li11, li12, li13, li14, li15, li16, li17, li18, li19, li20, li21, li22, li23, li24, li25, li26, li27, li28, li29, li30, li31, li32, li33, li34, li35, li36, li37, li40, li42, li43, li45, li47, li48, li57, li59, li60, li61, li62, li64, li80, li91, li93, li97, li99, li100, li122, li182, li199, li255, li300, li380, li400, li999, li1000, li3640, li4100, li65536, li99999, ln1, ln2, ln3, ln100, ln100000, tLe, fLe, tLt, fLt, tEq, fEq, zLe_t, zLe_f, zLt_t, zLt_f, zEq_t, zEq_f, nzLe_t, nzLe_f, znLe_t, znLe_f, nzLt_t, nzLt_f, znLt_t, znLt_f, nzEq_t, nzEq_f, znEq_t, znEq_f]
    | succ m =>
      obtain ⟨J, j1, j2, j3, j4⟩ := zero_go' (e55 := e55) (L := L) (a1 := a1) (a2 := a2) f m (k + 1) (xu I 169 k (nI 0)) (by omega) (by omega)
      refine ⟨J, ?_, fun i q1 q2 => ?_, fun i q => by rw [j3 i (by omega), xu_c (by omega)], fun b hb => (j4 b hb).trans (xu_r hb)⟩
      · simp (disch := omega) only [↓reduceIte, Option.bind_some, Option.some.injEq, Prod.mk.injEq, and_self, and_true, true_and, eq_self, reduceCtorEq, not_false_eq_true, not_true_eq_false, or_true, true_or, or_false, false_or, bft, nAdd, nMul, nSub, nDiv, nRem, nAm1, nIx, nIn, bI_z, bI_o, ite_b1, ite_b0, zI_add, zI_sub, li0, li1, li2, li3, li4, li5, li6, li7, li8, li9, li10, li11, li12, li13, li14, li15, li16, li17, li18, li19, li20, li21, li22, li23, li24, li25, li26, li27, li28, li29, li30, li31, li32, li33, li34, li35, li36, li37, li40, li42, li43, li45, li47, li48, li57, li59, li60, li61, li62, li64, li80, li91, li93, li97, li99, li100, li122, li182, li199, li255, li300, li380, li400, li999, li1000, li3640, li4100, li65536, li99999, ln1, ln2, ln3, ln100, ln100000, tLe, fLe, tLt, fLt, tEq, fEq, zLe_t, zLe_f, zLt_t, zLt_f, zEq_t, zEq_f, nzLe_t, nzLe_f, znLe_t, znLe_f, nzLt_t, nzLt_f, znLt_t, znLt_f, nzEq_t, nzEq_f, znEq_t, znEq_f]
        exact j1
      · by_cases w : i = k
        · subst w; rw [j3 i (by omega), xu_s]
        · exact j2 i (by omega) q2
theorem zero_go {e55 : (Nat → Nat → Int32) → (Nat → Nat → Int64) → Int32 → Int32 → Option (Int32 × (Nat → Nat → Int32) × (Nat → Nat → Int64))} {L : Nat → Nat → Int64} {a1 a2 : Int32} : ∀ (f m k : Nat) (I : Nat → Nat → Int32), m < f → m + k = 20 → ∃ J, mX12_look_33 e55 f I L a1 a2 (nI k) = e55 J L a1 a2 ∧ (∀ i, k ≤ i → i < 20 → J 169 i = nI 0) ∧ ∀ b, b ≠ 169 → J b = I b
  | 0, m, k, I, h1, _ => absurd h1 (by omega)
  | f + 1, m, k, I, h1, h2 => by
    rw [mX12_look_33]
    cases m with
    | zero =>
      refine ⟨I, ?_, fun i q1 q2 => absurd q2 (by omega), fun _ _ => rfl⟩
      simp (disch := omega) only [↓reduceIte, Option.bind_some, Option.some.injEq, Prod.mk.injEq, and_self, and_true, true_and, eq_self, reduceCtorEq, not_false_eq_true, not_true_eq_false, or_true, true_or, or_false, false_or, bft, nAdd, nMul, nSub, nDiv, nRem, nAm1, nIx, nIn, bI_z, bI_o, ite_b1, ite_b0, zI_add, zI_sub, li0, li1, li2, li3, li4, li5, li6, li7, li8, li9, li10, li11, li12, li13, li14, li15, li16, li17, li18, li19, li20, li21, li22, li23, li24, li25, li26, li27, li28, li29, li30, li31, li32, li33, li34, li35, li36, li37, li40, li42, li43, li45, li47, li48, li57, li59, li60, li61, li62, li64, li80, li91, li93, li97, li99, li100, li122, li182, li199, li255, li300, li380, li400, li999, li1000, li3640, li4100, li65536, li99999, ln1, ln2, ln3, ln100, ln100000, tLe, fLe, tLt, fLt, tEq, fEq, zLe_t, zLe_f, zLt_t, zLt_f, zEq_t, zEq_f, nzLe_t, nzLe_f, znLe_t, znLe_f, nzLt_t, nzLt_f, znLt_t, znLt_f, nzEq_t, nzEq_f, znEq_t, znEq_f]
    | succ m =>
      obtain ⟨J, j1, j2, j3, j4⟩ := zero_go' (e55 := e55) (L := L) (a1 := a1) (a2 := a2) f m (k + 1) (xu I 169 k (nI 0)) (by omega) (by omega)
      refine ⟨J, ?_, fun i q1 q2 => ?_, fun b hb => (j4 b hb).trans (xu_r hb)⟩
      · simp (disch := omega) only [↓reduceIte, Option.bind_some, Option.some.injEq, Prod.mk.injEq, and_self, and_true, true_and, eq_self, reduceCtorEq, not_false_eq_true, not_true_eq_false, or_true, true_or, or_false, false_or, bft, nAdd, nMul, nSub, nDiv, nRem, nAm1, nIx, nIn, bI_z, bI_o, ite_b1, ite_b0, zI_add, zI_sub, li0, li1, li2, li3, li4, li5, li6, li7, li8, li9, li10, li11, li12, li13, li14, li15, li16, li17, li18, li19, li20, li21, li22, li23, li24, li25, li26, li27, li28, li29, li30, li31, li32, li33, li34, li35, li36, li37, li40, li42, li43, li45, li47, li48, li57, li59, li60, li61, li62, li64, li80, li91, li93, li97, li99, li100, li122, li182, li199, li255, li300, li380, li400, li999, li1000, li3640, li4100, li65536, li99999, ln1, ln2, ln3, ln100, ln100000, tLe, fLe, tLt, fLt, tEq, fEq, zLe_t, zLe_f, zLt_t, zLt_f, zEq_t, zEq_f, nzLe_t, nzLe_f, znLe_t, znLe_f, nzLt_t, nzLt_f, znLt_t, znLt_f, nzEq_t, nzEq_f, znEq_t, znEq_f]
        exact j1
      · by_cases w : i = k
        · subst w; rw [j3 i (by omega), xu_s]
        · exact j2 i (by omega) q2
theorem q_look {k : Nat} (hk : k < 512) : st_look (Inv k) (Inv (k + 1)) := by
  intro h x y hI
  obtain ⟨n, K, P, I, L⟩ := h
  obtain ⟨⟨G, F⟩, Z, ok, C, R⟩ := id hI
  change RI I Z at R
  have O := okZ_S ok
  have o1 := O.1
  have hA := okZ_A ok
  have hh := okZ_h ok
  have cs := CI_S C
  have ca := CI_A C
  have rs := RI_S R
  have ra := RI_A R
  generalize hS : wS (zW Z) = S at O o1 hA cs ca rs ra
  generalize hAA : wA (zW Z) = A at hA hh ca ra
  have pl := CI_p C
  have hf := ok.1.2.2.2.2.2.2
  have hrl := ok.2.2.1
  have hX := CI_ruX C
  have hro : ∀ J, J 124 12 = I 124 12 → (∀ b, 150 ≤ b → b ≤ 156 → J b = I b) → rRo J (ruF (zR Z) (wF (zW Z))) := fun J h1 h2 => rRo_of hrl.1 hrl.2 (h1.trans R.1.2.2.2.2.2.2) (fun r ru hr => rR_congr (fun b h3 h4 => h2 b (by omega) h4) (R.2.2.1.2 r ru hr)) hf.1 hf.2
  have no : mX11_look K P I L x y = some (-1, I, L) → mX12_look I L x y = some (-1, I, L) → ∃ r h1 h2, oX_look (n, K, P, I, L) x y = some (r, h1) ∧ GW h1.2.1 h1.2.2.1 ∧ oM_look h1 x y = some (r, h2) ∧ Inv (k + 1) h2 := fun a b => ⟨-1, (n, K, P, I, L), (n, K, P, I, L), by unfold oX_look; simp only [a]; rfl, G, by unfold oM_look; simp only [b]; rfl, Inv_q hI (fun _ _ => rfl)⟩
  have es := rIsStreet_ok rs O
  have x1 := isWn x 0 99
  have x2 := rInW (lo := 0) (hi := 99) (by decide) (by decide) x
  change mX12_in x.toInt64 (0 : Int64) (99 : Int64) = _ at x2
  have w1 := isWn y 0 1
  have w2 := rInW (lo := 0) (hi := 1) (by decide) (by decide) y
  change mX12_in y.toInt64 (0 : Int64) (1 : Int64) = _ at w2
  by_cases hd : 0 < sDry S
  · rw [decide_eq_true hd] at es
    rcases wiC (lo := 0) (hi := 99) (by decide) (by decide) x with hx | ⟨m, -, hm, rfl⟩
    · refine no ?_ ?_
      · unfold mX11_look; simp (disch := omega) only [↓reduceIte, Option.bind_some, Option.some.injEq, Prod.mk.injEq, and_self, and_true, true_and, eq_self, reduceCtorEq, not_false_eq_true, not_true_eq_false, or_true, true_or, or_false, false_or, bft, nAdd, nMul, nSub, nDiv, nRem, nAm1, nIx, nIn, bI_z, bI_o, ite_b1, ite_b0, zI_add, zI_sub, li0, li1, li2, li3, li4, li5, li6, li7, li8, li9, li10, li11, li12, li13, li14, li15, li16, li17, li18, li19, li20, li21, li22, li23, li24, li25, li26, li27, li28, li29, li30, li31, li32, li33, li34, li35, li36, li37, li40, li42, li43, li45, li47, li48, li57, li59, li60, li61, li62, li64, li80, li91, li93, li97, li99, li100, li122, li182, li199, li255, li300, li380, li400, li999, li1000, li3640, li4100, li65536, li99999, ln1, ln2, ln3, ln100, ln100000, tLe, fLe, tLt, fLt, tEq, fEq, zLe_t, zLe_f, zLt_t, zLt_f, zEq_t, zEq_f, nzLe_t, nzLe_f, znLe_t, znLe_f, nzLt_t, nzLt_f, znLt_t, znLt_f, nzEq_t, nzEq_f, znEq_t, znEq_f, cS_told cs, decide_eq_true hd, x1, hx]
      · unfold mX12_look; simp (disch := omega) only [↓reduceIte, Option.bind_some, Option.some.injEq, Prod.mk.injEq, and_self, and_true, true_and, eq_self, reduceCtorEq, not_false_eq_true, not_true_eq_false, or_true, true_or, or_false, false_or, bft, nAdd, nMul, nSub, nDiv, nRem, nAm1, nIx, nIn, bI_z, bI_o, ite_b1, ite_b0, zI_add, zI_sub, li0, li1, li2, li3, li4, li5, li6, li7, li8, li9, li10, li11, li12, li13, li14, li15, li16, li17, li18, li19, li20, li21, li22, li23, li24, li25, li26, li27, li28, li29, li30, li31, li32, li33, li34, li35, li36, li37, li40, li42, li43, li45, li47, li48, li57, li59, li60, li61, li62, li64, li80, li91, li93, li97, li99, li100, li122, li182, li199, li255, li300, li380, li400, li999, li1000, li3640, li4100, li65536, li99999, ln1, ln2, ln3, ln100, ln100000, tLe, fLe, tLt, fLt, tEq, fEq, zLe_t, zLe_f, zLt_t, zLt_f, zEq_t, zEq_f, nzLe_t, nzLe_f, znLe_t, znLe_f, nzLt_t, nzLt_f, znLt_t, znLt_f, nzEq_t, nzEq_f, znEq_t, znEq_f, es, x2, hx]
    rw [wiB_t (by omega) hm (by omega)] at x1 x2
    rcases wiC (lo := 0) (hi := 1) (by decide) (by decide) y with hy | ⟨p, -, hp, rfl⟩
    · refine no ?_ ?_
      · unfold mX11_look; simp (disch := omega) only [↓reduceIte, Option.bind_some, Option.some.injEq, Prod.mk.injEq, and_self, and_true, true_and, eq_self, reduceCtorEq, not_false_eq_true, not_true_eq_false, or_true, true_or, or_false, false_or, bft, nAdd, nMul, nSub, nDiv, nRem, nAm1, nIx, nIn, bI_z, bI_o, ite_b1, ite_b0, zI_add, zI_sub, li0, li1, li2, li3, li4, li5, li6, li7, li8, li9, li10, li11, li12, li13, li14, li15, li16, li17, li18, li19, li20, li21, li22, li23, li24, li25, li26, li27, li28, li29, li30, li31, li32, li33, li34, li35, li36, li37, li40, li42, li43, li45, li47, li48, li57, li59, li60, li61, li62, li64, li80, li91, li93, li97, li99, li100, li122, li182, li199, li255, li300, li380, li400, li999, li1000, li3640, li4100, li65536, li99999, ln1, ln2, ln3, ln100, ln100000, tLe, fLe, tLt, fLt, tEq, fEq, zLe_t, zLe_f, zLt_t, zLt_f, zEq_t, zEq_f, nzLe_t, nzLe_f, znLe_t, znLe_f, nzLt_t, nzLt_f, znLt_t, znLt_f, nzEq_t, nzEq_f, znEq_t, znEq_f, cS_told cs, decide_eq_true hd, x1, w1, hy]
      · unfold mX12_look; simp (disch := omega) only [↓reduceIte, Option.bind_some, Option.some.injEq, Prod.mk.injEq, and_self, and_true, true_and, eq_self, reduceCtorEq, not_false_eq_true, not_true_eq_false, or_true, true_or, or_false, false_or, bft, nAdd, nMul, nSub, nDiv, nRem, nAm1, nIx, nIn, bI_z, bI_o, ite_b1, ite_b0, zI_add, zI_sub, li0, li1, li2, li3, li4, li5, li6, li7, li8, li9, li10, li11, li12, li13, li14, li15, li16, li17, li18, li19, li20, li21, li22, li23, li24, li25, li26, li27, li28, li29, li30, li31, li32, li33, li34, li35, li36, li37, li40, li42, li43, li45, li47, li48, li57, li59, li60, li61, li62, li64, li80, li91, li93, li97, li99, li100, li122, li182, li199, li255, li300, li380, li400, li999, li1000, li3640, li4100, li65536, li99999, ln1, ln2, ln3, ln100, ln100000, tLe, fLe, tLt, fLt, tEq, fEq, zLe_t, zLe_f, zLt_t, zLt_f, zEq_t, zEq_f, nzLe_t, nzLe_f, znLe_t, znLe_f, nzLt_t, nzLt_f, znLt_t, znLt_f, nzEq_t, nzEq_f, znEq_t, znEq_f, es, x2, w2, hy]
    rw [wiB_t (by omega) hp (by omega)] at w1 w2
    have oT := ok.1.2.1
    have oL := ok.1.2.2.2.2.1
    have cT : cA I L (P 12 0 + 8) (wS (zW Z)) (wT0 (zW Z)) := C.1.1.1.2
    have cL : cLg I (wL (zW Z)) := C.1.1.2.2.2.1
    rw [hS] at oT cT
    have oL' : okLg S (wL (zW Z)) := by rw [← hS]; exact oL
    obtain ⟨J, M, t1, t2, t3, t4, t5⟩ := cLk_go (nn := n) (K := K) (P := P) (m := m) (e68 := fun I_12 L_12 a2_12 a3_12 => (if a3_12 = 0 then (some ((-2 : Int32), I_12, L_12)) else (mX11_look_86 K P xf I_12 L_12 a2_12 a3_12 (-2 : Int32) (8 : Int32) (0 : Int32)))) (a2 := nI p) O hrl.1 hrl.2 pl oL' oT.1 oT.2.2 hm xf ((zR Z).length + 1) (-1) [] I L (by unfold xf; omega) (by omega) (by decide) (by simp) cs cT ⟨hX.2.1, hX.2.2⟩ cL (fun i o hi => by simp at hi) (fun o ho => by simp at ho)
    have hJ : ∀ b, b < 92 ∨ 122 < b → J b = I b ∧ M b = L b := t2
    have csJ : cS J (P 12 0) S := cS_congr (fun b q1 q2 => (hJ b (by omega)).1) cs
    have R0 : RI J Z := RI_cls ok (fun b h1 h2 => (hJ b (by omega)).1) R
    have rsJ : rSn J S := by rw [← hS]; exact R0.1.1
    have es3 := rIsStreet_ok rsJ O
    rw [decide_eq_true hd] at es3
    have RB : rB J S (wT0 (zW Z)) (wL (zW Z)) (zR Z) := ⟨rsJ, by rw [← hS]; exact R0.1.2.2.1, R0.1.2.2.2.2.1, R0.2.2.1⟩
    -- the reference clears its counts
    obtain ⟨J0, z1, z2, z3⟩ := zero_go (L := M) (a1 := nI m) (a2 := nI p) (e55 := fun I_12 L_12 a1_12 a2_12 => (Option.bind (mX12_keepsAll I_12) (fun q13 => (mX12_look_64 (fun I_24 L_24 a2_24 a3_24 => (mX12_look_146 xf I_24 L_24 a2_24 a3_24 (-2 : Int32) (-2 : Int32) (0 : Int32))) xf q13 L_12 a1_12 a2_12 (0 : Int32) (-1 : Int32))))) xf 20 0 J (by unfold xf; omega) (by omega)
    have f0 : f5 J J0 := fun r i q1 _ => by rw [z3 r (by unfold fv at q1; omega)]
    have a0 : aR J J0 := ⟨fun b i q1 q2 q3 _ => by rw [z3 b (by omega)], fun j _ => by rw [z3 170 (by decide)]⟩
    obtain ⟨H0, k1, k2, k3, k4, k5⟩ := keepsAll_ok J0
    have k6 : f5 J0 H0 := fun r i h1 h2 => k5 r i (by unfold fv at h1; omega) (by unfold fv at h1; omega) (Or.inl (by unfold fv at h1; omega))
    have al0 : alR H0 S [] := fun t ht v hv => by
      rw [k5 169 _ (by decide) (by decide) (Or.inl (by decide)), z2 _ (by omega) (by omega)]
      rfl
    obtain ⟨H, M2, u1, u2, u3, u4, u5⟩ := rLk_go (m := m) (e135 := fun I_24 L_24 a2_24 a3_24 => (mX12_look_146 xf I_24 L_24 a2_24 a3_24 (-2 : Int32) (-2 : Int32) (0 : Int32))) (a2 := nI p) (I0 := J) O hrl.1 hrl.2 oL' oT.1 oT.2.1 oT.2.2 hm RB xf ((zR Z).length + 1) (-1) [] H0 M (by unfold xf; omega) (by omega) (by decide) (by simp) (f5_trans f0 k6) (aR_trans a0 k4) (sv_f5 f0 k2) al0
    generalize hac : lkF S (wT0 (zW Z)) (wL (zW Z)) (zR Z) m ((zR Z).length + 1) (-1) [] = ac at t1 t3 t4 t5 u1 u5
    have eX : mX11_look K P I L (nI m) (nI p) = (if nI ac.length = 0 then (some ((-2 : Int32), J, M)) else (mX11_look_86 K P xf J M (nI p) (nI ac.length) (-2 : Int32) (8 : Int32) (0 : Int32))) := by
      unfold mX11_look
      rw [cS_told cs, decide_eq_true hd, if_neg (show ¬ bI true = 0 by decide), show (0 : Int32) = nI 0 from rfl, show (99 : Int32) = nI 99 from rfl, x1, Option.bind_some, if_neg (show ¬ bI true = nI 0 by decide), show (1 : Int32) = nI 1 from rfl, w1, Option.bind_some, if_neg (show ¬ bI true = nI 0 by decide)]
      exact t1
    have eM : mX12_look J M (nI m) (nI p) = mX12_look_146 xf H M2 (nI p) (nI ac.length) (-2 : Int32) (-2 : Int32) (0 : Int32) := by
      unfold mX12_look
      simp only [es3, x2, w2, Option.bind_some]
      rw [if_neg (show ¬ bI true = 0 by decide), if_neg (show ¬ bI true = 0 by decide), if_neg (show ¬ bI true = 0 by decide)]
      change mX12_look_33 _ xf J M (nI m) (nI p) (nI 0) = _
      rw [z1, k1, Option.bind_some]
      exact u1
    have rsH : rSn H S := (rB_of O oT.1 u2 u3 RB).1
    by_cases h0 : ac.length = 0
    · refine ⟨-2, (n, K, P, J, M), (n, K, P, H, M2), ?_, G, ?_, Inv_asked G F ok C R hJ u3 u2 u4⟩
      · unfold oX_look
        simp only [eX, h0]
        rfl
      · unfold oM_look
        simp only [eM, h0]
        rw [xf_s, mX12_look_146]
        rcases (show p = 0 ∨ p = 1 by omega) with rfl | rfl
        · by_cases z : sTh S = 0
          · simp (disch := omega) only [↓reduceIte, Option.bind_some, Option.some.injEq, Prod.mk.injEq, and_self, and_true, true_and, eq_self, reduceCtorEq, not_false_eq_true, not_true_eq_false, or_true, true_or, or_false, false_or, bft, nAdd, nMul, nSub, nDiv, nRem, nAm1, nIx, nIn, bI_z, bI_o, ite_b1, ite_b0, zI_add, zI_sub, li0, li1, li2, li3, li4, li5, li6, li7, li8, li9, li10, li11, li12, li13, li14, li15, li16, li17, li18, li19, li20, li21, li22, li23, li24, li25, li26, li27, li28, li29, li30, li31, li32, li33, li34, li35, li36, li37, li40, li42, li43, li45, li47, li48, li57, li59, li60, li61, li62, li64, li80, li91, li93, li97, li99, li100, li122, li182, li199, li255, li300, li380, li400, li999, li1000, li3640, li4100, li65536, li99999, ln1, ln2, ln3, ln100, ln100000, tLe, fLe, tLt, fLt, tEq, fEq, zLe_t, zLe_f, zLt_t, zLt_f, zEq_t, zEq_f, nzLe_t, nzLe_f, znLe_t, znLe_f, nzLt_t, nzLt_f, znLt_t, znLt_f, nzEq_t, nzEq_f, znEq_t, znEq_f, rSn_th rsH, Option.map_some]
          · simp (disch := omega) only [↓reduceIte, Option.bind_some, Option.some.injEq, Prod.mk.injEq, and_self, and_true, true_and, eq_self, reduceCtorEq, not_false_eq_true, not_true_eq_false, or_true, true_or, or_false, false_or, bft, nAdd, nMul, nSub, nDiv, nRem, nAm1, nIx, nIn, bI_z, bI_o, ite_b1, ite_b0, zI_add, zI_sub, li0, li1, li2, li3, li4, li5, li6, li7, li8, li9, li10, li11, li12, li13, li14, li15, li16, li17, li18, li19, li20, li21, li22, li23, li24, li25, li26, li27, li28, li29, li30, li31, li32, li33, li34, li35, li36, li37, li40, li42, li43, li45, li47, li48, li57, li59, li60, li61, li62, li64, li80, li91, li93, li97, li99, li100, li122, li182, li199, li255, li300, li380, li400, li999, li1000, li3640, li4100, li65536, li99999, ln1, ln2, ln3, ln100, ln100000, tLe, fLe, tLt, fLt, tEq, fEq, zLe_t, zLe_f, zLt_t, zLt_f, zEq_t, zEq_f, nzLe_t, nzLe_f, znLe_t, znLe_f, nzLt_t, nzLt_f, znLt_t, znLt_f, nzEq_t, nzEq_f, znEq_t, znEq_f, rSn_th rsH, Option.map_some]
        · by_cases z : sTh S = 0
          · simp (disch := omega) only [↓reduceIte, Option.bind_some, Option.some.injEq, Prod.mk.injEq, and_self, and_true, true_and, eq_self, reduceCtorEq, not_false_eq_true, not_true_eq_false, or_true, true_or, or_false, false_or, bft, nAdd, nMul, nSub, nDiv, nRem, nAm1, nIx, nIn, bI_z, bI_o, ite_b1, ite_b0, zI_add, zI_sub, li0, li1, li2, li3, li4, li5, li6, li7, li8, li9, li10, li11, li12, li13, li14, li15, li16, li17, li18, li19, li20, li21, li22, li23, li24, li25, li26, li27, li28, li29, li30, li31, li32, li33, li34, li35, li36, li37, li40, li42, li43, li45, li47, li48, li57, li59, li60, li61, li62, li64, li80, li91, li93, li97, li99, li100, li122, li182, li199, li255, li300, li380, li400, li999, li1000, li3640, li4100, li65536, li99999, ln1, ln2, ln3, ln100, ln100000, tLe, fLe, tLt, fLt, tEq, fEq, zLe_t, zLe_f, zLt_t, zLt_f, zEq_t, zEq_f, nzLe_t, nzLe_f, znLe_t, znLe_f, nzLt_t, nzLt_f, znLt_t, znLt_f, nzEq_t, nzEq_f, znEq_t, znEq_f, rSn_th rsH, Option.map_some]
          · simp (disch := omega) only [↓reduceIte, Option.bind_some, Option.some.injEq, Prod.mk.injEq, and_self, and_true, true_and, eq_self, reduceCtorEq, not_false_eq_true, not_true_eq_false, or_true, true_or, or_false, false_or, bft, nAdd, nMul, nSub, nDiv, nRem, nAm1, nIx, nIn, bI_z, bI_o, ite_b1, ite_b0, zI_add, zI_sub, li0, li1, li2, li3, li4, li5, li6, li7, li8, li9, li10, li11, li12, li13, li14, li15, li16, li17, li18, li19, li20, li21, li22, li23, li24, li25, li26, li27, li28, li29, li30, li31, li32, li33, li34, li35, li36, li37, li40, li42, li43, li45, li47, li48, li57, li59, li60, li61, li62, li64, li80, li91, li93, li97, li99, li100, li122, li182, li199, li255, li300, li380, li400, li999, li1000, li3640, li4100, li65536, li99999, ln1, ln2, ln3, ln100, ln100000, tLe, fLe, tLt, fLt, tEq, fEq, zLe_t, zLe_f, zLt_t, zLt_f, zEq_t, zEq_f, nzLe_t, nzLe_f, znLe_t, znLe_f, nzLt_t, nzLt_f, znLt_t, znLt_f, nzEq_t, nzEq_f, znEq_t, znEq_f, rSn_th rsH, Option.map_some]
    · have v1 := cBs_go (K := K) (P := P) (L := M) (p := p) O csJ t3 t4 t5 hp xf (sTh S) 0 (-2) 8 (by unfold xf; omega) (by omega) (by decide) (by decide) (by decide)
      have v2 := rBs_go (L := M2) (p := p) O rsH t5 (by omega) hp u5 xf (sTh S) 0 (-2) 8 (by unfold xf; omega) (by omega) (by decide) (by decide) (by decide) (fun _ => rfl)
      rw [if_pos rfl] at v2
      refine ⟨(if (bsF ac (sTh S) 0 (-2) 8).1 = -2 then zI (-2) else if p = 0 then zI (bsF ac (sTh S) 0 (-2) 8).1 else nI (bsF ac (sTh S) 0 (-2) 8).2), (n, K, P, J, M), (n, K, P, H, M2), ?_, G, ?_, Inv_asked G F ok C R hJ u3 u2 u4⟩
      · unfold oX_look
        simp only [eX]
        rw [if_neg (show ¬ nI ac.length = 0 from fun z => absurd ((nEq (a := ac.length) (b := 0) (by omega) (by decide)).mp z) h0)]
        exact congrArg (Option.map _) v1
      · unfold oM_look
        simp only [eM]
        exact congrArg (Option.map _) v2
  · rw [decide_eq_false hd] at es
    refine no ?_ ?_
    · unfold mX11_look; simp (disch := omega) only [↓reduceIte, Option.bind_some, Option.some.injEq, Prod.mk.injEq, and_self, and_true, true_and, eq_self, reduceCtorEq, not_false_eq_true, not_true_eq_false, or_true, true_or, or_false, false_or, bft, nAdd, nMul, nSub, nDiv, nRem, nAm1, nIx, nIn, bI_z, bI_o, ite_b1, ite_b0, zI_add, zI_sub, li0, li1, li2, li3, li4, li5, li6, li7, li8, li9, li10, li11, li12, li13, li14, li15, li16, li17, li18, li19, li20, li21, li22, li23, li24, li25, li26, li27, li28, li29, li30, li31, li32, li33, li34, li35, li36, li37, li40, li42, li43, li45, li47, li48, li57, li59, li60, li61, li62, li64, li80, li91, li93, li97, li99, li100, li122, li182, li199, li255, li300, li380, li400, li999, li1000, li3640, li4100, li65536, li99999, ln1, ln2, ln3, ln100, ln100000, tLe, fLe, tLt, fLt, tEq, fEq, zLe_t, zLe_f, zLt_t, zLt_f, zEq_t, zEq_f, nzLe_t, nzLe_f, znLe_t, znLe_f, nzLt_t, nzLt_f, znLt_t, znLt_f, nzEq_t, nzEq_f, znEq_t, znEq_f, cS_told cs, decide_eq_false hd]
    · unfold mX12_look; simp (disch := omega) only [↓reduceIte, Option.bind_some, Option.some.injEq, Prod.mk.injEq, and_self, and_true, true_and, eq_self, reduceCtorEq, not_false_eq_true, not_true_eq_false, or_true, true_or, or_false, false_or, bft, nAdd, nMul, nSub, nDiv, nRem, nAm1, nIx, nIn, bI_z, bI_o, ite_b1, ite_b0, zI_add, zI_sub, li0, li1, li2, li3, li4, li5, li6, li7, li8, li9, li10, li11, li12, li13, li14, li15, li16, li17, li18, li19, li20, li21, li22, li23, li24, li25, li26, li27, li28, li29, li30, li31, li32, li33, li34, li35, li36, li37, li40, li42, li43, li45, li47, li48, li57, li59, li60, li61, li62, li64, li80, li91, li93, li97, li99, li100, li122, li182, li199, li255, li300, li380, li400, li999, li1000, li3640, li4100, li65536, li99999, ln1, ln2, ln3, ln100, ln100000, tLe, fLe, tLt, fLt, tEq, fEq, zLe_t, zLe_f, zLt_t, zLt_f, zEq_t, zEq_f, nzLe_t, nzLe_f, znLe_t, znLe_f, nzLt_t, nzLt_f, znLt_t, znLt_f, nzEq_t, nzEq_f, znEq_t, znEq_f, es]

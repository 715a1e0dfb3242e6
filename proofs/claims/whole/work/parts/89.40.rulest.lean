/-! rule: the reference's reader, one step of a test. -/
def rep (m x : Nat) : List Nat := List.replicate m x
def ntop (w : Nat) (s : List Nat) : Prop := ∀ y t, s = y :: t → y ≠ w
theorem rep_len (m x : Nat) : (rep m x).length = m := List.length_replicate
theorem rep_0 (x : Nat) : rep 0 x = [] := rfl
theorem rep_s (m x : Nat) : rep (m + 1) x = x :: rep m x := rfl
theorem rep_s' (m x : Nat) : rep (m + 1) x = rep m x ++ [x] := List.replicate_succ'
theorem ntop_rep {w v a : Nat} {s : List Nat} (h : v ≠ w) (hs : ntop w s) : ntop w (rep a v ++ s) := by
  cases a with
  | zero => exact hs
  | succ a =>
    intro y t e
    rw [rep_s, List.cons_append] at e
    injection e with e1 e2
    omega
theorem ntop_cons {w v : Nat} {s : List Nat} (h : v ≠ w) : ntop w (v :: s) := fun y t e => by injection e with e1 e2; omega
theorem ntop_nil {w : Nat} : ntop w [] := fun y t e => by cases e
section
variable {T : txT} {I J H : Nat → Nat → Int32} {p q c r f d : Nat} {cd s : List Nat}
theorem rC_push {x y h : Nat} (C : rC I r c cd) : rC (xu (xu (xu I 123 33 (nI y)) 157 h (nI x)) 123 35 (nI (h + 1))) r c cd := by
  obtain ⟨⟨c0, c36⟩, c1, c2, c3⟩ := C
  refine ⟨⟨?_, ?_⟩, ?_, ?_, fun i x hx => ?_⟩
  · rw [xu_c (by decide), xu_r (by decide), xu_c (by decide)]; exact c0
  · rw [xu_c (by decide), xu_r (by decide), xu_c (by decide)]; exact c36
  · rw [xu_c (by decide), xu_r (by decide), xu_c (by decide)]; exact c1
  · rw [xu_c (by decide), xu_r (by decide), xu_c (by decide)]; exact c2
  · rw [xu_r (b := 151) (by decide), xu_r (b := 151) (by decide), xu_r (b := 151) (by decide), xu_r (b := 152) (by decide), xu_r (b := 152) (by decide), xu_r (b := 152) (by decide)]; exact c3 i x hx
theorem frT_push {x y h : Nat} : frT r I (xu (xu (xu I 123 33 (nI y)) 157 h (nI x)) 123 35 (nI (h + 1))) := fun b k h1 h2 h3 => by rw [xu_off (by omega), xu_r h3, xu_off (by omega)]
theorem open_ok {w : Nat} (hw : w = 9 ∨ w = 12) (C : rC I r c cd) (S : sK I d s) (hd : d < 10) (hl : s.length < 402) : ∃ J, mX12_opens (rP I p 0) (nI w) = some (rP J p 0) ∧ rC J r c cd ∧ sK J (d + 1) (w :: s) ∧ frT r I J := by
  refine ⟨_, ?_, rC_push (x := w) (y := d + 1) (h := s.length) C, sK_push S, frT_push⟩
  have s1 := S.1
  have s2 := S.2.1
  unfold mX12_opens mX12_opens_12 mX12_opens_30 mX12_opens_40
  rcases hw with rfl | rfl
  · simp (disch := omega) only [↓reduceIte, Option.bind_some, Option.some.injEq, Prod.mk.injEq, and_self, and_true, true_and, eq_self, reduceCtorEq, not_false_eq_true, not_true_eq_false, or_true, true_or, or_false, false_or, bft, nAdd, nMul, nSub, nDiv, nRem, nAm1, nIx, nIn, bI_z, bI_o, ite_b1, ite_b0, zI_add, zI_sub, li0, li1, li2, li3, li4, li5, li6, li7, li8, li9, li10, li11, li12, li13, li14, li15, li16, li17, li18, li19, li20, li21, li22, li23, li24, li25, li26, li27, li28, li29, li30, li31, li32, li33, li34, li35, li36, li37, li40, li42, li43, li45, li47, li48, li57, li59, li60, li61, li62, li64, li80, li91, li93, li97, li99, li100, li122, li182, li199, li255, li300, li380, li400, li999, li1000, li3640, li4100, li65536, li99999, ln1, ln2, ln3, ln100, ln100000, tLe, fLe, tLt, fLt, tEq, fEq, zLe_t, zLe_f, zLt_t, zLt_f, zEq_t, zEq_f, nzLe_t, nzLe_f, znLe_t, znLe_f, nzLt_t, nzLt_f, znLt_t, znLt_f, nzEq_t, nzEq_f, znEq_t, znEq_f, xu_s, xu_r, xu_c, xrow_at, xrow_r, rP_o, rP_xu, s1, s2]
  · simp (disch := omega) only [↓reduceIte, Option.bind_some, Option.some.injEq, Prod.mk.injEq, and_self, and_true, true_and, eq_self, reduceCtorEq, not_false_eq_true, not_true_eq_false, or_true, true_or, or_false, false_or, bft, nAdd, nMul, nSub, nDiv, nRem, nAm1, nIx, nIn, bI_z, bI_o, ite_b1, ite_b0, zI_add, zI_sub, li0, li1, li2, li3, li4, li5, li6, li7, li8, li9, li10, li11, li12, li13, li14, li15, li16, li17, li18, li19, li20, li21, li22, li23, li24, li25, li26, li27, li28, li29, li30, li31, li32, li33, li34, li35, li36, li37, li40, li42, li43, li45, li47, li48, li57, li59, li60, li61, li62, li64, li80, li91, li93, li97, li99, li100, li122, li182, li199, li255, li300, li380, li400, li999, li1000, li3640, li4100, li65536, li99999, ln1, ln2, ln3, ln100, ln100000, tLe, fLe, tLt, fLt, tEq, fEq, zLe_t, zLe_f, zLt_t, zLt_f, zEq_t, zEq_f, nzLe_t, nzLe_f, znLe_t, znLe_f, nzLt_t, nzLt_f, znLt_t, znLt_f, nzEq_t, nzEq_f, znEq_t, znEq_f, xu_s, xu_r, xu_c, xrow_at, xrow_r, rP_o, rP_xu, s1, s2]
theorem open_e {w : Nat} (hw : w = 9 ∨ w = 12) (S : sK I 10 s) (hl : s.length < 402) (hp : p < 1000) : ∃ J, mX12_opens (rP I p 0) (nI w) = some (rP J p (1 + 8 * p + 2)) ∧ frT r I J := by
  refine ⟨_, ?_, frT_push (x := w) (y := 11) (h := s.length)⟩
  have s1 := S.1
  have s2 := S.2.1
  have fa := fails_ok (I := I) (p := p) (f := 0) (k := 2) (a := p) (by omega) (by omega) hp
  rw [fl_e] at fa
  unfold mX12_opens mX12_opens_12 mX12_opens_30 mX12_opens_40
  rcases hw with rfl | rfl
  · simp (disch := omega) only [↓reduceIte, Option.bind_some, Option.some.injEq, Prod.mk.injEq, and_self, and_true, true_and, eq_self, reduceCtorEq, not_false_eq_true, not_true_eq_false, or_true, true_or, or_false, false_or, bft, nAdd, nMul, nSub, nDiv, nRem, nAm1, nIx, nIn, bI_z, bI_o, ite_b1, ite_b0, zI_add, zI_sub, li0, li1, li2, li3, li4, li5, li6, li7, li8, li9, li10, li11, li12, li13, li14, li15, li16, li17, li18, li19, li20, li21, li22, li23, li24, li25, li26, li27, li28, li29, li30, li31, li32, li33, li34, li35, li36, li37, li40, li42, li43, li45, li47, li48, li57, li59, li60, li61, li62, li64, li80, li91, li93, li97, li99, li100, li122, li182, li199, li255, li300, li380, li400, li999, li1000, li3640, li4100, li65536, li99999, ln1, ln2, ln3, ln100, ln100000, tLe, fLe, tLt, fLt, tEq, fEq, zLe_t, zLe_f, zLt_t, zLt_f, zEq_t, zEq_f, nzLe_t, nzLe_f, znLe_t, znLe_f, nzLt_t, nzLt_f, znLt_t, znLt_f, nzEq_t, nzEq_f, znEq_t, znEq_f, xu_s, xu_r, xu_c, xrow_at, xrow_r, rP_o, rP_28, rP_xu, s1, s2, fa]
  · simp (disch := omega) only [↓reduceIte, Option.bind_some, Option.some.injEq, Prod.mk.injEq, and_self, and_true, true_and, eq_self, reduceCtorEq, not_false_eq_true, not_true_eq_false, or_true, true_or, or_false, false_or, bft, nAdd, nMul, nSub, nDiv, nRem, nAm1, nIx, nIn, bI_z, bI_o, ite_b1, ite_b0, zI_add, zI_sub, li0, li1, li2, li3, li4, li5, li6, li7, li8, li9, li10, li11, li12, li13, li14, li15, li16, li17, li18, li19, li20, li21, li22, li23, li24, li25, li26, li27, li28, li29, li30, li31, li32, li33, li34, li35, li36, li37, li40, li42, li43, li45, li47, li48, li57, li59, li60, li61, li62, li64, li80, li91, li93, li97, li99, li100, li122, li182, li199, li255, li300, li380, li400, li999, li1000, li3640, li4100, li65536, li99999, ln1, ln2, ln3, ln100, ln100000, tLe, fLe, tLt, fLt, tEq, fEq, zLe_t, zLe_f, zLt_t, zLt_f, zEq_t, zEq_f, nzLe_t, nzLe_f, znLe_t, znLe_f, nzLt_t, nzLt_f, znLt_t, znLt_f, nzEq_t, nzEq_f, znEq_t, znEq_f, xu_s, xu_r, xu_c, xrow_at, xrow_r, rP_o, rP_28, rP_xu, s1, s2, fa]
theorem open_2 {w : Nat} (hw : w = 10 ∨ w = 11) (C : rC I r c cd) (S : sK I d s) (hl : s.length < 402) : ∃ J, mX12_opens (rP I p 0) (nI w) = some (rP J p 0) ∧ rC J r c cd ∧ sK J d (w :: s) ∧ frT r I J := by
  refine ⟨_, ?_, rC_push (x := w) (y := d) (h := s.length) C, sK_push S, frT_push⟩
  have s1 := S.1
  have s2 := S.2.1
  have e : xu I 123 33 (nI d) = I := by rw [← s2]; exact xu_id _ _ _
  rw [e]
  unfold mX12_opens mX12_opens_12 mX12_opens_40
  rcases hw with rfl | rfl
  · simp (disch := omega) only [↓reduceIte, Option.bind_some, Option.some.injEq, Prod.mk.injEq, and_self, and_true, true_and, eq_self, reduceCtorEq, not_false_eq_true, not_true_eq_false, or_true, true_or, or_false, false_or, bft, nAdd, nMul, nSub, nDiv, nRem, nAm1, nIx, nIn, bI_z, bI_o, ite_b1, ite_b0, zI_add, zI_sub, li0, li1, li2, li3, li4, li5, li6, li7, li8, li9, li10, li11, li12, li13, li14, li15, li16, li17, li18, li19, li20, li21, li22, li23, li24, li25, li26, li27, li28, li29, li30, li31, li32, li33, li34, li35, li36, li37, li40, li42, li43, li45, li47, li48, li57, li59, li60, li61, li62, li64, li80, li91, li93, li97, li99, li100, li122, li182, li199, li255, li300, li380, li400, li999, li1000, li3640, li4100, li65536, li99999, ln1, ln2, ln3, ln100, ln100000, tLe, fLe, tLt, fLt, tEq, fEq, zLe_t, zLe_f, zLt_t, zLt_f, zEq_t, zEq_f, nzLe_t, nzLe_f, znLe_t, znLe_f, nzLt_t, nzLt_f, znLt_t, znLt_f, nzEq_t, nzEq_f, znEq_t, znEq_f, xu_s, xu_r, xu_c, xrow_at, xrow_r, rP_o, rP_xu, s1, s2]
  · simp (disch := omega) only [↓reduceIte, Option.bind_some, Option.some.injEq, Prod.mk.injEq, and_self, and_true, true_and, eq_self, reduceCtorEq, not_false_eq_true, not_true_eq_false, or_true, true_or, or_false, false_or, bft, nAdd, nMul, nSub, nDiv, nRem, nAm1, nIx, nIn, bI_z, bI_o, ite_b1, ite_b0, zI_add, zI_sub, li0, li1, li2, li3, li4, li5, li6, li7, li8, li9, li10, li11, li12, li13, li14, li15, li16, li17, li18, li19, li20, li21, li22, li23, li24, li25, li26, li27, li28, li29, li30, li31, li32, li33, li34, li35, li36, li37, li40, li42, li43, li45, li47, li48, li57, li59, li60, li61, li62, li64, li80, li91, li93, li97, li99, li100, li122, li182, li199, li255, li300, li380, li400, li999, li1000, li3640, li4100, li65536, li99999, ln1, ln2, ln3, ln100, ln100000, tLe, fLe, tLt, fLt, tEq, fEq, zLe_t, zLe_f, zLt_t, zLt_f, zEq_t, zEq_f, nzLe_t, nzLe_f, znLe_t, znLe_f, nzLt_t, nzLt_f, znLt_t, znLt_f, nzEq_t, nzEq_f, znEq_t, znEq_f, xu_s, xu_r, xu_c, xrow_at, xrow_r, rP_o, rP_xu, s1, s2]
theorem top_ne {w : Nat} (S : sK I d s) (h : ntop w s) (hl : s.length < 402) (hb : ∀ y ∈ s, y < 100) (hw : w < 100) : ∃ v, mX12_top (rP I p f) = some v ∧ ¬ v = nI w := by
  cases s with
  | nil => exact ⟨-1, sK_top0 S, fun z => absurd z.symm (nNe1 (by omega))⟩
  | cons y t =>
    have hy := hb y List.mem_cons_self
    rw [List.length_cons] at hl
    exact ⟨nI y, sK_top S (by omega), nNeL (b := w) rfl (by omega) (by omega) (h y t rfl)⟩
def dn (w m d : Nat) : Nat := if w = 9 then d - m else d
theorem ansS_go {w x : Nat} (hr : r < 6) (hw : (w = 9 ∧ x = 21) ∨ (w = 10 ∧ x = 19) ∨ (w = 11 ∧ x = 20)) (hs : ntop w s) (hb : ∀ y ∈ s, y < 100) : ∀ (m g d : Nat) (cd : List Nat) (I : Nat → Nat → Int32), m < g → sK I d (rep m w ++ s) → rC I r c cd → (w = 9 → m ≤ d) → cd.length + m < 300 → m + s.length < 402 → d < 1000 → ∃ J, mX12_answers_0 g (rP I p 0) (nI w) = some (rP J p 0) ∧ rC J r c (cd ++ rep m x) ∧ sK J (dn w m d) s ∧ frT r I J
  | m, 0, d, cd, I, h, _, _, _, _, _, _ => absurd h (by omega)
  | 0, g + 1, d, cd, I, h1, S, C, h4, h5, h6, h7 => by
    obtain ⟨v, t1, t2⟩ := top_ne (p := p) (f := 0) S hs (by rw [rep_0, List.nil_append]; omega) hb (by omega)
    refine ⟨I, ?_, by rw [rep_0, List.append_nil]; exact C, by unfold dn; rw [Nat.sub_zero, ite_self]; exact S, frT_rfl⟩
    rw [mX12_answers_0, t1, Option.bind_some, if_neg t2]
  | m + 1, g + 1, d, cd, I, h1, S, C, h4, h5, h6, h7 => by
    rw [rep_s, List.cons_append] at S
    have tp := sK_top (p := p) (f := 0) S (by rw [List.length_append, rep_len]; omega)
    have hso : sortOf x = w ∧ numOf x = 0 := by
      rcases hw with ⟨rfl, rfl⟩ | ⟨rfl, rfl⟩ | ⟨rfl, rfl⟩ <;> exact ⟨rfl, rfl⟩
    obtain ⟨K, e1, e2, e3⟩ := entry_ok (p := p) (x := x) C hr (by omega)
    rw [hso.1, hso.2] at e1
    have SK := sK_B e3 S
    have hd2 : (if w = 9 then d - 1 else d) = dn w 1 d := rfl
    obtain ⟨J, j1, j2, j3, j4⟩ := ansS_go hr hw hs hb m g (dn w 1 d) (cd ++ [x]) (xu (xu K 123 35 (nI (rep m w ++ s).length)) 123 33 (nI (dn w 1 d))) (by omega) (sK_pop SK) (rC_K e2) (fun e => by have := h4 e; unfold dn; rw [if_pos e]; omega) (by rw [List.length_append]; simp only [List.length_cons, List.length_nil]; omega) (by omega) (by unfold dn; split <;> omega)
    refine ⟨J, ?_, by rw [show cd ++ rep (m + 1) x = cd ++ [x] ++ rep m x by rw [rep_s]; simp]; exact j2, ?_, frT_tr (frT_tr (frT_B e3) (fun b k z1 z2 z3 => by rw [xu_off (by omega), xu_off (by omega)])) j4⟩
    · rw [mX12_answers_0, tp, Option.bind_some, if_pos rfl, if_pos (show rP I p 0 123 29 = (0 : Int32) from rP_29)]
      change Option.bind (mX12_entry (rP I p 0) (nI w) (nI 0)) _ = _
      rw [e1, Option.bind_some]
      have k35 := SK.1
      have k33 := SK.2.1
      rw [List.length_cons] at k35
      have dl : (rep m w ++ s).length < 1000 := by rw [List.length_append, rep_len]; omega
      generalize (rep m w ++ s).length = n at *
      by_cases e9 : w = 9
      · subst e9
        have h10 := h4 rfl
        rw [if_pos (show nI 9 = (9 : Int32) from rfl), ← j1]
        congr 1
        unfold dn
        rw [if_pos rfl]
        simp (disch := omega) only [↓reduceIte, Option.bind_some, Option.some.injEq, Prod.mk.injEq, and_self, and_true, true_and, eq_self, reduceCtorEq, not_false_eq_true, not_true_eq_false, or_true, true_or, or_false, false_or, bft, nAdd, nMul, nSub, nDiv, nRem, nAm1, nIx, nIn, bI_z, bI_o, ite_b1, ite_b0, zI_add, zI_sub, li0, li1, li2, li3, li4, li5, li6, li7, li8, li9, li10, li11, li12, li13, li14, li15, li16, li17, li18, li19, li20, li21, li22, li23, li24, li25, li26, li27, li28, li29, li30, li31, li32, li33, li34, li35, li36, li37, li40, li42, li43, li45, li47, li48, li57, li59, li60, li61, li62, li64, li80, li91, li93, li97, li99, li100, li122, li182, li199, li255, li300, li380, li400, li999, li1000, li3640, li4100, li65536, li99999, ln1, ln2, ln3, ln100, ln100000, tLe, fLe, tLt, fLt, tEq, fEq, zLe_t, zLe_f, zLt_t, zLt_f, zEq_t, zEq_f, nzLe_t, nzLe_f, znLe_t, znLe_f, nzLt_t, nzLt_f, znLt_t, znLt_f, nzEq_t, nzEq_f, znEq_t, znEq_f, xu_s, xu_r, xu_c, xrow_at, xrow_r, rP_o, rP_xu, k35, k33, Nat.add_sub_cancel]
      · rw [if_neg (nNeL (x := 9) (b := 9) rfl (by omega) (by omega) e9), ← j1]
        congr 1
        unfold dn
        rw [if_neg e9]
        simp (disch := omega) only [↓reduceIte, Option.bind_some, Option.some.injEq, Prod.mk.injEq, and_self, and_true, true_and, eq_self, reduceCtorEq, not_false_eq_true, not_true_eq_false, or_true, true_or, or_false, false_or, bft, nAdd, nMul, nSub, nDiv, nRem, nAm1, nIx, nIn, bI_z, bI_o, ite_b1, ite_b0, zI_add, zI_sub, li0, li1, li2, li3, li4, li5, li6, li7, li8, li9, li10, li11, li12, li13, li14, li15, li16, li17, li18, li19, li20, li21, li22, li23, li24, li25, li26, li27, li28, li29, li30, li31, li32, li33, li34, li35, li36, li37, li40, li42, li43, li45, li47, li48, li57, li59, li60, li61, li62, li64, li80, li91, li93, li97, li99, li100, li122, li182, li199, li255, li300, li380, li400, li999, li1000, li3640, li4100, li65536, li99999, ln1, ln2, ln3, ln100, ln100000, tLe, fLe, tLt, fLt, tEq, fEq, zLe_t, zLe_f, zLt_t, zLt_f, zEq_t, zEq_f, nzLe_t, nzLe_f, znLe_t, znLe_f, nzLt_t, nzLt_f, znLt_t, znLt_f, nzEq_t, nzEq_f, znEq_t, znEq_f, xu_s, xu_r, xu_c, xrow_at, xrow_r, rP_o, rP_xu, k35, k33, Nat.add_sub_cancel, Nat.sub_zero]
    · rw [show dn w (m + 1) d = dn w m (dn w 1 d) by unfold dn; split <;> omega]
      exact j3
def stp (n : Nat) (I : Nat → Nat → Int32) (a : Nat) (J : Nat → Nat → Int32) (b : Nat) : Prop := ∀ fu, mX12_test_9 (fu + n) I (nI a) (nI 1) = mX12_test_9 fu J (nI b) (nI 1)
theorem stp_tr {n m a b e : Nat} (h1 : stp n I a J b) (h2 : stp m J b H e) : stp (m + n) I a H e := fun fu => by
  rw [← Nat.add_assoc, h1 (fu + m), h2 fu]
theorem ansS_ok {w x m : Nat} (hr : r < 6) (hw : (w = 9 ∧ x = 21) ∨ (w = 10 ∧ x = 19) ∨ (w = 11 ∧ x = 20)) (hs : ntop w s) (hb : ∀ y ∈ s, y < 100) (S : sK I d (rep m w ++ s)) (C : rC I r c cd) (h4 : w = 9 → m ≤ d) (h5 : cd.length + m < 300) (h6 : m + s.length < 402) (h7 : d < 1000) : ∃ J, mX12_answers (rP I p 0) (nI w) = some (rP J p 0) ∧ rC J r c (cd ++ rep m x) ∧ sK J (dn w m d) s ∧ frT r I J := ansS_go hr hw hs hb m xf d cd I (by unfold xf; omega) S C h4 h5 h6 h7
/-- what each step behind a fact begins with: denials and ands end -/
theorem t9_pre {a m : Nat} (ok : okT T) (hr : r < 6) (hx : txR I T) (hp : p ≤ T.2) (hq : sk T p = q) (hs9 : ntop 9 s) (hs10 : ntop 10 s) (hb : ∀ y ∈ s, y < 100) (S : sK I (d + m) (rep m 9 ++ (rep a 10 ++ s))) (C : rC I r c cd) (h5 : cd.length + m + a < 300) (h6 : m + a + s.length < 402) (h7 : d + m < 1000) (ha : a ≤ 1) : ∃ K, rC K r c (cd ++ rep m 21 ++ rep a 19) ∧ sK K d s ∧ frT r I K ∧ ∀ fu, mX12_test_9 (fu + 1) (rP I p 0) (nI 0) (nI 1) = (if bI (decide (kd T q = 19)) = 0 then (if bI (decide (kd T q = 20)) = 0 then (Option.bind (mX12_answers (rP K q 0) (11 : Int32)) (fun q23 => (Option.bind (mX12_top q23) (fun q25 => (if q25 = (12 : Int32) then (Option.bind (mX12_sign q23) (fun q28 => (if q28 = (93 : Int32) then (mX12_test_164 (fun (I : Nat → Nat → Int32) (a1 : Int32) (a2 : Int32) => mX12_test_9  fu I a1 a2) q23 (nI 0) (nI 1)) else (Option.bind (mX12_fails q23 (0 : Int32) (q23 123 28)) (fun q31 => (mX12_test_164 (fun (I : Nat → Nat → Int32) (a1 : Int32) (a2 : Int32) => mX12_test_9  fu I a1 a2) q31 (nI 0) (nI 1))))))) else (mX12_test_9 fu q23 (nI 0) (0 : Int32))))))) else (mX12_test_82 (fun (I : Nat → Nat → Int32) (a1 : Int32) (a2 : Int32) => mX12_test_9  fu I a1 a2) (rP K q 0) (nI 1) (bI (decide (kd T q = 19))) (bI (decide (kd T q = 20))))) else (mX12_test_82 (fun (I : Nat → Nat → Int32) (a1 : Int32) (a2 : Int32) => mX12_test_9  fu I a1 a2) (rP K q 0) (nI 1) (bI (decide (kd T q = 19))) (bI (decide (kd T q = 20))))) := by
  have hn := ok.1
  have hqn := sk_n (T := T) hp
  rw [hq] at hqn
  have hb2 : ∀ y ∈ rep a 10 ++ s, y < 100 := fun y hy => by
    rcases List.mem_append.mp hy with hy | hy
    · rw [List.eq_of_mem_replicate hy]; omega
    · exact hb y hy
  obtain ⟨J, j1, j2, j3, j4⟩ := ansS_ok (p := p) hr (Or.inl ⟨rfl, rfl⟩) (ntop_rep (by decide) hs9) hb2 S C (fun _ => by omega) (by omega) (by rw [List.length_append, rep_len]; omega) h7
  have ed : dn 9 m (d + m) = d := by unfold dn; rw [if_pos rfl]; omega
  rw [ed] at j3
  have hxJ := txR_T j4 hx
  have bl := blanks_ok (I := J) (f := 0) ok hxJ (p := p) (by omega)
  rw [hq] at bl
  have w1 := stood_ok (I := J) (f := 0) (t := 22) ok hxJ (by omega) (by omega) hqn
  have w2 := stood_ok (I := J) (f := 0) (t := 23) ok hxJ (by omega) (by omega) hqn
  rw [show wdN 22 = 19 from rfl] at w1
  rw [show wdN 23 = 20 from rfl] at w2
  obtain ⟨K, k1, k2, k3, k4⟩ := ansS_ok (p := q) hr (Or.inr (Or.inl ⟨rfl, rfl⟩)) hs10 hb j3 j2 (fun h => by omega) (by rw [List.length_append, rep_len]; omega) (by omega) (by omega)
  have ed2 : dn 10 a d = d := rfl
  rw [ed2] at k3
  refine ⟨K, k2, k3, frT_tr j4 k4, fun fu => ?_⟩
  rw [mX12_test_9, if_neg (show ¬ nI 1 = (0 : Int32) by decide), if_pos (show rP I p 0 123 29 = (0 : Int32) from rP_29), if_pos (show nI 0 = (0 : Int32) from rfl)]
  change Option.bind (mX12_answers (rP I p 0) (nI 9)) _ = _
  rw [j1, Option.bind_some, bl, Option.bind_some, w1, Option.bind_some, w2, Option.bind_some]
  change Option.bind (mX12_answers (rP J q 0) (nI 10)) _ = _
  rw [k1, Option.bind_some]
theorem st_and {a m : Nat} (ok : okT T) (hr : r < 6) (hx : txR I T) (hp : p ≤ T.2) (hq : sk T p = q) (hk : kd T q = 19) (hs9 : ntop 9 s) (hs10 : ntop 10 s) (hb : ∀ y ∈ s, y < 100) (S : sK I (d + m) (rep m 9 ++ (rep a 10 ++ s))) (C : rC I r c cd) (h5 : cd.length + m + a < 300) (h6 : m + a + s.length < 402) (h7 : d + m < 1000) (ha : a ≤ 1) (h8 : s.length < 402) : ∃ J, stp 1 (rP I p 0) 0 (rP J (en T q) 0) 1 ∧ rC J r c (cd ++ rep m 21 ++ rep a 19) ∧ sK J d (10 :: s) ∧ frT r I J := by
  have hn := ok.1
  obtain ⟨K, k1, k2, k3, k4⟩ := t9_pre ok hr hx hp hq hs9 hs10 hb S C h5 h6 h7 ha
  obtain ⟨J, o1, o2, o3, o4⟩ := open_2 (p := q) (w := 10) (Or.inl rfl) k1 k2 h8
  have ew := en_w (T := T) (q := q) (m := 19) (by omega) hk
  refine ⟨J, fun fu => ?_, o2, o3, frT_tr k3 o4⟩
  rw [k4 fu, hk]
  rw [if_neg (show ¬ bI (decide (19 = 19)) = (0 : Int32) by decide)]
  unfold mX12_test_82 mX12_test_93 mX12_test_105
  rw [if_pos (show bI (decide (19 = 20)) = (0 : Int32) by decide), if_neg (show ¬ bI (decide (19 = 19)) = (0 : Int32) by decide)]
  change Option.bind (mX12_opens (rP K q 0) (nI 10)) _ = _
  rw [o1, Option.bind_some, if_neg (show ¬ bI (decide (19 = 19)) = (0 : Int32) by decide), rP_28, show nI q + (3 : Int32) = nI (q + 3) by rw [show (3 : Int32) = nI 3 from rfl, nAdd], rP_s28, ew.1]
  rfl
theorem st_or {a b m : Nat} (ok : okT T) (hr : r < 6) (hx : txR I T) (hp : p ≤ T.2) (hq : sk T p = q) (hk : kd T q = 20) (hs9 : ntop 9 s) (hs10 : ntop 10 s) (hs11 : ntop 11 s) (hb : ∀ y ∈ s, y < 100) (S : sK I (d + m) (rep m 9 ++ (rep a 10 ++ (rep b 11 ++ s)))) (C : rC I r c cd) (h5 : cd.length + m + a + b < 300) (h6 : m + a + b + s.length < 402) (h7 : d + m < 1000) (ha : a ≤ 1) (hbb : b ≤ 1) (h8 : s.length < 402) : ∃ J, stp 1 (rP I p 0) 0 (rP J (en T q) 0) 1 ∧ rC J r c (cd ++ rep m 21 ++ rep a 19 ++ rep b 20) ∧ sK J d (11 :: s) ∧ frT r I J := by
  have hn := ok.1
  have hb2 : ∀ y ∈ rep b 11 ++ s, y < 100 := fun y hy => by
    rcases List.mem_append.mp hy with hy | hy
    · rw [List.eq_of_mem_replicate hy]; omega
    · exact hb y hy
  obtain ⟨K, k1, k2, k3, k4⟩ := t9_pre ok hr hx hp hq (ntop_rep (by decide) hs9) (ntop_rep (by decide) hs10) hb2 S C (by omega) (by rw [List.length_append, rep_len]; omega) h7 ha
  obtain ⟨N, n1, n2, n3, n4⟩ := ansS_ok (p := q) hr (Or.inr (Or.inr ⟨rfl, rfl⟩)) hs11 hb k2 k1 (fun h => by omega) (by rw [List.length_append, List.length_append, rep_len, rep_len]; omega) (by omega) (by omega)
  rw [show dn 11 b d = d from rfl] at n3
  obtain ⟨J, o1, o2, o3, o4⟩ := open_2 (p := q) (w := 11) (Or.inr rfl) n2 n3 h8
  have ew := en_w (T := T) (q := q) (m := 20) (by omega) hk
  refine ⟨J, fun fu => ?_, o2, o3, frT_tr k3 (frT_tr n4 o4)⟩
  rw [k4 fu, hk]
  rw [if_pos (show bI (decide (20 = 19)) = (0 : Int32) by decide), if_neg (show ¬ bI (decide (20 = 20)) = (0 : Int32) by decide)]
  unfold mX12_test_82 mX12_test_93 mX12_test_105
  rw [if_neg (show ¬ bI (decide (20 = 20)) = (0 : Int32) by decide)]
  change Option.bind (mX12_answers (rP K q 0) (nI 11)) _ = _
  rw [n1, Option.bind_some, if_pos (show bI (decide (20 = 19)) = (0 : Int32) by decide)]
  change Option.bind (mX12_opens (rP N q 0) (nI 11)) _ = _
  rw [o1, Option.bind_some, if_pos (show bI (decide (20 = 19)) = (0 : Int32) by decide), rP_28, show nI q + (2 : Int32) = nI (q + 2) by rw [show (2 : Int32) = nI 2 from rfl, nAdd], rP_s28, ew.1]
  rfl
/-- a test's end: all that waits is answered -/
theorem stE {a b m : Nat} (ok : okT T) (hr : r < 6) (hx : txR I T) (hp : p ≤ T.2) (hq : sk T p = q) (hk1 : kd T q ≠ 19) (hk2 : kd T q ≠ 20) (hs9 : ntop 9 s) (hs10 : ntop 10 s) (hs11 : ntop 11 s) (hb : ∀ y ∈ s, y < 100) (S : sK I (d + m) (rep m 9 ++ (rep a 10 ++ (rep b 11 ++ s)))) (C : rC I r c cd) (h5 : cd.length + m + a + b < 300) (h6 : m + a + b + s.length < 402) (h7 : d + m < 1000) (ha : a ≤ 1) : ∃ N, rC N r c (cd ++ rep m 21 ++ rep a 19 ++ rep b 20) ∧ sK N d s ∧ frT r I N ∧ ∀ fu, mX12_test_9 (fu + 1) (rP I p 0) (nI 0) (nI 1) = (Option.bind (mX12_top (rP N q 0)) (fun q25 => (if q25 = (12 : Int32) then (Option.bind (mX12_sign (rP N q 0)) (fun q28 => (if q28 = (93 : Int32) then (mX12_test_164 (fun (I : Nat → Nat → Int32) (a1 : Int32) (a2 : Int32) => mX12_test_9  fu I a1 a2) (rP N q 0) (nI 0) (nI 1)) else (Option.bind (mX12_fails (rP N q 0) (0 : Int32) ((rP N q 0) 123 28)) (fun q31 => (mX12_test_164 (fun (I : Nat → Nat → Int32) (a1 : Int32) (a2 : Int32) => mX12_test_9  fu I a1 a2) q31 (nI 0) (nI 1))))))) else (mX12_test_9 fu (rP N q 0) (nI 0) (0 : Int32))))) := by
  have hn := ok.1
  have hb2 : ∀ y ∈ rep b 11 ++ s, y < 100 := fun y hy => by
    rcases List.mem_append.mp hy with hy | hy
    · rw [List.eq_of_mem_replicate hy]; omega
    · exact hb y hy
  obtain ⟨K, k1, k2, k3, k4⟩ := t9_pre ok hr hx hp hq (ntop_rep (by decide) hs9) (ntop_rep (by decide) hs10) hb2 S C (by omega) (by rw [List.length_append, rep_len]; omega) h7 ha
  obtain ⟨N, n1, n2, n3, n4⟩ := ansS_ok (p := q) hr (Or.inr (Or.inr ⟨rfl, rfl⟩)) hs11 hb k2 k1 (fun h => by omega) (by rw [List.length_append, List.length_append, rep_len, rep_len]; omega) (by omega) (by omega)
  rw [show dn 11 b d = d from rfl] at n3
  refine ⟨N, n2, n3, frT_tr k3 n4, fun fu => ?_⟩
  rw [k4 fu, decide_eq_false hk1, decide_eq_false hk2, if_pos (show bI false = (0 : Int32) by decide), if_pos (show bI false = (0 : Int32) by decide)]
  change Option.bind (mX12_answers (rP K q 0) (nI 11)) _ = _
  rw [n1, Option.bind_some]
theorem st_close {a b m : Nat} {t : List Nat} (ok : okT T) (hr : r < 6) (hx : txR I T) (hp : p ≤ T.2) (hq : sk T p = q) (hk1 : kd T q ≠ 19) (hk2 : kd T q ≠ 20) (hb : ∀ y ∈ t, y < 100) (S : sK I (d + 1 + m) (rep m 9 ++ (rep a 10 ++ (rep b 11 ++ (12 :: t))))) (C : rC I r c cd) (h5 : cd.length + m + a + b < 300) (h6 : m + a + b + t.length + 1 < 402) (h7 : d + m + 1 < 1000) (ha : a ≤ 1) : ∃ J, (kd T q = 31 → stp 1 (rP I p 0) 0 (rP J (en T q) 0) 0) ∧ (kd T q ≠ 31 → stp 1 (rP I p 0) 0 (rP J (q + 1) (1 + 8 * q)) 0) ∧ rC J r c (cd ++ rep m 21 ++ rep a 19 ++ rep b 20) ∧ sK J d t ∧ frT r I J := by
  have hn := ok.1
  have hqn := sk_n (T := T) hp
  rw [hq] at hqn
  obtain ⟨N, n1, n2, n3, n4⟩ := stE (s := 12 :: t) ok hr hx hp hq hk1 hk2 (ntop_cons (by decide)) (ntop_cons (by decide)) (ntop_cons (by decide)) (fun y hy => (List.mem_cons.mp hy).elim (fun e => by omega) (hb y)) S C h5 (by rw [List.length_cons]; omega) (by omega) ha
  have tp := sK_top (p := q) (f := 0) n2 (by omega)
  have hxN := txR_T n3 hx
  have sg := sign_ok (I := N) (f := 0) ok hxN (p := q) (by omega)
  have sr := sgn_rng (T := T) (q := q)
  have k35 := n2.1
  have k33 := n2.2.1
  rw [List.length_cons] at k35
  refine ⟨xu (xu N 123 35 (nI t.length)) 123 33 (nI d), fun h31 fu => ?_, fun h31 fu => ?_, rC_K n1, sK_pop n2, frT_tr n3 (fun b k z1 z2 z3 => by rw [xu_off (by omega), xu_off (by omega)])⟩
  · have s := (kd_sg (q := q) ok (c := 93) (k := 31) rfl (by omega)).mp h31
    have e1 := en_1 (T := T) (q := q) (by omega)
    rw [s] at sg
    rw [n4 fu, tp, Option.bind_some, if_pos (show nI 12 = (12 : Int32) from rfl), sg, Option.bind_some, if_pos (show zI 93 = (93 : Int32) from rfl), e1.1]
    unfold mX12_test_164
    simp (disch := omega) only [↓reduceIte, Option.bind_some, Option.some.injEq, Prod.mk.injEq, and_self, and_true, true_and, eq_self, reduceCtorEq, not_false_eq_true, not_true_eq_false, or_true, true_or, or_false, false_or, bft, nAdd, nMul, nSub, nDiv, nRem, nAm1, nIx, nIn, bI_z, bI_o, ite_b1, ite_b0, zI_add, zI_sub, li0, li1, li2, li3, li4, li5, li6, li7, li8, li9, li10, li11, li12, li13, li14, li15, li16, li17, li18, li19, li20, li21, li22, li23, li24, li25, li26, li27, li28, li29, li30, li31, li32, li33, li34, li35, li36, li37, li40, li42, li43, li45, li47, li48, li57, li59, li60, li61, li62, li64, li80, li91, li93, li97, li99, li100, li122, li182, li199, li255, li300, li380, li400, li999, li1000, li3640, li4100, li65536, li99999, ln1, ln2, ln3, ln100, ln100000, tLe, fLe, tLt, fLt, tEq, fEq, zLe_t, zLe_f, zLt_t, zLt_f, zEq_t, zEq_f, nzLe_t, nzLe_f, znLe_t, znLe_f, nzLt_t, nzLt_f, znLt_t, znLt_f, nzEq_t, nzEq_f, znEq_t, znEq_f, xu_s, xu_r, xu_c, xrow_at, xrow_r, rP_28, rP_s28, rP_o, rP_xu, k35, k33, Nat.add_sub_cancel]
  · have s : sgn T q ≠ 93 := fun z => h31 ((kd_sg (q := q) ok (c := 93) (k := 31) rfl (by omega)).mpr z)
    have fa := fails_ok (I := N) (p := q) (f := 0) (k := 0) (a := q) (by omega) (by omega) (by omega)
    rw [fl_e, Nat.add_zero] at fa
    rw [n4 fu, tp, Option.bind_some, if_pos (show nI 12 = (12 : Int32) from rfl), sg, Option.bind_some, if_neg (zNeL (x := 93) (b := 93) rfl (by omega) (by omega) (by omega) (by omega) s), rP_28]
    change Option.bind (mX12_fails (rP N q 0) (nI 0) (nI q)) _ = _
    rw [fa, Option.bind_some]
    unfold mX12_test_164
    simp (disch := omega) only [↓reduceIte, Option.bind_some, Option.some.injEq, Prod.mk.injEq, and_self, and_true, true_and, eq_self, reduceCtorEq, not_false_eq_true, not_true_eq_false, or_true, true_or, or_false, false_or, bft, nAdd, nMul, nSub, nDiv, nRem, nAm1, nIx, nIn, bI_z, bI_o, ite_b1, ite_b0, zI_add, zI_sub, li0, li1, li2, li3, li4, li5, li6, li7, li8, li9, li10, li11, li12, li13, li14, li15, li16, li17, li18, li19, li20, li21, li22, li23, li24, li25, li26, li27, li28, li29, li30, li31, li32, li33, li34, li35, li36, li37, li40, li42, li43, li45, li47, li48, li57, li59, li60, li61, li62, li64, li80, li91, li93, li97, li99, li100, li122, li182, li199, li255, li300, li380, li400, li999, li1000, li3640, li4100, li65536, li99999, ln1, ln2, ln3, ln100, ln100000, tLe, fLe, tLt, fLt, tEq, fEq, zLe_t, zLe_f, zLt_t, zLt_f, zEq_t, zEq_f, nzLe_t, nzLe_f, znLe_t, znLe_f, nzLt_t, nzLt_f, znLt_t, znLt_f, nzEq_t, nzEq_f, znEq_t, znEq_f, xu_s, xu_r, xu_c, xrow_at, xrow_r, rP_28, rP_s28, rP_o, rP_xu, k35, k33, Nat.add_sub_cancel]
theorem st_done {a b m : Nat} (ok : okT T) (hr : r < 6) (hx : txR I T) (hp : p ≤ T.2) (hq : sk T p = q) (hk1 : kd T q ≠ 19) (hk2 : kd T q ≠ 20) (S : sK I (d + m) (rep m 9 ++ (rep a 10 ++ (rep b 11 ++ [])))) (C : rC I r c cd) (h5 : cd.length + m + a + b < 300) (h6 : m + a + b < 402) (h7 : d + m < 1000) (ha : a ≤ 1) : ∃ J, (∀ fu, mX12_test_9 (fu + 1 + 1) (rP I p 0) (nI 0) (nI 1) = some (rP J q 0)) ∧ rC J r c (cd ++ rep m 21 ++ rep a 19 ++ rep b 20) ∧ J 123 33 = nI d ∧ frT r I J := by
  obtain ⟨N, n1, n2, n3, n4⟩ := stE (s := []) ok hr hx hp hq hk1 hk2 ntop_nil ntop_nil ntop_nil (fun y hy => by cases hy) S C h5 (by simp only [List.length_nil]; omega) h7 ha
  have tp := sK_top0 (p := q) (f := 0) n2
  refine ⟨N, fun fu => ?_, n1, n2.2.1, n3⟩
  rw [n4 (fu + 1), tp, Option.bind_some, if_neg (show ¬ (-1 : Int32) = 12 by decide), mX12_test_9, if_pos rfl]
end
